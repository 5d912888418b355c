/-- what a tide leaves as it is: all cells but the tons, and of the harbour's own numbers the moon -/
def Fr (ρ ρ' : Gr) : Prop := (∀ f, f ≠ 0 → f ≠ 7 → f ≠ 8 → f ≠ 20 → ρ' f = ρ f) ∧ ∀ j, j < 6 → ρ' 0 j = ρ 0 j
theorem Fr.rf {ρ : Gr} : Fr ρ ρ := ⟨fun _ _ _ _ _ => rfl, fun _ _ => rfl⟩
theorem Fr.trans {a b c : Gr} (h : Fr a b) (h' : Fr b c) : Fr a c := ⟨fun f h1 h2 h3 h4 => (h'.1 f h1 h2 h3 h4).trans (h.1 f h1 h2 h3 h4), fun j hj => (h'.2 j hj).trans (h.2 j hj)⟩
theorem Fr.c {ρ ρ' : Gr} (h : Fr ρ ρ') (f : Nat) (hf : f ≠ 0 ∧ f ≠ 7 ∧ f ≠ 8 ∧ f ≠ 20) : ρ' f = ρ f := h.1 f hf.1 hf.2.1 hf.2.2.1 hf.2.2.2
theorem Fr.set {ρ : Gr} {f : Nat} {v : Nat → Int32} (hf : f = 7 ∨ f = 8 ∨ f = 20) : Fr ρ (setF ρ f v) := ⟨fun f' h0 h7 h8 h20 => setF_ne (by omega), fun j _ => congrFun (setF_ne (by omega)) j⟩
theorem Fr.u7 {ρ : Gr} {j : Nat} {x : Int32} : Fr ρ (up ρ 7 j x) := Fr.set (by decide)
theorem Fr.u8 {ρ : Gr} {j : Nat} {x : Int32} : Fr ρ (up ρ 8 j x) := Fr.set (by decide)
theorem Fr.u0 {ρ : Gr} {j : Nat} {x : Int32} (hj : 6 ≤ j) : Fr ρ (up ρ 0 j x) := ⟨fun f' h0 _ _ _ => up_ne h0, fun i hi => by rw [up_same]; exact pk_un (by omega)⟩
theorem Fr.ite {p : Prop} [Decidable p] {a b c : Gr} (h1 : Fr a b) (h2 : Fr a c) : Fr a (if p then b else c) := by
  by_cases h : p
  · rw [if_pos h]; exact h1
  · rw [if_neg h]; exact h2
theorem itn_Fr {f : Nat → Gr → Gr} (h : ∀ k v, Fr v (f k v)) : ∀ (n : Nat) (v : Gr), Fr v (itn f n v)
  | 0, _ => Fr.rf
  | n + 1, v => (itn_Fr h n v).trans (h n _)
def WFh (ρ : Gr) : Prop := (ρ 1 0).toNatClampNeg ≤ 8 ∧ (ρ 9 0).toNatClampNeg ≤ 24 ∧ (ρ 15 0).toNatClampNeg ≤ 8
theorem WFh.fr {ρ ρ' : Gr} (h : WFh ρ) (k : Fr ρ ρ') : WFh ρ' := by
  unfold WFh
  rw [k.c 1 (by decide), k.c 9 (by decide), k.c 15 (by decide)]
  exact h
theorem stir_Fr (ρ : Gr) : Fr ρ (g_X0_stir ρ) := itn_Fr (fun k v => itn_Fr (fun k v => Fr.u8.trans Fr.u7) _ _) _ _
theorem settle_Fr (ρ : Gr) : Fr ρ (g_X0_settle ρ) := itn_Fr (fun k v => itn_Fr (fun k v => Fr.u7.trans Fr.u8) _ _) _ _
noncomputable def g_X3_become (ρ : Gr) (τ : Gr)  : Gr :=
  let zs8 : Gr := g_X0_become ρ τ
  let zs19 : Gr := g_X5_become zs8 τ
  let zs30 : Gr := g_X4_become zs19 τ
  let zs41 : Gr := g_X2_become zs30 τ
  let zs49 : Gr := up zs41 0 4 (τ 0 4)
  let zs57 : Gr := up zs49 0 5 (τ 0 5)
  let zs65 : Gr := up zs57 0 6 (τ 0 6)
  let zs73 : Gr := up zs65 0 7 (τ 0 7)
  let zs81 : Gr := up zs73 0 8 (τ 0 8)
  zs81
set_option maxRecDepth 100000 in
set_option maxHeartbeats 4000000 in
theorem c_X3_become {l : Launch} {G : GG} {σ : St} {g : Nat} {ρ : Gr} (hg : HG g) {h : Nat} {τ : Gr} (hh : HG h) (hne : h ≠ g) (hτ : σ h = τ)   : MM l G yX3_become cX3_become 2 2 61 none [.ref (aa G g 0), .ref (aa G h 0)] (setG σ g ρ) (Qv G (setG σ g (g_X3_become ρ τ))) := by
  refine MM.of (by decide) (Nat.le_of_ble_eq_true rfl) ?_
  intro p e s m below meth c ls X hr hlk w hl
  have hx := X.1.1
  have hb := X.1.2.1
  have hl : lv_has ls 2 [(0, .ref (aa G g 0)), (1, .ref (aa G h 0))] := hl
  refine lv_aload_n hx hb dX3_become_0 rfl (lv_at hl 0 rfl) ?_
  refine gf3_12 hg X w dX3_become_1 ?_
  refine lv_aload_n hx hb dX3_become_4 rfl (lv_at hl 1 rfl) ?_
  refine gf3_12 hh X (w.oth hne hτ) dX3_become_5 ?_
  refine k_v (rr_v (rest := []) X w mX0_become kw286 (c_X0_become hg hh hne hτ ) (hg.in (by decide)) hg.sh rfl ⟨Nat.le_of_ble_eq_true rfl, Nat.le_of_ble_eq_true rfl⟩ rfl hl.1 rfl (Nat.le_of_ble_eq_true rfl) dX3_become_8 ⟨Nat.zero_le _, Nat.zero_le _⟩) w (fun H locs w => ?_)
  obtain ⟨zs8, ezs8⟩ : ∃ y : Gr, y = g_X0_become ρ τ := ⟨_, rfl⟩; rw [← ezs8] at w
  refine lv_aload_n hx hb dX3_become_11 rfl (lv_at hl 0 rfl) ?_
  refine gf3_21 hg X w dX3_become_12 ?_
  refine lv_aload_n hx hb dX3_become_15 rfl (lv_at hl 1 rfl) ?_
  refine gf3_21 hh X (w.oth hne hτ) dX3_become_16 ?_
  refine k_v (rr_v (rest := []) X w mX5_become kw293 (c_X5_become hg hh hne hτ ) (hg.in (by decide)) hg.sh rfl ⟨Nat.le_of_ble_eq_true rfl, Nat.le_of_ble_eq_true rfl⟩ rfl hl.1 rfl (Nat.le_of_ble_eq_true rfl) dX3_become_19 ⟨Nat.zero_le _, Nat.zero_le _⟩) w (fun H locs w => ?_)
  obtain ⟨zs19, ezs19⟩ : ∃ y : Gr, y = g_X5_become zs8 τ := ⟨_, rfl⟩; rw [← ezs19] at w
  refine lv_aload_n hx hb dX3_become_22 rfl (lv_at hl 0 rfl) ?_
  change W _ _ _ _ _ _ _ _ _ _ _ _ _ _ _ (F0 m 23 ls _)
  refine gf3_28 hg X w dX3_become_23 ?_
  refine lv_aload_n hx hb dX3_become_26 rfl (lv_at hl 1 rfl) ?_
  refine gf3_28 hh X (w.oth hne hτ) dX3_become_27 ?_
  refine k_v (rr_v (rest := []) X w mX4_become kw298 (c_X4_become hg hh hne hτ ) (hg.in (by decide)) hg.sh rfl ⟨Nat.le_of_ble_eq_true rfl, Nat.le_of_ble_eq_true rfl⟩ rfl hl.1 rfl (Nat.le_of_ble_eq_true rfl) dX3_become_30 ⟨Nat.zero_le _, Nat.zero_le _⟩) w (fun H locs w => ?_)
  obtain ⟨zs30, ezs30⟩ : ∃ y : Gr, y = g_X4_become zs19 τ := ⟨_, rfl⟩; rw [← ezs30] at w
  refine lv_aload_n hx hb dX3_become_33 rfl (lv_at hl 0 rfl) ?_
  refine gf3_35 hg X w dX3_become_34 ?_
  refine lv_aload_n hx hb dX3_become_37 rfl (lv_at hl 1 rfl) ?_
  refine gf3_35 hh X (w.oth hne hτ) dX3_become_38 ?_
  refine k_v (rr_v (rest := []) X w mX2_become kw303 (c_X2_become hg hh hne hτ ) (hg.in (by decide)) hg.sh rfl ⟨Nat.le_of_ble_eq_true rfl, Nat.le_of_ble_eq_true rfl⟩ rfl hl.1 rfl (Nat.le_of_ble_eq_true rfl) dX3_become_41 ⟨Nat.zero_le _, Nat.zero_le _⟩) w (fun H locs w => ?_)
  obtain ⟨zs41, ezs41⟩ : ∃ y : Gr, y = g_X2_become zs30 τ := ⟨_, rfl⟩; rw [← ezs41] at w
  refine lv_aload_n hx hb dX3_become_44 rfl (lv_at hl 0 rfl) ?_
  refine lv_aload_n hx hb dX3_become_45 rfl (lv_at hl 1 rfl) ?_
  refine gf3_39 hh X (w.oth hne hτ) dX3_become_46 ?_
  change W _ _ _ _ _ _ _ _ _ _ _ _ _ _ _ (F0 m 49 ls _)
  refine pf3_39 hg X w dX3_become_49 (fun zs49 H locs ezs49 w => ?_)
  refine lv_aload_n hx hb dX3_become_52 rfl (lv_at hl 0 rfl) ?_
  refine lv_aload_n hx hb dX3_become_53 rfl (lv_at hl 1 rfl) ?_
  refine gf3_43 hh X (w.oth hne hτ) dX3_become_54 ?_
  refine pf3_43 hg X w dX3_become_57 (fun zs57 H locs ezs57 w => ?_)
  refine lv_aload_n hx hb dX3_become_60 rfl (lv_at hl 0 rfl) ?_
  refine lv_aload_n hx hb dX3_become_61 rfl (lv_at hl 1 rfl) ?_
  refine gf3_46 hh X (w.oth hne hτ) dX3_become_62 ?_
  refine pf3_46 hg X w dX3_become_65 (fun zs65 H locs ezs65 w => ?_)
  refine lv_aload_n hx hb dX3_become_68 rfl (lv_at hl 0 rfl) ?_
  refine lv_aload_n hx hb dX3_become_69 rfl (lv_at hl 1 rfl) ?_
  refine gf3_49 hh X (w.oth hne hτ) dX3_become_70 ?_
  change W _ _ _ _ _ _ _ _ _ _ _ _ _ _ _ (F0 m 73 ls _)
  refine pf3_49 hg X w dX3_become_73 (fun zs73 H locs ezs73 w => ?_)
  refine lv_aload_n hx hb dX3_become_76 rfl (lv_at hl 0 rfl) ?_
  refine lv_aload_n hx hb dX3_become_77 rfl (lv_at hl 1 rfl) ?_
  refine gf3_52 hh X (w.oth hne hτ) dX3_become_78 ?_
  refine pf3_52 hg X w dX3_become_81 (fun zs81 H locs ezs81 w => ?_)
  exact t_v X w hr hlk dX3_become_84 (by replace ezs81 := ezs81.symm; subst ezs81; replace ezs73 := ezs73.symm; subst ezs73; replace ezs65 := ezs65.symm; subst ezs65; replace ezs57 := ezs57.symm; subst ezs57; replace ezs49 := ezs49.symm; subst ezs49; replace ezs41 := ezs41.symm; subst ezs41; replace ezs30 := ezs30.symm; subst ezs30; replace ezs19 := ezs19.symm; subst ezs19; replace ezs8 := ezs8.symm; subst ezs8; simp only [g_X3_become])

theorem become_WF {ρ τ : Gr} (h : WFh τ) : WFh (g_X3_become ρ τ) := h

noncomputable def f_X3_addWay (ρ : Gr) (x1 : Int32) (x2 : Int32) (x3 : Int32) (x4 : Int32) (x5 : Int32) : Int32 :=
  if (f_X0_has ρ x1) = 0 then
    (-1)
  else
    if (f_X0_has ρ x2) = 0 then
      if x2 = 8 then
        if x1 = x2 then
          (-1)
        else
          if (f_X6_isKind x3) = 0 then
            (-1)
          else
            if (f_X6_isStuff x4) = 0 then
              (-1)
            else
              if 1 ≤ x5 then
                if 100 < x5 then
                  (-6)
                else
                  if (f_X5_isFull ρ) = 0 then
                    if ((f_X5_together ρ x1 x3 x4) + x5) ≤ 100 then
                      let zs114_2 : Gr := g_X5_add ρ x1 x2 x3 x4 x5
                      f_X5_add ρ x1 x2 x3 x4 x5
                    else
                      (-3)
                  else
                    (-6)
              else
                (-4)
      else
        (-1)
    else
      if x1 = x2 then
        (-1)
      else
        if (f_X6_isKind x3) = 0 then
          (-1)
        else
          if (f_X6_isStuff x4) = 0 then
            (-1)
          else
            if 1 ≤ x5 then
              if 100 < x5 then
                (-6)
              else
                if (f_X5_isFull ρ) = 0 then
                  if ((f_X5_together ρ x1 x3 x4) + x5) ≤ 100 then
                    let zs114 : Gr := g_X5_add ρ x1 x2 x3 x4 x5
                    f_X5_add ρ x1 x2 x3 x4 x5
                  else
                    (-3)
                else
                  (-6)
            else
              (-4)
noncomputable def g_X3_addWay (ρ : Gr) (x1 : Int32) (x2 : Int32) (x3 : Int32) (x4 : Int32) (x5 : Int32) : Gr :=
  if (f_X0_has ρ x1) = 0 then
    ρ
  else
    if (f_X0_has ρ x2) = 0 then
      if x2 = 8 then
        if x1 = x2 then
          ρ
        else
          if (f_X6_isKind x3) = 0 then
            ρ
          else
            if (f_X6_isStuff x4) = 0 then
              ρ
            else
              if 1 ≤ x5 then
                if 100 < x5 then
                  ρ
                else
                  if (f_X5_isFull ρ) = 0 then
                    if ((f_X5_together ρ x1 x3 x4) + x5) ≤ 100 then
                      let zs114_2 : Gr := g_X5_add ρ x1 x2 x3 x4 x5
                      zs114_2
                    else
                      ρ
                  else
                    ρ
              else
                ρ
      else
        ρ
    else
      if x1 = x2 then
        ρ
      else
        if (f_X6_isKind x3) = 0 then
          ρ
        else
          if (f_X6_isStuff x4) = 0 then
            ρ
          else
            if 1 ≤ x5 then
              if 100 < x5 then
                ρ
              else
                if (f_X5_isFull ρ) = 0 then
                  if ((f_X5_together ρ x1 x3 x4) + x5) ≤ 100 then
                    let zs114 : Gr := g_X5_add ρ x1 x2 x3 x4 x5
                    zs114
                  else
                    ρ
                else
                  ρ
            else
              ρ
set_option maxRecDepth 100000 in
set_option maxHeartbeats 4000000 in
theorem c_X3_addWay {l : Launch} {G : GG} {σ : St} {g : Nat} {ρ : Gr} (hg : HG g)  (x1 : Int32) (x2 : Int32) (x3 : Int32) (x4 : Int32) (x5 : Int32) (hf : WFh ρ) : MM l G yX3_addWay cX3_addWay 6 2 46 (some .int) [.ref (aa G g 0), .int x1, .int x2, .int x3, .int x4, .int x5] (setG σ g ρ) (Qi G (f_X3_addWay ρ x1 x2 x3 x4 x5) (setG σ g (g_X3_addWay ρ x1 x2 x3 x4 x5))) := by
  refine MM.of (by decide) (Nat.le_of_ble_eq_true rfl) ?_
  intro p e s m below meth c ls X hr hlk w hl
  have hx := X.1.1
  have hb := X.1.2.1
  have hl : lv_has ls 6 [(0, .ref (aa G g 0)), (1, .int x1), (2, .int x2), (3, .int x3), (4, .int x4), (5, .int x5)] := hl
  refine lv_aload_n hx hb dX3_addWay_0 rfl (lv_at hl 0 rfl) ?_
  refine gf3_12 hg X w dX3_addWay_1 ?_
  refine lv_iload_n hx hb dX3_addWay_4 rfl (lv_at hl 1 rfl) ?_
  refine k_i (rr_v (rest := []) X w mX0_has kw359 (c_X0_has hg x1) (hg.in (by decide)) hg.sh rfl ⟨Nat.le_of_ble_eq_true rfl, Nat.le_of_ble_eq_true rfl⟩ rfl hl.1 rfl (Nat.le_of_ble_eq_true rfl) dX3_addWay_5 ⟨Nat.zero_le _, Nat.zero_le _⟩) w (fun H locs w => ?_)
  refine lv_if_eq (tgt := 33) hx hb dX3_addWay_8 (by decide) (fun zc8 => ?_) (fun zc8 => ?_)
  · -- 33
    refine lv_iconst (v := (-1)) hx hb dX3_addWay_33 (by decide) ?_
    exact t_i X w hr hlk dX3_addWay_34 (by simp only [f_X3_addWay, if_pos zc8]) (by simp only [g_X3_addWay, if_pos zc8])
  · -- 11
    refine lv_aload_n hx hb dX3_addWay_11 rfl (lv_at hl 0 rfl) ?_
    refine gf3_12 hg X w dX3_addWay_12 ?_
    refine lv_iload_n hx hb dX3_addWay_15 rfl (lv_at hl 2 rfl) ?_
    refine k_i (rr_v (rest := []) X w mX0_has kw359 (c_X0_has hg x2) (hg.in (by decide)) hg.sh rfl ⟨Nat.le_of_ble_eq_true rfl, Nat.le_of_ble_eq_true rfl⟩ rfl hl.1 rfl (Nat.le_of_ble_eq_true rfl) dX3_addWay_16 ⟨Nat.zero_le _, Nat.zero_le _⟩) w (fun H locs w => ?_)
    refine lv_if_ne (tgt := 28) hx hb dX3_addWay_19 (by decide) (fun zc19 => ?_) (fun zc19 => ?_)
    · -- 28
      refine lv_iload_n hx hb dX3_addWay_28 rfl (lv_at hl 1 rfl) ?_
      refine lv_iload_n hx hb dX3_addWay_29 rfl (lv_at hl 2 rfl) ?_
      refine lv_icmp_ne (tgt := 35) hx hb dX3_addWay_30 (by decide) (fun zc30 => ?_) (fun zc30 => ?_)
      · -- 35
        refine lv_iload_n hx hb dX3_addWay_35 rfl (lv_at hl 3 rfl) ?_
        refine k_i (rr_n (rest := []) X w mX6_isKind nw6 (c_X6_isKind x3) ⟨Nat.le_of_ble_eq_true rfl, Nat.le_of_ble_eq_true rfl⟩ rfl hl.1 rfl (Nat.le_of_ble_eq_true rfl) dX3_addWay_36 ⟨Nat.zero_le _, Nat.zero_le _⟩) w (fun H locs w => ?_)
        refine lv_if_eq (tgt := 50) hx hb dX3_addWay_39 (by decide) (fun zc39 => ?_) (fun zc39 => ?_)
        · -- 50
          refine lv_iconst (v := (-1)) hx hb dX3_addWay_50 (by decide) ?_
          exact t_i X w hr hlk dX3_addWay_51 (by simp only [f_X3_addWay, if_neg zc8, if_neg zc19, if_neg zc30, if_pos zc39]) (by simp only [g_X3_addWay, if_neg zc8, if_neg zc19, if_neg zc30, if_pos zc39])
        · -- 42
          refine lv_iload hx hb dX3_addWay_42 (lv_at hl 4 rfl) ?_
          refine k_i (rr_n (rest := []) X w mX6_isStuff nw7 (c_X6_isStuff x4) ⟨Nat.le_of_ble_eq_true rfl, Nat.le_of_ble_eq_true rfl⟩ rfl hl.1 rfl (Nat.le_of_ble_eq_true rfl) dX3_addWay_44 ⟨Nat.zero_le _, Nat.zero_le _⟩) w (fun H locs w => ?_)
          refine lv_if_ne (tgt := 52) hx hb dX3_addWay_47 (by decide) (fun zc47 => ?_) (fun zc47 => ?_)
          · -- 52
            refine lv_iload hx hb dX3_addWay_52 (lv_at hl 5 rfl) ?_
            refine lv_iconst (v := 1) hx hb dX3_addWay_54 (by decide) ?_
            refine lv_icmp_ge (tgt := 61) hx hb dX3_addWay_55 (by decide) (fun zc55 => ?_) (fun zc55 => ?_)
            · -- 61
              refine lv_iload hx hb dX3_addWay_61 (lv_at hl 5 rfl) ?_
              refine lv_bipush (v := 100) hx hb dX3_addWay_63 (by decide) ?_
              refine lv_icmp_gt (tgt := 78) hx hb dX3_addWay_65 (by decide) (fun zc65 => ?_) (fun zc65 => ?_)
              · -- 78
                refine lv_bipush (v := (-6)) hx hb dX3_addWay_78 (by decide) ?_
                exact t_i X w hr hlk dX3_addWay_80 (by simp only [f_X3_addWay, if_neg zc8, if_neg zc19, if_neg zc30, if_neg zc39, if_neg zc47, if_pos zc55, if_pos zc65]) (by simp only [g_X3_addWay, if_neg zc8, if_neg zc19, if_neg zc30, if_neg zc39, if_neg zc47, if_pos zc55, if_pos zc65])
              · -- 68
                refine lv_aload_n hx hb dX3_addWay_68 rfl (lv_at hl 0 rfl) ?_
                refine gf3_21 hg X w dX3_addWay_69 ?_
                refine k_i (rr_v (rest := []) X w mX5_isFull kw369 (c_X5_isFull hg ) (hg.in (by decide)) hg.sh rfl ⟨Nat.le_of_ble_eq_true rfl, Nat.le_of_ble_eq_true rfl⟩ rfl hl.1 rfl (Nat.le_of_ble_eq_true rfl) dX3_addWay_72 ⟨Nat.zero_le _, Nat.zero_le _⟩) w (fun H locs w => ?_)
                refine lv_if_eq (tgt := 81) hx hb dX3_addWay_75 (by decide) (fun zc75 => ?_) (fun zc75 => ?_)
                · -- 81
                  refine lv_aload_n hx hb dX3_addWay_81 rfl (lv_at hl 0 rfl) ?_
                  refine gf3_21 hg X w dX3_addWay_82 ?_
                  refine lv_iload_n hx hb dX3_addWay_85 rfl (lv_at hl 1 rfl) ?_
                  refine lv_iload_n hx hb dX3_addWay_86 rfl (lv_at hl 3 rfl) ?_
                  refine lv_iload hx hb dX3_addWay_87 (lv_at hl 4 rfl) ?_
                  refine k_i (rr_v (rest := []) X w mX5_together kw373 (c_X5_together hg x1 x3 x4 hf.2.1) (hg.in (by decide)) hg.sh rfl ⟨Nat.le_of_ble_eq_true rfl, Nat.le_of_ble_eq_true rfl⟩ rfl hl.1 rfl (Nat.le_of_ble_eq_true rfl) dX3_addWay_89 ⟨Nat.zero_le _, Nat.zero_le _⟩) w (fun H locs w => ?_)
                  refine lv_iload hx hb dX3_addWay_92 (lv_at hl 5 rfl) ?_
                  refine lv_iadd hx hb dX3_addWay_94 ?_
                  refine lv_bipush (v := 100) hx hb dX3_addWay_95 (by decide) ?_
                  refine lv_icmp_le (tgt := 103) hx hb dX3_addWay_97 (by decide) (fun zc97 => ?_) (fun zc97 => ?_)
                  · -- 103
                    refine lv_aload_n hx hb dX3_addWay_103 rfl (lv_at hl 0 rfl) ?_
                    refine gf3_21 hg X w dX3_addWay_104 ?_
                    refine lv_iload_n hx hb dX3_addWay_107 rfl (lv_at hl 1 rfl) ?_
                    refine lv_iload_n hx hb dX3_addWay_108 rfl (lv_at hl 2 rfl) ?_
                    refine lv_iload_n hx hb dX3_addWay_109 rfl (lv_at hl 3 rfl) ?_
                    refine lv_iload hx hb dX3_addWay_110 (lv_at hl 4 rfl) ?_
                    refine lv_iload hx hb dX3_addWay_112 (lv_at hl 5 rfl) ?_
                    refine k_i (rr_v (rest := []) X w mX5_add kw377 (c_X5_add hg x1 x2 x3 x4 x5) (hg.in (by decide)) hg.sh rfl ⟨Nat.le_of_ble_eq_true rfl, Nat.le_of_ble_eq_true rfl⟩ rfl hl.1 rfl (Nat.le_of_ble_eq_true rfl) dX3_addWay_114 ⟨Nat.zero_le _, Nat.zero_le _⟩) w (fun H locs w => ?_)
                    obtain ⟨zs114, ezs114⟩ : ∃ y : Gr, y = g_X5_add ρ x1 x2 x3 x4 x5 := ⟨_, rfl⟩; rw [← ezs114] at w
                    exact t_i X w hr hlk dX3_addWay_117 (by replace ezs114 := ezs114.symm; subst ezs114; simp only [f_X3_addWay, if_neg zc8, if_neg zc19, if_neg zc30, if_neg zc39, if_neg zc47, if_pos zc55, if_neg zc65, if_pos zc75, if_pos zc97]) (by replace ezs114 := ezs114.symm; subst ezs114; simp only [g_X3_addWay, if_neg zc8, if_neg zc19, if_neg zc30, if_neg zc39, if_neg zc47, if_pos zc55, if_neg zc65, if_pos zc75, if_pos zc97])
                  · -- 100
                    refine lv_bipush (v := (-3)) hx hb dX3_addWay_100 (by decide) ?_
                    exact t_i X w hr hlk dX3_addWay_102 (by simp only [f_X3_addWay, if_neg zc8, if_neg zc19, if_neg zc30, if_neg zc39, if_neg zc47, if_pos zc55, if_neg zc65, if_pos zc75, if_neg zc97]) (by simp only [g_X3_addWay, if_neg zc8, if_neg zc19, if_neg zc30, if_neg zc39, if_neg zc47, if_pos zc55, if_neg zc65, if_pos zc75, if_neg zc97])
                · -- 78
                  refine lv_bipush (v := (-6)) hx hb dX3_addWay_78 (by decide) ?_
                  exact t_i X w hr hlk dX3_addWay_80 (by simp only [f_X3_addWay, if_neg zc8, if_neg zc19, if_neg zc30, if_neg zc39, if_neg zc47, if_pos zc55, if_neg zc65, if_neg zc75]) (by simp only [g_X3_addWay, if_neg zc8, if_neg zc19, if_neg zc30, if_neg zc39, if_neg zc47, if_pos zc55, if_neg zc65, if_neg zc75])
            · -- 58
              refine lv_bipush (v := (-4)) hx hb dX3_addWay_58 (by decide) ?_
              exact t_i X w hr hlk dX3_addWay_60 (by simp only [f_X3_addWay, if_neg zc8, if_neg zc19, if_neg zc30, if_neg zc39, if_neg zc47, if_neg zc55]) (by simp only [g_X3_addWay, if_neg zc8, if_neg zc19, if_neg zc30, if_neg zc39, if_neg zc47, if_neg zc55])
          · -- 50
            refine lv_iconst (v := (-1)) hx hb dX3_addWay_50 (by decide) ?_
            exact t_i X w hr hlk dX3_addWay_51 (by simp only [f_X3_addWay, if_neg zc8, if_neg zc19, if_neg zc30, if_neg zc39, if_pos zc47]) (by simp only [g_X3_addWay, if_neg zc8, if_neg zc19, if_neg zc30, if_neg zc39, if_pos zc47])
      · -- 33
        refine lv_iconst (v := (-1)) hx hb dX3_addWay_33 (by decide) ?_
        exact t_i X w hr hlk dX3_addWay_34 (by simp only [f_X3_addWay, if_neg zc8, if_neg zc19, if_pos zc30]) (by simp only [g_X3_addWay, if_neg zc8, if_neg zc19, if_pos zc30])
    · -- 22
      refine lv_iload_n hx hb dX3_addWay_22 rfl (lv_at hl 2 rfl) ?_
      refine lv_bipush (v := 8) hx hb dX3_addWay_23 (by decide) ?_
      refine lv_icmp_ne (tgt := 33) hx hb dX3_addWay_25 (by decide) (fun zc25 => ?_) (fun zc25 => ?_)
      · -- 33
        refine lv_iconst (v := (-1)) hx hb dX3_addWay_33 (by decide) ?_
        exact t_i X w hr hlk dX3_addWay_34 (by simp only [f_X3_addWay, if_neg zc8, if_pos zc19, if_neg zc25]) (by simp only [g_X3_addWay, if_neg zc8, if_pos zc19, if_neg zc25])
      · -- 28
        refine lv_iload_n hx hb dX3_addWay_28 rfl (lv_at hl 1 rfl) ?_
        refine lv_iload_n hx hb dX3_addWay_29 rfl (lv_at hl 2 rfl) ?_
        refine lv_icmp_ne (tgt := 35) hx hb dX3_addWay_30 (by decide) (fun zc30 => ?_) (fun zc30 => ?_)
        · -- 35
          refine lv_iload_n hx hb dX3_addWay_35 rfl (lv_at hl 3 rfl) ?_
          refine k_i (rr_n (rest := []) X w mX6_isKind nw6 (c_X6_isKind x3) ⟨Nat.le_of_ble_eq_true rfl, Nat.le_of_ble_eq_true rfl⟩ rfl hl.1 rfl (Nat.le_of_ble_eq_true rfl) dX3_addWay_36 ⟨Nat.zero_le _, Nat.zero_le _⟩) w (fun H locs w => ?_)
          refine lv_if_eq (tgt := 50) hx hb dX3_addWay_39 (by decide) (fun zc39 => ?_) (fun zc39 => ?_)
          · -- 50
            refine lv_iconst (v := (-1)) hx hb dX3_addWay_50 (by decide) ?_
            exact t_i X w hr hlk dX3_addWay_51 (by simp only [f_X3_addWay, if_neg zc8, if_pos zc19, if_pos zc25, if_neg zc30, if_pos zc39]) (by simp only [g_X3_addWay, if_neg zc8, if_pos zc19, if_pos zc25, if_neg zc30, if_pos zc39])
          · -- 42
            refine lv_iload hx hb dX3_addWay_42 (lv_at hl 4 rfl) ?_
            refine k_i (rr_n (rest := []) X w mX6_isStuff nw7 (c_X6_isStuff x4) ⟨Nat.le_of_ble_eq_true rfl, Nat.le_of_ble_eq_true rfl⟩ rfl hl.1 rfl (Nat.le_of_ble_eq_true rfl) dX3_addWay_44 ⟨Nat.zero_le _, Nat.zero_le _⟩) w (fun H locs w => ?_)
            refine lv_if_ne (tgt := 52) hx hb dX3_addWay_47 (by decide) (fun zc47 => ?_) (fun zc47 => ?_)
            · -- 52
              refine lv_iload hx hb dX3_addWay_52 (lv_at hl 5 rfl) ?_
              refine lv_iconst (v := 1) hx hb dX3_addWay_54 (by decide) ?_
              refine lv_icmp_ge (tgt := 61) hx hb dX3_addWay_55 (by decide) (fun zc55 => ?_) (fun zc55 => ?_)
              · -- 61
                refine lv_iload hx hb dX3_addWay_61 (lv_at hl 5 rfl) ?_
                refine lv_bipush (v := 100) hx hb dX3_addWay_63 (by decide) ?_
                refine lv_icmp_gt (tgt := 78) hx hb dX3_addWay_65 (by decide) (fun zc65 => ?_) (fun zc65 => ?_)
                · -- 78
                  refine lv_bipush (v := (-6)) hx hb dX3_addWay_78 (by decide) ?_
                  exact t_i X w hr hlk dX3_addWay_80 (by simp only [f_X3_addWay, if_neg zc8, if_pos zc19, if_pos zc25, if_neg zc30, if_neg zc39, if_neg zc47, if_pos zc55, if_pos zc65]) (by simp only [g_X3_addWay, if_neg zc8, if_pos zc19, if_pos zc25, if_neg zc30, if_neg zc39, if_neg zc47, if_pos zc55, if_pos zc65])
                · -- 68
                  refine lv_aload_n hx hb dX3_addWay_68 rfl (lv_at hl 0 rfl) ?_
                  refine gf3_21 hg X w dX3_addWay_69 ?_
                  refine k_i (rr_v (rest := []) X w mX5_isFull kw369 (c_X5_isFull hg ) (hg.in (by decide)) hg.sh rfl ⟨Nat.le_of_ble_eq_true rfl, Nat.le_of_ble_eq_true rfl⟩ rfl hl.1 rfl (Nat.le_of_ble_eq_true rfl) dX3_addWay_72 ⟨Nat.zero_le _, Nat.zero_le _⟩) w (fun H locs w => ?_)
                  refine lv_if_eq (tgt := 81) hx hb dX3_addWay_75 (by decide) (fun zc75 => ?_) (fun zc75 => ?_)
                  · -- 81
                    refine lv_aload_n hx hb dX3_addWay_81 rfl (lv_at hl 0 rfl) ?_
                    refine gf3_21 hg X w dX3_addWay_82 ?_
                    refine lv_iload_n hx hb dX3_addWay_85 rfl (lv_at hl 1 rfl) ?_
                    refine lv_iload_n hx hb dX3_addWay_86 rfl (lv_at hl 3 rfl) ?_
                    refine lv_iload hx hb dX3_addWay_87 (lv_at hl 4 rfl) ?_
                    refine k_i (rr_v (rest := []) X w mX5_together kw373 (c_X5_together hg x1 x3 x4 hf.2.1) (hg.in (by decide)) hg.sh rfl ⟨Nat.le_of_ble_eq_true rfl, Nat.le_of_ble_eq_true rfl⟩ rfl hl.1 rfl (Nat.le_of_ble_eq_true rfl) dX3_addWay_89 ⟨Nat.zero_le _, Nat.zero_le _⟩) w (fun H locs w => ?_)
                    refine lv_iload hx hb dX3_addWay_92 (lv_at hl 5 rfl) ?_
                    refine lv_iadd hx hb dX3_addWay_94 ?_
                    refine lv_bipush (v := 100) hx hb dX3_addWay_95 (by decide) ?_
                    refine lv_icmp_le (tgt := 103) hx hb dX3_addWay_97 (by decide) (fun zc97 => ?_) (fun zc97 => ?_)
                    · -- 103
                      refine lv_aload_n hx hb dX3_addWay_103 rfl (lv_at hl 0 rfl) ?_
                      refine gf3_21 hg X w dX3_addWay_104 ?_
                      refine lv_iload_n hx hb dX3_addWay_107 rfl (lv_at hl 1 rfl) ?_
                      refine lv_iload_n hx hb dX3_addWay_108 rfl (lv_at hl 2 rfl) ?_
                      refine lv_iload_n hx hb dX3_addWay_109 rfl (lv_at hl 3 rfl) ?_
                      refine lv_iload hx hb dX3_addWay_110 (lv_at hl 4 rfl) ?_
                      refine lv_iload hx hb dX3_addWay_112 (lv_at hl 5 rfl) ?_
                      refine k_i (rr_v (rest := []) X w mX5_add kw377 (c_X5_add hg x1 x2 x3 x4 x5) (hg.in (by decide)) hg.sh rfl ⟨Nat.le_of_ble_eq_true rfl, Nat.le_of_ble_eq_true rfl⟩ rfl hl.1 rfl (Nat.le_of_ble_eq_true rfl) dX3_addWay_114 ⟨Nat.zero_le _, Nat.zero_le _⟩) w (fun H locs w => ?_)
                      obtain ⟨zs114_2, ezs114_2⟩ : ∃ y : Gr, y = g_X5_add ρ x1 x2 x3 x4 x5 := ⟨_, rfl⟩; rw [← ezs114_2] at w
                      exact t_i X w hr hlk dX3_addWay_117 (by replace ezs114_2 := ezs114_2.symm; subst ezs114_2; simp only [f_X3_addWay, if_neg zc8, if_pos zc19, if_pos zc25, if_neg zc30, if_neg zc39, if_neg zc47, if_pos zc55, if_neg zc65, if_pos zc75, if_pos zc97]) (by replace ezs114_2 := ezs114_2.symm; subst ezs114_2; simp only [g_X3_addWay, if_neg zc8, if_pos zc19, if_pos zc25, if_neg zc30, if_neg zc39, if_neg zc47, if_pos zc55, if_neg zc65, if_pos zc75, if_pos zc97])
                    · -- 100
                      refine lv_bipush (v := (-3)) hx hb dX3_addWay_100 (by decide) ?_
                      exact t_i X w hr hlk dX3_addWay_102 (by simp only [f_X3_addWay, if_neg zc8, if_pos zc19, if_pos zc25, if_neg zc30, if_neg zc39, if_neg zc47, if_pos zc55, if_neg zc65, if_pos zc75, if_neg zc97]) (by simp only [g_X3_addWay, if_neg zc8, if_pos zc19, if_pos zc25, if_neg zc30, if_neg zc39, if_neg zc47, if_pos zc55, if_neg zc65, if_pos zc75, if_neg zc97])
                  · -- 78
                    refine lv_bipush (v := (-6)) hx hb dX3_addWay_78 (by decide) ?_
                    exact t_i X w hr hlk dX3_addWay_80 (by simp only [f_X3_addWay, if_neg zc8, if_pos zc19, if_pos zc25, if_neg zc30, if_neg zc39, if_neg zc47, if_pos zc55, if_neg zc65, if_neg zc75]) (by simp only [g_X3_addWay, if_neg zc8, if_pos zc19, if_pos zc25, if_neg zc30, if_neg zc39, if_neg zc47, if_pos zc55, if_neg zc65, if_neg zc75])
              · -- 58
                refine lv_bipush (v := (-4)) hx hb dX3_addWay_58 (by decide) ?_
                exact t_i X w hr hlk dX3_addWay_60 (by simp only [f_X3_addWay, if_neg zc8, if_pos zc19, if_pos zc25, if_neg zc30, if_neg zc39, if_neg zc47, if_neg zc55]) (by simp only [g_X3_addWay, if_neg zc8, if_pos zc19, if_pos zc25, if_neg zc30, if_neg zc39, if_neg zc47, if_neg zc55])
            · -- 50
              refine lv_iconst (v := (-1)) hx hb dX3_addWay_50 (by decide) ?_
              exact t_i X w hr hlk dX3_addWay_51 (by simp only [f_X3_addWay, if_neg zc8, if_pos zc19, if_pos zc25, if_neg zc30, if_neg zc39, if_pos zc47]) (by simp only [g_X3_addWay, if_neg zc8, if_pos zc19, if_pos zc25, if_neg zc30, if_neg zc39, if_pos zc47])
        · -- 33
          refine lv_iconst (v := (-1)) hx hb dX3_addWay_33 (by decide) ?_
          exact t_i X w hr hlk dX3_addWay_34 (by simp only [f_X3_addWay, if_neg zc8, if_pos zc19, if_pos zc25, if_pos zc30]) (by simp only [g_X3_addWay, if_neg zc8, if_pos zc19, if_pos zc25, if_pos zc30])

noncomputable def f_X3_addRiver (ρ : Gr) (x1 : Int32) (x2 : Int32) (x3 : Int32) : Int32 :=
  if (f_X0_has ρ x1) = 0 then
    (-1)
  else
    if (f_X6_isStuff x2) = 0 then
      (-1)
    else
      if 1 ≤ x3 then
        if 999 < x3 then
          (-6)
        else
          if (f_X4_isFull ρ) = 0 then
            let zs55 : Gr := g_X4_add ρ x1 x2 x3
            f_X4_add ρ x1 x2 x3
          else
            (-6)
      else
        (-4)
noncomputable def g_X3_addRiver (ρ : Gr) (x1 : Int32) (x2 : Int32) (x3 : Int32) : Gr :=
  if (f_X0_has ρ x1) = 0 then
    ρ
  else
    if (f_X6_isStuff x2) = 0 then
      ρ
    else
      if 1 ≤ x3 then
        if 999 < x3 then
          ρ
        else
          if (f_X4_isFull ρ) = 0 then
            let zs55 : Gr := g_X4_add ρ x1 x2 x3
            zs55
          else
            ρ
      else
        ρ
set_option maxRecDepth 100000 in
set_option maxHeartbeats 4000000 in
theorem c_X3_addRiver {l : Launch} {G : GG} {σ : St} {g : Nat} {ρ : Gr} (hg : HG g)  (x1 : Int32) (x2 : Int32) (x3 : Int32) : MM l G yX3_addRiver cX3_addRiver 4 2 44 (some .int) [.ref (aa G g 0), .int x1, .int x2, .int x3] (setG σ g ρ) (Qi G (f_X3_addRiver ρ x1 x2 x3) (setG σ g (g_X3_addRiver ρ x1 x2 x3))) := by
  refine MM.of (by decide) (Nat.le_of_ble_eq_true rfl) ?_
  intro p e s m below meth c ls X hr hlk w hl
  have hx := X.1.1
  have hb := X.1.2.1
  have hl : lv_has ls 4 [(0, .ref (aa G g 0)), (1, .int x1), (2, .int x2), (3, .int x3)] := hl
  refine lv_aload_n hx hb dX3_addRiver_0 rfl (lv_at hl 0 rfl) ?_
  refine gf3_12 hg X w dX3_addRiver_1 ?_
  refine lv_iload_n hx hb dX3_addRiver_4 rfl (lv_at hl 1 rfl) ?_
  refine k_i (rr_v (rest := []) X w mX0_has kw359 (c_X0_has hg x1) (hg.in (by decide)) hg.sh rfl ⟨Nat.le_of_ble_eq_true rfl, Nat.le_of_ble_eq_true rfl⟩ rfl hl.1 rfl (Nat.le_of_ble_eq_true rfl) dX3_addRiver_5 ⟨Nat.zero_le _, Nat.zero_le _⟩) w (fun H locs w => ?_)
  refine lv_if_eq (tgt := 18) hx hb dX3_addRiver_8 (by decide) (fun zc8 => ?_) (fun zc8 => ?_)
  · -- 18
    refine lv_iconst (v := (-1)) hx hb dX3_addRiver_18 (by decide) ?_
    exact t_i X w hr hlk dX3_addRiver_19 (by simp only [f_X3_addRiver, if_pos zc8]) (by simp only [g_X3_addRiver, if_pos zc8])
  · -- 11
    refine lv_iload_n hx hb dX3_addRiver_11 rfl (lv_at hl 2 rfl) ?_
    refine k_i (rr_n (rest := []) X w mX6_isStuff nw7 (c_X6_isStuff x2) ⟨Nat.le_of_ble_eq_true rfl, Nat.le_of_ble_eq_true rfl⟩ rfl hl.1 rfl (Nat.le_of_ble_eq_true rfl) dX3_addRiver_12 ⟨Nat.zero_le _, Nat.zero_le _⟩) w (fun H locs w => ?_)
    refine lv_if_ne (tgt := 20) hx hb dX3_addRiver_15 (by decide) (fun zc15 => ?_) (fun zc15 => ?_)
    · -- 20
      refine lv_iload_n hx hb dX3_addRiver_20 rfl (lv_at hl 3 rfl) ?_
      refine lv_iconst (v := 1) hx hb dX3_addRiver_21 (by decide) ?_
      refine lv_icmp_ge (tgt := 28) hx hb dX3_addRiver_22 (by decide) (fun zc22 => ?_) (fun zc22 => ?_)
      · -- 28
        refine lv_iload_n hx hb dX3_addRiver_28 rfl (lv_at hl 3 rfl) ?_
        refine lv_sipush (v := 999) hx hb dX3_addRiver_29 (by decide) ?_
        refine lv_icmp_gt (tgt := 45) hx hb dX3_addRiver_32 (by decide) (fun zc32 => ?_) (fun zc32 => ?_)
        · -- 45
          refine lv_bipush (v := (-6)) hx hb dX3_addRiver_45 (by decide) ?_
          exact t_i X w hr hlk dX3_addRiver_47 (by simp only [f_X3_addRiver, if_neg zc8, if_neg zc15, if_pos zc22, if_pos zc32]) (by simp only [g_X3_addRiver, if_neg zc8, if_neg zc15, if_pos zc22, if_pos zc32])
        · -- 35
          refine lv_aload_n hx hb dX3_addRiver_35 rfl (lv_at hl 0 rfl) ?_
          refine gf3_28 hg X w dX3_addRiver_36 ?_
          refine k_i (rr_v (rest := []) X w mX4_isFull kw386 (c_X4_isFull hg ) (hg.in (by decide)) hg.sh rfl ⟨Nat.le_of_ble_eq_true rfl, Nat.le_of_ble_eq_true rfl⟩ rfl hl.1 rfl (Nat.le_of_ble_eq_true rfl) dX3_addRiver_39 ⟨Nat.zero_le _, Nat.zero_le _⟩) w (fun H locs w => ?_)
          refine lv_if_eq (tgt := 48) hx hb dX3_addRiver_42 (by decide) (fun zc42 => ?_) (fun zc42 => ?_)
          · -- 48
            refine lv_aload_n hx hb dX3_addRiver_48 rfl (lv_at hl 0 rfl) ?_
            refine gf3_28 hg X w dX3_addRiver_49 ?_
            refine lv_iload_n hx hb dX3_addRiver_52 rfl (lv_at hl 1 rfl) ?_
            refine lv_iload_n hx hb dX3_addRiver_53 rfl (lv_at hl 2 rfl) ?_
            refine lv_iload_n hx hb dX3_addRiver_54 rfl (lv_at hl 3 rfl) ?_
            refine k_i (rr_v (rest := []) X w mX4_add kw390 (c_X4_add hg x1 x2 x3) (hg.in (by decide)) hg.sh rfl ⟨Nat.le_of_ble_eq_true rfl, Nat.le_of_ble_eq_true rfl⟩ rfl hl.1 rfl (Nat.le_of_ble_eq_true rfl) dX3_addRiver_55 ⟨Nat.zero_le _, Nat.zero_le _⟩) w (fun H locs w => ?_)
            obtain ⟨zs55, ezs55⟩ : ∃ y : Gr, y = g_X4_add ρ x1 x2 x3 := ⟨_, rfl⟩; rw [← ezs55] at w
            exact t_i X w hr hlk dX3_addRiver_58 (by replace ezs55 := ezs55.symm; subst ezs55; simp only [f_X3_addRiver, if_neg zc8, if_neg zc15, if_pos zc22, if_neg zc32, if_pos zc42]) (by replace ezs55 := ezs55.symm; subst ezs55; simp only [g_X3_addRiver, if_neg zc8, if_neg zc15, if_pos zc22, if_neg zc32, if_pos zc42])
          · -- 45
            refine lv_bipush (v := (-6)) hx hb dX3_addRiver_45 (by decide) ?_
            exact t_i X w hr hlk dX3_addRiver_47 (by simp only [f_X3_addRiver, if_neg zc8, if_neg zc15, if_pos zc22, if_neg zc32, if_neg zc42]) (by simp only [g_X3_addRiver, if_neg zc8, if_neg zc15, if_pos zc22, if_neg zc32, if_neg zc42])
      · -- 25
        refine lv_bipush (v := (-4)) hx hb dX3_addRiver_25 (by decide) ?_
        exact t_i X w hr hlk dX3_addRiver_27 (by simp only [f_X3_addRiver, if_neg zc8, if_neg zc15, if_neg zc22]) (by simp only [g_X3_addRiver, if_neg zc8, if_neg zc15, if_neg zc22])
    · -- 18
      refine lv_iconst (v := (-1)) hx hb dX3_addRiver_18 (by decide) ?_
      exact t_i X w hr hlk dX3_addRiver_19 (by simp only [f_X3_addRiver, if_neg zc8, if_pos zc15]) (by simp only [g_X3_addRiver, if_neg zc8, if_pos zc15])

noncomputable def g_X3_changeMoon (ρ : Gr) (x1 : Int32) (x2 : Int32) : Gr :=
  let zs2 : Gr := up ρ 0 4 x1
  let zs7 : Gr := up zs2 0 5 x2
  zs7
set_option maxRecDepth 100000 in
set_option maxHeartbeats 4000000 in
theorem c_X3_changeMoon {l : Launch} {G : GG} {σ : St} {g : Nat} {ρ : Gr} (hg : HG g)  (x1 : Int32) (x2 : Int32) : MM l G yX3_changeMoon cX3_changeMoon 3 0 0 none [.ref (aa G g 0), .int x1, .int x2] (setG σ g ρ) (Qv G (setG σ g (g_X3_changeMoon ρ x1 x2))) := by
  refine MM.of (by decide) (Nat.le_of_ble_eq_true rfl) ?_
  intro p e s m below meth c ls X hr hlk w hl
  have hx := X.1.1
  have hb := X.1.2.1
  have hl : lv_has ls 3 [(0, .ref (aa G g 0)), (1, .int x1), (2, .int x2)] := hl
  refine lv_aload_n hx hb dX3_changeMoon_0 rfl (lv_at hl 0 rfl) ?_
  refine lv_iload_n hx hb dX3_changeMoon_1 rfl (lv_at hl 1 rfl) ?_
  refine pf3_39 hg X w dX3_changeMoon_2 (fun zs2 H locs ezs2 w => ?_)
  refine lv_aload_n hx hb dX3_changeMoon_5 rfl (lv_at hl 0 rfl) ?_
  refine lv_iload_n hx hb dX3_changeMoon_6 rfl (lv_at hl 2 rfl) ?_
  refine pf3_43 hg X w dX3_changeMoon_7 (fun zs7 H locs ezs7 w => ?_)
  exact t_v X w hr hlk dX3_changeMoon_10 (by replace ezs7 := ezs7.symm; subst ezs7; replace ezs2 := ezs2.symm; subst ezs2; simp only [g_X3_changeMoon])

noncomputable def f_X3_kindNow (ρ : Gr)  : Int32 :=
  if 1 ≤ (ρ 0 4) then
    ((ρ 0 5) >>> (((ρ 0 6) - (ρ 0 6) / (ρ 0 4) * (ρ 0 4)) &&& 31)) &&& 1
  else
    0
set_option maxRecDepth 100000 in
set_option maxHeartbeats 4000000 in
theorem c_X3_kindNow {l : Launch} {G : GG} {σ : St} {g : Nat} {ρ : Gr} (hg : HG g)   : MM l G yX3_kindNow cX3_kindNow 1 0 0 (some .int) [.ref (aa G g 0)] (setG σ g ρ) (Qi G (f_X3_kindNow ρ) (setG σ g ρ)) := by
  refine MM.of (by decide) (Nat.le_of_ble_eq_true rfl) ?_
  intro p e s m below meth c ls X hr hlk w hl
  have hx := X.1.1
  have hb := X.1.2.1
  have hl : lv_has ls 1 [(0, .ref (aa G g 0))] := hl
  refine lv_aload_n hx hb dX3_kindNow_0 rfl (lv_at hl 0 rfl) ?_
  refine gf3_39 hg X w dX3_kindNow_1 ?_
  refine lv_iconst (v := 1) hx hb dX3_kindNow_4 (by decide) ?_
  refine lv_icmp_ge (tgt := 12) hx hb dX3_kindNow_5 (by decide) (fun zc5 => ?_) (fun zc5 => ?_)
  · -- 12
    refine lv_aload_n hx hb dX3_kindNow_12 rfl (lv_at hl 0 rfl) ?_
    refine gf3_43 hg X w dX3_kindNow_13 ?_
    refine lv_aload_n hx hb dX3_kindNow_16 rfl (lv_at hl 0 rfl) ?_
    refine gf3_46 hg X w dX3_kindNow_17 ?_
    refine lv_aload_n hx hb dX3_kindNow_20 rfl (lv_at hl 0 rfl) ?_
    refine gf3_39 hg X w dX3_kindNow_21 ?_
    refine lv_irem hx hb dX3_kindNow_24 (nz2 zc5) ?_
    refine lv_ishr hx hb dX3_kindNow_25 ?_
    refine lv_iconst (v := 1) hx hb dX3_kindNow_26 (by decide) ?_
    refine lv_iand hx hb dX3_kindNow_27 ?_
    exact t_i X w hr hlk dX3_kindNow_28 (by simp only [f_X3_kindNow, if_pos zc5]) rfl
  · -- 8
    refine lv_iconst (v := 0) hx hb dX3_kindNow_8 (by decide) ?_
    refine lv_goto (tgt := 28) hx hb dX3_kindNow_9 (by decide) ?_
    exact t_i X w hr hlk dX3_kindNow_28 (by simp only [f_X3_kindNow, if_neg zc5]) rfl

noncomputable def g_X3_drop (ρ : Gr) (x1 : Int32) (x2 : Int32) (x3 : Int32) : Gr :=
  if (f_X0_has ρ x1) = 0 then
    let zs38 : Gr := up ρ 0 7 ((ρ 0 7) + x3)
    zs38
  else
    let zs27 : Gr := up ρ 7 (f_X6_heapOf x1 x2).toNatClampNeg ((ρ 7 (f_X6_heapOf x1 x2).toNatClampNeg) + x3)
    zs27
set_option maxRecDepth 100000 in
set_option maxHeartbeats 4000000 in
theorem c_X3_drop {l : Launch} {G : GG} {σ : St} {g : Nat} {ρ : Gr} (hg : HG g)  (x1 : Int32) (x2 : Int32) (x3 : Int32) : MM l G yX3_drop cX3_drop 4 1 21 none [.ref (aa G g 0), .int x1, .int x2, .int x3] (setG σ g ρ) (Qv G (setG σ g (g_X3_drop ρ x1 x2 x3))) := by
  refine MM.of (by decide) (Nat.le_of_ble_eq_true rfl) ?_
  intro p e s m below meth c ls X hr hlk w hl
  have hx := X.1.1
  have hb := X.1.2.1
  have hl : lv_has ls 4 [(0, .ref (aa G g 0)), (1, .int x1), (2, .int x2), (3, .int x3)] := hl
  refine lv_aload_n hx hb dX3_drop_0 rfl (lv_at hl 0 rfl) ?_
  refine gf3_12 hg X w dX3_drop_1 ?_
  refine lv_iload_n hx hb dX3_drop_4 rfl (lv_at hl 1 rfl) ?_
  refine k_i (rr_v (rest := []) X w mX0_has kw359 (c_X0_has hg x1) (hg.in (by decide)) hg.sh rfl ⟨Nat.le_of_ble_eq_true rfl, Nat.le_of_ble_eq_true rfl⟩ rfl hl.1 rfl (Nat.le_of_ble_eq_true rfl) dX3_drop_5 ⟨Nat.zero_le _, Nat.zero_le _⟩) w (fun H locs w => ?_)
  refine lv_if_eq (tgt := 31) hx hb dX3_drop_8 (by decide) (fun zc8 => ?_) (fun zc8 => ?_)
  · -- 31
    refine lv_aload_n hx hb dX3_drop_31 rfl (lv_at hl 0 rfl) ?_
    refine lv_dup hx hb dX3_drop_32 rfl ?_
    refine gf3_49 hg X w dX3_drop_33 ?_
    refine lv_iload_n hx hb dX3_drop_36 rfl (lv_at hl 3 rfl) ?_
    refine lv_iadd hx hb dX3_drop_37 ?_
    refine pf3_49 hg X w dX3_drop_38 (fun zs38 H locs ezs38 w => ?_)
    exact t_v X w hr hlk dX3_drop_41 (by replace ezs38 := ezs38.symm; subst ezs38; simp only [g_X3_drop, if_pos zc8])
  · -- 11
    refine lv_aload_n hx hb dX3_drop_11 rfl (lv_at hl 0 rfl) ?_
    refine gf3_12 hg X w dX3_drop_12 ?_
    refine gf3_130 hg X w dX3_drop_15 ?_
    refine lv_iload_n hx hb dX3_drop_18 rfl (lv_at hl 1 rfl) ?_
    refine lv_iload_n hx hb dX3_drop_19 rfl (lv_at hl 2 rfl) ?_
    refine k_i (rr_n (rest := [.ref (aa G g 7)]) X w mX6_heapOf nw11 (c_X6_heapOf x1 x2) ⟨Nat.le_of_ble_eq_true rfl, Nat.le_of_ble_eq_true rfl⟩ rfl hl.1 rfl (Nat.le_of_ble_eq_true rfl) dX3_drop_20 ⟨Nat.zero_le _, Nat.zero_le _⟩) w (fun H locs w => ?_)
    refine lv_dup2_11 hx hb dX3_drop_23 rfl rfl ?_
    refine ia (f := 7) (n := 16) X w (hg.in (by decide)) hg.sh (heap_in _ _) dX3_drop_24 ?_
    refine lv_iload_n hx hb dX3_drop_25 rfl (lv_at hl 3 rfl) ?_
    refine lv_iadd hx hb dX3_drop_26 ?_
    refine iS (f := 7) (n := 16) X w (hg.in (by decide)) hg.sh (heap_in _ _) dX3_drop_27 (fun zs27 H locs ezs27 w => ?_)
    change W _ _ _ _ _ _ _ _ _ _ _ _ _ _ _ (F0 m 28 ls _)
    refine lv_goto (tgt := 41) hx hb dX3_drop_28 (by decide) ?_
    exact t_v X w hr hlk dX3_drop_41 (by replace ezs27 := ezs27.symm; subst ezs27; simp only [g_X3_drop, if_neg zc8])

theorem drop_Fr (ρ : Gr) (a b c : Int32) : Fr ρ (g_X3_drop ρ a b c) := by
  unfold g_X3_drop
  split
  · exact Fr.u0 (by decide)
  · exact Fr.u7

noncomputable def b_X3_carry_23 (y1 : Int32) (k : Nat) (v : Gr) : Gr :=
  if (v 12 (nI k).toNatClampNeg) = y1 then
    if (f_X5_isShut v (nI k)) = 0 then
      let zv73 : Int32 := v 13 (nI k).toNatClampNeg
      let zv87 : Int32 := f_X6_heapOf (v 10 (nI k).toNatClampNeg) zv73
      let zv108 : Int32 := f_X6_partOf (v 20 zv87.toNatClampNeg) (v 14 (nI k).toNatClampNeg)
      let zs124 : Gr := up v 7 zv87.toNatClampNeg ((v 7 zv87.toNatClampNeg) - zv108)
      let zs138 : Gr := g_X3_drop zs124 (zs124 11 (nI k).toNatClampNeg) zv73 zv108
      zs138
    else
      v
  else
    v
noncomputable def l_X3_carry_23 (y1 : Int32) (v0 : Gr) : Gr := itn (b_X3_carry_23 y1) (v0 9 0).toNatClampNeg v0
noncomputable def g_X3_carry (ρ : Gr) (x1 : Int32) : Gr :=
  let zs18 : Gr := setF ρ 20 (va_cpy (ρ 7) (ρ 20) 0 0 (16 : Int32).toNatClampNeg)
  let zl23 : Gr := (l_X3_carry_23 x1 zs18)
  zl23
set_option maxRecDepth 100000 in
set_option maxHeartbeats 4000000 in
theorem lp_X3_carry_23 {l : Launch} {G : GG} {p : Program} {e : Env} {s : State} {m : MethodId} {args : Array Value} {below : List Frame} {meth : Method} {c : Code} {Q : State → Prop} {σ : St} {g : Nat} (hg : HG g) (X : Cx p m c cX3_carry 6 s args RX3 G) (y1 : Int32) (v0 : Gr) (hw : (v0 9 0).toNatClampNeg ≤ 24)
    (kk : ∀ (H : Heap) (locs : List Loc) (ls : Array Slot), Wh G s σ g (l_X3_carry_23 y1 v0) H locs → lv_has ls 6 [(0, .ref (aa G g 0)), (1, .int y1), (2, .int (nI ((v0 9 0).toNatClampNeg)))] → W p l e (rmv 2 44) s m args below meth c H locs 0 0 Q (F0 m 147 ls [])) :
    ∀ (n k : Nat) (v : Gr), k ≤ (v0 9 0).toNatClampNeg → (v0 9 0).toNatClampNeg - k < n → v = itn (b_X3_carry_23 y1) k v0 → (Fr v0 v) → ∀ (H : Heap) (locs : List Loc) (ls : Array Slot), Wh G s σ g v H locs → lv_has ls 6 [(0, .ref (aa G g 0)), (1, .int y1), (2, .int (nI k))] → W p l e (rmv 2 44) s m args below meth c H locs 0 0 Q (F0 m 23 ls []) := by
  have hx := X.1.1
  have hb := X.1.2.1
  intro n
  induction n with
  | zero => intro k v _ h; omega
  | succ n ih =>
    intro k v hkN hn ev hv H locs ls w hl
    refine lv_iload_n hx hb dX3_carry_23 rfl (lv_at hl 2 rfl) ?_
    refine lv_aload_n hx hb dX3_carry_24 rfl (lv_at hl 0 rfl) ?_
    refine gf3_21 hg X w dX3_carry_25 ?_
    refine gf3_139 hg X w dX3_carry_28 ?_
    refine lv_icmp_ge (tgt := 147) hx hb dX3_carry_31 (by decide) (fun zc31 => ?_) (fun zc31 => ?_)
    · -- 147
      have hkE : k = (v0 9 0).toNatClampNeg := lp_eq hkN (by rw [← hv.c 9 (by decide)]; exact zc31)
      have ev2 : l_X3_carry_23 y1 v0 = v := by unfold l_X3_carry_23; rw [← hkE]; exact ev.symm
      rw [ev2] at kk
      rw [hkE] at hl
      exact kk _ _ _ w (lv_sub hl [0, 1, 2] rfl)
    · -- 34
      have hk : k < (v0 9 0).toNatClampNeg := lp_lt hkN (by rw [← hv.c 9 (by decide)]; exact zc31)
      refine lv_iload_n hx hb dX3_carry_34 rfl (lv_at hl 2 rfl) ?_
      refine lv_bipush (v := 24) hx hb dX3_carry_35 (by decide) ?_
      refine lv_icmp_ge (tgt := 147) hx hb dX3_carry_37 (by decide) (fun zc37 => absurd zc37 (kn24 (by omega))) (fun _ => ?_)
      refine lv_aload_n hx hb dX3_carry_40 rfl (lv_at hl 0 rfl) ?_
      refine gf3_21 hg X w dX3_carry_41 ?_
      refine gf3_142 hg X w dX3_carry_44 ?_
      refine lv_iload_n hx hb dX3_carry_47 rfl (lv_at hl 2 rfl) ?_
      refine ia (f := 12) (n := 24) X w (hg.in (by decide)) hg.sh (vp_in_nI (by omega) (by decide)) dX3_carry_48 ?_
      refine lv_iload_n hx hb dX3_carry_49 rfl (lv_at hl 1 rfl) ?_
      refine lv_icmp_ne (tgt := 141) hx hb dX3_carry_50 (by decide) (fun zc50 => ?_) (fun zc50 => ?_)
      · -- 141
        refine lv_iinc (v := nI (k + 1)) (lv' := [(2, .int (nI (k + 1))), (0, .ref (aa G g 0)), (1, .int y1)]) hx hb dX3_carry_141 hl (k := 2) rfl (nI_1 _) (by decide) rfl (fun ls hl => ?_)
        refine lv_goto (tgt := 23) hx hb dX3_carry_144 (by decide) ?_
        exact ih (k + 1) v (by omega) (by omega) (by simp only [itn, ← ev, b_X3_carry_23, if_neg zc50]) (by first | exact hv | exact (hv.trans Fr.u7).trans (drop_Fr _ _ _ _)) _ _ _ w (lv_sub hl [1, 2, 0] rfl)
      · -- 53
        refine lv_aload_n hx hb dX3_carry_53 rfl (lv_at hl 0 rfl) ?_
        refine gf3_21 hg X w dX3_carry_54 ?_
        refine lv_iload_n hx hb dX3_carry_57 rfl (lv_at hl 2 rfl) ?_
        refine k_i (rr_v (rest := []) X w mX5_isShut kw555 (c_X5_isShut hg (nI k)) (hg.in (by decide)) hg.sh rfl ⟨Nat.le_of_ble_eq_true rfl, Nat.le_of_ble_eq_true rfl⟩ rfl hl.1 rfl (Nat.le_of_ble_eq_true rfl) dX3_carry_58 ⟨Nat.zero_le _, Nat.zero_le _⟩) w (fun H locs w => ?_)
        refine lv_if_ne (tgt := 141) hx hb dX3_carry_61 (by decide) (fun zc61 => ?_) (fun zc61 => ?_)
        · -- 141
          refine lv_iinc (v := nI (k + 1)) (lv' := [(2, .int (nI (k + 1))), (0, .ref (aa G g 0)), (1, .int y1)]) hx hb dX3_carry_141 hl (k := 2) rfl (nI_1 _) (by decide) rfl (fun ls hl => ?_)
          refine lv_goto (tgt := 23) hx hb dX3_carry_144 (by decide) ?_
          exact ih (k + 1) v (by omega) (by omega) (by simp only [itn, ← ev, b_X3_carry_23, if_pos zc50, if_neg zc61]) (by first | exact hv | exact (hv.trans Fr.u7).trans (drop_Fr _ _ _ _)) _ _ _ w (lv_sub hl [1, 2, 0] rfl)
        · -- 64
          refine lv_aload_n hx hb dX3_carry_64 rfl (lv_at hl 0 rfl) ?_
          refine gf3_21 hg X w dX3_carry_65 ?_
          refine gf3_148 hg X w dX3_carry_68 ?_
          refine lv_iload_n hx hb dX3_carry_71 rfl (lv_at hl 2 rfl) ?_
          refine ia (f := 13) (n := 24) X w (hg.in (by decide)) hg.sh (vp_in_nI (by omega) (by decide)) dX3_carry_72 ?_
          refine lv_topi (fun zv73 ezv73 => ?_)
          refine lv_istore_n (lv' := [(3, .int zv73), (0, .ref (aa G g 0)), (1, .int y1), (2, .int (nI k))]) hx hb dX3_carry_73 rfl hl (by decide) rfl (fun ls hl => ?_)
          refine lv_aload_n hx hb dX3_carry_74 rfl (lv_at hl 1 rfl) ?_
          refine gf3_21 hg X w dX3_carry_75 ?_
          refine gf3_151 hg X w dX3_carry_78 ?_
          refine lv_iload_n hx hb dX3_carry_81 rfl (lv_at hl 3 rfl) ?_
          refine ia (f := 10) (n := 24) X w (hg.in (by decide)) hg.sh (vp_in_nI (by omega) (by decide)) dX3_carry_82 ?_
          change W _ _ _ _ _ _ _ _ _ _ _ _ _ _ _ (F0 m 83 ls _)
          refine lv_iload_n hx hb dX3_carry_83 rfl (lv_at hl 0 rfl) ?_
          refine k_i (rr_n (rest := []) X w mX6_heapOf nw11 (c_X6_heapOf (v 10 (nI k).toNatClampNeg) zv73) ⟨Nat.le_of_ble_eq_true rfl, Nat.le_of_ble_eq_true rfl⟩ rfl hl.1 rfl (Nat.le_of_ble_eq_true rfl) dX3_carry_84 ⟨Nat.zero_le _, Nat.zero_le _⟩) w (fun H locs w => ?_)
          refine lv_topi (fun zv87 ezv87 => ?_)
          refine lv_istore (lv' := [(4, .int zv87), (3, .int zv73), (0, .ref (aa G g 0)), (1, .int y1), (2, .int (nI k))]) hx hb dX3_carry_87 hl (by decide) rfl (fun ls hl => ?_)
          refine lv_aload_n hx hb dX3_carry_89 rfl (lv_at hl 2 rfl) ?_
          refine gf3_61 hg X w dX3_carry_90 ?_
          refine lv_iload hx hb dX3_carry_93 (lv_at hl 0 rfl) ?_
          refine ia (f := 20) (n := 16) X w (hg.in (by decide)) hg.sh (by rw [ezv87]; exact (heap_in _ _)) dX3_carry_95 ?_
          refine lv_aload_n hx hb dX3_carry_96 rfl (lv_at hl 2 rfl) ?_
          refine gf3_21 hg X w dX3_carry_97 ?_
          refine gf3_158 hg X w dX3_carry_100 ?_
          refine lv_iload_n hx hb dX3_carry_103 rfl (lv_at hl 4 rfl) ?_
          refine ia (f := 14) (n := 24) X w (hg.in (by decide)) hg.sh (vp_in_nI (by omega) (by decide)) dX3_carry_104 ?_
          change W _ _ _ _ _ _ _ _ _ _ _ _ _ _ _ (F0 m 105 ls _)
          refine k_i (rr_n (rest := []) X w mX6_partOf nw12 (c_X6_partOf (v 20 zv87.toNatClampNeg) (v 14 (nI k).toNatClampNeg)) ⟨Nat.le_of_ble_eq_true rfl, Nat.le_of_ble_eq_true rfl⟩ rfl hl.1 rfl (Nat.le_of_ble_eq_true rfl) dX3_carry_105 ⟨Nat.zero_le _, Nat.zero_le _⟩) w (fun H locs w => ?_)
          refine lv_topi (fun zv108 ezv108 => ?_)
          refine lv_istore (lv' := [(5, .int zv108), (4, .int zv87), (3, .int zv73), (0, .ref (aa G g 0)), (1, .int y1), (2, .int (nI k))]) hx hb dX3_carry_108 hl (by decide) rfl (fun ls hl => ?_)
          refine lv_aload_n hx hb dX3_carry_110 rfl (lv_at hl 3 rfl) ?_
          refine gf3_12 hg X w dX3_carry_111 ?_
          refine gf3_130 hg X w dX3_carry_114 ?_
          refine lv_iload hx hb dX3_carry_117 (lv_at hl 1 rfl) ?_
          refine lv_dup2_11 hx hb dX3_carry_119 rfl rfl ?_
          refine ia (f := 7) (n := 16) X w (hg.in (by decide)) hg.sh (by rw [ezv87]; exact (heap_in _ _)) dX3_carry_120 ?_
          refine lv_iload hx hb dX3_carry_121 (lv_at hl 0 rfl) ?_
          refine lv_isub hx hb dX3_carry_123 ?_
          refine iS (f := 7) (n := 16) X w (hg.in (by decide)) hg.sh (by rw [ezv87]; exact (heap_in _ _)) dX3_carry_124 (fun zs124 H locs ezs124 w => ?_)
          refine lv_aload_n hx hb dX3_carry_125 rfl (lv_at hl 3 rfl) ?_
          change W _ _ _ _ _ _ _ _ _ _ _ _ _ _ _ (F0 m 126 ls _)
          refine lv_aload_n hx hb dX3_carry_126 rfl (lv_at hl 3 rfl) ?_
          refine gf3_21 hg X w dX3_carry_127 ?_
          refine gf3_164 hg X w dX3_carry_130 ?_
          refine lv_iload_n hx hb dX3_carry_133 rfl (lv_at hl 5 rfl) ?_
          refine ia (f := 11) (n := 24) X w (hg.in (by decide)) hg.sh (vp_in_nI (by omega) (by decide)) dX3_carry_134 ?_
          refine lv_iload_n hx hb dX3_carry_135 rfl (lv_at hl 2 rfl) ?_
          refine lv_iload hx hb dX3_carry_136 (lv_at hl 0 rfl) ?_
          refine k_v (rr_v (rest := []) X w mX3_drop kw558 (c_X3_drop hg (zs124 11 (nI k).toNatClampNeg) zv73 zv108) (hg.in (by decide)) hg.sh rfl ⟨Nat.le_of_ble_eq_true rfl, Nat.le_of_ble_eq_true rfl⟩ rfl hl.1 rfl (Nat.le_of_ble_eq_true rfl) dX3_carry_138 ⟨Nat.zero_le _, Nat.zero_le _⟩) w (fun H locs w => ?_)
          obtain ⟨zs138, ezs138⟩ : ∃ y : Gr, y = g_X3_drop zs124 (zs124 11 (nI k).toNatClampNeg) zv73 zv108 := ⟨_, rfl⟩; rw [← ezs138] at w
          refine lv_iinc (v := nI (k + 1)) (lv' := [(2, .int (nI (k + 1))), (5, .int zv108), (4, .int zv87), (3, .int zv73), (0, .ref (aa G g 0)), (1, .int y1)]) hx hb dX3_carry_141 hl (k := 5) rfl (nI_1 _) (by decide) rfl (fun ls hl => ?_)
          refine lv_goto (tgt := 23) hx hb dX3_carry_144 (by decide) ?_
          exact ih (k + 1) zs138 (by omega) (by omega) (by replace ezs138 := ezs138.symm; subst ezs138; replace ezs124 := ezs124.symm; subst ezs124; replace ezv108 := ezv108.symm; subst ezv108; replace ezv87 := ezv87.symm; subst ezv87; replace ezv73 := ezv73.symm; subst ezv73; simp only [itn, ← ev, b_X3_carry_23, if_pos zc50, if_pos zc61]) (by replace ezs138 := ezs138.symm; subst ezs138; replace ezs124 := ezs124.symm; subst ezs124; replace ezv108 := ezv108.symm; subst ezv108; replace ezv87 := ezv87.symm; subst ezv87; replace ezv73 := ezv73.symm; subst ezv73; first | exact hv | exact (hv.trans Fr.u7).trans (drop_Fr _ _ _ _)) _ _ _ w (lv_sub hl [4, 5, 0] rfl)
set_option maxRecDepth 100000 in
set_option maxHeartbeats 4000000 in
theorem c_X3_carry {l : Launch} {G : GG} {σ : St} {g : Nat} {ρ : Gr} (hg : HG g)  (x1 : Int32) (hf : WFh ρ) : MM l G yX3_carry cX3_carry 6 2 44 none [.ref (aa G g 0), .int x1] (setG σ g ρ) (Qv G (setG σ g (g_X3_carry ρ x1))) := by
  refine MM.of (by decide) (Nat.le_of_ble_eq_true rfl) ?_
  intro p e s m below meth c ls X hr hlk w hl
  have hx := X.1.1
  have hb := X.1.2.1
  have hl : lv_has ls 6 [(0, .ref (aa G g 0)), (1, .int x1)] := hl
  refine lv_aload_n hx hb dX3_carry_0 rfl (lv_at hl 0 rfl) ?_
  refine gf3_12 hg X w dX3_carry_1 ?_
  refine gf3_130 hg X w dX3_carry_4 ?_
  refine lv_iconst (v := 0) hx hb dX3_carry_7 (by decide) ?_
  refine lv_aload_n hx hb dX3_carry_8 rfl (lv_at hl 0 rfl) ?_
  refine gf3_61 hg X w dX3_carry_9 ?_
  refine lv_iconst (v := 0) hx hb dX3_carry_12 (by decide) ?_
  refine lv_aload_n hx hb dX3_carry_13 rfl (lv_at hl 0 rfl) ?_
  refine gf3_61 hg X w dX3_carry_14 ?_
  refine r_al (f := 20) (n := 16) X w (hg.in (by decide)) hg.sh (v := 16) (by decide) dX3_carry_17 ?_
  refine r_cp (g0 := g) (f0 := 7) (f := 20) (n0 := 16) (n1 := 16) (src := ρ 7) X w hl.1 (hg.in (by decide)) hg.sh (congrFun setG_same _) (hg.in (by decide)) hg.sh kw554 (by decide) (by decide) (by decide) (Nat.le_of_ble_eq_true rfl) (Nat.le_of_ble_eq_true rfl) dX3_carry_18 (fun H locs w => ?_)
  obtain ⟨zs18, ezs18⟩ : ∃ y : Gr, y = setF ρ 20 (va_cpy (ρ 7) (ρ 20) 0 0 (16 : Int32).toNatClampNeg) := ⟨_, rfl⟩; rw [← ezs18] at w
  change W _ _ _ _ _ _ _ _ _ _ _ _ _ _ _ (F0 m 21 ls _)
  refine lv_iconst (v := 0) hx hb dX3_carry_21 (by decide) ?_
  refine lv_istore_n (lv' := [(2, .int 0), (0, .ref (aa G g 0)), (1, .int x1)]) hx hb dX3_carry_22 rfl hl (by decide) rfl (fun ls hl => ?_)
  refine lp_X3_carry_23 hg X x1 zs18 (by rw [ezs18]; exact hf.2.1) (fun H locs ls w hl => ?_) ((zs18 9 0).toNatClampNeg + 1) 0 _ (Nat.zero_le _) (Nat.lt_succ_of_le (Nat.sub_le _ _)) rfl Fr.rf _ _ _ w (lv_sub hl [1, 2, 0] rfl)
  obtain ⟨zl23, ezl23⟩ : ∃ y : Gr, y = (l_X3_carry_23 x1 zs18) := ⟨_, rfl⟩
  rw [← ezl23] at w
  exact t_v X w hr hlk dX3_carry_147 (by replace ezl23 := ezl23.symm; subst ezl23; replace ezs18 := ezs18.symm; subst ezs18; simp only [g_X3_carry])

theorem carry_Fr (ρ : Gr) (x : Int32) : Fr ρ (g_X3_carry ρ x) := by
  unfold g_X3_carry
  refine (Fr.set (v := va_cpy (ρ 7) (ρ 20) 0 0 (16 : Int32).toNatClampNeg) (by decide)).trans (itn_Fr (fun k v => ?_) _ _)
  unfold b_X3_carry_23
  split
  · split
    · exact Fr.u7.trans (drop_Fr _ _ _ _)
    · exact Fr.rf
  · exact Fr.rf

noncomputable def b_X3_bring_2  (k : Nat) (v : Gr) : Gr :=
  let zs59 : Gr := up v 7 (f_X6_heapOf (v 16 (nI k).toNatClampNeg) (v 17 (nI k).toNatClampNeg)).toNatClampNeg ((v 7 (f_X6_heapOf (v 16 (nI k).toNatClampNeg) (v 17 (nI k).toNatClampNeg)).toNatClampNeg) + (v 18 (nI k).toNatClampNeg))
  zs59
noncomputable def l_X3_bring_2  (v0 : Gr) : Gr := itn (b_X3_bring_2) (v0 15 0).toNatClampNeg v0
noncomputable def g_X3_bring (ρ : Gr)  : Gr :=
  let zl2 : Gr := (l_X3_bring_2 ρ)
  zl2
set_option maxRecDepth 100000 in
set_option maxHeartbeats 4000000 in
theorem lp_X3_bring_2 {l : Launch} {G : GG} {p : Program} {e : Env} {s : State} {m : MethodId} {args : Array Value} {below : List Frame} {meth : Method} {c : Code} {Q : State → Prop} {σ : St} {g : Nat} (hg : HG g) (X : Cx p m c cX3_bring 2 s args RX3 G)  (v0 : Gr) (hr : (v0 15 0).toNatClampNeg ≤ 8)
    (kk : ∀ (H : Heap) (locs : List Loc) (ls : Array Slot), Wh G s σ g (l_X3_bring_2 v0) H locs → lv_has ls 2 [(0, .ref (aa G g 0)), (1, .int (nI ((v0 15 0).toNatClampNeg)))] → W p l e (rmv 1 21) s m args below meth c H locs 0 0 Q (F0 m 66 ls [])) :
    ∀ (n k : Nat) (v : Gr), k ≤ (v0 15 0).toNatClampNeg → (v0 15 0).toNatClampNeg - k < n → v = itn (b_X3_bring_2) k v0 → (Fr v0 v) → ∀ (H : Heap) (locs : List Loc) (ls : Array Slot), Wh G s σ g v H locs → lv_has ls 2 [(0, .ref (aa G g 0)), (1, .int (nI k))] → W p l e (rmv 1 21) s m args below meth c H locs 0 0 Q (F0 m 2 ls []) := by
  have hx := X.1.1
  have hb := X.1.2.1
  intro n
  induction n with
  | zero => intro k v _ h; omega
  | succ n ih =>
    intro k v hkN hn ev hv H locs ls w hl
    refine lv_iload_n hx hb dX3_bring_2 rfl (lv_at hl 1 rfl) ?_
    refine lv_aload_n hx hb dX3_bring_3 rfl (lv_at hl 0 rfl) ?_
    refine gf3_28 hg X w dX3_bring_4 ?_
    refine gf3_171 hg X w dX3_bring_7 ?_
    refine lv_icmp_ge (tgt := 66) hx hb dX3_bring_10 (by decide) (fun zc10 => ?_) (fun zc10 => ?_)
    · -- 66
      have hkE : k = (v0 15 0).toNatClampNeg := lp_eq hkN (by rw [← hv.c 15 (by decide)]; exact zc10)
      have ev2 : l_X3_bring_2 v0 = v := by unfold l_X3_bring_2; rw [← hkE]; exact ev.symm
      rw [ev2] at kk
      rw [hkE] at hl
      exact kk _ _ _ w (lv_sub hl [0, 1] rfl)
    · -- 13
      have hk : k < (v0 15 0).toNatClampNeg := lp_lt hkN (by rw [← hv.c 15 (by decide)]; exact zc10)
      refine lv_iload_n hx hb dX3_bring_13 rfl (lv_at hl 1 rfl) ?_
      refine lv_bipush (v := 8) hx hb dX3_bring_14 (by decide) ?_
      refine lv_icmp_ge (tgt := 66) hx hb dX3_bring_16 (by decide) (fun zc16 => absurd zc16 (kn8 (by omega))) (fun _ => ?_)
      refine lv_aload_n hx hb dX3_bring_19 rfl (lv_at hl 0 rfl) ?_
      refine gf3_12 hg X w dX3_bring_20 ?_
      refine gf3_130 hg X w dX3_bring_23 ?_
      refine lv_aload_n hx hb dX3_bring_26 rfl (lv_at hl 0 rfl) ?_
      refine gf3_28 hg X w dX3_bring_27 ?_
      refine gf3_172 hg X w dX3_bring_30 ?_
      refine lv_iload_n hx hb dX3_bring_33 rfl (lv_at hl 1 rfl) ?_
      refine ia (f := 16) (n := 8) X w (hg.in (by decide)) hg.sh (vp_in_nI (by omega) (by decide)) dX3_bring_34 ?_
      change W _ _ _ _ _ _ _ _ _ _ _ _ _ _ _ (F0 m 35 ls _)
      refine lv_aload_n hx hb dX3_bring_35 rfl (lv_at hl 0 rfl) ?_
      refine gf3_28 hg X w dX3_bring_36 ?_
      refine gf3_175 hg X w dX3_bring_39 ?_
      refine lv_iload_n hx hb dX3_bring_42 rfl (lv_at hl 1 rfl) ?_
      refine ia (f := 17) (n := 8) X w (hg.in (by decide)) hg.sh (vp_in_nI (by omega) (by decide)) dX3_bring_43 ?_
      refine k_i (rr_n (rest := [.ref (aa G g 7)]) X w mX6_heapOf nw11 (c_X6_heapOf (v 16 (nI k).toNatClampNeg) (v 17 (nI k).toNatClampNeg)) ⟨Nat.le_of_ble_eq_true rfl, Nat.le_of_ble_eq_true rfl⟩ rfl hl.1 rfl (Nat.le_of_ble_eq_true rfl) dX3_bring_44 ⟨Nat.zero_le _, Nat.zero_le _⟩) w (fun H locs w => ?_)
      refine lv_dup2_11 hx hb dX3_bring_47 rfl rfl ?_
      refine ia (f := 7) (n := 16) X w (hg.in (by decide)) hg.sh (heap_in _ _) dX3_bring_48 ?_
      refine lv_aload_n hx hb dX3_bring_49 rfl (lv_at hl 0 rfl) ?_
      refine gf3_28 hg X w dX3_bring_50 ?_
      refine gf3_176 hg X w dX3_bring_53 ?_
      refine lv_iload_n hx hb dX3_bring_56 rfl (lv_at hl 1 rfl) ?_
      change W _ _ _ _ _ _ _ _ _ _ _ _ _ _ _ (F0 m 57 ls _)
      refine ia (f := 18) (n := 8) X w (hg.in (by decide)) hg.sh (vp_in_nI (by omega) (by decide)) dX3_bring_57 ?_
      refine lv_iadd hx hb dX3_bring_58 ?_
      refine iS (f := 7) (n := 16) X w (hg.in (by decide)) hg.sh (heap_in _ _) dX3_bring_59 (fun zs59 H locs ezs59 w => ?_)
      refine lv_iinc (v := nI (k + 1)) (lv' := [(1, .int (nI (k + 1))), (0, .ref (aa G g 0))]) hx hb dX3_bring_60 hl (k := 1) rfl (nI_1 _) (by decide) rfl (fun ls hl => ?_)
      refine lv_goto (tgt := 2) hx hb dX3_bring_63 (by decide) ?_
      exact ih (k + 1) zs59 (by omega) (by omega) (by replace ezs59 := ezs59.symm; subst ezs59; simp only [itn, ← ev, b_X3_bring_2]) (by replace ezs59 := ezs59.symm; subst ezs59; exact hv.trans Fr.u7) _ _ _ w (lv_sub hl [1, 0] rfl)
set_option maxRecDepth 100000 in
set_option maxHeartbeats 4000000 in
theorem c_X3_bring {l : Launch} {G : GG} {σ : St} {g : Nat} {ρ : Gr} (hg : HG g)  (hf : WFh ρ) : MM l G yX3_bring cX3_bring 2 1 21 none [.ref (aa G g 0)] (setG σ g ρ) (Qv G (setG σ g (g_X3_bring ρ))) := by
  refine MM.of (by decide) (Nat.le_of_ble_eq_true rfl) ?_
  intro p e s m below meth c ls X hr hlk w hl
  have hx := X.1.1
  have hb := X.1.2.1
  have hl : lv_has ls 2 [(0, .ref (aa G g 0))] := hl
  refine lv_iconst (v := 0) hx hb dX3_bring_0 (by decide) ?_
  refine lv_istore_n (lv' := [(1, .int 0), (0, .ref (aa G g 0))]) hx hb dX3_bring_1 rfl hl (by decide) rfl (fun ls hl => ?_)
  refine lp_X3_bring_2 hg X  ρ hf.2.2 (fun H locs ls w hl => ?_) ((ρ 15 0).toNatClampNeg + 1) 0 _ (Nat.zero_le _) (Nat.lt_succ_of_le (Nat.sub_le _ _)) rfl Fr.rf _ _ _ w (lv_sub hl [1, 0] rfl)
  obtain ⟨zl2, ezl2⟩ : ∃ y : Gr, y = (l_X3_bring_2 ρ) := ⟨_, rfl⟩
  rw [← ezl2] at w
  exact t_v X w hr hlk dX3_bring_66 (by replace ezl2 := ezl2.symm; subst ezl2; simp only [g_X3_bring])

theorem bring_Fr (ρ : Gr) : Fr ρ (g_X3_bring ρ) := itn_Fr (fun k v => Fr.u7) _ _

noncomputable def f_X3_plannedCell (ρ : Gr) (x1 : Int32) : Int32 :=
  if (ρ 19 2) = 0 then
    f_X0_nearest ρ (ρ 19 1)
  else
    if (ρ 19 2) = 1 then
      if x1 = 1 then
        f_X0_nearest ρ (ρ 19 1)
      else
        (-9)
    else
      if (ρ 19 2) = 2 then
        ρ 19 3
      else
        if (ρ 19 2) = 3 then
          f_X0_fullest ρ (ρ 19 1)
        else
          if x1 = 1 then
            f_X0_nearest ρ (ρ 19 1)
          else
            ρ 19 3
set_option maxRecDepth 100000 in
set_option maxHeartbeats 4000000 in
theorem c_X3_plannedCell {l : Launch} {G : GG} {σ : St} {g : Nat} {ρ : Gr} (hg : HG g)  (x1 : Int32) : MM l G yX3_plannedCell cX3_plannedCell 2 4 79 (some .int) [.ref (aa G g 0), .int x1] (setG σ g ρ) (Qi G (f_X3_plannedCell ρ x1) (setG σ g ρ)) := by
  refine MM.of (by decide) (Nat.le_of_ble_eq_true rfl) ?_
  intro p e s m below meth c ls X hr hlk w hl
  have hx := X.1.1
  have hb := X.1.2.1
  have hl : lv_has ls 2 [(0, .ref (aa G g 0)), (1, .int x1)] := hl
  refine lv_aload_n hx hb dX3_plannedCell_0 rfl (lv_at hl 0 rfl) ?_
  refine gf3_35 hg X w dX3_plannedCell_1 ?_
  refine gf3_179 hg X w dX3_plannedCell_4 ?_
  by_cases zc7_0 : (ρ 19 2) = 0
  · -- case 0
    refine lv_tableIn (off := 29) (tgt := 36) hx hb dX3_plannedCell_7 (by rw [zc7_0]; decide) (by rw [zc7_0]; decide) (by rw [zc7_0]; rfl) (by decide) ?_
    refine lv_aload_n hx hb dX3_plannedCell_36 rfl (lv_at hl 0 rfl) ?_
    refine gf3_12 hg X w dX3_plannedCell_37 ?_
    refine lv_aload_n hx hb dX3_plannedCell_40 rfl (lv_at hl 0 rfl) ?_
    refine gf3_35 hg X w dX3_plannedCell_41 ?_
    refine gf3_182 hg X w dX3_plannedCell_44 ?_
    refine k_i (rr_v (rest := []) X w mX0_nearest kw515 (c_X0_nearest hg (ρ 19 1)) (hg.in (by decide)) hg.sh rfl ⟨Nat.le_of_ble_eq_true rfl, Nat.le_of_ble_eq_true rfl⟩ rfl hl.1 rfl (Nat.le_of_ble_eq_true rfl) dX3_plannedCell_47 ⟨Nat.zero_le _, Nat.zero_le _⟩) w (fun H locs w => ?_)
    exact t_i X w hr hlk dX3_plannedCell_50 (by simp only [f_X3_plannedCell, if_pos zc7_0]) rfl
  · -- not 0
    by_cases zc7_1 : (ρ 19 2) = 1
    · -- case 1
      refine lv_tableIn (off := 44) (tgt := 51) hx hb dX3_plannedCell_7 (by rw [zc7_1]; decide) (by rw [zc7_1]; decide) (by rw [zc7_1]; rfl) (by decide) ?_
      refine lv_iload_n hx hb dX3_plannedCell_51 rfl (lv_at hl 1 rfl) ?_
      refine lv_iconst (v := 1) hx hb dX3_plannedCell_52 (by decide) ?_
      refine lv_icmp_ne (tgt := 73) hx hb dX3_plannedCell_53 (by decide) (fun zc53 => ?_) (fun zc53 => ?_)
      · -- 73
        refine lv_bipush (v := (-9)) hx hb dX3_plannedCell_73 (by decide) ?_
        exact t_i X w hr hlk dX3_plannedCell_75 (by simp only [f_X3_plannedCell, if_neg zc7_0, if_pos zc7_1, if_neg zc53]) rfl
      · -- 56
        refine lv_aload_n hx hb dX3_plannedCell_56 rfl (lv_at hl 0 rfl) ?_
        refine gf3_12 hg X w dX3_plannedCell_57 ?_
        refine lv_aload_n hx hb dX3_plannedCell_60 rfl (lv_at hl 0 rfl) ?_
        refine gf3_35 hg X w dX3_plannedCell_61 ?_
        refine gf3_182 hg X w dX3_plannedCell_64 ?_
        refine k_i (rr_v (rest := []) X w mX0_nearest kw515 (c_X0_nearest hg (ρ 19 1)) (hg.in (by decide)) hg.sh rfl ⟨Nat.le_of_ble_eq_true rfl, Nat.le_of_ble_eq_true rfl⟩ rfl hl.1 rfl (Nat.le_of_ble_eq_true rfl) dX3_plannedCell_67 ⟨Nat.zero_le _, Nat.zero_le _⟩) w (fun H locs w => ?_)
        refine lv_goto (tgt := 75) hx hb dX3_plannedCell_70 (by decide) ?_
        exact t_i X w hr hlk dX3_plannedCell_75 (by simp only [f_X3_plannedCell, if_neg zc7_0, if_pos zc7_1, if_pos zc53]) rfl
    · -- not 1
      by_cases zc7_2 : (ρ 19 2) = 2
      · -- case 2
        refine lv_tableIn (off := 69) (tgt := 76) hx hb dX3_plannedCell_7 (by rw [zc7_2]; decide) (by rw [zc7_2]; decide) (by rw [zc7_2]; rfl) (by decide) ?_
        refine lv_aload_n hx hb dX3_plannedCell_76 rfl (lv_at hl 0 rfl) ?_
        refine gf3_35 hg X w dX3_plannedCell_77 ?_
        refine gf3_187 hg X w dX3_plannedCell_80 ?_
        exact t_i X w hr hlk dX3_plannedCell_83 (by simp only [f_X3_plannedCell, if_neg zc7_0, if_neg zc7_1, if_pos zc7_2]) rfl
      · -- not 2
        by_cases zc7_3 : (ρ 19 2) = 3
        · -- case 3
          refine lv_tableIn (off := 77) (tgt := 84) hx hb dX3_plannedCell_7 (by rw [zc7_3]; decide) (by rw [zc7_3]; decide) (by rw [zc7_3]; rfl) (by decide) ?_
          refine lv_aload_n hx hb dX3_plannedCell_84 rfl (lv_at hl 0 rfl) ?_
          refine gf3_12 hg X w dX3_plannedCell_85 ?_
          refine lv_aload_n hx hb dX3_plannedCell_88 rfl (lv_at hl 0 rfl) ?_
          refine gf3_35 hg X w dX3_plannedCell_89 ?_
          refine gf3_182 hg X w dX3_plannedCell_92 ?_
          refine k_i (rr_v (rest := []) X w mX0_fullest kw520 (c_X0_fullest hg (ρ 19 1)) (hg.in (by decide)) hg.sh rfl ⟨Nat.le_of_ble_eq_true rfl, Nat.le_of_ble_eq_true rfl⟩ rfl hl.1 rfl (Nat.le_of_ble_eq_true rfl) dX3_plannedCell_95 ⟨Nat.zero_le _, Nat.zero_le _⟩) w (fun H locs w => ?_)
          exact t_i X w hr hlk dX3_plannedCell_98 (by simp only [f_X3_plannedCell, if_neg zc7_0, if_neg zc7_1, if_neg zc7_2, if_pos zc7_3]) rfl
        · -- not 3
          refine lv_tableOut (tgt := 99) hx hb dX3_plannedCell_7 (by have hzc7_0 := lv_neT zc7_0 (a := 0) (by decide); have hzc7_1 := lv_neT zc7_1 (a := 1) (by decide); have hzc7_2 := lv_neT zc7_2 (a := 2) (by decide); have hzc7_3 := lv_neT zc7_3 (a := 3) (by decide); omega) (by decide) ?_
          refine lv_iload_n hx hb dX3_plannedCell_99 rfl (lv_at hl 1 rfl) ?_
          refine lv_iconst (v := 1) hx hb dX3_plannedCell_100 (by decide) ?_
          refine lv_icmp_ne (tgt := 121) hx hb dX3_plannedCell_101 (by decide) (fun zc101 => ?_) (fun zc101 => ?_)
          · -- 121
            refine lv_aload_n hx hb dX3_plannedCell_121 rfl (lv_at hl 0 rfl) ?_
            refine gf3_35 hg X w dX3_plannedCell_122 ?_
            refine gf3_187 hg X w dX3_plannedCell_125 ?_
            exact t_i X w hr hlk dX3_plannedCell_128 (by simp only [f_X3_plannedCell, if_neg zc7_0, if_neg zc7_1, if_neg zc7_2, if_neg zc7_3, if_neg zc101]) rfl
          · -- 104
            refine lv_aload_n hx hb dX3_plannedCell_104 rfl (lv_at hl 0 rfl) ?_
            refine gf3_12 hg X w dX3_plannedCell_105 ?_
            refine lv_aload_n hx hb dX3_plannedCell_108 rfl (lv_at hl 0 rfl) ?_
            refine gf3_35 hg X w dX3_plannedCell_109 ?_
            refine gf3_182 hg X w dX3_plannedCell_112 ?_
            refine k_i (rr_v (rest := []) X w mX0_nearest kw515 (c_X0_nearest hg (ρ 19 1)) (hg.in (by decide)) hg.sh rfl ⟨Nat.le_of_ble_eq_true rfl, Nat.le_of_ble_eq_true rfl⟩ rfl hl.1 rfl (Nat.le_of_ble_eq_true rfl) dX3_plannedCell_115 ⟨Nat.zero_le _, Nat.zero_le _⟩) w (fun H locs w => ?_)
            refine lv_goto (tgt := 128) hx hb dX3_plannedCell_118 (by decide) ?_
            exact t_i X w hr hlk dX3_plannedCell_128 (by simp only [f_X3_plannedCell, if_neg zc7_0, if_neg zc7_1, if_neg zc7_2, if_neg zc7_3, if_pos zc101]) rfl
