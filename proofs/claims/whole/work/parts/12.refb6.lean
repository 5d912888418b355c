noncomputable def b_X7_judge_21 (y1 : Int32) (k : Nat) (v : Gr) : Bool × Nat × Int32 × Gr :=
  if (v 0 32) ≤ (nI k) then
    (false, 65, 0, v)
  else
    if (v 31 (nI k).toNatClampNeg) = 9 then
      (true, 0, 0, v)
    else
      if (f_X7_isCell v (v 31 (nI k).toNatClampNeg)) = 0 then
        let zs55 : Gr := g_X7_refuse v (-1)
        (false, 58, f_X7_refuse v (-1), zs55)
      else
        (true, 0, 0, v)
noncomputable def l_X7_judge_21 (y1 : Int32) (v0 : Gr) : Nat × Int32 × Gr   := wl (b_X7_judge_21 y1) (nn ((v0 0 32).toNatClampNeg + 1)) 0 v0
noncomputable def b_X7_judge_91 (y1 : Int32) (k : Nat) (v : Int32 × Int32 × Gr) : Int32 × Int32 × Gr :=
  let zs101 : Gr := g_X7_flow v.2.2
  if (zs101 31 (nI k).toNatClampNeg) = 9 then
    let zs129_2 : Gr := g_X7_take zs101 (-9)
    let zs139_2 : Gr := up zs129_2 0 21 ((zs129_2 0 21) + 1)
    let zv148_2 : Int32 := v.2.1 + (f_X7_costNow zs139_2)
    if 0 ≤ v.1 then
      (v.1, zv148_2, zs139_2)
    else
      if (zs139_2 31 (nI k).toNatClampNeg) = 9 then
        (v.1, zv148_2, zs139_2)
      else
        if (zs139_2 0 36) = 0 then
          let zv178_2 : Int32 := nI k
          (zv178_2, zv148_2, zs139_2)
        else
          (v.1, zv148_2, zs139_2)
  else
    let zs129 : Gr := g_X7_take zs101 (zs101 31 (nI k).toNatClampNeg)
    let zs139 : Gr := up zs129 0 21 ((zs129 0 21) + 1)
    let zv148 : Int32 := v.2.1 + (f_X7_costNow zs139)
    if 0 ≤ v.1 then
      (v.1, zv148, zs139)
    else
      if (zs139 31 (nI k).toNatClampNeg) = 9 then
        (v.1, zv148, zs139)
      else
        if (zs139 0 36) = 0 then
          let zv178 : Int32 := nI k
          (zv178, zv148, zs139)
        else
          (v.1, zv148, zs139)
noncomputable def l_X7_judge_91 (y1 : Int32) (v0 : Int32 × Int32 × Gr) : Int32 × Int32 × Gr := itn (b_X7_judge_91 y1) (v0.2.2 0 32).toNatClampNeg v0
noncomputable def f_X7_judge (ρ : Gr) (x1 : Int32) : Int32 :=
  if (f_X7_in x1.toInt64 0 2) = 0 then
    let zs15 : Gr := g_X7_refuse ρ (-2)
    f_X7_refuse ρ (-2)
  else
    let zl21 : Nat × Int32 × Gr := (l_X7_judge_21 x1 ρ)
    if zl21.1 = 65 then
      if (zl21.2.2 0 0) = 0 then
        let zs75 : Gr := g_X7_refuse zl21.2.2 (-3)
        f_X7_refuse zl21.2.2 (-3)
      else
        let zs80 : Gr := g_X7_save zl21.2.2
        let zl91 : Int32 × Int32 × Gr := (l_X7_judge_91 x1 ((-9), 0, zs80))
        let zv190 : Int32 := f_X7_feetLacking zl91.2.2 0
        let zs194 : Gr := up zl91.2.2 0 32 0
        let zs198 : Gr := g_X7_putBack zs194
        if x1 = 0 then
          zl91.1
        else
          if x1 = 1 then
            zl91.2.1
          else
            zv190
    else
      zl21.2.1
noncomputable def g_X7_judge (ρ : Gr) (x1 : Int32) : Gr :=
  if (f_X7_in x1.toInt64 0 2) = 0 then
    let zs15 : Gr := g_X7_refuse ρ (-2)
    zs15
  else
    let zl21 : Nat × Int32 × Gr := (l_X7_judge_21 x1 ρ)
    if zl21.1 = 65 then
      if (zl21.2.2 0 0) = 0 then
        let zs75 : Gr := g_X7_refuse zl21.2.2 (-3)
        zs75
      else
        let zs80 : Gr := g_X7_save zl21.2.2
        let zl91 : Int32 × Int32 × Gr := (l_X7_judge_91 x1 ((-9), 0, zs80))
        let zv190 : Int32 := f_X7_feetLacking zl91.2.2 0
        let zs194 : Gr := up zl91.2.2 0 32 0
        let zs198 : Gr := g_X7_putBack zs194
        zs198
    else
      zl21.2.2
theorem jl_Tt (y1 : Int32) (v0 : Int32 × Int32 × Gr) : Tt v0.2.2 (l_X7_judge_91 y1 v0).2.2 := by
  refine itn_P (f := b_X7_judge_91 y1) (fun v : Int32 × Int32 × Gr => Tt v0.2.2 v.2.2) (fun k v h => ?_) _ _ Tt.rf
  dsimp only [b_X7_judge_91]
  repeat' split
  all_goals exact h.trans (((flow_Fm _).trans (take_Fm _ _)).tt.trans Tt.u21)
set_option maxRecDepth 100000 in
set_option maxHeartbeats 4000000 in
theorem lp_X7_judge_21 {l : Launch} {G : GG} {p : Program} {e : Env} {s : State} {m : MethodId} {args : Array Value} {below : List Frame} {meth : Method} {c : Code} {Q : State → Prop} {σ : St} (X : Cx p m c cX7_judge 5 s args RX7 G) (y1 : Int32) (w0 : Gr) (hr0 : (w0 0 32).toNatClampNeg ≤ 28) (z : Nat × Int32 × Gr)
    (kk65 : z.1 = 65 → (z.1 = 65 → (z.2.2 = w0 ∧ ∀ i, i < (w0 0 32).toNatClampNeg → w0 31 i = 9 ∨ ¬ f_X7_isCell w0 (w0 31 i) = 0)) → ∀ (H : Heap) (locs : List Loc) (ls : Array Slot), Wh G s σ 4 z.2.2 H locs → lv_has ls 5 [(0, .ref (aa G 4 0)), (1, .int y1)] → W p l e (rmv 5 108) s m args below meth c H locs 0 0 Q (F0 m 65 ls []))
    (kk58 : z.1 = 58 → (z.1 = 65 → (z.2.2 = w0 ∧ ∀ i, i < (w0 0 32).toNatClampNeg → w0 31 i = 9 ∨ ¬ f_X7_isCell w0 (w0 31 i) = 0)) → ∀ (H : Heap) (locs : List Loc) (ls : Array Slot), Wh G s σ 4 z.2.2 H locs → lv_has ls 5 [(0, .ref (aa G 4 0)), (1, .int y1)] → W p l e (rmv 5 108) s m args below meth c H locs 0 0 Q (F0 m 58 ls [.int z.2.1])) :
    ∀ (n k : Nat) (v : Gr), k ≤ (w0 0 32).toNatClampNeg → (w0 0 32).toNatClampNeg - k < n → wl (b_X7_judge_21 y1) n k v = z → (v = w0) → (∀ i, i < k → w0 31 i = 9 ∨ ¬ f_X7_isCell w0 (w0 31 i) = 0) → ∀ (H : Heap) (locs : List Loc) (ls : Array Slot), Wh G s σ 4 v H locs → lv_has ls 5 [(0, .ref (aa G 4 0)), (1, .int y1), (2, .int (nI k))] → W p l e (rmv 5 108) s m args below meth c H locs 0 0 Q (F0 m 21 ls []) := by
  have hx := X.1.1
  have hb := X.1.2.1
  intro n
  induction n with
  | zero => intro k v _ h; omega
  | succ n ih =>
    intro k v hkN hn hz hv hr H locs ls w hl
    refine lv_iload_n hx hb dX7_judge_21 rfl (lv_at hl 2 rfl) ?_
    refine lv_aload_n hx hb dX7_judge_22 rfl (lv_at hl 0 rfl) ?_
    refine gf7_261 X w dX7_judge_23 ?_
    refine lv_icmp_ge (tgt := 65) hx hb dX7_judge_26 (by decide) (fun zc26 => ?_) (fun zc26 => ?_)
    · -- 65
      have hz1 : z = ((65, 0, v) : Nat × Int32 × Gr) := by rw [← hz]; exact wl_out (by simp only [b_X7_judge_21, if_pos zc26])
      subst hz1
      exact kk65 rfl (by first | (intro h; exact absurd (show (58 : Nat) = 65 from h) (by decide)) | exact fun _ => ⟨hv, fun i hi => hr i (by have := lp_eq hkN (show (w0 0 32) ≤ nI k by rw [← hv]; exact zc26); omega)⟩) _ _ _ w (lv_sub hl [0, 1] rfl)
    · -- 29
      have hk : k < (w0 0 32).toNatClampNeg := (lp_lt hkN (by rw [← hv]; exact zc26))
      refine lv_aload_n hx hb dX7_judge_29 rfl (lv_at hl 0 rfl) ?_
      refine gf7_75 X w dX7_judge_30 ?_
      refine lv_iload_n hx hb dX7_judge_33 rfl (lv_at hl 2 rfl) ?_
      refine ia (f := 31) (n := 28) X w m4_31 rfl (vp_in_nI (by omega) (by decide)) dX7_judge_34 ?_
      refine lv_bipush (v := 9) hx hb dX7_judge_35 (by decide) ?_
      refine lv_icmp_eq (tgt := 59) hx hb dX7_judge_37 (by decide) (fun zc37 => ?_) (fun zc37 => ?_)
      · -- 59
        refine lv_iinc (v := nI (k + 1)) (lv' := [(2, .int (nI (k + 1))), (0, .ref (aa G 4 0)), (1, .int y1)]) hx hb dX7_judge_59 hl (k := 2) rfl (nI_1 _) (by decide) rfl (fun ls hl => ?_)
        refine lv_goto (tgt := 21) hx hb dX7_judge_62 (by decide) ?_
        have hk : k < (w0 0 32).toNatClampNeg := (lp_lt hkN (by rw [← hv]; exact zc26))
        exact ih (k + 1) v (by omega) (by omega) (by rw [← hz]; exact (wl_go (t := 0) (r := 0) (by simp only [b_X7_judge_21, if_neg zc26, if_pos zc37])).symm) hv (lt_s hr (jstep hv (by omega) (by first | exact Or.inl zc37 | exact Or.inr zc50))) _ _ _ w (lv_sub hl [1, 2, 0] rfl)
      · -- 40
        refine lv_aload_n hx hb dX7_judge_40 rfl (lv_at hl 0 rfl) ?_
        refine lv_aload_n hx hb dX7_judge_41 rfl (lv_at hl 0 rfl) ?_
        refine gf7_75 X w dX7_judge_42 ?_
        refine lv_iload_n hx hb dX7_judge_45 rfl (lv_at hl 2 rfl) ?_
        refine ia (f := 31) (n := 28) X w m4_31 rfl (vp_in_nI (by omega) (by decide)) dX7_judge_46 ?_
        refine k_i (rr_v (rest := []) X w mX7_isCell kw884 (c_X7_isCell (v 31 (nI k).toNatClampNeg)) m4_0 rfl rfl ⟨Nat.le_of_ble_eq_true rfl, Nat.le_of_ble_eq_true rfl⟩ rfl hl.1 rfl (Nat.le_of_ble_eq_true rfl) dX7_judge_47 ⟨Nat.zero_le _, Nat.zero_le _⟩) w (fun H locs w => ?_)
        refine lv_if_ne (tgt := 59) hx hb dX7_judge_50 (by decide) (fun zc50 => ?_) (fun zc50 => ?_)
        · -- 59
          refine lv_iinc (v := nI (k + 1)) (lv' := [(2, .int (nI (k + 1))), (0, .ref (aa G 4 0)), (1, .int y1)]) hx hb dX7_judge_59 hl (k := 2) rfl (nI_1 _) (by decide) rfl (fun ls hl => ?_)
          refine lv_goto (tgt := 21) hx hb dX7_judge_62 (by decide) ?_
          have hk : k < (w0 0 32).toNatClampNeg := (lp_lt hkN (by rw [← hv]; exact zc26))
          exact ih (k + 1) v (by omega) (by omega) (by rw [← hz]; exact (wl_go (t := 0) (r := 0) (by simp only [b_X7_judge_21, if_neg zc26, if_neg zc37, if_neg zc50])).symm) hv (lt_s hr (jstep hv (by omega) (by first | exact Or.inl zc37 | exact Or.inr zc50))) _ _ _ w (lv_sub hl [1, 2, 0] rfl)
        · -- 53
          refine lv_aload_n hx hb dX7_judge_53 rfl (lv_at hl 0 rfl) ?_
          refine lv_iconst (v := (-1)) hx hb dX7_judge_54 (by decide) ?_
          refine k_i (rr_v (rest := []) X w mX7_refuse kw872 (c_X7_refuse (-1) (vin_lit (by decide +kernel))) m4_0 rfl rfl ⟨Nat.le_of_ble_eq_true rfl, Nat.le_of_ble_eq_true rfl⟩ rfl hl.1 rfl (Nat.le_of_ble_eq_true rfl) dX7_judge_55 ⟨Nat.zero_le _, Nat.zero_le _⟩) w (fun H locs w => ?_)
          obtain ⟨zs55, ezs55⟩ : ∃ y : Gr, y = g_X7_refuse v (-1) := ⟨_, rfl⟩; rw [← ezs55] at w
          have hz1 : z = ((58, f_X7_refuse v (-1), zs55) : Nat × Int32 × Gr) := by rw [← hz]; replace ezs55 := ezs55.symm; subst ezs55; exact wl_out (by simp only [b_X7_judge_21, if_neg zc26, if_neg zc37, if_pos zc50])
          subst hz1
          exact kk58 rfl (by first | (intro h; exact absurd (show (58 : Nat) = 65 from h) (by decide)) | exact fun _ => ⟨hv, fun i hi => hr i (by have := lp_eq hkN (show (w0 0 32) ≤ nI k by rw [← hv]; exact zc26); omega)⟩) _ _ _ w (lv_sub hl [0, 1] rfl)
set_option maxRecDepth 100000 in
set_option maxHeartbeats 4000000 in
theorem lp_X7_judge_91 {l : Launch} {G : GG} {p : Program} {e : Env} {s : State} {m : MethodId} {args : Array Value} {below : List Frame} {meth : Method} {c : Code} {Q : State → Prop} {σ : St} (X : Cx p m c cX7_judge 5 s args RX7 G) (y1 : Int32) (v0 : Int32 × Int32 × Gr) (B : Nat) (hB : B < 2 ^ 30) (h28 : (v0.2.2 0 32).toNatClampNeg ≤ 28) (hrr : ∀ i, i < (v0.2.2 0 32).toNatClampNeg → v0.2.2 31 i = 9 ∨ vp_in (v0.2.2 31 i) 8)
    (kk : ∀ (H : Heap) (locs : List Loc) (ls : Array Slot), Wh G s σ 4 ((l_X7_judge_91 y1 v0).2.2) H locs → lv_has ls 5 [(0, .ref (aa G 4 0)), (1, .int y1), (2, .int ((l_X7_judge_91 y1 v0).1)), (3, .int ((l_X7_judge_91 y1 v0).2.1)), (4, .int (nI ((v0.2.2 0 32).toNatClampNeg)))] → W p l e (rmv 5 108) s m args below meth c H locs 0 0 Q (F0 m 185 ls [])) :
    ∀ (n k : Nat) (v : Int32 × Int32 × Gr), k ≤ (v0.2.2 0 32).toNatClampNeg → (v0.2.2 0 32).toNatClampNeg - k < n → v = itn (b_X7_judge_91 y1) k v0 → (WFm (B + k) v.2.2) → (Tt v0.2.2 v.2.2) → ∀ (H : Heap) (locs : List Loc) (ls : Array Slot), Wh G s σ 4 v.2.2 H locs → lv_has ls 5 [(0, .ref (aa G 4 0)), (1, .int y1), (2, .int v.1), (3, .int v.2.1), (4, .int (nI k))] → W p l e (rmv 5 108) s m args below meth c H locs 0 0 Q (F0 m 91 ls []) := by
  have hx := X.1.1
  have hb := X.1.2.1
  intro n
  induction n with
  | zero => intro k v _ h; omega
  | succ n ih =>
    intro k v hkN hn ev hm hT H locs ls w hl
    refine lv_iload hx hb dX7_judge_91 (lv_at hl 4 rfl) ?_
    refine lv_aload_n hx hb dX7_judge_93 rfl (lv_at hl 0 rfl) ?_
    refine gf7_261 X w dX7_judge_94 ?_
    refine lv_icmp_ge (tgt := 185) hx hb dX7_judge_97 (by decide) (fun zc97 => ?_) (fun zc97 => ?_)
    · -- 185
      have hkE : k = (v0.2.2 0 32).toNatClampNeg := lp_eq hkN (by rw [← hT.2 32 (by decide) (by unfold ex0; omega)]; exact zc97)
      have ev2 : l_X7_judge_91 y1 v0 = v := by unfold l_X7_judge_91; rw [← hkE]; exact ev.symm
      rw [ev2] at kk
      rw [hkE] at hl
      exact kk _ _ _ w (lv_sub hl [0, 1, 2, 3, 4] rfl)
    · -- 100
      have hk : k < (v0.2.2 0 32).toNatClampNeg := lp_lt hkN (by rw [← hT.2 32 (by decide) (by unfold ex0; omega)]; exact zc97)
      have q31 : v.2.2 31 (nI k).toNatClampNeg = 9 ∨ vp_in (v.2.2 31 (nI k).toNatClampNeg) 8 := by rw [hT.1 31 (by decide) (by decide) (by decide) (by decide), nI_clamp (by omega)]; exact hrr k hk
      refine lv_aload_n hx hb dX7_judge_100 rfl (lv_at hl 0 rfl) ?_
      refine k_v (rr_v (rest := []) X w mX7_flow kw994 (c_X7_flow (B + k) (by omega) hm) m4_0 rfl rfl ⟨Nat.le_of_ble_eq_true rfl, Nat.le_of_ble_eq_true rfl⟩ rfl hl.1 rfl (Nat.le_of_ble_eq_true rfl) dX7_judge_101 ⟨Nat.zero_le _, Nat.zero_le _⟩) w (fun H locs w => ?_)
      obtain ⟨zs101, ezs101⟩ : ∃ y : Gr, y = g_X7_flow v.2.2 := ⟨_, rfl⟩; rw [← ezs101] at w
      have q31 : zs101 31 (nI k).toNatClampNeg = 9 ∨ vp_in (zs101 31 (nI k).toNatClampNeg) 8 := by rw [ezs101, (flow_Fm _).c 31 (by decide)]; exact q31
      have hm : WFm (B + k) zs101 := by rw [ezs101]; exact hm.fr (flow_Fm _)
      have hT : Tt v0.2.2 zs101 := by rw [ezs101]; exact hT.trans (flow_Fm _).tt
      refine lv_aload_n hx hb dX7_judge_104 rfl (lv_at hl 0 rfl) ?_
      refine lv_aload_n hx hb dX7_judge_105 rfl (lv_at hl 0 rfl) ?_
      refine gf7_75 X w dX7_judge_106 ?_
      refine lv_iload hx hb dX7_judge_109 (lv_at hl 4 rfl) ?_
      refine ia (f := 31) (n := 28) X w m4_31 rfl (vp_in_nI (by omega) (by decide)) dX7_judge_111 ?_
      refine lv_bipush (v := 9) hx hb dX7_judge_112 (by decide) ?_
      refine lv_icmp_ne (tgt := 122) hx hb dX7_judge_114 (by decide) (fun zc114 => ?_) (fun zc114 => ?_)
      · -- 122
        refine lv_aload_n hx hb dX7_judge_122 rfl (lv_at hl 0 rfl) ?_
        refine gf7_75 X w dX7_judge_123 ?_
        refine lv_iload hx hb dX7_judge_126 (lv_at hl 4 rfl) ?_
        refine ia (f := 31) (n := 28) X w m4_31 rfl (vp_in_nI (by omega) (by decide)) dX7_judge_128 ?_
        refine k_v (rr_v (rest := []) X w mX7_take kw999 (c_X7_take (zs101 31 (nI k).toNatClampNeg) (B + k) hm (by first | exact Or.inl (by decide) | exact Or.inr (q31.resolve_left zc114))) m4_0 rfl rfl ⟨Nat.le_of_ble_eq_true rfl, Nat.le_of_ble_eq_true rfl⟩ rfl hl.1 rfl (Nat.le_of_ble_eq_true rfl) dX7_judge_129 ⟨Nat.zero_le _, Nat.zero_le _⟩) w (fun H locs w => ?_)
        obtain ⟨zs129, ezs129⟩ : ∃ y : Gr, y = g_X7_take zs101 (zs101 31 (nI k).toNatClampNeg) := ⟨_, rfl⟩; rw [← ezs129] at w
        have hT : Tt v0.2.2 zs129 := by rw [ezs129]; exact hT.trans (take_Fm _ _).tt
        have hm : WFm (B + k) zs129 := by rw [ezs129]; exact hm.fr (take_Fm _ _)
        refine lv_aload_n hx hb dX7_judge_132 rfl (lv_at hl 0 rfl) ?_
        refine lv_dup hx hb dX7_judge_133 rfl ?_
        refine gf7_186 X w dX7_judge_134 ?_
        refine lv_iconst (v := 1) hx hb dX7_judge_137 (by decide) ?_
        refine lv_iadd hx hb dX7_judge_138 ?_
        refine pf7_186 X w dX7_judge_139 (fun zs139 H locs ezs139 w => ?_)
        have hm : WFm (B + k + 1) zs139 := by rw [ezs139]; exact hm.tick
        have hT : Tt v0.2.2 zs139 := by rw [ezs139]; exact hT.trans Tt.u21
        change W _ _ _ _ _ _ _ _ _ _ _ _ _ _ _ (F0 m 142 ls _)
        refine lv_iload_n hx hb dX7_judge_142 rfl (lv_at hl 3 rfl) ?_
        refine lv_aload_n hx hb dX7_judge_143 rfl (lv_at hl 0 rfl) ?_
        refine k_i (rr_v (rest := [.int v.2.1]) X w mX7_costNow kw1016 (c_X7_costNow hm.n) m4_0 rfl rfl ⟨Nat.le_of_ble_eq_true rfl, Nat.le_of_ble_eq_true rfl⟩ rfl hl.1 rfl (Nat.le_of_ble_eq_true rfl) dX7_judge_144 ⟨Nat.zero_le _, Nat.zero_le _⟩) w (fun H locs w => ?_)
        refine lv_iadd hx hb dX7_judge_147 ?_
        refine lv_topi (fun zv148 ezv148 => ?_)
        refine lv_istore_n (lv' := [(3, .int zv148), (0, .ref (aa G 4 0)), (1, .int y1), (2, .int v.1), (4, .int (nI k))]) hx hb dX7_judge_148 rfl hl (by decide) rfl (fun ls hl => ?_)
        refine lv_iload_n hx hb dX7_judge_149 rfl (lv_at hl 3 rfl) ?_
        refine lv_if_ge (tgt := 177) hx hb dX7_judge_150 (by decide) (fun zc150 => ?_) (fun zc150 => ?_)
        · -- 177
          refine lv_iload_n hx hb dX7_judge_177 rfl (lv_at hl 3 rfl) ?_
          refine lv_istore_n (lv' := [(2, .int v.1), (3, .int zv148), (0, .ref (aa G 4 0)), (1, .int y1), (4, .int (nI k))]) hx hb dX7_judge_178 rfl hl (by decide) rfl (fun ls hl => ?_)
          refine lv_iinc (v := nI (k + 1)) (lv' := [(4, .int (nI (k + 1))), (2, .int v.1), (3, .int zv148), (0, .ref (aa G 4 0)), (1, .int y1)]) hx hb dX7_judge_179 hl (k := 4) rfl (nI_1 _) (by decide) rfl (fun ls hl => ?_)
          refine lv_goto (tgt := 91) hx hb dX7_judge_182 (by decide) ?_
          exact ih (k + 1) (v.1, zv148, zs139) (by omega) (by omega) (by replace ezv148 := ezv148.symm; subst ezv148; replace ezs139 := ezs139.symm; subst ezs139; replace ezs129 := ezs129.symm; subst ezs129; replace ezs101 := ezs101.symm; subst ezs101; simp only [itn, ← ev, b_X7_judge_91, if_neg zc114, if_pos zc150]) hm hT _ _ _ w (lv_sub hl [3, 4, 1, 2, 0] rfl)
        · -- 153
          refine lv_aload_n hx hb dX7_judge_153 rfl (lv_at hl 1 rfl) ?_
          refine gf7_75 X w dX7_judge_154 ?_
          refine lv_iload hx hb dX7_judge_157 (lv_at hl 4 rfl) ?_
          refine ia (f := 31) (n := 28) X w m4_31 rfl (vp_in_nI (by omega) (by decide)) dX7_judge_159 ?_
          refine lv_bipush (v := 9) hx hb dX7_judge_160 (by decide) ?_
          refine lv_icmp_eq (tgt := 177) hx hb dX7_judge_162 (by decide) (fun zc162 => ?_) (fun zc162 => ?_)
          · -- 177
            refine lv_iload_n hx hb dX7_judge_177 rfl (lv_at hl 3 rfl) ?_
            refine lv_istore_n (lv' := [(2, .int v.1), (3, .int zv148), (0, .ref (aa G 4 0)), (1, .int y1), (4, .int (nI k))]) hx hb dX7_judge_178 rfl hl (by decide) rfl (fun ls hl => ?_)
            refine lv_iinc (v := nI (k + 1)) (lv' := [(4, .int (nI (k + 1))), (2, .int v.1), (3, .int zv148), (0, .ref (aa G 4 0)), (1, .int y1)]) hx hb dX7_judge_179 hl (k := 4) rfl (nI_1 _) (by decide) rfl (fun ls hl => ?_)
            refine lv_goto (tgt := 91) hx hb dX7_judge_182 (by decide) ?_
            exact ih (k + 1) (v.1, zv148, zs139) (by omega) (by omega) (by replace ezv148 := ezv148.symm; subst ezv148; replace ezs139 := ezs139.symm; subst ezs139; replace ezs129 := ezs129.symm; subst ezs129; replace ezs101 := ezs101.symm; subst ezs101; simp only [itn, ← ev, b_X7_judge_91, if_neg zc114, if_neg zc150, if_pos zc162]) hm hT _ _ _ w (lv_sub hl [3, 4, 1, 2, 0] rfl)
          · -- 165
            refine lv_aload_n hx hb dX7_judge_165 rfl (lv_at hl 1 rfl) ?_
            refine gf7_197 X w dX7_judge_166 ?_
            refine lv_if_ne (tgt := 177) hx hb dX7_judge_169 (by decide) (fun zc169 => ?_) (fun zc169 => ?_)
            · -- 177
              refine lv_iload_n hx hb dX7_judge_177 rfl (lv_at hl 3 rfl) ?_
              refine lv_istore_n (lv' := [(2, .int v.1), (3, .int zv148), (0, .ref (aa G 4 0)), (1, .int y1), (4, .int (nI k))]) hx hb dX7_judge_178 rfl hl (by decide) rfl (fun ls hl => ?_)
              refine lv_iinc (v := nI (k + 1)) (lv' := [(4, .int (nI (k + 1))), (2, .int v.1), (3, .int zv148), (0, .ref (aa G 4 0)), (1, .int y1)]) hx hb dX7_judge_179 hl (k := 4) rfl (nI_1 _) (by decide) rfl (fun ls hl => ?_)
              refine lv_goto (tgt := 91) hx hb dX7_judge_182 (by decide) ?_
              exact ih (k + 1) (v.1, zv148, zs139) (by omega) (by omega) (by replace ezv148 := ezv148.symm; subst ezv148; replace ezs139 := ezs139.symm; subst ezs139; replace ezs129 := ezs129.symm; subst ezs129; replace ezs101 := ezs101.symm; subst ezs101; simp only [itn, ← ev, b_X7_judge_91, if_neg zc114, if_neg zc150, if_neg zc162, if_neg zc169]) hm hT _ _ _ w (lv_sub hl [3, 4, 1, 2, 0] rfl)
            · -- 172
              refine lv_iload hx hb dX7_judge_172 (lv_at hl 4 rfl) ?_
              refine lv_goto (tgt := 178) hx hb dX7_judge_174 (by decide) ?_
              refine lv_topi (fun zv178 ezv178 => ?_)
              refine lv_istore_n (lv' := [(2, .int zv178), (3, .int zv148), (0, .ref (aa G 4 0)), (1, .int y1), (4, .int (nI k))]) hx hb dX7_judge_178 rfl hl (by decide) rfl (fun ls hl => ?_)
              refine lv_iinc (v := nI (k + 1)) (lv' := [(4, .int (nI (k + 1))), (2, .int zv178), (3, .int zv148), (0, .ref (aa G 4 0)), (1, .int y1)]) hx hb dX7_judge_179 hl (k := 4) rfl (nI_1 _) (by decide) rfl (fun ls hl => ?_)
              refine lv_goto (tgt := 91) hx hb dX7_judge_182 (by decide) ?_
              exact ih (k + 1) (zv178, zv148, zs139) (by omega) (by omega) (by replace ezv178 := ezv178.symm; subst ezv178; replace ezv148 := ezv148.symm; subst ezv148; replace ezs139 := ezs139.symm; subst ezs139; replace ezs129 := ezs129.symm; subst ezs129; replace ezs101 := ezs101.symm; subst ezs101; simp only [itn, ← ev, b_X7_judge_91, if_neg zc114, if_neg zc150, if_neg zc162, if_pos zc169]) hm hT _ _ _ w (lv_sub hl [3, 4, 1, 2, 0] rfl)
      · -- 117
        refine lv_bipush (v := (-9)) hx hb dX7_judge_117 (by decide) ?_
        refine lv_goto (tgt := 129) hx hb dX7_judge_119 (by decide) ?_
        refine k_v (rr_v (rest := []) X w mX7_take kw999 (c_X7_take (-9) (B + k) hm (by first | exact Or.inl (by decide) | exact Or.inr (q31.resolve_left zc114))) m4_0 rfl rfl ⟨Nat.le_of_ble_eq_true rfl, Nat.le_of_ble_eq_true rfl⟩ rfl hl.1 rfl (Nat.le_of_ble_eq_true rfl) dX7_judge_129 ⟨Nat.zero_le _, Nat.zero_le _⟩) w (fun H locs w => ?_)
        obtain ⟨zs129_2, ezs129_2⟩ : ∃ y : Gr, y = g_X7_take zs101 (-9) := ⟨_, rfl⟩; rw [← ezs129_2] at w
        have hT : Tt v0.2.2 zs129_2 := by rw [ezs129_2]; exact hT.trans (take_Fm _ _).tt
        have hm : WFm (B + k) zs129_2 := by rw [ezs129_2]; exact hm.fr (take_Fm _ _)
        refine lv_aload_n hx hb dX7_judge_132 rfl (lv_at hl 0 rfl) ?_
        refine lv_dup hx hb dX7_judge_133 rfl ?_
        refine gf7_186 X w dX7_judge_134 ?_
        refine lv_iconst (v := 1) hx hb dX7_judge_137 (by decide) ?_
        refine lv_iadd hx hb dX7_judge_138 ?_
        refine pf7_186 X w dX7_judge_139 (fun zs139_2 H locs ezs139_2 w => ?_)
        have hm : WFm (B + k + 1) zs139_2 := by rw [ezs139_2]; exact hm.tick
        have hT : Tt v0.2.2 zs139_2 := by rw [ezs139_2]; exact hT.trans Tt.u21
        refine lv_iload_n hx hb dX7_judge_142 rfl (lv_at hl 3 rfl) ?_
        refine lv_aload_n hx hb dX7_judge_143 rfl (lv_at hl 0 rfl) ?_
        change W _ _ _ _ _ _ _ _ _ _ _ _ _ _ _ (F0 m 144 ls _)
        refine k_i (rr_v (rest := [.int v.2.1]) X w mX7_costNow kw1016 (c_X7_costNow hm.n) m4_0 rfl rfl ⟨Nat.le_of_ble_eq_true rfl, Nat.le_of_ble_eq_true rfl⟩ rfl hl.1 rfl (Nat.le_of_ble_eq_true rfl) dX7_judge_144 ⟨Nat.zero_le _, Nat.zero_le _⟩) w (fun H locs w => ?_)
        refine lv_iadd hx hb dX7_judge_147 ?_
        refine lv_topi (fun zv148_2 ezv148_2 => ?_)
        refine lv_istore_n (lv' := [(3, .int zv148_2), (0, .ref (aa G 4 0)), (1, .int y1), (2, .int v.1), (4, .int (nI k))]) hx hb dX7_judge_148 rfl hl (by decide) rfl (fun ls hl => ?_)
        refine lv_iload_n hx hb dX7_judge_149 rfl (lv_at hl 3 rfl) ?_
        refine lv_if_ge (tgt := 177) hx hb dX7_judge_150 (by decide) (fun zc150 => ?_) (fun zc150 => ?_)
        · -- 177
          refine lv_iload_n hx hb dX7_judge_177 rfl (lv_at hl 3 rfl) ?_
          refine lv_istore_n (lv' := [(2, .int v.1), (3, .int zv148_2), (0, .ref (aa G 4 0)), (1, .int y1), (4, .int (nI k))]) hx hb dX7_judge_178 rfl hl (by decide) rfl (fun ls hl => ?_)
          refine lv_iinc (v := nI (k + 1)) (lv' := [(4, .int (nI (k + 1))), (2, .int v.1), (3, .int zv148_2), (0, .ref (aa G 4 0)), (1, .int y1)]) hx hb dX7_judge_179 hl (k := 4) rfl (nI_1 _) (by decide) rfl (fun ls hl => ?_)
          refine lv_goto (tgt := 91) hx hb dX7_judge_182 (by decide) ?_
          exact ih (k + 1) (v.1, zv148_2, zs139_2) (by omega) (by omega) (by replace ezv148_2 := ezv148_2.symm; subst ezv148_2; replace ezs139_2 := ezs139_2.symm; subst ezs139_2; replace ezs129_2 := ezs129_2.symm; subst ezs129_2; replace ezs101 := ezs101.symm; subst ezs101; simp only [itn, ← ev, b_X7_judge_91, if_pos zc114, if_pos zc150]) hm hT _ _ _ w (lv_sub hl [3, 4, 1, 2, 0] rfl)
        · -- 153
          refine lv_aload_n hx hb dX7_judge_153 rfl (lv_at hl 1 rfl) ?_
          refine gf7_75 X w dX7_judge_154 ?_
          refine lv_iload hx hb dX7_judge_157 (lv_at hl 4 rfl) ?_
          refine ia (f := 31) (n := 28) X w m4_31 rfl (vp_in_nI (by omega) (by decide)) dX7_judge_159 ?_
          refine lv_bipush (v := 9) hx hb dX7_judge_160 (by decide) ?_
          refine lv_icmp_eq (tgt := 177) hx hb dX7_judge_162 (by decide) (fun zc162 => ?_) (fun zc162 => ?_)
          · -- 177
            refine lv_iload_n hx hb dX7_judge_177 rfl (lv_at hl 3 rfl) ?_
            refine lv_istore_n (lv' := [(2, .int v.1), (3, .int zv148_2), (0, .ref (aa G 4 0)), (1, .int y1), (4, .int (nI k))]) hx hb dX7_judge_178 rfl hl (by decide) rfl (fun ls hl => ?_)
            refine lv_iinc (v := nI (k + 1)) (lv' := [(4, .int (nI (k + 1))), (2, .int v.1), (3, .int zv148_2), (0, .ref (aa G 4 0)), (1, .int y1)]) hx hb dX7_judge_179 hl (k := 4) rfl (nI_1 _) (by decide) rfl (fun ls hl => ?_)
            refine lv_goto (tgt := 91) hx hb dX7_judge_182 (by decide) ?_
            exact ih (k + 1) (v.1, zv148_2, zs139_2) (by omega) (by omega) (by replace ezv148_2 := ezv148_2.symm; subst ezv148_2; replace ezs139_2 := ezs139_2.symm; subst ezs139_2; replace ezs129_2 := ezs129_2.symm; subst ezs129_2; replace ezs101 := ezs101.symm; subst ezs101; simp only [itn, ← ev, b_X7_judge_91, if_pos zc114, if_neg zc150, if_pos zc162]) hm hT _ _ _ w (lv_sub hl [3, 4, 1, 2, 0] rfl)
          · -- 165
            refine lv_aload_n hx hb dX7_judge_165 rfl (lv_at hl 1 rfl) ?_
            refine gf7_197 X w dX7_judge_166 ?_
            refine lv_if_ne (tgt := 177) hx hb dX7_judge_169 (by decide) (fun zc169 => ?_) (fun zc169 => ?_)
            · -- 177
              refine lv_iload_n hx hb dX7_judge_177 rfl (lv_at hl 3 rfl) ?_
              refine lv_istore_n (lv' := [(2, .int v.1), (3, .int zv148_2), (0, .ref (aa G 4 0)), (1, .int y1), (4, .int (nI k))]) hx hb dX7_judge_178 rfl hl (by decide) rfl (fun ls hl => ?_)
              refine lv_iinc (v := nI (k + 1)) (lv' := [(4, .int (nI (k + 1))), (2, .int v.1), (3, .int zv148_2), (0, .ref (aa G 4 0)), (1, .int y1)]) hx hb dX7_judge_179 hl (k := 4) rfl (nI_1 _) (by decide) rfl (fun ls hl => ?_)
              refine lv_goto (tgt := 91) hx hb dX7_judge_182 (by decide) ?_
              exact ih (k + 1) (v.1, zv148_2, zs139_2) (by omega) (by omega) (by replace ezv148_2 := ezv148_2.symm; subst ezv148_2; replace ezs139_2 := ezs139_2.symm; subst ezs139_2; replace ezs129_2 := ezs129_2.symm; subst ezs129_2; replace ezs101 := ezs101.symm; subst ezs101; simp only [itn, ← ev, b_X7_judge_91, if_pos zc114, if_neg zc150, if_neg zc162, if_neg zc169]) hm hT _ _ _ w (lv_sub hl [3, 4, 1, 2, 0] rfl)
            · -- 172
              refine lv_iload hx hb dX7_judge_172 (lv_at hl 4 rfl) ?_
              refine lv_goto (tgt := 178) hx hb dX7_judge_174 (by decide) ?_
              refine lv_topi (fun zv178_2 ezv178_2 => ?_)
              refine lv_istore_n (lv' := [(2, .int zv178_2), (3, .int zv148_2), (0, .ref (aa G 4 0)), (1, .int y1), (4, .int (nI k))]) hx hb dX7_judge_178 rfl hl (by decide) rfl (fun ls hl => ?_)
              refine lv_iinc (v := nI (k + 1)) (lv' := [(4, .int (nI (k + 1))), (2, .int zv178_2), (3, .int zv148_2), (0, .ref (aa G 4 0)), (1, .int y1)]) hx hb dX7_judge_179 hl (k := 4) rfl (nI_1 _) (by decide) rfl (fun ls hl => ?_)
              refine lv_goto (tgt := 91) hx hb dX7_judge_182 (by decide) ?_
              exact ih (k + 1) (zv178_2, zv148_2, zs139_2) (by omega) (by omega) (by replace ezv178_2 := ezv178_2.symm; subst ezv178_2; replace ezv148_2 := ezv148_2.symm; subst ezv148_2; replace ezs139_2 := ezs139_2.symm; subst ezs139_2; replace ezs129_2 := ezs129_2.symm; subst ezs129_2; replace ezs101 := ezs101.symm; subst ezs101; simp only [itn, ← ev, b_X7_judge_91, if_pos zc114, if_neg zc150, if_neg zc162, if_pos zc169]) hm hT _ _ _ w (lv_sub hl [3, 4, 1, 2, 0] rfl)
set_option maxRecDepth 100000 in
set_option maxHeartbeats 4000000 in
theorem c_X7_judge {l : Launch} {G : GG} {σ : St} {ρ : Gr}  (x1 : Int32) (B : Nat) (hB : B < 2 ^ 30) (hm : WFm B ρ) : MM l G yX7_judge cX7_judge 5 5 108 (some .int) [.ref (aa G 4 0), .int x1] (setG σ 4 ρ) (Qi G (f_X7_judge ρ x1) (setG σ 4 (g_X7_judge ρ x1))) := by
  refine MM.of (by decide) (Nat.le_of_ble_eq_true rfl) ?_
  intro p e s m below meth c ls X hr hlk w hl
  have hx := X.1.1
  have hb := X.1.2.1
  have hl : lv_has ls 5 [(0, .ref (aa G 4 0)), (1, .int x1)] := hl
  refine lv_iload_n hx hb dX7_judge_0 rfl (lv_at hl 1 rfl) ?_
  refine lv_i2l hx hb dX7_judge_1 rfl ?_
  refine lv_lconst (v := 0) hx hb dX7_judge_2 (by decide) ?_
  refine lv_ldc2 hx hb X.1.2.2.2.1 (X.1.2.2.2.2 _ kw1080) dX7_judge_3 ?_
  refine k_i (rr_s (rest := []) X w mX7_in kw888 (c_X7_in x1.toInt64 0 2) ⟨Nat.le_of_ble_eq_true rfl, Nat.le_of_ble_eq_true rfl⟩ rfl hl.1 rfl (Nat.le_of_ble_eq_true rfl) dX7_judge_6 ⟨Nat.zero_le _, Nat.zero_le _⟩) w (fun H locs w => ?_)
  refine lv_if_ne (tgt := 19) hx hb dX7_judge_9 (by decide) (fun zc9 => ?_) (fun zc9 => ?_)
  · -- 19
    refine lv_iconst (v := 0) hx hb dX7_judge_19 (by decide) ?_
    refine lv_istore_n (lv' := [(2, .int 0), (0, .ref (aa G 4 0)), (1, .int x1)]) hx hb dX7_judge_20 rfl hl (by decide) rfl (fun ls hl => ?_)
    obtain ⟨zl21, ezl21⟩ : ∃ y : Nat × Int32 × Gr, y = (l_X7_judge_21 x1 ρ) := ⟨_, rfl⟩
    refine lp_X7_judge_21 X x1 ρ (hm.2.2.2.2.2.2.2.2.2.2.c (by decide)) zl21 (fun hz65 hxx H locs ls w hl => ?_) (fun hz58 hxx H locs ls w hl => ?_) (nn ((ρ 0 32).toNatClampNeg + 1)) 0 ρ (Nat.zero_le _) (by rw [nn_eq]; exact Nat.lt_succ_of_le (Nat.sub_le _ _)) ezl21.symm rfl (fun i h => absurd h (Nat.not_lt_zero i)) _ _ _ w (lv_sub hl [1, 2, 0] rfl)
    · -- leaves at 65
      obtain ⟨hvv, hrr⟩ := hxx hz65
      have hm : WFm B zl21.2.2 := by rw [hvv]; exact hm
      have hrr : ∀ i, i < (zl21.2.2 0 32).toNatClampNeg → zl21.2.2 31 i = 9 ∨ vp_in (zl21.2.2 31 i) 8 := by rw [hvv] at hm ⊢; exact fun i hi => (hrr i hi).imp id hm.cell
      refine lv_aload_n hx hb dX7_judge_65 rfl (lv_at hl 0 rfl) ?_
      refine gf7_111 X w dX7_judge_66 ?_
      refine lv_if_ne (tgt := 79) hx hb dX7_judge_69 (by decide) (fun zc69 => ?_) (fun zc69 => ?_)
      · -- 79
        refine lv_aload_n hx hb dX7_judge_79 rfl (lv_at hl 0 rfl) ?_
        refine k_v (rr_v (rest := []) X w mX7_save kw1012 (c_X7_save ) m4_0 rfl rfl ⟨Nat.le_of_ble_eq_true rfl, Nat.le_of_ble_eq_true rfl⟩ rfl hl.1 rfl (Nat.le_of_ble_eq_true rfl) dX7_judge_80 ⟨Nat.zero_le _, Nat.zero_le _⟩) w (fun H locs w => ?_)
        obtain ⟨zs80, ezs80⟩ : ∃ y : Gr, y = g_X7_save zl21.2.2 := ⟨_, rfl⟩; rw [← ezs80] at w
        have hm : WFm B zs80 := by rw [ezs80]; exact save_WF hm
        refine lv_bipush (v := (-9)) hx hb dX7_judge_83 (by decide) ?_
        refine lv_istore_n (lv' := [(2, .int (-9)), (0, .ref (aa G 4 0)), (1, .int x1)]) hx hb dX7_judge_85 rfl hl (by decide) rfl (fun ls hl => ?_)
        refine lv_iconst (v := 0) hx hb dX7_judge_86 (by decide) ?_
        refine lv_istore_n (lv' := [(3, .int 0), (2, .int (-9)), (0, .ref (aa G 4 0)), (1, .int x1)]) hx hb dX7_judge_87 rfl hl (by decide) rfl (fun ls hl => ?_)
        refine lv_iconst (v := 0) hx hb dX7_judge_88 (by decide) ?_
        refine lv_istore (lv' := [(4, .int 0), (3, .int 0), (2, .int (-9)), (0, .ref (aa G 4 0)), (1, .int x1)]) hx hb dX7_judge_89 hl (by decide) rfl (fun ls hl => ?_)
        refine lp_X7_judge_91 X x1 ((-9), 0, zs80) B hB (hm.2.2.2.2.2.2.2.2.2.2.c (by decide)) (by rw [ezs80]; show ∀ i, i < (g_X7_save zl21.2.2 0 32).toNatClampNeg → g_X7_save zl21.2.2 31 i = 9 ∨ vp_in (g_X7_save zl21.2.2 31 i) 8; rw [save_s _ 32 (by decide), save_c _ 31 (by decide)]; exact hrr) (fun H locs ls w hl => ?_) ((zs80 0 32).toNatClampNeg + 1) 0 _ (Nat.zero_le _) (Nat.lt_succ_of_le (Nat.sub_le _ _)) rfl hm Tt.rf _ _ _ w (lv_sub hl [3, 4, 2, 1, 0] rfl)
        obtain ⟨zl91, ezl91⟩ : ∃ y : Int32 × Int32 × Gr, y = (l_X7_judge_91 x1 ((-9), 0, zs80)) := ⟨_, rfl⟩
        rw [← ezl91] at w hl
        have hn9 : (zl91.2.2 0 0).toNatClampNeg ≤ 8 := by rw [ezl91, (jl_Tt _ _).2 0 (by decide) (by unfold ex0; omega)]; exact hm.n
        refine lv_aload_n hx hb dX7_judge_185 rfl (lv_at hl 0 rfl) ?_
        refine lv_iconst (v := 0) hx hb dX7_judge_186 (by decide) ?_
        refine k_i (rr_v (rest := []) X w mX7_feetLacking kw1020 (c_X7_feetLacking 0 hn9) m4_0 rfl rfl ⟨Nat.le_of_ble_eq_true rfl, Nat.le_of_ble_eq_true rfl⟩ rfl hl.1 rfl (Nat.le_of_ble_eq_true rfl) dX7_judge_187 ⟨Nat.zero_le _, Nat.zero_le _⟩) w (fun H locs w => ?_)
        refine lv_topi (fun zv190 ezv190 => ?_)
        refine lv_istore (lv' := [(4, .int zv190), (0, .ref (aa G 4 0)), (1, .int x1), (2, .int zl91.1), (3, .int zl91.2.1)]) hx hb dX7_judge_190 hl (by decide) rfl (fun ls hl => ?_)
        refine lv_aload_n hx hb dX7_judge_192 rfl (lv_at hl 1 rfl) ?_
        refine lv_iconst (v := 0) hx hb dX7_judge_193 (by decide) ?_
        refine pf7_261 X w dX7_judge_194 (fun zs194 H locs ezs194 w => ?_)
        refine lv_aload_n hx hb dX7_judge_197 rfl (lv_at hl 1 rfl) ?_
        refine k_v (rr_v (rest := []) X w mX7_putBack kw1024 (c_X7_putBack ) m4_0 rfl rfl ⟨Nat.le_of_ble_eq_true rfl, Nat.le_of_ble_eq_true rfl⟩ rfl hl.1 rfl (Nat.le_of_ble_eq_true rfl) dX7_judge_198 ⟨Nat.zero_le _, Nat.zero_le _⟩) w (fun H locs w => ?_)
        obtain ⟨zs198, ezs198⟩ : ∃ y : Gr, y = g_X7_putBack zs194 := ⟨_, rfl⟩; rw [← ezs198] at w
        refine lv_iload_n hx hb dX7_judge_201 rfl (lv_at hl 2 rfl) ?_
        refine lv_if_ne (tgt := 209) hx hb dX7_judge_202 (by decide) (fun zc202 => ?_) (fun zc202 => ?_)
        · -- 209
          refine lv_iload_n hx hb dX7_judge_209 rfl (lv_at hl 2 rfl) ?_
          refine lv_iconst (v := 1) hx hb dX7_judge_210 (by decide) ?_
          refine lv_icmp_ne (tgt := 218) hx hb dX7_judge_211 (by decide) (fun zc211 => ?_) (fun zc211 => ?_)
          · -- 218
            refine lv_iload hx hb dX7_judge_218 (lv_at hl 0 rfl) ?_
            exact t_i X w hr hlk dX7_judge_220 (by replace ezs198 := ezs198.symm; subst ezs198; replace ezs194 := ezs194.symm; subst ezs194; replace ezv190 := ezv190.symm; subst ezv190; replace ezl91 := ezl91.symm; subst ezl91; replace ezs80 := ezs80.symm; subst ezs80; replace ezl21 := ezl21.symm; subst ezl21; simp only [f_X7_judge, if_neg zc9, if_pos hz65, if_neg zc69, if_neg zc202, if_neg zc211]) (by replace ezs198 := ezs198.symm; subst ezs198; replace ezs194 := ezs194.symm; subst ezs194; replace ezv190 := ezv190.symm; subst ezv190; replace ezl91 := ezl91.symm; subst ezl91; replace ezs80 := ezs80.symm; subst ezs80; replace ezl21 := ezl21.symm; subst ezl21; simp only [g_X7_judge, if_neg zc9, if_pos hz65, if_neg zc69, if_neg zc202, if_neg zc211])
          · -- 214
            refine lv_iload_n hx hb dX7_judge_214 rfl (lv_at hl 4 rfl) ?_
            refine lv_goto (tgt := 220) hx hb dX7_judge_215 (by decide) ?_
            exact t_i X w hr hlk dX7_judge_220 (by replace ezs198 := ezs198.symm; subst ezs198; replace ezs194 := ezs194.symm; subst ezs194; replace ezv190 := ezv190.symm; subst ezv190; replace ezl91 := ezl91.symm; subst ezl91; replace ezs80 := ezs80.symm; subst ezs80; replace ezl21 := ezl21.symm; subst ezl21; simp only [f_X7_judge, if_neg zc9, if_pos hz65, if_neg zc69, if_neg zc202, if_pos zc211]) (by replace ezs198 := ezs198.symm; subst ezs198; replace ezs194 := ezs194.symm; subst ezs194; replace ezv190 := ezv190.symm; subst ezv190; replace ezl91 := ezl91.symm; subst ezl91; replace ezs80 := ezs80.symm; subst ezs80; replace ezl21 := ezl21.symm; subst ezl21; simp only [g_X7_judge, if_neg zc9, if_pos hz65, if_neg zc69, if_neg zc202, if_pos zc211])
        · -- 205
          refine lv_iload_n hx hb dX7_judge_205 rfl (lv_at hl 3 rfl) ?_
          refine lv_goto (tgt := 220) hx hb dX7_judge_206 (by decide) ?_
          exact t_i X w hr hlk dX7_judge_220 (by replace ezs198 := ezs198.symm; subst ezs198; replace ezs194 := ezs194.symm; subst ezs194; replace ezv190 := ezv190.symm; subst ezv190; replace ezl91 := ezl91.symm; subst ezl91; replace ezs80 := ezs80.symm; subst ezs80; replace ezl21 := ezl21.symm; subst ezl21; simp only [f_X7_judge, if_neg zc9, if_pos hz65, if_neg zc69, if_pos zc202]) (by replace ezs198 := ezs198.symm; subst ezs198; replace ezs194 := ezs194.symm; subst ezs194; replace ezv190 := ezv190.symm; subst ezv190; replace ezl91 := ezl91.symm; subst ezl91; replace ezs80 := ezs80.symm; subst ezs80; replace ezl21 := ezl21.symm; subst ezl21; simp only [g_X7_judge, if_neg zc9, if_pos hz65, if_neg zc69, if_pos zc202])
      · -- 72
        refine lv_aload_n hx hb dX7_judge_72 rfl (lv_at hl 0 rfl) ?_
        refine lv_bipush (v := (-3)) hx hb dX7_judge_73 (by decide) ?_
        refine k_i (rr_v (rest := []) X w mX7_refuse kw872 (c_X7_refuse (-3) (vin_lit (by decide +kernel))) m4_0 rfl rfl ⟨Nat.le_of_ble_eq_true rfl, Nat.le_of_ble_eq_true rfl⟩ rfl hl.1 rfl (Nat.le_of_ble_eq_true rfl) dX7_judge_75 ⟨Nat.zero_le _, Nat.zero_le _⟩) w (fun H locs w => ?_)
        obtain ⟨zs75, ezs75⟩ : ∃ y : Gr, y = g_X7_refuse zl21.2.2 (-3) := ⟨_, rfl⟩; rw [← ezs75] at w
        exact t_i X w hr hlk dX7_judge_78 (by replace ezs75 := ezs75.symm; subst ezs75; replace ezl21 := ezl21.symm; subst ezl21; simp only [f_X7_judge, if_neg zc9, if_pos hz65, if_pos zc69]) (by replace ezs75 := ezs75.symm; subst ezs75; replace ezl21 := ezl21.symm; subst ezl21; simp only [g_X7_judge, if_neg zc9, if_pos hz65, if_pos zc69])
    · -- leaves at 58
      have hn65 : ¬ zl21.1 = 65 := by rw [hz58]; decide
      exact t_i X w hr hlk dX7_judge_58 (by replace ezl21 := ezl21.symm; subst ezl21; simp only [f_X7_judge, if_neg zc9, if_neg hn65]) (by replace ezl21 := ezl21.symm; subst ezl21; simp only [g_X7_judge, if_neg zc9, if_neg hn65])
  · -- 12
    refine lv_aload_n hx hb dX7_judge_12 rfl (lv_at hl 0 rfl) ?_
    refine lv_bipush (v := (-2)) hx hb dX7_judge_13 (by decide) ?_
    refine k_i (rr_v (rest := []) X w mX7_refuse kw872 (c_X7_refuse (-2) (vin_lit (by decide +kernel))) m4_0 rfl rfl ⟨Nat.le_of_ble_eq_true rfl, Nat.le_of_ble_eq_true rfl⟩ rfl hl.1 rfl (Nat.le_of_ble_eq_true rfl) dX7_judge_15 ⟨Nat.zero_le _, Nat.zero_le _⟩) w (fun H locs w => ?_)
    obtain ⟨zs15, ezs15⟩ : ∃ y : Gr, y = g_X7_refuse ρ (-2) := ⟨_, rfl⟩; rw [← ezs15] at w
    exact t_i X w hr hlk dX7_judge_18 (by replace ezs15 := ezs15.symm; subst ezs15; simp only [f_X7_judge, if_pos zc9]) (by replace ezs15 := ezs15.symm; subst ezs15; simp only [g_X7_judge, if_pos zc9])
