noncomputable def b_X7_bestPlan_31 (y1 : Int32) (y2 : Int32) (k : Nat) (v : Int32 × Int64 × Gr) : Int32 × Int64 × Gr :=
  let zs40 : Gr := up v.2.2 0 26 (nI k)
  let zs45 : Gr := g_X7_costOf zs40 y1
  let zv48 : Int64 := f_X7_costOf zs40 y1
  if v.1 < 0 then
    let zv64 : Int32 := nI k
    (zv64, zv48, zs45)
  else
    if 0 ≤ (lg_cmp zv48 v.2.1) then
      (v.1, v.2.1, zs45)
    else
      let zv64_2 : Int32 := nI k
      (zv64_2, zv48, zs45)
noncomputable def l_X7_bestPlan_31 (y1 : Int32) (y2 : Int32) (v0 : Int32 × Int64 × Gr) : Int32 × Int64 × Gr := itn (b_X7_bestPlan_31 y1 y2) (nn 5) v0
noncomputable def f_X7_bestPlan (ρ : Gr) (x1 : Int32) : Int32 :=
  if 0 ≤ (f_X7_wrongTides ρ x1) then
    let zv22 : Int32 := ρ 0 26
    let zl31 : Int32 × Int64 × Gr := (l_X7_bestPlan_31 x1 zv22 ((-1), 0, ρ))
    let zs77 : Gr := up zl31.2.2 0 26 zv22
    zl31.1
  else
    let zs14 : Gr := g_X7_refuse ρ (f_X7_wrongTides ρ x1)
    f_X7_refuse ρ (f_X7_wrongTides ρ x1)
noncomputable def g_X7_bestPlan (ρ : Gr) (x1 : Int32) : Gr :=
  if 0 ≤ (f_X7_wrongTides ρ x1) then
    let zv22 : Int32 := ρ 0 26
    let zl31 : Int32 × Int64 × Gr := (l_X7_bestPlan_31 x1 zv22 ((-1), 0, ρ))
    let zs77 : Gr := up zl31.2.2 0 26 zv22
    zs77
  else
    let zs14 : Gr := g_X7_refuse ρ (f_X7_wrongTides ρ x1)
    zs14
set_option maxRecDepth 100000 in
set_option maxHeartbeats 4000000 in
theorem lp_X7_bestPlan_31 {l : Launch} {G : GG} {p : Program} {e : Env} {s : State} {m : MethodId} {args : Array Value} {below : List Frame} {meth : Method} {c : Code} {Q : State → Prop} {σ : St} (X : Cx p m c cX7_bestPlan 9 s args RX7 G) (y1 : Int32) (y2 : Int32) (v0 : Int32 × Int64 × Gr) (B : Nat) (hB : B < 2 ^ 30) (hN : y1.toNatClampNeg ≤ 200)
    (kk : ∀ (H : Heap) (locs : List Loc) (ls : Array Slot), Wh G s σ 4 ((l_X7_bestPlan_31 y1 y2 v0).2.2) H locs → lv_has ls 9 [(0, .ref (aa G 4 0)), (1, .int y1), (2, .int y2), (3, .int ((l_X7_bestPlan_31 y1 y2 v0).1)), (4, .long ((l_X7_bestPlan_31 y1 y2 v0).2.1)), (6, .int (nI (5)))] → W p l e (rmv 7 153) s m args below meth c H locs 0 0 Q (F0 m 75 ls [])) :
    ∀ (n k : Nat) (v : Int32 × Int64 × Gr), k ≤ 5 → 5 - k < n → v = itn (b_X7_bestPlan_31 y1 y2) k v0 → (WFm B v.2.2) → ∀ (H : Heap) (locs : List Loc) (ls : Array Slot), Wh G s σ 4 v.2.2 H locs → lv_has ls 9 [(0, .ref (aa G 4 0)), (1, .int y1), (2, .int y2), (3, .int v.1), (4, .long v.2.1), (6, .int (nI k))] → W p l e (rmv 7 153) s m args below meth c H locs 0 0 Q (F0 m 31 ls []) := by
  have hx := X.1.1
  have hb := X.1.2.1
  intro n
  induction n with
  | zero => intro k v _ h; omega
  | succ n ih =>
    intro k v hkN hn ev hm H locs ls w hl
    refine lv_iload hx hb dX7_bestPlan_31 (lv_at hl 5 rfl) ?_
    refine lv_iconst (v := 5) hx hb dX7_bestPlan_33 (by decide) ?_
    refine lv_icmp_ge (tgt := 75) hx hb dX7_bestPlan_34 (by decide) (fun zc34 => ?_) (fun zc34 => ?_)
    · -- 75
      have hkE : k = 5 := lp_eqN hkN (by decide) zc34
      have ev2 : l_X7_bestPlan_31 y1 y2 v0 = v := by unfold l_X7_bestPlan_31; rw [nn_eq, ← hkE]; exact ev.symm
      rw [ev2] at kk
      rw [hkE] at hl
      exact kk _ _ _ w (lv_sub hl [0, 1, 2, 3, 4, 5] rfl)
    · -- 37
      have hk : k < 5 := lp_ltN hkN (by decide) zc34
      refine lv_aload_n hx hb dX7_bestPlan_37 rfl (lv_at hl 0 rfl) ?_
      refine lv_iload hx hb dX7_bestPlan_38 (lv_at hl 5 rfl) ?_
      refine pf7_173 X w dX7_bestPlan_40 (fun zs40 H locs ezs40 w => ?_)
      have hm : WFm B zs40 := by rw [ezs40]; exact hm
      refine lv_aload_n hx hb dX7_bestPlan_43 rfl (lv_at hl 0 rfl) ?_
      refine lv_iload_n hx hb dX7_bestPlan_44 rfl (lv_at hl 1 rfl) ?_
      refine k_l (rr_v (rest := []) X w mX7_costOf kw1008 (c_X7_costOf y1 B hB hm hN) m4_0 rfl rfl ⟨Nat.le_of_ble_eq_true rfl, Nat.le_of_ble_eq_true rfl⟩ rfl hl.1 rfl (Nat.le_of_ble_eq_true rfl) dX7_bestPlan_45 ⟨Nat.zero_le _, Nat.zero_le _⟩) w (fun H locs w => ?_)
      obtain ⟨zs45, ezs45⟩ : ∃ y : Gr, y = g_X7_costOf zs40 y1 := ⟨_, rfl⟩; rw [← ezs45] at w
      have hm : WFm B zs45 := by rw [ezs45]; exact (costOf_Sv _ _).wf hm
      refine lv_topl (fun zv48 ezv48 => ?_)
      refine lv_lstore (lv' := [(7, .long zv48), (0, .ref (aa G 4 0)), (1, .int y1), (2, .int y2), (3, .int v.1), (4, .long v.2.1), (6, .int (nI k))]) hx hb dX7_bestPlan_48 hl (by decide) rfl (fun ls hl => ?_)
      refine lv_iload_n hx hb dX7_bestPlan_50 rfl (lv_at hl 4 rfl) ?_
      refine lv_if_lt (tgt := 62) hx hb dX7_bestPlan_51 (by decide) (fun zc51 => ?_) (fun zc51 => ?_)
      · -- 62
        refine lv_iload hx hb dX7_bestPlan_62 (lv_at hl 6 rfl) ?_
        refine lv_topi (fun zv64 ezv64 => ?_)
        refine lv_istore_n (lv' := [(3, .int zv64), (7, .long zv48), (0, .ref (aa G 4 0)), (1, .int y1), (2, .int y2), (4, .long v.2.1), (6, .int (nI k))]) hx hb dX7_bestPlan_64 rfl hl (by decide) rfl (fun ls hl => ?_)
        refine lv_lload hx hb dX7_bestPlan_65 (lv_at hl 1 rfl) ?_
        refine lv_lstore (lv' := [(4, .long zv48), (3, .int zv64), (7, .long zv48), (0, .ref (aa G 4 0)), (1, .int y1), (2, .int y2), (6, .int (nI k))]) hx hb dX7_bestPlan_67 hl (by decide) rfl (fun ls hl => ?_)
        refine lv_iinc (v := nI (k + 1)) (lv' := [(6, .int (nI (k + 1))), (4, .long zv48), (3, .int zv64), (7, .long zv48), (0, .ref (aa G 4 0)), (1, .int y1), (2, .int y2)]) hx hb dX7_bestPlan_69 hl (k := 6) rfl (nI_1 _) (by decide) rfl (fun ls hl => ?_)
        refine lv_goto (tgt := 31) hx hb dX7_bestPlan_72 (by decide) ?_
        exact ih (k + 1) (zv64, zv48, zs45) (by omega) (by omega) (by replace ezv64 := ezv64.symm; subst ezv64; replace ezv48 := ezv48.symm; subst ezv48; replace ezs45 := ezs45.symm; subst ezs45; replace ezs40 := ezs40.symm; subst ezs40; simp only [itn, ← ev, b_X7_bestPlan_31, if_pos zc51]) hm _ _ _ w (lv_sub hl [4, 5, 6, 2, 1, 0] rfl)
      · -- 54
        refine lv_lload hx hb dX7_bestPlan_54 (lv_at hl 0 rfl) ?_
        refine lv_lload hx hb dX7_bestPlan_56 (lv_at hl 5 rfl) ?_
        refine W.lcmp hx hb dX7_bestPlan_58 ?_
        refine lv_if_ge (tgt := 69) hx hb dX7_bestPlan_59 (by decide) (fun zc59 => ?_) (fun zc59 => ?_)
        · -- 69
          refine lv_iinc (v := nI (k + 1)) (lv' := [(6, .int (nI (k + 1))), (7, .long zv48), (0, .ref (aa G 4 0)), (1, .int y1), (2, .int y2), (3, .int v.1), (4, .long v.2.1)]) hx hb dX7_bestPlan_69 hl (k := 6) rfl (nI_1 _) (by decide) rfl (fun ls hl => ?_)
          refine lv_goto (tgt := 31) hx hb dX7_bestPlan_72 (by decide) ?_
          exact ih (k + 1) (v.1, v.2.1, zs45) (by omega) (by omega) (by replace ezv48 := ezv48.symm; subst ezv48; replace ezs45 := ezs45.symm; subst ezs45; replace ezs40 := ezs40.symm; subst ezs40; simp only [itn, ← ev, b_X7_bestPlan_31, if_neg zc51, if_pos zc59]) hm _ _ _ w (lv_sub hl [2, 3, 4, 5, 6, 0] rfl)
        · -- 62
          refine lv_iload hx hb dX7_bestPlan_62 (lv_at hl 6 rfl) ?_
          refine lv_topi (fun zv64_2 ezv64_2 => ?_)
          refine lv_istore_n (lv' := [(3, .int zv64_2), (7, .long zv48), (0, .ref (aa G 4 0)), (1, .int y1), (2, .int y2), (4, .long v.2.1), (6, .int (nI k))]) hx hb dX7_bestPlan_64 rfl hl (by decide) rfl (fun ls hl => ?_)
          refine lv_lload hx hb dX7_bestPlan_65 (lv_at hl 1 rfl) ?_
          refine lv_lstore (lv' := [(4, .long zv48), (3, .int zv64_2), (7, .long zv48), (0, .ref (aa G 4 0)), (1, .int y1), (2, .int y2), (6, .int (nI k))]) hx hb dX7_bestPlan_67 hl (by decide) rfl (fun ls hl => ?_)
          refine lv_iinc (v := nI (k + 1)) (lv' := [(6, .int (nI (k + 1))), (4, .long zv48), (3, .int zv64_2), (7, .long zv48), (0, .ref (aa G 4 0)), (1, .int y1), (2, .int y2)]) hx hb dX7_bestPlan_69 hl (k := 6) rfl (nI_1 _) (by decide) rfl (fun ls hl => ?_)
          refine lv_goto (tgt := 31) hx hb dX7_bestPlan_72 (by decide) ?_
          exact ih (k + 1) (zv64_2, zv48, zs45) (by omega) (by omega) (by replace ezv64_2 := ezv64_2.symm; subst ezv64_2; replace ezv48 := ezv48.symm; subst ezv48; replace ezs45 := ezs45.symm; subst ezs45; replace ezs40 := ezs40.symm; subst ezs40; simp only [itn, ← ev, b_X7_bestPlan_31, if_neg zc51, if_neg zc59]) hm _ _ _ w (lv_sub hl [4, 5, 6, 2, 1, 0] rfl)
set_option maxRecDepth 100000 in
set_option maxHeartbeats 4000000 in
theorem c_X7_bestPlan {l : Launch} {G : GG} {σ : St} {ρ : Gr}  (x1 : Int32) (B : Nat) (hB : B < 2 ^ 30) (hm : WFm B ρ) : MM l G yX7_bestPlan cX7_bestPlan 9 7 153 (some .int) [.ref (aa G 4 0), .int x1] (setG σ 4 ρ) (Qi G (f_X7_bestPlan ρ x1) (setG σ 4 (g_X7_bestPlan ρ x1))) := by
  refine MM.of (by decide) (Nat.le_of_ble_eq_true rfl) ?_
  intro p e s m below meth c ls X hr hlk w hl
  have hx := X.1.1
  have hb := X.1.2.1
  have hl : lv_has ls 9 [(0, .ref (aa G 4 0)), (1, .int x1)] := hl
  refine lv_aload_n hx hb dX7_bestPlan_0 rfl (lv_at hl 0 rfl) ?_
  refine lv_iload_n hx hb dX7_bestPlan_1 rfl (lv_at hl 1 rfl) ?_
  refine k_i (rr_v (rest := []) X w mX7_wrongTides kw986 (c_X7_wrongTides x1) m4_0 rfl rfl ⟨Nat.le_of_ble_eq_true rfl, Nat.le_of_ble_eq_true rfl⟩ rfl hl.1 rfl (Nat.le_of_ble_eq_true rfl) dX7_bestPlan_2 ⟨Nat.zero_le _, Nat.zero_le _⟩) w (fun H locs w => ?_)
  refine lv_if_ge (tgt := 18) hx hb dX7_bestPlan_5 (by decide) (fun zc5 => ?_) (fun zc5 => ?_)
  · -- 18
    refine lv_aload_n hx hb dX7_bestPlan_18 rfl (lv_at hl 0 rfl) ?_
    refine gf7_173 X w dX7_bestPlan_19 ?_
    refine lv_topi (fun zv22 ezv22 => ?_)
    refine lv_istore_n (lv' := [(2, .int zv22), (0, .ref (aa G 4 0)), (1, .int x1)]) hx hb dX7_bestPlan_22 rfl hl (by decide) rfl (fun ls hl => ?_)
    refine lv_iconst (v := (-1)) hx hb dX7_bestPlan_23 (by decide) ?_
    refine lv_istore_n (lv' := [(3, .int (-1)), (2, .int zv22), (0, .ref (aa G 4 0)), (1, .int x1)]) hx hb dX7_bestPlan_24 rfl hl (by decide) rfl (fun ls hl => ?_)
    refine lv_lconst (v := 0) hx hb dX7_bestPlan_25 (by decide) ?_
    refine lv_lstore (lv' := [(4, .long 0), (3, .int (-1)), (2, .int zv22), (0, .ref (aa G 4 0)), (1, .int x1)]) hx hb dX7_bestPlan_26 hl (by decide) rfl (fun ls hl => ?_)
    refine lv_iconst (v := 0) hx hb dX7_bestPlan_28 (by decide) ?_
    refine lv_istore (lv' := [(6, .int 0), (4, .long 0), (3, .int (-1)), (2, .int zv22), (0, .ref (aa G 4 0)), (1, .int x1)]) hx hb dX7_bestPlan_29 hl (by decide) rfl (fun ls hl => ?_)
    refine lp_X7_bestPlan_31 X x1 zv22 ((-1), 0, ρ) B hB (wt_200 zc5) (fun H locs ls w hl => ?_) (5 + 1) 0 _ (Nat.zero_le _) (Nat.lt_succ_of_le (Nat.sub_le _ _)) rfl hm _ _ _ w (lv_sub hl [4, 5, 3, 2, 1, 0] rfl)
    obtain ⟨zl31, ezl31⟩ : ∃ y : Int32 × Int64 × Gr, y = (l_X7_bestPlan_31 x1 zv22 ((-1), 0, ρ)) := ⟨_, rfl⟩
    rw [← ezl31] at w hl
    refine lv_aload_n hx hb dX7_bestPlan_75 rfl (lv_at hl 0 rfl) ?_
    refine lv_iload_n hx hb dX7_bestPlan_76 rfl (lv_at hl 2 rfl) ?_
    refine pf7_173 X w dX7_bestPlan_77 (fun zs77 H locs ezs77 w => ?_)
    refine lv_iload_n hx hb dX7_bestPlan_80 rfl (lv_at hl 3 rfl) ?_
    exact t_i X w hr hlk dX7_bestPlan_81 (by replace ezs77 := ezs77.symm; subst ezs77; replace ezl31 := ezl31.symm; subst ezl31; replace ezv22 := ezv22.symm; subst ezv22; simp only [f_X7_bestPlan, if_pos zc5]) (by replace ezs77 := ezs77.symm; subst ezs77; replace ezl31 := ezl31.symm; subst ezl31; replace ezv22 := ezv22.symm; subst ezv22; simp only [g_X7_bestPlan, if_pos zc5])
  · -- 8
    refine lv_aload_n hx hb dX7_bestPlan_8 rfl (lv_at hl 0 rfl) ?_
    refine lv_aload_n hx hb dX7_bestPlan_9 rfl (lv_at hl 0 rfl) ?_
    refine lv_iload_n hx hb dX7_bestPlan_10 rfl (lv_at hl 1 rfl) ?_
    refine k_i (rr_v (rest := [.ref (aa G 4 0)]) X w mX7_wrongTides kw986 (c_X7_wrongTides x1) m4_0 rfl rfl ⟨Nat.le_of_ble_eq_true rfl, Nat.le_of_ble_eq_true rfl⟩ rfl hl.1 rfl (Nat.le_of_ble_eq_true rfl) dX7_bestPlan_11 ⟨Nat.zero_le _, Nat.zero_le _⟩) w (fun H locs w => ?_)
    refine k_i (rr_v (rest := []) X w mX7_refuse kw872 (c_X7_refuse (f_X7_wrongTides ρ x1) (wt_in zc5)) m4_0 rfl rfl ⟨Nat.le_of_ble_eq_true rfl, Nat.le_of_ble_eq_true rfl⟩ rfl hl.1 rfl (Nat.le_of_ble_eq_true rfl) dX7_bestPlan_14 ⟨Nat.zero_le _, Nat.zero_le _⟩) w (fun H locs w => ?_)
    obtain ⟨zs14, ezs14⟩ : ∃ y : Gr, y = g_X7_refuse ρ (f_X7_wrongTides ρ x1) := ⟨_, rfl⟩; rw [← ezs14] at w
    exact t_i X w hr hlk dX7_bestPlan_17 (by replace ezs14 := ezs14.symm; subst ezs14; simp only [f_X7_bestPlan, if_neg zc5]) (by replace ezs14 := ezs14.symm; subst ezs14; simp only [g_X7_bestPlan, if_neg zc5])
