noncomputable def f_X7_row (ρ : Gr) (x1 : Int32) : Int32 :=
  if 0 ≤ x1 then
    if 9 < x1 then
      let zs29 : Gr := g_X7_refuse ρ (-6)
      f_X7_refuse ρ (-6)
    else
      if (ρ 0 32) = 28 then
        let zs29_2 : Gr := g_X7_refuse ρ (-6)
        f_X7_refuse ρ (-6)
      else
        let zs42 : Gr := up ρ 31 (ρ 0 32).toNatClampNeg x1
        let zs50 : Gr := up zs42 0 32 ((zs42 0 32) + 1)
        zs50 0 32
  else
    let zs7 : Gr := g_X7_refuse ρ (-4)
    f_X7_refuse ρ (-4)
noncomputable def g_X7_row (ρ : Gr) (x1 : Int32) : Gr :=
  if 0 ≤ x1 then
    if 9 < x1 then
      let zs29 : Gr := g_X7_refuse ρ (-6)
      zs29
    else
      if (ρ 0 32) = 28 then
        let zs29_2 : Gr := g_X7_refuse ρ (-6)
        zs29_2
      else
        let zs42 : Gr := up ρ 31 (ρ 0 32).toNatClampNeg x1
        let zs50 : Gr := up zs42 0 32 ((zs42 0 32) + 1)
        zs50
  else
    let zs7 : Gr := g_X7_refuse ρ (-4)
    zs7
set_option maxRecDepth 100000 in
set_option maxHeartbeats 4000000 in
theorem c_X7_row {l : Launch} {G : GG} {σ : St} {ρ : Gr}  (x1 : Int32) (B : Nat) (hB : B < 2 ^ 30) (hm : WFm B ρ) : MM l G yX7_row cX7_row 2 1 21 (some .int) [.ref (aa G 4 0), .int x1] (setG σ 4 ρ) (Qi G (f_X7_row ρ x1) (setG σ 4 (g_X7_row ρ x1))) := by
  refine MM.of (by decide) (Nat.le_of_ble_eq_true rfl) ?_
  intro p e s m below meth c ls X hr hlk w hl
  have hx := X.1.1
  have hb := X.1.2.1
  have hl : lv_has ls 2 [(0, .ref (aa G 4 0)), (1, .int x1)] := hl
  refine lv_iload_n hx hb dX7_row_0 rfl (lv_at hl 1 rfl) ?_
  refine lv_if_ge (tgt := 11) hx hb dX7_row_1 (by decide) (fun zc1 => ?_) (fun zc1 => ?_)
  · -- 11
    refine lv_iload_n hx hb dX7_row_11 rfl (lv_at hl 1 rfl) ?_
    refine lv_bipush (v := 9) hx hb dX7_row_12 (by decide) ?_
    refine lv_icmp_gt (tgt := 26) hx hb dX7_row_14 (by decide) (fun zc14 => ?_) (fun zc14 => ?_)
    · -- 26
      refine lv_aload_n hx hb dX7_row_26 rfl (lv_at hl 0 rfl) ?_
      refine lv_bipush (v := (-6)) hx hb dX7_row_27 (by decide) ?_
      refine k_i (rr_v (rest := []) X w mX7_refuse kw872 (c_X7_refuse (-6) (vin_lit (by decide +kernel))) m4_0 rfl rfl ⟨Nat.le_of_ble_eq_true rfl, Nat.le_of_ble_eq_true rfl⟩ rfl hl.1 rfl (Nat.le_of_ble_eq_true rfl) dX7_row_29 ⟨Nat.zero_le _, Nat.zero_le _⟩) w (fun H locs w => ?_)
      obtain ⟨zs29, ezs29⟩ : ∃ y : Gr, y = g_X7_refuse ρ (-6) := ⟨_, rfl⟩; rw [← ezs29] at w
      exact t_i X w hr hlk dX7_row_32 (by replace ezs29 := ezs29.symm; subst ezs29; simp only [f_X7_row, if_pos zc1, if_pos zc14]) (by replace ezs29 := ezs29.symm; subst ezs29; simp only [g_X7_row, if_pos zc1, if_pos zc14])
    · -- 17
      refine lv_aload_n hx hb dX7_row_17 rfl (lv_at hl 0 rfl) ?_
      refine gf7_261 X w dX7_row_18 ?_
      refine lv_bipush (v := 28) hx hb dX7_row_21 (by decide) ?_
      refine lv_icmp_ne (tgt := 33) hx hb dX7_row_23 (by decide) (fun zc23 => ?_) (fun zc23 => ?_)
      · -- 33
        refine lv_aload_n hx hb dX7_row_33 rfl (lv_at hl 0 rfl) ?_
        refine gf7_75 X w dX7_row_34 ?_
        refine lv_aload_n hx hb dX7_row_37 rfl (lv_at hl 0 rfl) ?_
        refine gf7_261 X w dX7_row_38 ?_
        refine lv_iload_n hx hb dX7_row_41 rfl (lv_at hl 1 rfl) ?_
        refine iS (f := 31) (n := 28) X w m4_31 rfl (hm.ov zc23) dX7_row_42 (fun zs42 H locs ezs42 w => ?_)
        refine lv_aload_n hx hb dX7_row_43 rfl (lv_at hl 0 rfl) ?_
        refine lv_dup hx hb dX7_row_44 rfl ?_
        refine gf7_261 X w dX7_row_45 ?_
        refine lv_iconst (v := 1) hx hb dX7_row_48 (by decide) ?_
        refine lv_iadd hx hb dX7_row_49 ?_
        change W _ _ _ _ _ _ _ _ _ _ _ _ _ _ _ (F0 m 50 ls _)
        refine pf7_261 X w dX7_row_50 (fun zs50 H locs ezs50 w => ?_)
        refine lv_aload_n hx hb dX7_row_53 rfl (lv_at hl 0 rfl) ?_
        refine gf7_261 X w dX7_row_54 ?_
        exact t_i X w hr hlk dX7_row_57 (by replace ezs50 := ezs50.symm; subst ezs50; replace ezs42 := ezs42.symm; subst ezs42; simp only [f_X7_row, if_pos zc1, if_neg zc14, if_neg zc23]) (by replace ezs50 := ezs50.symm; subst ezs50; replace ezs42 := ezs42.symm; subst ezs42; simp only [g_X7_row, if_pos zc1, if_neg zc14, if_neg zc23])
      · -- 26
        refine lv_aload_n hx hb dX7_row_26 rfl (lv_at hl 0 rfl) ?_
        refine lv_bipush (v := (-6)) hx hb dX7_row_27 (by decide) ?_
        refine k_i (rr_v (rest := []) X w mX7_refuse kw872 (c_X7_refuse (-6) (vin_lit (by decide +kernel))) m4_0 rfl rfl ⟨Nat.le_of_ble_eq_true rfl, Nat.le_of_ble_eq_true rfl⟩ rfl hl.1 rfl (Nat.le_of_ble_eq_true rfl) dX7_row_29 ⟨Nat.zero_le _, Nat.zero_le _⟩) w (fun H locs w => ?_)
        obtain ⟨zs29_2, ezs29_2⟩ : ∃ y : Gr, y = g_X7_refuse ρ (-6) := ⟨_, rfl⟩; rw [← ezs29_2] at w
        exact t_i X w hr hlk dX7_row_32 (by replace ezs29_2 := ezs29_2.symm; subst ezs29_2; simp only [f_X7_row, if_pos zc1, if_neg zc14, if_pos zc23]) (by replace ezs29_2 := ezs29_2.symm; subst ezs29_2; simp only [g_X7_row, if_pos zc1, if_neg zc14, if_pos zc23])
  · -- 4
    refine lv_aload_n hx hb dX7_row_4 rfl (lv_at hl 0 rfl) ?_
    refine lv_bipush (v := (-4)) hx hb dX7_row_5 (by decide) ?_
    refine k_i (rr_v (rest := []) X w mX7_refuse kw872 (c_X7_refuse (-4) (vin_lit (by decide +kernel))) m4_0 rfl rfl ⟨Nat.le_of_ble_eq_true rfl, Nat.le_of_ble_eq_true rfl⟩ rfl hl.1 rfl (Nat.le_of_ble_eq_true rfl) dX7_row_7 ⟨Nat.zero_le _, Nat.zero_le _⟩) w (fun H locs w => ?_)
    obtain ⟨zs7, ezs7⟩ : ∃ y : Gr, y = g_X7_refuse ρ (-4) := ⟨_, rfl⟩; rw [← ezs7] at w
    exact t_i X w hr hlk dX7_row_10 (by replace ezs7 := ezs7.symm; subst ezs7; simp only [f_X7_row, if_neg zc1]) (by replace ezs7 := ezs7.symm; subst ezs7; simp only [g_X7_row, if_neg zc1])
