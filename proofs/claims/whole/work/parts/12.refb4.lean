noncomputable def f_X7_share (ρ : Gr) (x1 : Int32) (x2 : Int32) : Int32 :=
  if (f_X7_in x1.toInt64 0 (((ρ 0 15) - 1).toInt64)) = 0 then
    let zs20 : Gr := g_X7_refuse ρ (-1)
    (-1000000000) + (f_X7_refuse ρ (-1))
  else
    if 1 ≤ x2 then
      if x2 ≤ 200 then
        let zs60 : Gr := g_X7_settledAfter ρ x2 (-1)
        let zs66 : Gr := g_X7_settledAfter zs60 x2 x1
        (f_X7_settledAfter ρ x2 (-1)) - (f_X7_settledAfter zs60 x2 x1)
      else
        let zs52 : Gr := g_X7_refuse ρ (-6)
        (-1000000000) + (f_X7_refuse ρ (-6))
    else
      let zs35 : Gr := g_X7_refuse ρ (-4)
      (-1000000000) + (f_X7_refuse ρ (-4))
noncomputable def g_X7_share (ρ : Gr) (x1 : Int32) (x2 : Int32) : Gr :=
  if (f_X7_in x1.toInt64 0 (((ρ 0 15) - 1).toInt64)) = 0 then
    let zs20 : Gr := g_X7_refuse ρ (-1)
    zs20
  else
    if 1 ≤ x2 then
      if x2 ≤ 200 then
        let zs60 : Gr := g_X7_settledAfter ρ x2 (-1)
        let zs66 : Gr := g_X7_settledAfter zs60 x2 x1
        zs66
      else
        let zs52 : Gr := g_X7_refuse ρ (-6)
        zs52
    else
      let zs35 : Gr := g_X7_refuse ρ (-4)
      zs35
set_option maxRecDepth 100000 in
set_option maxHeartbeats 4000000 in
theorem c_X7_share {l : Launch} {G : GG} {σ : St} {ρ : Gr}  (x1 : Int32) (x2 : Int32) (B : Nat) (hB : B < 2 ^ 30) (hm : WFm B ρ) (h34 : ρ 0 34 = -1) : MM l G yX7_share cX7_share 3 7 153 (some .int) [.ref (aa G 4 0), .int x1, .int x2] (setG σ 4 ρ) (Qi G (f_X7_share ρ x1 x2) (setG σ 4 (g_X7_share ρ x1 x2))) := by
  refine MM.of (by decide) (Nat.le_of_ble_eq_true rfl) ?_
  intro p e s m below meth c ls X hr hlk w hl
  have hx := X.1.1
  have hb := X.1.2.1
  have hl : lv_has ls 3 [(0, .ref (aa G 4 0)), (1, .int x1), (2, .int x2)] := hl
  refine lv_iload_n hx hb dX7_share_0 rfl (lv_at hl 1 rfl) ?_
  refine lv_i2l hx hb dX7_share_1 rfl ?_
  refine lv_lconst (v := 0) hx hb dX7_share_2 (by decide) ?_
  refine lv_aload_n hx hb dX7_share_3 rfl (lv_at hl 0 rfl) ?_
  refine gf7_147 X w dX7_share_4 ?_
  refine lv_iconst (v := 1) hx hb dX7_share_7 (by decide) ?_
  refine lv_isub hx hb dX7_share_8 ?_
  refine lv_i2l hx hb dX7_share_9 rfl ?_
  refine k_i (rr_s (rest := []) X w mX7_in kw888 (c_X7_in x1.toInt64 0 (((ρ 0 15) - 1).toInt64)) ⟨Nat.le_of_ble_eq_true rfl, Nat.le_of_ble_eq_true rfl⟩ rfl hl.1 rfl (Nat.le_of_ble_eq_true rfl) dX7_share_10 ⟨Nat.zero_le _, Nat.zero_le _⟩) w (fun H locs w => ?_)
  refine lv_if_ne (tgt := 25) hx hb dX7_share_13 (by decide) (fun zc13 => ?_) (fun zc13 => ?_)
  · -- 25
    refine lv_iload_n hx hb dX7_share_25 rfl (lv_at hl 2 rfl) ?_
    refine lv_iconst (v := 1) hx hb dX7_share_26 (by decide) ?_
    refine lv_icmp_ge (tgt := 40) hx hb dX7_share_27 (by decide) (fun zc27 => ?_) (fun zc27 => ?_)
    · -- 40
      refine lv_iload_n hx hb dX7_share_40 rfl (lv_at hl 2 rfl) ?_
      refine lv_sipush (v := 200) hx hb dX7_share_41 (by decide) ?_
      refine lv_icmp_le (tgt := 57) hx hb dX7_share_44 (by decide) (fun zc44 => ?_) (fun zc44 => ?_)
      · -- 57
        refine lv_aload_n hx hb dX7_share_57 rfl (lv_at hl 0 rfl) ?_
        refine lv_iload_n hx hb dX7_share_58 rfl (lv_at hl 2 rfl) ?_
        refine lv_iconst (v := (-1)) hx hb dX7_share_59 (by decide) ?_
        refine k_i (rr_v (rest := []) X w mX7_settledAfter kw1068 (c_X7_settledAfter x2 (-1) B hB hm (clamp_le (y := 200) (by decide) (by decide) zc44)) m4_0 rfl rfl ⟨Nat.le_of_ble_eq_true rfl, Nat.le_of_ble_eq_true rfl⟩ rfl hl.1 rfl (Nat.le_of_ble_eq_true rfl) dX7_share_60 ⟨Nat.zero_le _, Nat.zero_le _⟩) w (fun H locs w => ?_)
        obtain ⟨zs60, ezs60⟩ : ∃ y : Gr, y = g_X7_settledAfter ρ x2 (-1) := ⟨_, rfl⟩; rw [← ezs60] at w
        have hm : WFm B zs60 := by rw [ezs60]; exact (settledAfter_Sv h34 _ _).wf hm
        refine lv_aload_n hx hb dX7_share_63 rfl (lv_at hl 0 rfl) ?_
        refine lv_iload_n hx hb dX7_share_64 rfl (lv_at hl 2 rfl) ?_
        refine lv_iload_n hx hb dX7_share_65 rfl (lv_at hl 1 rfl) ?_
        refine k_i (rr_v (rest := [.int (f_X7_settledAfter ρ x2 (-1))]) X w mX7_settledAfter kw1068 (c_X7_settledAfter x2 x1 B hB hm (clamp_le (y := 200) (by decide) (by decide) zc44)) m4_0 rfl rfl ⟨Nat.le_of_ble_eq_true rfl, Nat.le_of_ble_eq_true rfl⟩ rfl hl.1 rfl (Nat.le_of_ble_eq_true rfl) dX7_share_66 ⟨Nat.zero_le _, Nat.zero_le _⟩) w (fun H locs w => ?_)
        obtain ⟨zs66, ezs66⟩ : ∃ y : Gr, y = g_X7_settledAfter zs60 x2 x1 := ⟨_, rfl⟩; rw [← ezs66] at w
        refine lv_isub hx hb dX7_share_69 ?_
        exact t_i X w hr hlk dX7_share_70 (by replace ezs66 := ezs66.symm; subst ezs66; replace ezs60 := ezs60.symm; subst ezs60; simp only [f_X7_share, if_neg zc13, if_pos zc27, if_pos zc44]) (by replace ezs66 := ezs66.symm; subst ezs66; replace ezs60 := ezs60.symm; subst ezs60; simp only [g_X7_share, if_neg zc13, if_pos zc27, if_pos zc44])
      · -- 47
        refine lv_ldc hx hb X.1.2.2.2.1 (X.1.2.2.2.2 _ kw956) dX7_share_47 ?_
        refine lv_aload_n hx hb dX7_share_49 rfl (lv_at hl 0 rfl) ?_
        refine lv_bipush (v := (-6)) hx hb dX7_share_50 (by decide) ?_
        refine k_i (rr_v (rest := [.int (-1000000000)]) X w mX7_refuse kw872 (c_X7_refuse (-6) (vin_lit (by decide +kernel))) m4_0 rfl rfl ⟨Nat.le_of_ble_eq_true rfl, Nat.le_of_ble_eq_true rfl⟩ rfl hl.1 rfl (Nat.le_of_ble_eq_true rfl) dX7_share_52 ⟨Nat.zero_le _, Nat.zero_le _⟩) w (fun H locs w => ?_)
        obtain ⟨zs52, ezs52⟩ : ∃ y : Gr, y = g_X7_refuse ρ (-6) := ⟨_, rfl⟩; rw [← ezs52] at w
        refine lv_iadd hx hb dX7_share_55 ?_
        exact t_i X w hr hlk dX7_share_56 (by replace ezs52 := ezs52.symm; subst ezs52; simp only [f_X7_share, if_neg zc13, if_pos zc27, if_neg zc44]) (by replace ezs52 := ezs52.symm; subst ezs52; simp only [g_X7_share, if_neg zc13, if_pos zc27, if_neg zc44])
    · -- 30
      refine lv_ldc hx hb X.1.2.2.2.1 (X.1.2.2.2.2 _ kw956) dX7_share_30 ?_
      refine lv_aload_n hx hb dX7_share_32 rfl (lv_at hl 0 rfl) ?_
      refine lv_bipush (v := (-4)) hx hb dX7_share_33 (by decide) ?_
      refine k_i (rr_v (rest := [.int (-1000000000)]) X w mX7_refuse kw872 (c_X7_refuse (-4) (vin_lit (by decide +kernel))) m4_0 rfl rfl ⟨Nat.le_of_ble_eq_true rfl, Nat.le_of_ble_eq_true rfl⟩ rfl hl.1 rfl (Nat.le_of_ble_eq_true rfl) dX7_share_35 ⟨Nat.zero_le _, Nat.zero_le _⟩) w (fun H locs w => ?_)
      obtain ⟨zs35, ezs35⟩ : ∃ y : Gr, y = g_X7_refuse ρ (-4) := ⟨_, rfl⟩; rw [← ezs35] at w
      refine lv_iadd hx hb dX7_share_38 ?_
      exact t_i X w hr hlk dX7_share_39 (by replace ezs35 := ezs35.symm; subst ezs35; simp only [f_X7_share, if_neg zc13, if_neg zc27]) (by replace ezs35 := ezs35.symm; subst ezs35; simp only [g_X7_share, if_neg zc13, if_neg zc27])
  · -- 16
    refine lv_ldc hx hb X.1.2.2.2.1 (X.1.2.2.2.2 _ kw956) dX7_share_16 ?_
    refine lv_aload_n hx hb dX7_share_18 rfl (lv_at hl 0 rfl) ?_
    refine lv_iconst (v := (-1)) hx hb dX7_share_19 (by decide) ?_
    refine k_i (rr_v (rest := [.int (-1000000000)]) X w mX7_refuse kw872 (c_X7_refuse (-1) (vin_lit (by decide +kernel))) m4_0 rfl rfl ⟨Nat.le_of_ble_eq_true rfl, Nat.le_of_ble_eq_true rfl⟩ rfl hl.1 rfl (Nat.le_of_ble_eq_true rfl) dX7_share_20 ⟨Nat.zero_le _, Nat.zero_le _⟩) w (fun H locs w => ?_)
    obtain ⟨zs20, ezs20⟩ : ∃ y : Gr, y = g_X7_refuse ρ (-1) := ⟨_, rfl⟩; rw [← ezs20] at w
    refine lv_iadd hx hb dX7_share_23 ?_
    exact t_i X w hr hlk dX7_share_24 (by replace ezs20 := ezs20.symm; subst ezs20; simp only [f_X7_share, if_pos zc13]) (by replace ezs20 := ezs20.symm; subst ezs20; simp only [g_X7_share, if_pos zc13])
