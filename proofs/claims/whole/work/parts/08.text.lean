noncomputable def g_X1_append (ρ : Gr) (x1 : Int32) : Gr :=
  if (ρ 1 0) < 0 then
    ρ
  else
    if 96 ≤ (ρ 1 0) then
      ρ
    else
      let zs25 : Gr := up ρ 2 (ρ 1 0).toNatClampNeg x1
      let zs33 : Gr := up zs25 1 0 ((zs25 1 0) + 1)
      zs33
set_option maxRecDepth 100000 in
set_option maxHeartbeats 4000000 in
theorem c_X1_append {l : Launch} {G : GG} {σ : St} {ρ : Gr}  (x1 : Int32) : MM l G yX1_append cX1_append 2 0 0 none [.ref (aa G 0 1), .int x1] (setG σ 0 ρ) (Qv G (setG σ 0 (g_X1_append ρ x1))) := by
  refine MM.of (by decide) (Nat.le_of_ble_eq_true rfl) ?_
  intro p e s m below meth c ls X hr hlk w hl
  have hx := X.1.1
  have hb := X.1.2.1
  have hl : lv_has ls 2 [(0, .ref (aa G 0 1)), (1, .int x1)] := hl
  refine lv_aload_n hx hb dX1_append_0 rfl (lv_at hl 0 rfl) ?_
  refine gf1_9 X w dX1_append_1 ?_
  refine lv_if_lt (tgt := 36) hx hb dX1_append_4 (by decide) (fun zc4 => ?_) (fun zc4 => ?_)
  · -- 36
    exact t_v X w hr hlk dX1_append_36 (by simp only [g_X1_append, if_pos zc4])
  · -- 7
    refine lv_aload_n hx hb dX1_append_7 rfl (lv_at hl 0 rfl) ?_
    refine gf1_9 X w dX1_append_8 ?_
    refine lv_bipush (v := 96) hx hb dX1_append_11 (by decide) ?_
    refine lv_icmp_ge (tgt := 36) hx hb dX1_append_13 (by decide) (fun zc13 => ?_) (fun zc13 => ?_)
    · -- 36
      exact t_v X w hr hlk dX1_append_36 (by simp only [g_X1_append, if_neg zc4, if_pos zc13])
    · -- 16
      refine lv_aload_n hx hb dX1_append_16 rfl (lv_at hl 0 rfl) ?_
      refine gf1_15 X w dX1_append_17 ?_
      refine lv_aload_n hx hb dX1_append_20 rfl (lv_at hl 0 rfl) ?_
      refine gf1_9 X w dX1_append_21 ?_
      refine lv_iload_n hx hb dX1_append_24 rfl (lv_at hl 1 rfl) ?_
      refine iS (f := 2) (n := 96) X w m0_2 rfl (vin_n zc4 zc13 (by decide)) dX1_append_25 (fun zs25 H locs ezs25 w => ?_)
      refine lv_aload_n hx hb dX1_append_26 rfl (lv_at hl 0 rfl) ?_
      refine lv_dup hx hb dX1_append_27 rfl ?_
      refine gf1_9 X w dX1_append_28 ?_
      refine lv_iconst (v := 1) hx hb dX1_append_31 (by decide) ?_
      refine lv_iadd hx hb dX1_append_32 ?_
      change W _ _ _ _ _ _ _ _ _ _ _ _ _ _ _ (F0 m 33 ls _)
      refine pf1_9 X w dX1_append_33 (fun zs33 H locs ezs33 w => ?_)
      exact t_v X w hr hlk dX1_append_36 (by replace ezs33 := ezs33.symm; subst ezs33; replace ezs25 := ezs25.symm; subst ezs25; simp only [g_X1_append, if_neg zc4, if_neg zc13])

noncomputable def f_X1_byteHere (ρ : Gr)  : Int32 :=
  if (ρ 1 2) < 0 then
    (-9)
  else
    if (ρ 1 0) ≤ (ρ 1 2) then
      (-9)
    else
      if 96 ≤ (ρ 1 2) then
        (-9)
      else
        ρ 2 (ρ 1 2).toNatClampNeg
set_option maxRecDepth 100000 in
set_option maxHeartbeats 4000000 in
theorem c_X1_byteHere {l : Launch} {G : GG} {σ : St} {ρ : Gr}   : MM l G yX1_byteHere cX1_byteHere 1 0 0 (some .int) [.ref (aa G 0 1)] (setG σ 0 ρ) (Qi G (f_X1_byteHere ρ) (setG σ 0 ρ)) := by
  refine MM.of (by decide) (Nat.le_of_ble_eq_true rfl) ?_
  intro p e s m below meth c ls X hr hlk w hl
  have hx := X.1.1
  have hb := X.1.2.1
  have hl : lv_has ls 1 [(0, .ref (aa G 0 1))] := hl
  refine lv_aload_n hx hb dX1_byteHere_0 rfl (lv_at hl 0 rfl) ?_
  refine gf1_19 X w dX1_byteHere_1 ?_
  refine lv_if_lt (tgt := 39) hx hb dX1_byteHere_4 (by decide) (fun zc4 => ?_) (fun zc4 => ?_)
  · -- 39
    refine lv_bipush (v := (-9)) hx hb dX1_byteHere_39 (by decide) ?_
    exact t_i X w hr hlk dX1_byteHere_41 (by simp only [f_X1_byteHere, if_pos zc4]) rfl
  · -- 7
    refine lv_aload_n hx hb dX1_byteHere_7 rfl (lv_at hl 0 rfl) ?_
    refine gf1_19 X w dX1_byteHere_8 ?_
    refine lv_aload_n hx hb dX1_byteHere_11 rfl (lv_at hl 0 rfl) ?_
    refine gf1_9 X w dX1_byteHere_12 ?_
    refine lv_icmp_ge (tgt := 39) hx hb dX1_byteHere_15 (by decide) (fun zc15 => ?_) (fun zc15 => ?_)
    · -- 39
      refine lv_bipush (v := (-9)) hx hb dX1_byteHere_39 (by decide) ?_
      exact t_i X w hr hlk dX1_byteHere_41 (by simp only [f_X1_byteHere, if_neg zc4, if_pos zc15]) rfl
    · -- 18
      refine lv_aload_n hx hb dX1_byteHere_18 rfl (lv_at hl 0 rfl) ?_
      refine gf1_19 X w dX1_byteHere_19 ?_
      refine lv_bipush (v := 96) hx hb dX1_byteHere_22 (by decide) ?_
      refine lv_icmp_ge (tgt := 39) hx hb dX1_byteHere_24 (by decide) (fun zc24 => ?_) (fun zc24 => ?_)
      · -- 39
        refine lv_bipush (v := (-9)) hx hb dX1_byteHere_39 (by decide) ?_
        exact t_i X w hr hlk dX1_byteHere_41 (by simp only [f_X1_byteHere, if_neg zc4, if_neg zc15, if_pos zc24]) rfl
      · -- 27
        refine lv_aload_n hx hb dX1_byteHere_27 rfl (lv_at hl 0 rfl) ?_
        refine gf1_15 X w dX1_byteHere_28 ?_
        refine lv_aload_n hx hb dX1_byteHere_31 rfl (lv_at hl 0 rfl) ?_
        refine gf1_19 X w dX1_byteHere_32 ?_
        refine ia (f := 2) (n := 96) X w m0_2 rfl (vin_n zc4 zc24 (by decide)) dX1_byteHere_35 ?_
        refine lv_goto (tgt := 41) hx hb dX1_byteHere_36 (by decide) ?_
        exact t_i X w hr hlk dX1_byteHere_41 (by simp only [f_X1_byteHere, if_neg zc4, if_neg zc15, if_neg zc24]) rfl

noncomputable def f_X1_digitIsHere (ρ : Gr)  : Int32 :=
  if (f_X1_byteHere ρ) < 48 then
    0
  else
    if 57 < (f_X1_byteHere ρ) then
      0
    else
      1
set_option maxRecDepth 100000 in
set_option maxHeartbeats 4000000 in
theorem c_X1_digitIsHere {l : Launch} {G : GG} {σ : St} {ρ : Gr}   : MM l G yX1_digitIsHere cX1_digitIsHere 1 1 20 (some .boolean) [.ref (aa G 0 1)] (setG σ 0 ρ) (Qi G (f_X1_digitIsHere ρ) (setG σ 0 ρ)) := by
  refine MM.of (by decide) (Nat.le_of_ble_eq_true rfl) ?_
  intro p e s m below meth c ls X hr hlk w hl
  have hx := X.1.1
  have hb := X.1.2.1
  have hl : lv_has ls 1 [(0, .ref (aa G 0 1))] := hl
  refine lv_aload_n hx hb dX1_digitIsHere_0 rfl (lv_at hl 0 rfl) ?_
  refine k_i (rr_v (rest := []) X w mX1_byteHere kw315 (c_X1_byteHere ) m0_1 rfl rfl ⟨Nat.le_of_ble_eq_true rfl, Nat.le_of_ble_eq_true rfl⟩ rfl hl.1 rfl (Nat.le_of_ble_eq_true rfl) dX1_digitIsHere_1 ⟨Nat.zero_le _, Nat.zero_le _⟩) w (fun H locs w => ?_)
  refine lv_bipush (v := 48) hx hb dX1_digitIsHere_4 (by decide) ?_
  refine lv_icmp_lt (tgt := 22) hx hb dX1_digitIsHere_6 (by decide) (fun zc6 => ?_) (fun zc6 => ?_)
  · -- 22
    refine lv_iconst (v := 0) hx hb dX1_digitIsHere_22 (by decide) ?_
    exact t_z X w hr hlk isB0.n dX1_digitIsHere_23 (by simp only [f_X1_digitIsHere, if_pos zc6]) rfl
  · -- 9
    refine lv_aload_n hx hb dX1_digitIsHere_9 rfl (lv_at hl 0 rfl) ?_
    refine k_i (rr_v (rest := []) X w mX1_byteHere kw315 (c_X1_byteHere ) m0_1 rfl rfl ⟨Nat.le_of_ble_eq_true rfl, Nat.le_of_ble_eq_true rfl⟩ rfl hl.1 rfl (Nat.le_of_ble_eq_true rfl) dX1_digitIsHere_10 ⟨Nat.zero_le _, Nat.zero_le _⟩) w (fun H locs w => ?_)
    refine lv_bipush (v := 57) hx hb dX1_digitIsHere_13 (by decide) ?_
    refine lv_icmp_gt (tgt := 22) hx hb dX1_digitIsHere_15 (by decide) (fun zc15 => ?_) (fun zc15 => ?_)
    · -- 22
      refine lv_iconst (v := 0) hx hb dX1_digitIsHere_22 (by decide) ?_
      exact t_z X w hr hlk isB0.n dX1_digitIsHere_23 (by simp only [f_X1_digitIsHere, if_neg zc6, if_pos zc15]) rfl
    · -- 18
      refine lv_iconst (v := 1) hx hb dX1_digitIsHere_18 (by decide) ?_
      refine lv_goto (tgt := 23) hx hb dX1_digitIsHere_19 (by decide) ?_
      exact t_z X w hr hlk isB1.n dX1_digitIsHere_23 (by simp only [f_X1_digitIsHere, if_neg zc6, if_neg zc15]) rfl

noncomputable def f_X1_readSign (ρ : Gr) (x1 : Int32) : Int32 :=
  if (f_X1_byteHere ρ) = x1 then
    let zs17 : Gr := up ρ 1 2 ((ρ 1 2) + 1)
    1
  else
    0
noncomputable def g_X1_readSign (ρ : Gr) (x1 : Int32) : Gr :=
  if (f_X1_byteHere ρ) = x1 then
    let zs17 : Gr := up ρ 1 2 ((ρ 1 2) + 1)
    zs17
  else
    ρ
set_option maxRecDepth 100000 in
set_option maxHeartbeats 4000000 in
theorem c_X1_readSign {l : Launch} {G : GG} {σ : St} {ρ : Gr}  (x1 : Int32) : MM l G yX1_readSign cX1_readSign 2 1 20 (some .boolean) [.ref (aa G 0 1), .int x1] (setG σ 0 ρ) (Qi G (f_X1_readSign ρ x1) (setG σ 0 (g_X1_readSign ρ x1))) := by
  refine MM.of (by decide) (Nat.le_of_ble_eq_true rfl) ?_
  intro p e s m below meth c ls X hr hlk w hl
  have hx := X.1.1
  have hb := X.1.2.1
  have hl : lv_has ls 2 [(0, .ref (aa G 0 1)), (1, .int x1)] := hl
  refine lv_aload_n hx hb dX1_readSign_0 rfl (lv_at hl 0 rfl) ?_
  refine k_i (rr_v (rest := []) X w mX1_byteHere kw315 (c_X1_byteHere ) m0_1 rfl rfl ⟨Nat.le_of_ble_eq_true rfl, Nat.le_of_ble_eq_true rfl⟩ rfl hl.1 rfl (Nat.le_of_ble_eq_true rfl) dX1_readSign_1 ⟨Nat.zero_le _, Nat.zero_le _⟩) w (fun H locs w => ?_)
  refine lv_iload_n hx hb dX1_readSign_4 rfl (lv_at hl 1 rfl) ?_
  refine lv_icmp_eq (tgt := 10) hx hb dX1_readSign_5 (by decide) (fun zc5 => ?_) (fun zc5 => ?_)
  · -- 10
    refine lv_aload_n hx hb dX1_readSign_10 rfl (lv_at hl 0 rfl) ?_
    refine lv_dup hx hb dX1_readSign_11 rfl ?_
    refine gf1_19 X w dX1_readSign_12 ?_
    refine lv_iconst (v := 1) hx hb dX1_readSign_15 (by decide) ?_
    refine lv_iadd hx hb dX1_readSign_16 ?_
    refine pf1_19 X w dX1_readSign_17 (fun zs17 H locs ezs17 w => ?_)
    refine lv_iconst (v := 1) hx hb dX1_readSign_20 (by decide) ?_
    exact t_z X w hr hlk isB1.n dX1_readSign_21 (by replace ezs17 := ezs17.symm; subst ezs17; simp only [f_X1_readSign, if_pos zc5]) (by replace ezs17 := ezs17.symm; subst ezs17; simp only [g_X1_readSign, if_pos zc5])
  · -- 8
    refine lv_iconst (v := 0) hx hb dX1_readSign_8 (by decide) ?_
    exact t_z X w hr hlk isB0.n dX1_readSign_9 (by simp only [f_X1_readSign, if_neg zc5]) (by simp only [g_X1_readSign, if_neg zc5])

theorem rs_isB (ρ : Gr) (x : Int32) : isB (f_X1_readSign ρ x) := by
  unfold f_X1_readSign
  split
  · exact isB1
  · exact isB0

noncomputable def f_X1_readDigit (ρ : Gr)  : Int32 :=
  if (f_X1_digitIsHere ρ) = 0 then
    0
  else
    let zs14 : Gr := up ρ 1 5 (ρ 1 4)
    let zs25 : Gr := up zs14 1 4 ((f_X1_byteHere zs14) - 48)
    let zs35 : Gr := up zs25 1 2 ((zs25 1 2) + 1)
    1
noncomputable def g_X1_readDigit (ρ : Gr)  : Gr :=
  if (f_X1_digitIsHere ρ) = 0 then
    ρ
  else
    let zs14 : Gr := up ρ 1 5 (ρ 1 4)
    let zs25 : Gr := up zs14 1 4 ((f_X1_byteHere zs14) - 48)
    let zs35 : Gr := up zs25 1 2 ((zs25 1 2) + 1)
    zs35
set_option maxRecDepth 100000 in
set_option maxHeartbeats 4000000 in
theorem c_X1_readDigit {l : Launch} {G : GG} {σ : St} {ρ : Gr}   : MM l G yX1_readDigit cX1_readDigit 1 2 40 (some .boolean) [.ref (aa G 0 1)] (setG σ 0 ρ) (Qi G (f_X1_readDigit ρ) (setG σ 0 (g_X1_readDigit ρ))) := by
  refine MM.of (by decide) (Nat.le_of_ble_eq_true rfl) ?_
  intro p e s m below meth c ls X hr hlk w hl
  have hx := X.1.1
  have hb := X.1.2.1
  have hl : lv_has ls 1 [(0, .ref (aa G 0 1))] := hl
  refine lv_aload_n hx hb dX1_readDigit_0 rfl (lv_at hl 0 rfl) ?_
  refine k_i (rr_v (rest := []) X w mX1_digitIsHere kw323 (c_X1_digitIsHere ) m0_1 rfl rfl ⟨Nat.le_of_ble_eq_true rfl, Nat.le_of_ble_eq_true rfl⟩ rfl hl.1 rfl (Nat.le_of_ble_eq_true rfl) dX1_readDigit_1 ⟨Nat.zero_le _, Nat.zero_le _⟩) w (fun H locs w => ?_)
  refine lv_if_ne (tgt := 9) hx hb dX1_readDigit_4 (by decide) (fun zc4 => ?_) (fun zc4 => ?_)
  · -- 9
    refine lv_aload_n hx hb dX1_readDigit_9 rfl (lv_at hl 0 rfl) ?_
    refine lv_aload_n hx hb dX1_readDigit_10 rfl (lv_at hl 0 rfl) ?_
    refine gf1_25 X w dX1_readDigit_11 ?_
    refine pf1_28 X w dX1_readDigit_14 (fun zs14 H locs ezs14 w => ?_)
    refine lv_aload_n hx hb dX1_readDigit_17 rfl (lv_at hl 0 rfl) ?_
    refine lv_aload_n hx hb dX1_readDigit_18 rfl (lv_at hl 0 rfl) ?_
    refine k_i (rr_v (rest := [.ref (aa G 0 1)]) X w mX1_byteHere kw315 (c_X1_byteHere ) m0_1 rfl rfl ⟨Nat.le_of_ble_eq_true rfl, Nat.le_of_ble_eq_true rfl⟩ rfl hl.1 rfl (Nat.le_of_ble_eq_true rfl) dX1_readDigit_19 ⟨Nat.zero_le _, Nat.zero_le _⟩) w (fun H locs w => ?_)
    refine lv_bipush (v := 48) hx hb dX1_readDigit_22 (by decide) ?_
    refine lv_isub hx hb dX1_readDigit_24 ?_
    refine pf1_25 X w dX1_readDigit_25 (fun zs25 H locs ezs25 w => ?_)
    refine lv_aload_n hx hb dX1_readDigit_28 rfl (lv_at hl 0 rfl) ?_
    change W _ _ _ _ _ _ _ _ _ _ _ _ _ _ _ (F0 m 29 ls _)
    refine lv_dup hx hb dX1_readDigit_29 rfl ?_
    refine gf1_19 X w dX1_readDigit_30 ?_
    refine lv_iconst (v := 1) hx hb dX1_readDigit_33 (by decide) ?_
    refine lv_iadd hx hb dX1_readDigit_34 ?_
    refine pf1_19 X w dX1_readDigit_35 (fun zs35 H locs ezs35 w => ?_)
    refine lv_iconst (v := 1) hx hb dX1_readDigit_38 (by decide) ?_
    exact t_z X w hr hlk isB1.n dX1_readDigit_39 (by replace ezs35 := ezs35.symm; subst ezs35; replace ezs25 := ezs25.symm; subst ezs25; replace ezs14 := ezs14.symm; subst ezs14; simp only [f_X1_readDigit, if_neg zc4]) (by replace ezs35 := ezs35.symm; subst ezs35; replace ezs25 := ezs25.symm; subst ezs25; replace ezs14 := ezs14.symm; subst ezs14; simp only [g_X1_readDigit, if_neg zc4])
  · -- 7
    refine lv_iconst (v := 0) hx hb dX1_readDigit_7 (by decide) ?_
    exact t_z X w hr hlk isB0.n dX1_readDigit_8 (by simp only [f_X1_readDigit, if_pos zc4]) (by simp only [g_X1_readDigit, if_pos zc4])

noncomputable def b_X1_readNumber_15  (k : Nat) (v : Int32 × Int32 × Gr) : Bool × Nat × Int32 × Int32 × Int32 × Gr :=
  if 3 ≤ (nI k) then
    (false, 70, 0, (v.1, v.2.1, v.2.2))
  else
    if v.2.1 = 0 then
      if (f_X1_digitIsHere v.2.2) = 0 then
        (false, 70, 0, (v.1, v.2.1, v.2.2))
      else
        let zv43 : Int32 := ((v.1 * 10) + (f_X1_byteHere v.2.2)) - 48
        if zv43 = 0 then
          let zs61_2 : Gr := up v.2.2 1 2 ((v.2.2 1 2) + 1)
          (true, 0, 0, (zv43, 1, zs61_2))
        else
          let zs61 : Gr := up v.2.2 1 2 ((v.2.2 1 2) + 1)
          (true, 0, 0, (zv43, 0, zs61))
    else
      (false, 70, 0, (v.1, v.2.1, v.2.2))
noncomputable def l_X1_readNumber_15  (v0 : Int32 × Int32 × Gr) : Nat × Int32 × Int32 × Int32 × Gr   := wl (b_X1_readNumber_15) (nn (3 + 1)) 0 v0
noncomputable def f_X1_readNumber (ρ : Gr)  : Int32 :=
  if (f_X1_digitIsHere ρ) = 0 then
    0
  else
    let zl15 : Nat × Int32 × Int32 × Int32 × Gr := (l_X1_readNumber_15 (0, 0, ρ))
    let zs75 : Gr := up zl15.2.2.2.2 1 9 (zl15.2.2.2.2 1 8)
    let zs80 : Gr := up zs75 1 8 zl15.2.2.1
    1
noncomputable def g_X1_readNumber (ρ : Gr)  : Gr :=
  if (f_X1_digitIsHere ρ) = 0 then
    ρ
  else
    let zl15 : Nat × Int32 × Int32 × Int32 × Gr := (l_X1_readNumber_15 (0, 0, ρ))
    let zs75 : Gr := up zl15.2.2.2.2 1 9 (zl15.2.2.2.2 1 8)
    let zs80 : Gr := up zs75 1 8 zl15.2.2.1
    zs80
set_option maxRecDepth 100000 in
set_option maxHeartbeats 4000000 in
theorem lp_X1_readNumber_15 {l : Launch} {G : GG} {p : Program} {e : Env} {s : State} {m : MethodId} {args : Array Value} {below : List Frame} {meth : Method} {c : Code} {Q : State → Prop} {σ : St} (X : Cx p m c cX1_readNumber 4 s args RX1 G)   (z : Nat × Int32 × Int32 × Int32 × Gr)
    (kk70 : z.1 = 70 → ∀ (H : Heap) (locs : List Loc) (ls : Array Slot), Wh G s σ 0 z.2.2.2.2 H locs → lv_has ls 4 [(0, .ref (aa G 0 1)), (1, .int z.2.2.1), (2, .int z.2.2.2.1)] → W p l e (rmv 2 40) s m args below meth c H locs 0 0 Q (F0 m 70 ls [])) :
    ∀ (n k : Nat) (v : Int32 × Int32 × Gr), k ≤ 3 → 3 - k < n → wl (b_X1_readNumber_15) n k v = z → ∀ (H : Heap) (locs : List Loc) (ls : Array Slot), Wh G s σ 0 v.2.2 H locs → lv_has ls 4 [(0, .ref (aa G 0 1)), (1, .int v.1), (2, .int v.2.1), (3, .int (nI k))] → W p l e (rmv 2 40) s m args below meth c H locs 0 0 Q (F0 m 15 ls []) := by
  have hx := X.1.1
  have hb := X.1.2.1
  intro n
  induction n with
  | zero => intro k v _ h; omega
  | succ n ih =>
    intro k v hkN hn hz H locs ls w hl
    refine lv_iload_n hx hb dX1_readNumber_15 rfl (lv_at hl 3 rfl) ?_
    refine lv_iconst (v := 3) hx hb dX1_readNumber_16 (by decide) ?_
    refine lv_icmp_ge (tgt := 70) hx hb dX1_readNumber_17 (by decide) (fun zc17 => ?_) (fun zc17 => ?_)
    · -- 70
      have hz1 : z = ((70, 0, (v.1, v.2.1, v.2.2)) : Nat × Int32 × Int32 × Int32 × Gr) := by rw [← hz]; exact wl_out (by simp only [b_X1_readNumber_15, if_pos zc17])
      subst hz1
      exact kk70 rfl _ _ _ w (lv_sub hl [0, 1, 2] rfl)
    · -- 20
      have hk : k < 3 := (lp_ltN hkN (by decide) zc17)
      refine lv_iload_n hx hb dX1_readNumber_20 rfl (lv_at hl 2 rfl) ?_
      refine lv_if_ne (tgt := 70) hx hb dX1_readNumber_21 (by decide) (fun zc21 => ?_) (fun zc21 => ?_)
      · -- 70
        have hz1 : z = ((70, 0, (v.1, v.2.1, v.2.2)) : Nat × Int32 × Int32 × Int32 × Gr) := by rw [← hz]; exact wl_out (by simp only [b_X1_readNumber_15, if_neg zc17, if_neg zc21])
        subst hz1
        exact kk70 rfl _ _ _ w (lv_sub hl [0, 1, 2] rfl)
      · -- 24
        refine lv_aload_n hx hb dX1_readNumber_24 rfl (lv_at hl 0 rfl) ?_
        refine k_i (rr_v (rest := []) X w mX1_digitIsHere kw323 (c_X1_digitIsHere ) m0_1 rfl rfl ⟨Nat.le_of_ble_eq_true rfl, Nat.le_of_ble_eq_true rfl⟩ rfl hl.1 rfl (Nat.le_of_ble_eq_true rfl) dX1_readNumber_25 ⟨Nat.zero_le _, Nat.zero_le _⟩) w (fun H locs w => ?_)
        refine lv_if_eq (tgt := 70) hx hb dX1_readNumber_28 (by decide) (fun zc28 => ?_) (fun zc28 => ?_)
        · -- 70
          have hz1 : z = ((70, 0, (v.1, v.2.1, v.2.2)) : Nat × Int32 × Int32 × Int32 × Gr) := by rw [← hz]; exact wl_out (by simp only [b_X1_readNumber_15, if_neg zc17, if_pos zc21, if_pos zc28])
          subst hz1
          exact kk70 rfl _ _ _ w (lv_sub hl [0, 1, 2] rfl)
        · -- 31
          refine lv_iload_n hx hb dX1_readNumber_31 rfl (lv_at hl 1 rfl) ?_
          refine lv_bipush (v := 10) hx hb dX1_readNumber_32 (by decide) ?_
          refine lv_imul hx hb dX1_readNumber_34 ?_
          refine lv_aload_n hx hb dX1_readNumber_35 rfl (lv_at hl 0 rfl) ?_
          refine k_i (rr_v (rest := [.int (v.1 * 10)]) X w mX1_byteHere kw315 (c_X1_byteHere ) m0_1 rfl rfl ⟨Nat.le_of_ble_eq_true rfl, Nat.le_of_ble_eq_true rfl⟩ rfl hl.1 rfl (Nat.le_of_ble_eq_true rfl) dX1_readNumber_36 ⟨Nat.zero_le _, Nat.zero_le _⟩) w (fun H locs w => ?_)
          refine lv_iadd hx hb dX1_readNumber_39 ?_
          refine lv_bipush (v := 48) hx hb dX1_readNumber_40 (by decide) ?_
          refine lv_isub hx hb dX1_readNumber_42 ?_
          refine lv_topi (fun zv43 ezv43 => ?_)
          refine lv_istore_n (lv' := [(1, .int zv43), (0, .ref (aa G 0 1)), (2, .int v.2.1), (3, .int (nI k))]) hx hb dX1_readNumber_43 rfl hl (by decide) rfl (fun ls hl => ?_)
          refine lv_iload_n hx hb dX1_readNumber_44 rfl (lv_at hl 0 rfl) ?_
          refine lv_if_ne (tgt := 52) hx hb dX1_readNumber_45 (by decide) (fun zc45 => ?_) (fun zc45 => ?_)
          · -- 52
            refine lv_iconst (v := 0) hx hb dX1_readNumber_52 (by decide) ?_
            refine lv_istore_n (lv' := [(2, .int 0), (1, .int zv43), (0, .ref (aa G 0 1)), (3, .int (nI k))]) hx hb dX1_readNumber_53 rfl hl (by decide) rfl (fun ls hl => ?_)
            refine lv_aload_n hx hb dX1_readNumber_54 rfl (lv_at hl 2 rfl) ?_
            refine lv_dup hx hb dX1_readNumber_55 rfl ?_
            refine gf1_19 X w dX1_readNumber_56 ?_
            refine lv_iconst (v := 1) hx hb dX1_readNumber_59 (by decide) ?_
            refine lv_iadd hx hb dX1_readNumber_60 ?_
            refine pf1_19 X w dX1_readNumber_61 (fun zs61 H locs ezs61 w => ?_)
            refine lv_iinc (v := nI (k + 1)) (lv' := [(3, .int (nI (k + 1))), (2, .int 0), (1, .int zv43), (0, .ref (aa G 0 1))]) hx hb dX1_readNumber_64 hl (k := 3) rfl (nI_1 _) (by decide) rfl (fun ls hl => ?_)
            refine lv_goto (tgt := 15) hx hb dX1_readNumber_67 (by decide) ?_
            have hk : k < 3 := (lp_ltN hkN (by decide) zc17)
            exact ih (k + 1) (zv43, 0, zs61) (by omega) (by omega) (by rw [← hz]; replace ezs61 := ezs61.symm; subst ezs61; replace ezv43 := ezv43.symm; subst ezv43; exact (wl_go (t := 0) (r := 0) (by simp only [b_X1_readNumber_15, if_neg zc17, if_pos zc21, if_neg zc28, if_neg zc45])).symm)  _ _ _ w (lv_sub hl [3, 2, 1, 0] rfl)
          · -- 48
            refine lv_iconst (v := 1) hx hb dX1_readNumber_48 (by decide) ?_
            refine lv_goto (tgt := 53) hx hb dX1_readNumber_49 (by decide) ?_
            refine lv_istore_n (lv' := [(2, .int 1), (1, .int zv43), (0, .ref (aa G 0 1)), (3, .int (nI k))]) hx hb dX1_readNumber_53 rfl hl (by decide) rfl (fun ls hl => ?_)
            refine lv_aload_n hx hb dX1_readNumber_54 rfl (lv_at hl 2 rfl) ?_
            refine lv_dup hx hb dX1_readNumber_55 rfl ?_
            refine gf1_19 X w dX1_readNumber_56 ?_
            refine lv_iconst (v := 1) hx hb dX1_readNumber_59 (by decide) ?_
            refine lv_iadd hx hb dX1_readNumber_60 ?_
            refine pf1_19 X w dX1_readNumber_61 (fun zs61_2 H locs ezs61_2 w => ?_)
            refine lv_iinc (v := nI (k + 1)) (lv' := [(3, .int (nI (k + 1))), (2, .int 1), (1, .int zv43), (0, .ref (aa G 0 1))]) hx hb dX1_readNumber_64 hl (k := 3) rfl (nI_1 _) (by decide) rfl (fun ls hl => ?_)
            refine lv_goto (tgt := 15) hx hb dX1_readNumber_67 (by decide) ?_
            have hk : k < 3 := (lp_ltN hkN (by decide) zc17)
            exact ih (k + 1) (zv43, 1, zs61_2) (by omega) (by omega) (by rw [← hz]; replace ezs61_2 := ezs61_2.symm; subst ezs61_2; replace ezv43 := ezv43.symm; subst ezv43; exact (wl_go (t := 0) (r := 0) (by simp only [b_X1_readNumber_15, if_neg zc17, if_pos zc21, if_neg zc28, if_pos zc45])).symm)  _ _ _ w (lv_sub hl [3, 2, 1, 0] rfl)
set_option maxRecDepth 100000 in
set_option maxHeartbeats 4000000 in
theorem c_X1_readNumber {l : Launch} {G : GG} {σ : St} {ρ : Gr}   : MM l G yX1_readNumber cX1_readNumber 4 2 40 (some .boolean) [.ref (aa G 0 1)] (setG σ 0 ρ) (Qi G (f_X1_readNumber ρ) (setG σ 0 (g_X1_readNumber ρ))) := by
  refine MM.of (by decide) (Nat.le_of_ble_eq_true rfl) ?_
  intro p e s m below meth c ls X hr hlk w hl
  have hx := X.1.1
  have hb := X.1.2.1
  have hl : lv_has ls 4 [(0, .ref (aa G 0 1))] := hl
  refine lv_aload_n hx hb dX1_readNumber_0 rfl (lv_at hl 0 rfl) ?_
  refine k_i (rr_v (rest := []) X w mX1_digitIsHere kw323 (c_X1_digitIsHere ) m0_1 rfl rfl ⟨Nat.le_of_ble_eq_true rfl, Nat.le_of_ble_eq_true rfl⟩ rfl hl.1 rfl (Nat.le_of_ble_eq_true rfl) dX1_readNumber_1 ⟨Nat.zero_le _, Nat.zero_le _⟩) w (fun H locs w => ?_)
  refine lv_if_ne (tgt := 9) hx hb dX1_readNumber_4 (by decide) (fun zc4 => ?_) (fun zc4 => ?_)
  · -- 9
    refine lv_iconst (v := 0) hx hb dX1_readNumber_9 (by decide) ?_
    refine lv_istore_n (lv' := [(1, .int 0), (0, .ref (aa G 0 1))]) hx hb dX1_readNumber_10 rfl hl (by decide) rfl (fun ls hl => ?_)
    refine lv_iconst (v := 0) hx hb dX1_readNumber_11 (by decide) ?_
    refine lv_istore_n (lv' := [(2, .int 0), (1, .int 0), (0, .ref (aa G 0 1))]) hx hb dX1_readNumber_12 rfl hl (by decide) rfl (fun ls hl => ?_)
    refine lv_iconst (v := 0) hx hb dX1_readNumber_13 (by decide) ?_
    refine lv_istore_n (lv' := [(3, .int 0), (2, .int 0), (1, .int 0), (0, .ref (aa G 0 1))]) hx hb dX1_readNumber_14 rfl hl (by decide) rfl (fun ls hl => ?_)
    obtain ⟨zl15, ezl15⟩ : ∃ y : Nat × Int32 × Int32 × Int32 × Gr, y = (l_X1_readNumber_15 (0, 0, ρ)) := ⟨_, rfl⟩
    refine lp_X1_readNumber_15 X   zl15 (fun hz70 H locs ls w hl => ?_) (nn (3 + 1)) 0 (0, 0, ρ) (Nat.zero_le _) (by rw [nn_eq]; exact Nat.lt_succ_of_le (Nat.sub_le _ _)) ezl15.symm  _ _ _ w (lv_sub hl [3, 2, 1, 0] rfl)
    · -- leaves at 70
      refine lv_aload_n hx hb dX1_readNumber_70 rfl (lv_at hl 0 rfl) ?_
      refine lv_aload_n hx hb dX1_readNumber_71 rfl (lv_at hl 0 rfl) ?_
      refine gf1_37 X w dX1_readNumber_72 ?_
      refine pf1_40 X w dX1_readNumber_75 (fun zs75 H locs ezs75 w => ?_)
      refine lv_aload_n hx hb dX1_readNumber_78 rfl (lv_at hl 0 rfl) ?_
      refine lv_iload_n hx hb dX1_readNumber_79 rfl (lv_at hl 1 rfl) ?_
      refine pf1_37 X w dX1_readNumber_80 (fun zs80 H locs ezs80 w => ?_)
      refine lv_iconst (v := 1) hx hb dX1_readNumber_83 (by decide) ?_
      exact t_z X w hr hlk isB1.n dX1_readNumber_84 (by replace ezs80 := ezs80.symm; subst ezs80; replace ezs75 := ezs75.symm; subst ezs75; replace ezl15 := ezl15.symm; subst ezl15; simp only [f_X1_readNumber, if_neg zc4]) (by replace ezs80 := ezs80.symm; subst ezs80; replace ezs75 := ezs75.symm; subst ezs75; replace ezl15 := ezl15.symm; subst ezl15; simp only [g_X1_readNumber, if_neg zc4])
  · -- 7
    refine lv_iconst (v := 0) hx hb dX1_readNumber_7 (by decide) ?_
    exact t_z X w hr hlk isB0.n dX1_readNumber_8 (by simp only [f_X1_readNumber, if_pos zc4]) (by simp only [g_X1_readNumber, if_pos zc4])

noncomputable def f_X1_readKind (ρ : Gr)  : Int32 :=
  if (f_X1_byteHere ρ) = 110 then
    let zs15_2 : Gr := up ρ 1 6 1
    if (zs15_2 1 6) = 1 then
      let zs34_4 : Gr := g_X1_readSign zs15_2 110
      f_X1_readSign zs15_2 110
    else
      let zs34_3 : Gr := g_X1_readSign zs15_2 115
      f_X1_readSign zs15_2 115
  else
    let zs15 : Gr := up ρ 1 6 0
    if (zs15 1 6) = 1 then
      let zs34_2 : Gr := g_X1_readSign zs15 110
      f_X1_readSign zs15 110
    else
      let zs34 : Gr := g_X1_readSign zs15 115
      f_X1_readSign zs15 115
noncomputable def g_X1_readKind (ρ : Gr)  : Gr :=
  if (f_X1_byteHere ρ) = 110 then
    let zs15_2 : Gr := up ρ 1 6 1
    if (zs15_2 1 6) = 1 then
      let zs34_4 : Gr := g_X1_readSign zs15_2 110
      zs34_4
    else
      let zs34_3 : Gr := g_X1_readSign zs15_2 115
      zs34_3
  else
    let zs15 : Gr := up ρ 1 6 0
    if (zs15 1 6) = 1 then
      let zs34_2 : Gr := g_X1_readSign zs15 110
      zs34_2
    else
      let zs34 : Gr := g_X1_readSign zs15 115
      zs34
set_option maxRecDepth 100000 in
set_option maxHeartbeats 4000000 in
theorem c_X1_readKind {l : Launch} {G : GG} {σ : St} {ρ : Gr}   : MM l G yX1_readKind cX1_readKind 1 2 41 (some .boolean) [.ref (aa G 0 1)] (setG σ 0 ρ) (Qi G (f_X1_readKind ρ) (setG σ 0 (g_X1_readKind ρ))) := by
  refine MM.of (by decide) (Nat.le_of_ble_eq_true rfl) ?_
  intro p e s m below meth c ls X hr hlk w hl
  have hx := X.1.1
  have hb := X.1.2.1
  have hl : lv_has ls 1 [(0, .ref (aa G 0 1))] := hl
  refine lv_aload_n hx hb dX1_readKind_0 rfl (lv_at hl 0 rfl) ?_
  refine lv_aload_n hx hb dX1_readKind_1 rfl (lv_at hl 0 rfl) ?_
  refine k_i (rr_v (rest := [.ref (aa G 0 1)]) X w mX1_byteHere kw315 (c_X1_byteHere ) m0_1 rfl rfl ⟨Nat.le_of_ble_eq_true rfl, Nat.le_of_ble_eq_true rfl⟩ rfl hl.1 rfl (Nat.le_of_ble_eq_true rfl) dX1_readKind_2 ⟨Nat.zero_le _, Nat.zero_le _⟩) w (fun H locs w => ?_)
  refine lv_bipush (v := 110) hx hb dX1_readKind_5 (by decide) ?_
  refine lv_icmp_ne (tgt := 14) hx hb dX1_readKind_7 (by decide) (fun zc7 => ?_) (fun zc7 => ?_)
  · -- 14
    refine lv_iconst (v := 0) hx hb dX1_readKind_14 (by decide) ?_
    refine pf1_31 X w dX1_readKind_15 (fun zs15 H locs ezs15 w => ?_)
    refine lv_aload_n hx hb dX1_readKind_18 rfl (lv_at hl 0 rfl) ?_
    refine lv_aload_n hx hb dX1_readKind_19 rfl (lv_at hl 0 rfl) ?_
    refine gf1_31 X w dX1_readKind_20 ?_
    refine lv_iconst (v := 1) hx hb dX1_readKind_23 (by decide) ?_
    refine lv_icmp_ne (tgt := 32) hx hb dX1_readKind_24 (by decide) (fun zc24 => ?_) (fun zc24 => ?_)
    · -- 32
      refine lv_bipush (v := 115) hx hb dX1_readKind_32 (by decide) ?_
      refine k_i (rr_v (rest := []) X w mX1_readSign kw327 (c_X1_readSign 115) m0_1 rfl rfl ⟨Nat.le_of_ble_eq_true rfl, Nat.le_of_ble_eq_true rfl⟩ rfl hl.1 rfl (Nat.le_of_ble_eq_true rfl) dX1_readKind_34 ⟨Nat.zero_le _, Nat.zero_le _⟩) w (fun H locs w => ?_)
      obtain ⟨zs34, ezs34⟩ : ∃ y : Gr, y = g_X1_readSign zs15 115 := ⟨_, rfl⟩; rw [← ezs34] at w
      exact t_z X w hr hlk (rs_isB _ _).n dX1_readKind_37 (by replace ezs34 := ezs34.symm; subst ezs34; replace ezs15 := ezs15.symm; subst ezs15; simp only [f_X1_readKind, if_neg zc7, if_neg zc24]) (by replace ezs34 := ezs34.symm; subst ezs34; replace ezs15 := ezs15.symm; subst ezs15; simp only [g_X1_readKind, if_neg zc7, if_neg zc24])
    · -- 27
      refine lv_bipush (v := 110) hx hb dX1_readKind_27 (by decide) ?_
      refine lv_goto (tgt := 34) hx hb dX1_readKind_29 (by decide) ?_
      refine k_i (rr_v (rest := []) X w mX1_readSign kw327 (c_X1_readSign 110) m0_1 rfl rfl ⟨Nat.le_of_ble_eq_true rfl, Nat.le_of_ble_eq_true rfl⟩ rfl hl.1 rfl (Nat.le_of_ble_eq_true rfl) dX1_readKind_34 ⟨Nat.zero_le _, Nat.zero_le _⟩) w (fun H locs w => ?_)
      obtain ⟨zs34_2, ezs34_2⟩ : ∃ y : Gr, y = g_X1_readSign zs15 110 := ⟨_, rfl⟩; rw [← ezs34_2] at w
      exact t_z X w hr hlk (rs_isB _ _).n dX1_readKind_37 (by replace ezs34_2 := ezs34_2.symm; subst ezs34_2; replace ezs15 := ezs15.symm; subst ezs15; simp only [f_X1_readKind, if_neg zc7, if_pos zc24]) (by replace ezs34_2 := ezs34_2.symm; subst ezs34_2; replace ezs15 := ezs15.symm; subst ezs15; simp only [g_X1_readKind, if_neg zc7, if_pos zc24])
  · -- 10
    refine lv_iconst (v := 1) hx hb dX1_readKind_10 (by decide) ?_
    refine lv_goto (tgt := 15) hx hb dX1_readKind_11 (by decide) ?_
    refine pf1_31 X w dX1_readKind_15 (fun zs15_2 H locs ezs15_2 w => ?_)
    refine lv_aload_n hx hb dX1_readKind_18 rfl (lv_at hl 0 rfl) ?_
    refine lv_aload_n hx hb dX1_readKind_19 rfl (lv_at hl 0 rfl) ?_
    refine gf1_31 X w dX1_readKind_20 ?_
    refine lv_iconst (v := 1) hx hb dX1_readKind_23 (by decide) ?_
    refine lv_icmp_ne (tgt := 32) hx hb dX1_readKind_24 (by decide) (fun zc24 => ?_) (fun zc24 => ?_)
    · -- 32
      refine lv_bipush (v := 115) hx hb dX1_readKind_32 (by decide) ?_
      refine k_i (rr_v (rest := []) X w mX1_readSign kw327 (c_X1_readSign 115) m0_1 rfl rfl ⟨Nat.le_of_ble_eq_true rfl, Nat.le_of_ble_eq_true rfl⟩ rfl hl.1 rfl (Nat.le_of_ble_eq_true rfl) dX1_readKind_34 ⟨Nat.zero_le _, Nat.zero_le _⟩) w (fun H locs w => ?_)
      obtain ⟨zs34_3, ezs34_3⟩ : ∃ y : Gr, y = g_X1_readSign zs15_2 115 := ⟨_, rfl⟩; rw [← ezs34_3] at w
      exact t_z X w hr hlk (rs_isB _ _).n dX1_readKind_37 (by replace ezs34_3 := ezs34_3.symm; subst ezs34_3; replace ezs15_2 := ezs15_2.symm; subst ezs15_2; simp only [f_X1_readKind, if_pos zc7, if_neg zc24]) (by replace ezs34_3 := ezs34_3.symm; subst ezs34_3; replace ezs15_2 := ezs15_2.symm; subst ezs15_2; simp only [g_X1_readKind, if_pos zc7, if_neg zc24])
    · -- 27
      refine lv_bipush (v := 110) hx hb dX1_readKind_27 (by decide) ?_
      refine lv_goto (tgt := 34) hx hb dX1_readKind_29 (by decide) ?_
      refine k_i (rr_v (rest := []) X w mX1_readSign kw327 (c_X1_readSign 110) m0_1 rfl rfl ⟨Nat.le_of_ble_eq_true rfl, Nat.le_of_ble_eq_true rfl⟩ rfl hl.1 rfl (Nat.le_of_ble_eq_true rfl) dX1_readKind_34 ⟨Nat.zero_le _, Nat.zero_le _⟩) w (fun H locs w => ?_)
      obtain ⟨zs34_4, ezs34_4⟩ : ∃ y : Gr, y = g_X1_readSign zs15_2 110 := ⟨_, rfl⟩; rw [← ezs34_4] at w
      exact t_z X w hr hlk (rs_isB _ _).n dX1_readKind_37 (by replace ezs34_4 := ezs34_4.symm; subst ezs34_4; replace ezs15_2 := ezs15_2.symm; subst ezs15_2; simp only [f_X1_readKind, if_pos zc7, if_pos zc24]) (by replace ezs34_4 := ezs34_4.symm; subst ezs34_4; replace ezs15_2 := ezs15_2.symm; subst ezs15_2; simp only [g_X1_readKind, if_pos zc7, if_pos zc24])

noncomputable def f_X1_readStuff (ρ : Gr)  : Int32 :=
  if (f_X1_byteHere ρ) = 77 then
    let zs15_2 : Gr := up ρ 1 7 1
    if (zs15_2 1 7) = 1 then
      let zs34_4 : Gr := g_X1_readSign zs15_2 77
      f_X1_readSign zs15_2 77
    else
      let zs34_3 : Gr := g_X1_readSign zs15_2 83
      f_X1_readSign zs15_2 83
  else
    let zs15 : Gr := up ρ 1 7 0
    if (zs15 1 7) = 1 then
      let zs34_2 : Gr := g_X1_readSign zs15 77
      f_X1_readSign zs15 77
    else
      let zs34 : Gr := g_X1_readSign zs15 83
      f_X1_readSign zs15 83
noncomputable def g_X1_readStuff (ρ : Gr)  : Gr :=
  if (f_X1_byteHere ρ) = 77 then
    let zs15_2 : Gr := up ρ 1 7 1
    if (zs15_2 1 7) = 1 then
      let zs34_4 : Gr := g_X1_readSign zs15_2 77
      zs34_4
    else
      let zs34_3 : Gr := g_X1_readSign zs15_2 83
      zs34_3
  else
    let zs15 : Gr := up ρ 1 7 0
    if (zs15 1 7) = 1 then
      let zs34_2 : Gr := g_X1_readSign zs15 77
      zs34_2
    else
      let zs34 : Gr := g_X1_readSign zs15 83
      zs34
set_option maxRecDepth 100000 in
set_option maxHeartbeats 4000000 in
theorem c_X1_readStuff {l : Launch} {G : GG} {σ : St} {ρ : Gr}   : MM l G yX1_readStuff cX1_readStuff 1 2 41 (some .boolean) [.ref (aa G 0 1)] (setG σ 0 ρ) (Qi G (f_X1_readStuff ρ) (setG σ 0 (g_X1_readStuff ρ))) := by
  refine MM.of (by decide) (Nat.le_of_ble_eq_true rfl) ?_
  intro p e s m below meth c ls X hr hlk w hl
  have hx := X.1.1
  have hb := X.1.2.1
  have hl : lv_has ls 1 [(0, .ref (aa G 0 1))] := hl
  refine lv_aload_n hx hb dX1_readStuff_0 rfl (lv_at hl 0 rfl) ?_
  refine lv_aload_n hx hb dX1_readStuff_1 rfl (lv_at hl 0 rfl) ?_
  refine k_i (rr_v (rest := [.ref (aa G 0 1)]) X w mX1_byteHere kw315 (c_X1_byteHere ) m0_1 rfl rfl ⟨Nat.le_of_ble_eq_true rfl, Nat.le_of_ble_eq_true rfl⟩ rfl hl.1 rfl (Nat.le_of_ble_eq_true rfl) dX1_readStuff_2 ⟨Nat.zero_le _, Nat.zero_le _⟩) w (fun H locs w => ?_)
  refine lv_bipush (v := 77) hx hb dX1_readStuff_5 (by decide) ?_
  refine lv_icmp_ne (tgt := 14) hx hb dX1_readStuff_7 (by decide) (fun zc7 => ?_) (fun zc7 => ?_)
  · -- 14
    refine lv_iconst (v := 0) hx hb dX1_readStuff_14 (by decide) ?_
    refine pf1_34 X w dX1_readStuff_15 (fun zs15 H locs ezs15 w => ?_)
    refine lv_aload_n hx hb dX1_readStuff_18 rfl (lv_at hl 0 rfl) ?_
    refine lv_aload_n hx hb dX1_readStuff_19 rfl (lv_at hl 0 rfl) ?_
    refine gf1_34 X w dX1_readStuff_20 ?_
    refine lv_iconst (v := 1) hx hb dX1_readStuff_23 (by decide) ?_
    refine lv_icmp_ne (tgt := 32) hx hb dX1_readStuff_24 (by decide) (fun zc24 => ?_) (fun zc24 => ?_)
    · -- 32
      refine lv_bipush (v := 83) hx hb dX1_readStuff_32 (by decide) ?_
      refine k_i (rr_v (rest := []) X w mX1_readSign kw327 (c_X1_readSign 83) m0_1 rfl rfl ⟨Nat.le_of_ble_eq_true rfl, Nat.le_of_ble_eq_true rfl⟩ rfl hl.1 rfl (Nat.le_of_ble_eq_true rfl) dX1_readStuff_34 ⟨Nat.zero_le _, Nat.zero_le _⟩) w (fun H locs w => ?_)
      obtain ⟨zs34, ezs34⟩ : ∃ y : Gr, y = g_X1_readSign zs15 83 := ⟨_, rfl⟩; rw [← ezs34] at w
      exact t_z X w hr hlk (rs_isB _ _).n dX1_readStuff_37 (by replace ezs34 := ezs34.symm; subst ezs34; replace ezs15 := ezs15.symm; subst ezs15; simp only [f_X1_readStuff, if_neg zc7, if_neg zc24]) (by replace ezs34 := ezs34.symm; subst ezs34; replace ezs15 := ezs15.symm; subst ezs15; simp only [g_X1_readStuff, if_neg zc7, if_neg zc24])
    · -- 27
      refine lv_bipush (v := 77) hx hb dX1_readStuff_27 (by decide) ?_
      refine lv_goto (tgt := 34) hx hb dX1_readStuff_29 (by decide) ?_
      refine k_i (rr_v (rest := []) X w mX1_readSign kw327 (c_X1_readSign 77) m0_1 rfl rfl ⟨Nat.le_of_ble_eq_true rfl, Nat.le_of_ble_eq_true rfl⟩ rfl hl.1 rfl (Nat.le_of_ble_eq_true rfl) dX1_readStuff_34 ⟨Nat.zero_le _, Nat.zero_le _⟩) w (fun H locs w => ?_)
      obtain ⟨zs34_2, ezs34_2⟩ : ∃ y : Gr, y = g_X1_readSign zs15 77 := ⟨_, rfl⟩; rw [← ezs34_2] at w
      exact t_z X w hr hlk (rs_isB _ _).n dX1_readStuff_37 (by replace ezs34_2 := ezs34_2.symm; subst ezs34_2; replace ezs15 := ezs15.symm; subst ezs15; simp only [f_X1_readStuff, if_neg zc7, if_pos zc24]) (by replace ezs34_2 := ezs34_2.symm; subst ezs34_2; replace ezs15 := ezs15.symm; subst ezs15; simp only [g_X1_readStuff, if_neg zc7, if_pos zc24])
  · -- 10
    refine lv_iconst (v := 1) hx hb dX1_readStuff_10 (by decide) ?_
    refine lv_goto (tgt := 15) hx hb dX1_readStuff_11 (by decide) ?_
    refine pf1_34 X w dX1_readStuff_15 (fun zs15_2 H locs ezs15_2 w => ?_)
    refine lv_aload_n hx hb dX1_readStuff_18 rfl (lv_at hl 0 rfl) ?_
    refine lv_aload_n hx hb dX1_readStuff_19 rfl (lv_at hl 0 rfl) ?_
    refine gf1_34 X w dX1_readStuff_20 ?_
    refine lv_iconst (v := 1) hx hb dX1_readStuff_23 (by decide) ?_
    refine lv_icmp_ne (tgt := 32) hx hb dX1_readStuff_24 (by decide) (fun zc24 => ?_) (fun zc24 => ?_)
    · -- 32
      refine lv_bipush (v := 83) hx hb dX1_readStuff_32 (by decide) ?_
      refine k_i (rr_v (rest := []) X w mX1_readSign kw327 (c_X1_readSign 83) m0_1 rfl rfl ⟨Nat.le_of_ble_eq_true rfl, Nat.le_of_ble_eq_true rfl⟩ rfl hl.1 rfl (Nat.le_of_ble_eq_true rfl) dX1_readStuff_34 ⟨Nat.zero_le _, Nat.zero_le _⟩) w (fun H locs w => ?_)
      obtain ⟨zs34_3, ezs34_3⟩ : ∃ y : Gr, y = g_X1_readSign zs15_2 83 := ⟨_, rfl⟩; rw [← ezs34_3] at w
      exact t_z X w hr hlk (rs_isB _ _).n dX1_readStuff_37 (by replace ezs34_3 := ezs34_3.symm; subst ezs34_3; replace ezs15_2 := ezs15_2.symm; subst ezs15_2; simp only [f_X1_readStuff, if_pos zc7, if_neg zc24]) (by replace ezs34_3 := ezs34_3.symm; subst ezs34_3; replace ezs15_2 := ezs15_2.symm; subst ezs15_2; simp only [g_X1_readStuff, if_pos zc7, if_neg zc24])
    · -- 27
      refine lv_bipush (v := 77) hx hb dX1_readStuff_27 (by decide) ?_
      refine lv_goto (tgt := 34) hx hb dX1_readStuff_29 (by decide) ?_
      refine k_i (rr_v (rest := []) X w mX1_readSign kw327 (c_X1_readSign 77) m0_1 rfl rfl ⟨Nat.le_of_ble_eq_true rfl, Nat.le_of_ble_eq_true rfl⟩ rfl hl.1 rfl (Nat.le_of_ble_eq_true rfl) dX1_readStuff_34 ⟨Nat.zero_le _, Nat.zero_le _⟩) w (fun H locs w => ?_)
      obtain ⟨zs34_4, ezs34_4⟩ : ∃ y : Gr, y = g_X1_readSign zs15_2 77 := ⟨_, rfl⟩; rw [← ezs34_4] at w
      exact t_z X w hr hlk (rs_isB _ _).n dX1_readStuff_37 (by replace ezs34_4 := ezs34_4.symm; subst ezs34_4; replace ezs15_2 := ezs15_2.symm; subst ezs15_2; simp only [f_X1_readStuff, if_pos zc7, if_pos zc24]) (by replace ezs34_4 := ezs34_4.symm; subst ezs34_4; replace ezs15_2 := ezs15_2.symm; subst ezs15_2; simp only [g_X1_readStuff, if_pos zc7, if_pos zc24])

noncomputable def b_X1_readMoon_12  (k : Nat) (v : Gr) : Bool × Nat × Int32 × Gr :=
  if 28 ≤ (nI k) then
    (false, 56, 0, v)
  else
    let zs19 : Gr := g_X1_readKind v
    if (f_X1_readKind v) = 0 then
      (false, 56, 0, zs19)
    else
      let zs37 : Gr := up zs19 1 11 ((zs19 1 11) ||| ((zs19 1 6) <<< ((nI k) &&& 31)))
      let zs47 : Gr := up zs37 1 10 ((zs37 1 10) + 1)
      (true, 0, 0, zs47)
noncomputable def l_X1_readMoon_12  (v0 : Gr) : Nat × Int32 × Gr   := wl (b_X1_readMoon_12) (nn (28 + 1)) 0 v0
noncomputable def f_X1_readMoon (ρ : Gr)  : Int32 :=
  let zs2 : Gr := up ρ 1 10 0
  let zs7 : Gr := up zs2 1 11 0
  let zl12 : Nat × Int32 × Gr := (l_X1_readMoon_12 zs7)
  if (zl12.2.2 1 10) ≤ 0 then
    0
  else
    1
noncomputable def g_X1_readMoon (ρ : Gr)  : Gr :=
  let zs2 : Gr := up ρ 1 10 0
  let zs7 : Gr := up zs2 1 11 0
  let zl12 : Nat × Int32 × Gr := (l_X1_readMoon_12 zs7)
  zl12.2.2
set_option maxRecDepth 100000 in
set_option maxHeartbeats 4000000 in
theorem lp_X1_readMoon_12 {l : Launch} {G : GG} {p : Program} {e : Env} {s : State} {m : MethodId} {args : Array Value} {below : List Frame} {meth : Method} {c : Code} {Q : State → Prop} {σ : St} (X : Cx p m c cX1_readMoon 2 s args RX1 G)   (z : Nat × Int32 × Gr)
    (kk56 : z.1 = 56 → ∀ (H : Heap) (locs : List Loc) (ls : Array Slot), Wh G s σ 0 z.2.2 H locs → lv_has ls 2 [(0, .ref (aa G 0 1))] → W p l e (rmv 3 61) s m args below meth c H locs 0 0 Q (F0 m 56 ls [])) :
    ∀ (n k : Nat) (v : Gr), k ≤ 28 → 28 - k < n → wl (b_X1_readMoon_12) n k v = z → ∀ (H : Heap) (locs : List Loc) (ls : Array Slot), Wh G s σ 0 v H locs → lv_has ls 2 [(0, .ref (aa G 0 1)), (1, .int (nI k))] → W p l e (rmv 3 61) s m args below meth c H locs 0 0 Q (F0 m 12 ls []) := by
  have hx := X.1.1
  have hb := X.1.2.1
  intro n
  induction n with
  | zero => intro k v _ h; omega
  | succ n ih =>
    intro k v hkN hn hz H locs ls w hl
    refine lv_iload_n hx hb dX1_readMoon_12 rfl (lv_at hl 1 rfl) ?_
    refine lv_bipush (v := 28) hx hb dX1_readMoon_13 (by decide) ?_
    refine lv_icmp_ge (tgt := 56) hx hb dX1_readMoon_15 (by decide) (fun zc15 => ?_) (fun zc15 => ?_)
    · -- 56
      have hz1 : z = ((56, 0, v) : Nat × Int32 × Gr) := by rw [← hz]; exact wl_out (by simp only [b_X1_readMoon_12, if_pos zc15])
      subst hz1
      exact kk56 rfl _ _ _ w (lv_sub hl [0] rfl)
    · -- 18
      have hk : k < 28 := (lp_ltN hkN (by decide) zc15)
      refine lv_aload_n hx hb dX1_readMoon_18 rfl (lv_at hl 0 rfl) ?_
      refine k_i (rr_v (rest := []) X w mX1_readKind kw335 (c_X1_readKind ) m0_1 rfl rfl ⟨Nat.le_of_ble_eq_true rfl, Nat.le_of_ble_eq_true rfl⟩ rfl hl.1 rfl (Nat.le_of_ble_eq_true rfl) dX1_readMoon_19 ⟨Nat.zero_le _, Nat.zero_le _⟩) w (fun H locs w => ?_)
      obtain ⟨zs19, ezs19⟩ : ∃ y : Gr, y = g_X1_readKind v := ⟨_, rfl⟩; rw [← ezs19] at w
      refine lv_if_eq (tgt := 56) hx hb dX1_readMoon_22 (by decide) (fun zc22 => ?_) (fun zc22 => ?_)
      · -- 56
        have hz1 : z = ((56, 0, zs19) : Nat × Int32 × Gr) := by rw [← hz]; replace ezs19 := ezs19.symm; subst ezs19; exact wl_out (by simp only [b_X1_readMoon_12, if_neg zc15, if_pos zc22])
        subst hz1
        exact kk56 rfl _ _ _ w (lv_sub hl [0] rfl)
      · -- 25
        refine lv_aload_n hx hb dX1_readMoon_25 rfl (lv_at hl 0 rfl) ?_
        refine lv_dup hx hb dX1_readMoon_26 rfl ?_
        refine gf1_46 X w dX1_readMoon_27 ?_
        refine lv_aload_n hx hb dX1_readMoon_30 rfl (lv_at hl 0 rfl) ?_
        refine gf1_31 X w dX1_readMoon_31 ?_
        refine lv_iload_n hx hb dX1_readMoon_34 rfl (lv_at hl 1 rfl) ?_
        refine lv_ishl hx hb dX1_readMoon_35 ?_
        refine lv_ior hx hb dX1_readMoon_36 ?_
        refine pf1_46 X w dX1_readMoon_37 (fun zs37 H locs ezs37 w => ?_)
        refine lv_aload_n hx hb dX1_readMoon_40 rfl (lv_at hl 0 rfl) ?_
        refine lv_dup hx hb dX1_readMoon_41 rfl ?_
        change W _ _ _ _ _ _ _ _ _ _ _ _ _ _ _ (F0 m 42 ls _)
        refine gf1_43 X w dX1_readMoon_42 ?_
        refine lv_iconst (v := 1) hx hb dX1_readMoon_45 (by decide) ?_
        refine lv_iadd hx hb dX1_readMoon_46 ?_
        refine pf1_43 X w dX1_readMoon_47 (fun zs47 H locs ezs47 w => ?_)
        refine lv_iinc (v := nI (k + 1)) (lv' := [(1, .int (nI (k + 1))), (0, .ref (aa G 0 1))]) hx hb dX1_readMoon_50 hl (k := 1) rfl (nI_1 _) (by decide) rfl (fun ls hl => ?_)
        refine lv_goto (tgt := 12) hx hb dX1_readMoon_53 (by decide) ?_
        have hk : k < 28 := (lp_ltN hkN (by decide) zc15)
        exact ih (k + 1) zs47 (by omega) (by omega) (by rw [← hz]; replace ezs47 := ezs47.symm; subst ezs47; replace ezs37 := ezs37.symm; subst ezs37; replace ezs19 := ezs19.symm; subst ezs19; exact (wl_go (t := 0) (r := 0) (by simp only [b_X1_readMoon_12, if_neg zc15, if_neg zc22])).symm)  _ _ _ w (lv_sub hl [1, 0] rfl)
set_option maxRecDepth 100000 in
set_option maxHeartbeats 4000000 in
theorem c_X1_readMoon {l : Launch} {G : GG} {σ : St} {ρ : Gr}   : MM l G yX1_readMoon cX1_readMoon 2 3 61 (some .boolean) [.ref (aa G 0 1)] (setG σ 0 ρ) (Qi G (f_X1_readMoon ρ) (setG σ 0 (g_X1_readMoon ρ))) := by
  refine MM.of (by decide) (Nat.le_of_ble_eq_true rfl) ?_
  intro p e s m below meth c ls X hr hlk w hl
  have hx := X.1.1
  have hb := X.1.2.1
  have hl : lv_has ls 2 [(0, .ref (aa G 0 1))] := hl
  refine lv_aload_n hx hb dX1_readMoon_0 rfl (lv_at hl 0 rfl) ?_
  refine lv_iconst (v := 0) hx hb dX1_readMoon_1 (by decide) ?_
  refine pf1_43 X w dX1_readMoon_2 (fun zs2 H locs ezs2 w => ?_)
  refine lv_aload_n hx hb dX1_readMoon_5 rfl (lv_at hl 0 rfl) ?_
  refine lv_iconst (v := 0) hx hb dX1_readMoon_6 (by decide) ?_
  refine pf1_46 X w dX1_readMoon_7 (fun zs7 H locs ezs7 w => ?_)
  refine lv_iconst (v := 0) hx hb dX1_readMoon_10 (by decide) ?_
  refine lv_istore_n (lv' := [(1, .int 0), (0, .ref (aa G 0 1))]) hx hb dX1_readMoon_11 rfl hl (by decide) rfl (fun ls hl => ?_)
  obtain ⟨zl12, ezl12⟩ : ∃ y : Nat × Int32 × Gr, y = (l_X1_readMoon_12 zs7) := ⟨_, rfl⟩
  refine lp_X1_readMoon_12 X   zl12 (fun hz56 H locs ls w hl => ?_) (nn (28 + 1)) 0 zs7 (Nat.zero_le _) (by rw [nn_eq]; exact Nat.lt_succ_of_le (Nat.sub_le _ _)) ezl12.symm  _ _ _ w (lv_sub hl [1, 0] rfl)
  · -- leaves at 56
    refine lv_aload_n hx hb dX1_readMoon_56 rfl (lv_at hl 0 rfl) ?_
    refine gf1_43 X w dX1_readMoon_57 ?_
    refine lv_if_le (tgt := 67) hx hb dX1_readMoon_60 (by decide) (fun zc60 => ?_) (fun zc60 => ?_)
    · -- 67
      refine lv_iconst (v := 0) hx hb dX1_readMoon_67 (by decide) ?_
      exact t_z X w hr hlk isB0.n dX1_readMoon_68 (by replace ezl12 := ezl12.symm; subst ezl12; replace ezs7 := ezs7.symm; subst ezs7; replace ezs2 := ezs2.symm; subst ezs2; simp only [f_X1_readMoon, if_pos zc60]) (by replace ezl12 := ezl12.symm; subst ezl12; replace ezs7 := ezs7.symm; subst ezs7; replace ezs2 := ezs2.symm; subst ezs2; simp only [g_X1_readMoon, if_pos zc60])
    · -- 63
      refine lv_iconst (v := 1) hx hb dX1_readMoon_63 (by decide) ?_
      refine lv_goto (tgt := 68) hx hb dX1_readMoon_64 (by decide) ?_
      exact t_z X w hr hlk isB1.n dX1_readMoon_68 (by replace ezl12 := ezl12.symm; subst ezl12; replace ezs7 := ezs7.symm; subst ezs7; replace ezs2 := ezs2.symm; subst ezs2; simp only [f_X1_readMoon, if_neg zc60]) (by replace ezl12 := ezl12.symm; subst ezl12; replace ezs7 := ezs7.symm; subst ezs7; replace ezs2 := ezs2.symm; subst ezs2; simp only [g_X1_readMoon, if_neg zc60])

noncomputable def f_X1_readStatement (ρ : Gr)  : Int32 :=
  let zs5 : Gr := up ρ 1 3 (f_X1_byteHere ρ)
  if (zs5 1 3) = 99 then
    let zs63 : Gr := up zs5 1 2 ((zs5 1 2) + 1)
    let zs67 : Gr := g_X1_readNumber zs63
    if (f_X1_readNumber zs63) = 0 then
      0
    else
      let zs76 : Gr := g_X1_readSign zs67 44
      if (f_X1_readSign zs67 44) = 0 then
        0
      else
        let zs83 : Gr := g_X1_readNumber zs76
        if (f_X1_readNumber zs76) = 0 then
          0
        else
          let zs92 : Gr := g_X1_readSign zs83 59
          if (f_X1_readSign zs83 59) = 0 then
            0
          else
            1
  else
    if (zs5 1 3) = 109 then
      let zs217 : Gr := up zs5 1 2 ((zs5 1 2) + 1)
      let zs221 : Gr := g_X1_readMoon zs217
      if (f_X1_readMoon zs217) = 0 then
        0
      else
        let zs230 : Gr := g_X1_readSign zs221 59
        if (f_X1_readSign zs221 59) = 0 then
          0
        else
          1
    else
      if (zs5 1 3) = 114 then
        let zs171 : Gr := up zs5 1 2 ((zs5 1 2) + 1)
        let zs175 : Gr := g_X1_readDigit zs171
        if (f_X1_readDigit zs171) = 0 then
          0
        else
          let zs182 : Gr := g_X1_readStuff zs175
          if (f_X1_readStuff zs175) = 0 then
            0
          else
            let zs189 : Gr := g_X1_readNumber zs182
            if (f_X1_readNumber zs182) = 0 then
              0
            else
              let zs198 : Gr := g_X1_readSign zs189 59
              if (f_X1_readSign zs189 59) = 0 then
                0
              else
                1
      else
        if (zs5 1 3) = 119 then
          let zs111 : Gr := up zs5 1 2 ((zs5 1 2) + 1)
          let zs115 : Gr := g_X1_readDigit zs111
          if (f_X1_readDigit zs111) = 0 then
            0
          else
            let zs122 : Gr := g_X1_readDigit zs115
            if (f_X1_readDigit zs115) = 0 then
              0
            else
              let zs129 : Gr := g_X1_readKind zs122
              if (f_X1_readKind zs122) = 0 then
                0
              else
                let zs136 : Gr := g_X1_readStuff zs129
                if (f_X1_readStuff zs129) = 0 then
                  0
                else
                  let zs143 : Gr := g_X1_readNumber zs136
                  if (f_X1_readNumber zs136) = 0 then
                    0
                  else
                    let zs152 : Gr := g_X1_readSign zs143 59
                    if (f_X1_readSign zs143 59) = 0 then
                      0
                    else
                      1
        else
          0
noncomputable def g_X1_readStatement (ρ : Gr)  : Gr :=
  let zs5 : Gr := up ρ 1 3 (f_X1_byteHere ρ)
  if (zs5 1 3) = 99 then
    let zs63 : Gr := up zs5 1 2 ((zs5 1 2) + 1)
    let zs67 : Gr := g_X1_readNumber zs63
    if (f_X1_readNumber zs63) = 0 then
      zs67
    else
      let zs76 : Gr := g_X1_readSign zs67 44
      if (f_X1_readSign zs67 44) = 0 then
        zs76
      else
        let zs83 : Gr := g_X1_readNumber zs76
        if (f_X1_readNumber zs76) = 0 then
          zs83
        else
          let zs92 : Gr := g_X1_readSign zs83 59
          zs92
  else
    if (zs5 1 3) = 109 then
      let zs217 : Gr := up zs5 1 2 ((zs5 1 2) + 1)
      let zs221 : Gr := g_X1_readMoon zs217
      if (f_X1_readMoon zs217) = 0 then
        zs221
      else
        let zs230 : Gr := g_X1_readSign zs221 59
        zs230
    else
      if (zs5 1 3) = 114 then
        let zs171 : Gr := up zs5 1 2 ((zs5 1 2) + 1)
        let zs175 : Gr := g_X1_readDigit zs171
        if (f_X1_readDigit zs171) = 0 then
          zs175
        else
          let zs182 : Gr := g_X1_readStuff zs175
          if (f_X1_readStuff zs175) = 0 then
            zs182
          else
            let zs189 : Gr := g_X1_readNumber zs182
            if (f_X1_readNumber zs182) = 0 then
              zs189
            else
              let zs198 : Gr := g_X1_readSign zs189 59
              zs198
      else
        if (zs5 1 3) = 119 then
          let zs111 : Gr := up zs5 1 2 ((zs5 1 2) + 1)
          let zs115 : Gr := g_X1_readDigit zs111
          if (f_X1_readDigit zs111) = 0 then
            zs115
          else
            let zs122 : Gr := g_X1_readDigit zs115
            if (f_X1_readDigit zs115) = 0 then
              zs122
            else
              let zs129 : Gr := g_X1_readKind zs122
              if (f_X1_readKind zs122) = 0 then
                zs129
              else
                let zs136 : Gr := g_X1_readStuff zs129
                if (f_X1_readStuff zs129) = 0 then
                  zs136
                else
                  let zs143 : Gr := g_X1_readNumber zs136
                  if (f_X1_readNumber zs136) = 0 then
                    zs143
                  else
                    let zs152 : Gr := g_X1_readSign zs143 59
                    zs152
        else
          zs5
set_option maxRecDepth 100000 in
set_option maxHeartbeats 4000000 in
theorem c_X1_readStatement {l : Launch} {G : GG} {σ : St} {ρ : Gr}   : MM l G yX1_readStatement cX1_readStatement 1 4 82 (some .boolean) [.ref (aa G 0 1)] (setG σ 0 ρ) (Qi G (f_X1_readStatement ρ) (setG σ 0 (g_X1_readStatement ρ))) := by
  refine MM.of (by decide) (Nat.le_of_ble_eq_true rfl) ?_
  intro p e s m below meth c ls X hr hlk w hl
  have hx := X.1.1
  have hb := X.1.2.1
  have hl : lv_has ls 1 [(0, .ref (aa G 0 1))] := hl
  refine lv_aload_n hx hb dX1_readStatement_0 rfl (lv_at hl 0 rfl) ?_
  refine lv_aload_n hx hb dX1_readStatement_1 rfl (lv_at hl 0 rfl) ?_
  refine k_i (rr_v (rest := [.ref (aa G 0 1)]) X w mX1_byteHere kw315 (c_X1_byteHere ) m0_1 rfl rfl ⟨Nat.le_of_ble_eq_true rfl, Nat.le_of_ble_eq_true rfl⟩ rfl hl.1 rfl (Nat.le_of_ble_eq_true rfl) dX1_readStatement_2 ⟨Nat.zero_le _, Nat.zero_le _⟩) w (fun H locs w => ?_)
  refine pf1_22 X w dX1_readStatement_5 (fun zs5 H locs ezs5 w => ?_)
  refine lv_aload_n hx hb dX1_readStatement_8 rfl (lv_at hl 0 rfl) ?_
  refine gf1_22 X w dX1_readStatement_9 ?_
  by_cases zc12_99 : (zs5 1 3) = 99
  · -- case 99
    refine lv_lookup (off := 44) (tgt := 56) hx hb dX1_readStatement_12 (by decide) (by rw [zc12_99]; rfl) (by decide) ?_
    refine lv_aload_n hx hb dX1_readStatement_56 rfl (lv_at hl 0 rfl) ?_
    refine lv_dup hx hb dX1_readStatement_57 rfl ?_
    refine gf1_19 X w dX1_readStatement_58 ?_
    refine lv_iconst (v := 1) hx hb dX1_readStatement_61 (by decide) ?_
    refine lv_iadd hx hb dX1_readStatement_62 ?_
    refine pf1_19 X w dX1_readStatement_63 (fun zs63 H locs ezs63 w => ?_)
    refine lv_aload_n hx hb dX1_readStatement_66 rfl (lv_at hl 0 rfl) ?_
    refine k_i (rr_v (rest := []) X w mX1_readNumber kw319 (c_X1_readNumber ) m0_1 rfl rfl ⟨Nat.le_of_ble_eq_true rfl, Nat.le_of_ble_eq_true rfl⟩ rfl hl.1 rfl (Nat.le_of_ble_eq_true rfl) dX1_readStatement_67 ⟨Nat.zero_le _, Nat.zero_le _⟩) w (fun H locs w => ?_)
    obtain ⟨zs67, ezs67⟩ : ∃ y : Gr, y = g_X1_readNumber zs63 := ⟨_, rfl⟩; rw [← ezs67] at w
    refine lv_if_eq (tgt := 102) hx hb dX1_readStatement_70 (by decide) (fun zc70 => ?_) (fun zc70 => ?_)
    · -- 102
      refine lv_iconst (v := 0) hx hb dX1_readStatement_102 (by decide) ?_
      exact t_z X w hr hlk isB0.n dX1_readStatement_103 (by replace ezs67 := ezs67.symm; subst ezs67; replace ezs63 := ezs63.symm; subst ezs63; replace ezs5 := ezs5.symm; subst ezs5; simp only [f_X1_readStatement, if_pos zc12_99, if_pos zc70]) (by replace ezs67 := ezs67.symm; subst ezs67; replace ezs63 := ezs63.symm; subst ezs63; replace ezs5 := ezs5.symm; subst ezs5; simp only [g_X1_readStatement, if_pos zc12_99, if_pos zc70])
    · -- 73
      refine lv_aload_n hx hb dX1_readStatement_73 rfl (lv_at hl 0 rfl) ?_
      refine lv_bipush (v := 44) hx hb dX1_readStatement_74 (by decide) ?_
      refine k_i (rr_v (rest := []) X w mX1_readSign kw327 (c_X1_readSign 44) m0_1 rfl rfl ⟨Nat.le_of_ble_eq_true rfl, Nat.le_of_ble_eq_true rfl⟩ rfl hl.1 rfl (Nat.le_of_ble_eq_true rfl) dX1_readStatement_76 ⟨Nat.zero_le _, Nat.zero_le _⟩) w (fun H locs w => ?_)
      obtain ⟨zs76, ezs76⟩ : ∃ y : Gr, y = g_X1_readSign zs67 44 := ⟨_, rfl⟩; rw [← ezs76] at w
      refine lv_if_eq (tgt := 102) hx hb dX1_readStatement_79 (by decide) (fun zc79 => ?_) (fun zc79 => ?_)
      · -- 102
        refine lv_iconst (v := 0) hx hb dX1_readStatement_102 (by decide) ?_
        exact t_z X w hr hlk isB0.n dX1_readStatement_103 (by replace ezs76 := ezs76.symm; subst ezs76; replace ezs67 := ezs67.symm; subst ezs67; replace ezs63 := ezs63.symm; subst ezs63; replace ezs5 := ezs5.symm; subst ezs5; simp only [f_X1_readStatement, if_pos zc12_99, if_neg zc70, if_pos zc79]) (by replace ezs76 := ezs76.symm; subst ezs76; replace ezs67 := ezs67.symm; subst ezs67; replace ezs63 := ezs63.symm; subst ezs63; replace ezs5 := ezs5.symm; subst ezs5; simp only [g_X1_readStatement, if_pos zc12_99, if_neg zc70, if_pos zc79])
      · -- 82
        refine lv_aload_n hx hb dX1_readStatement_82 rfl (lv_at hl 0 rfl) ?_
        refine k_i (rr_v (rest := []) X w mX1_readNumber kw319 (c_X1_readNumber ) m0_1 rfl rfl ⟨Nat.le_of_ble_eq_true rfl, Nat.le_of_ble_eq_true rfl⟩ rfl hl.1 rfl (Nat.le_of_ble_eq_true rfl) dX1_readStatement_83 ⟨Nat.zero_le _, Nat.zero_le _⟩) w (fun H locs w => ?_)
        obtain ⟨zs83, ezs83⟩ : ∃ y : Gr, y = g_X1_readNumber zs76 := ⟨_, rfl⟩; rw [← ezs83] at w
        refine lv_if_eq (tgt := 102) hx hb dX1_readStatement_86 (by decide) (fun zc86 => ?_) (fun zc86 => ?_)
        · -- 102
          refine lv_iconst (v := 0) hx hb dX1_readStatement_102 (by decide) ?_
          exact t_z X w hr hlk isB0.n dX1_readStatement_103 (by replace ezs83 := ezs83.symm; subst ezs83; replace ezs76 := ezs76.symm; subst ezs76; replace ezs67 := ezs67.symm; subst ezs67; replace ezs63 := ezs63.symm; subst ezs63; replace ezs5 := ezs5.symm; subst ezs5; simp only [f_X1_readStatement, if_pos zc12_99, if_neg zc70, if_neg zc79, if_pos zc86]) (by replace ezs83 := ezs83.symm; subst ezs83; replace ezs76 := ezs76.symm; subst ezs76; replace ezs67 := ezs67.symm; subst ezs67; replace ezs63 := ezs63.symm; subst ezs63; replace ezs5 := ezs5.symm; subst ezs5; simp only [g_X1_readStatement, if_pos zc12_99, if_neg zc70, if_neg zc79, if_pos zc86])
        · -- 89
          refine lv_aload_n hx hb dX1_readStatement_89 rfl (lv_at hl 0 rfl) ?_
          refine lv_bipush (v := 59) hx hb dX1_readStatement_90 (by decide) ?_
          refine k_i (rr_v (rest := []) X w mX1_readSign kw327 (c_X1_readSign 59) m0_1 rfl rfl ⟨Nat.le_of_ble_eq_true rfl, Nat.le_of_ble_eq_true rfl⟩ rfl hl.1 rfl (Nat.le_of_ble_eq_true rfl) dX1_readStatement_92 ⟨Nat.zero_le _, Nat.zero_le _⟩) w (fun H locs w => ?_)
          obtain ⟨zs92, ezs92⟩ : ∃ y : Gr, y = g_X1_readSign zs83 59 := ⟨_, rfl⟩; rw [← ezs92] at w
          refine lv_if_eq (tgt := 102) hx hb dX1_readStatement_95 (by decide) (fun zc95 => ?_) (fun zc95 => ?_)
          · -- 102
            refine lv_iconst (v := 0) hx hb dX1_readStatement_102 (by decide) ?_
            exact t_z X w hr hlk isB0.n dX1_readStatement_103 (by replace ezs92 := ezs92.symm; subst ezs92; replace ezs83 := ezs83.symm; subst ezs83; replace ezs76 := ezs76.symm; subst ezs76; replace ezs67 := ezs67.symm; subst ezs67; replace ezs63 := ezs63.symm; subst ezs63; replace ezs5 := ezs5.symm; subst ezs5; simp only [f_X1_readStatement, if_pos zc12_99, if_neg zc70, if_neg zc79, if_neg zc86, if_pos zc95]) (by replace ezs92 := ezs92.symm; subst ezs92; replace ezs83 := ezs83.symm; subst ezs83; replace ezs76 := ezs76.symm; subst ezs76; replace ezs67 := ezs67.symm; subst ezs67; replace ezs63 := ezs63.symm; subst ezs63; replace ezs5 := ezs5.symm; subst ezs5; simp only [g_X1_readStatement, if_pos zc12_99, if_neg zc70, if_neg zc79, if_neg zc86, if_pos zc95])
          · -- 98
            refine lv_iconst (v := 1) hx hb dX1_readStatement_98 (by decide) ?_
            refine lv_goto (tgt := 103) hx hb dX1_readStatement_99 (by decide) ?_
            exact t_z X w hr hlk isB1.n dX1_readStatement_103 (by replace ezs92 := ezs92.symm; subst ezs92; replace ezs83 := ezs83.symm; subst ezs83; replace ezs76 := ezs76.symm; subst ezs76; replace ezs67 := ezs67.symm; subst ezs67; replace ezs63 := ezs63.symm; subst ezs63; replace ezs5 := ezs5.symm; subst ezs5; simp only [f_X1_readStatement, if_pos zc12_99, if_neg zc70, if_neg zc79, if_neg zc86, if_neg zc95]) (by replace ezs92 := ezs92.symm; subst ezs92; replace ezs83 := ezs83.symm; subst ezs83; replace ezs76 := ezs76.symm; subst ezs76; replace ezs67 := ezs67.symm; subst ezs67; replace ezs63 := ezs63.symm; subst ezs63; replace ezs5 := ezs5.symm; subst ezs5; simp only [g_X1_readStatement, if_pos zc12_99, if_neg zc70, if_neg zc79, if_neg zc86, if_neg zc95])
  · -- not 99
    by_cases zc12_109 : (zs5 1 3) = 109
    · -- case 109
      refine lv_lookup (off := 198) (tgt := 210) hx hb dX1_readStatement_12 (by decide) (by rw [zc12_109]; rfl) (by decide) ?_
      refine lv_aload_n hx hb dX1_readStatement_210 rfl (lv_at hl 0 rfl) ?_
      refine lv_dup hx hb dX1_readStatement_211 rfl ?_
      refine gf1_19 X w dX1_readStatement_212 ?_
      refine lv_iconst (v := 1) hx hb dX1_readStatement_215 (by decide) ?_
      refine lv_iadd hx hb dX1_readStatement_216 ?_
      refine pf1_19 X w dX1_readStatement_217 (fun zs217 H locs ezs217 w => ?_)
      refine lv_aload_n hx hb dX1_readStatement_220 rfl (lv_at hl 0 rfl) ?_
      refine k_i (rr_v (rest := []) X w mX1_readMoon kw343 (c_X1_readMoon ) m0_1 rfl rfl ⟨Nat.le_of_ble_eq_true rfl, Nat.le_of_ble_eq_true rfl⟩ rfl hl.1 rfl (Nat.le_of_ble_eq_true rfl) dX1_readStatement_221 ⟨Nat.zero_le _, Nat.zero_le _⟩) w (fun H locs w => ?_)
      obtain ⟨zs221, ezs221⟩ : ∃ y : Gr, y = g_X1_readMoon zs217 := ⟨_, rfl⟩; rw [← ezs221] at w
      refine lv_if_eq (tgt := 240) hx hb dX1_readStatement_224 (by decide) (fun zc224 => ?_) (fun zc224 => ?_)
      · -- 240
        refine lv_iconst (v := 0) hx hb dX1_readStatement_240 (by decide) ?_
        exact t_z X w hr hlk isB0.n dX1_readStatement_241 (by replace ezs221 := ezs221.symm; subst ezs221; replace ezs217 := ezs217.symm; subst ezs217; replace ezs5 := ezs5.symm; subst ezs5; simp only [f_X1_readStatement, if_neg zc12_99, if_pos zc12_109, if_pos zc224]) (by replace ezs221 := ezs221.symm; subst ezs221; replace ezs217 := ezs217.symm; subst ezs217; replace ezs5 := ezs5.symm; subst ezs5; simp only [g_X1_readStatement, if_neg zc12_99, if_pos zc12_109, if_pos zc224])
      · -- 227
        refine lv_aload_n hx hb dX1_readStatement_227 rfl (lv_at hl 0 rfl) ?_
        refine lv_bipush (v := 59) hx hb dX1_readStatement_228 (by decide) ?_
        refine k_i (rr_v (rest := []) X w mX1_readSign kw327 (c_X1_readSign 59) m0_1 rfl rfl ⟨Nat.le_of_ble_eq_true rfl, Nat.le_of_ble_eq_true rfl⟩ rfl hl.1 rfl (Nat.le_of_ble_eq_true rfl) dX1_readStatement_230 ⟨Nat.zero_le _, Nat.zero_le _⟩) w (fun H locs w => ?_)
        obtain ⟨zs230, ezs230⟩ : ∃ y : Gr, y = g_X1_readSign zs221 59 := ⟨_, rfl⟩; rw [← ezs230] at w
        refine lv_if_eq (tgt := 240) hx hb dX1_readStatement_233 (by decide) (fun zc233 => ?_) (fun zc233 => ?_)
        · -- 240
          refine lv_iconst (v := 0) hx hb dX1_readStatement_240 (by decide) ?_
          exact t_z X w hr hlk isB0.n dX1_readStatement_241 (by replace ezs230 := ezs230.symm; subst ezs230; replace ezs221 := ezs221.symm; subst ezs221; replace ezs217 := ezs217.symm; subst ezs217; replace ezs5 := ezs5.symm; subst ezs5; simp only [f_X1_readStatement, if_neg zc12_99, if_pos zc12_109, if_neg zc224, if_pos zc233]) (by replace ezs230 := ezs230.symm; subst ezs230; replace ezs221 := ezs221.symm; subst ezs221; replace ezs217 := ezs217.symm; subst ezs217; replace ezs5 := ezs5.symm; subst ezs5; simp only [g_X1_readStatement, if_neg zc12_99, if_pos zc12_109, if_neg zc224, if_pos zc233])
        · -- 236
          refine lv_iconst (v := 1) hx hb dX1_readStatement_236 (by decide) ?_
          refine lv_goto (tgt := 241) hx hb dX1_readStatement_237 (by decide) ?_
          exact t_z X w hr hlk isB1.n dX1_readStatement_241 (by replace ezs230 := ezs230.symm; subst ezs230; replace ezs221 := ezs221.symm; subst ezs221; replace ezs217 := ezs217.symm; subst ezs217; replace ezs5 := ezs5.symm; subst ezs5; simp only [f_X1_readStatement, if_neg zc12_99, if_pos zc12_109, if_neg zc224, if_neg zc233]) (by replace ezs230 := ezs230.symm; subst ezs230; replace ezs221 := ezs221.symm; subst ezs221; replace ezs217 := ezs217.symm; subst ezs217; replace ezs5 := ezs5.symm; subst ezs5; simp only [g_X1_readStatement, if_neg zc12_99, if_pos zc12_109, if_neg zc224, if_neg zc233])
    · -- not 109
      by_cases zc12_114 : (zs5 1 3) = 114
      · -- case 114
        refine lv_lookup (off := 152) (tgt := 164) hx hb dX1_readStatement_12 (by decide) (by rw [zc12_114]; rfl) (by decide) ?_
        refine lv_aload_n hx hb dX1_readStatement_164 rfl (lv_at hl 0 rfl) ?_
        refine lv_dup hx hb dX1_readStatement_165 rfl ?_
        refine gf1_19 X w dX1_readStatement_166 ?_
        refine lv_iconst (v := 1) hx hb dX1_readStatement_169 (by decide) ?_
        refine lv_iadd hx hb dX1_readStatement_170 ?_
        refine pf1_19 X w dX1_readStatement_171 (fun zs171 H locs ezs171 w => ?_)
        refine lv_aload_n hx hb dX1_readStatement_174 rfl (lv_at hl 0 rfl) ?_
        refine k_i (rr_v (rest := []) X w mX1_readDigit kw331 (c_X1_readDigit ) m0_1 rfl rfl ⟨Nat.le_of_ble_eq_true rfl, Nat.le_of_ble_eq_true rfl⟩ rfl hl.1 rfl (Nat.le_of_ble_eq_true rfl) dX1_readStatement_175 ⟨Nat.zero_le _, Nat.zero_le _⟩) w (fun H locs w => ?_)
        obtain ⟨zs175, ezs175⟩ : ∃ y : Gr, y = g_X1_readDigit zs171 := ⟨_, rfl⟩; rw [← ezs175] at w
        refine lv_if_eq (tgt := 208) hx hb dX1_readStatement_178 (by decide) (fun zc178 => ?_) (fun zc178 => ?_)
        · -- 208
          refine lv_iconst (v := 0) hx hb dX1_readStatement_208 (by decide) ?_
          exact t_z X w hr hlk isB0.n dX1_readStatement_209 (by replace ezs175 := ezs175.symm; subst ezs175; replace ezs171 := ezs171.symm; subst ezs171; replace ezs5 := ezs5.symm; subst ezs5; simp only [f_X1_readStatement, if_neg zc12_99, if_neg zc12_109, if_pos zc12_114, if_pos zc178]) (by replace ezs175 := ezs175.symm; subst ezs175; replace ezs171 := ezs171.symm; subst ezs171; replace ezs5 := ezs5.symm; subst ezs5; simp only [g_X1_readStatement, if_neg zc12_99, if_neg zc12_109, if_pos zc12_114, if_pos zc178])
        · -- 181
          refine lv_aload_n hx hb dX1_readStatement_181 rfl (lv_at hl 0 rfl) ?_
          refine k_i (rr_v (rest := []) X w mX1_readStuff kw339 (c_X1_readStuff ) m0_1 rfl rfl ⟨Nat.le_of_ble_eq_true rfl, Nat.le_of_ble_eq_true rfl⟩ rfl hl.1 rfl (Nat.le_of_ble_eq_true rfl) dX1_readStatement_182 ⟨Nat.zero_le _, Nat.zero_le _⟩) w (fun H locs w => ?_)
          obtain ⟨zs182, ezs182⟩ : ∃ y : Gr, y = g_X1_readStuff zs175 := ⟨_, rfl⟩; rw [← ezs182] at w
          refine lv_if_eq (tgt := 208) hx hb dX1_readStatement_185 (by decide) (fun zc185 => ?_) (fun zc185 => ?_)
          · -- 208
            refine lv_iconst (v := 0) hx hb dX1_readStatement_208 (by decide) ?_
            exact t_z X w hr hlk isB0.n dX1_readStatement_209 (by replace ezs182 := ezs182.symm; subst ezs182; replace ezs175 := ezs175.symm; subst ezs175; replace ezs171 := ezs171.symm; subst ezs171; replace ezs5 := ezs5.symm; subst ezs5; simp only [f_X1_readStatement, if_neg zc12_99, if_neg zc12_109, if_pos zc12_114, if_neg zc178, if_pos zc185]) (by replace ezs182 := ezs182.symm; subst ezs182; replace ezs175 := ezs175.symm; subst ezs175; replace ezs171 := ezs171.symm; subst ezs171; replace ezs5 := ezs5.symm; subst ezs5; simp only [g_X1_readStatement, if_neg zc12_99, if_neg zc12_109, if_pos zc12_114, if_neg zc178, if_pos zc185])
          · -- 188
            refine lv_aload_n hx hb dX1_readStatement_188 rfl (lv_at hl 0 rfl) ?_
            refine k_i (rr_v (rest := []) X w mX1_readNumber kw319 (c_X1_readNumber ) m0_1 rfl rfl ⟨Nat.le_of_ble_eq_true rfl, Nat.le_of_ble_eq_true rfl⟩ rfl hl.1 rfl (Nat.le_of_ble_eq_true rfl) dX1_readStatement_189 ⟨Nat.zero_le _, Nat.zero_le _⟩) w (fun H locs w => ?_)
            obtain ⟨zs189, ezs189⟩ : ∃ y : Gr, y = g_X1_readNumber zs182 := ⟨_, rfl⟩; rw [← ezs189] at w
            refine lv_if_eq (tgt := 208) hx hb dX1_readStatement_192 (by decide) (fun zc192 => ?_) (fun zc192 => ?_)
            · -- 208
              refine lv_iconst (v := 0) hx hb dX1_readStatement_208 (by decide) ?_
              exact t_z X w hr hlk isB0.n dX1_readStatement_209 (by replace ezs189 := ezs189.symm; subst ezs189; replace ezs182 := ezs182.symm; subst ezs182; replace ezs175 := ezs175.symm; subst ezs175; replace ezs171 := ezs171.symm; subst ezs171; replace ezs5 := ezs5.symm; subst ezs5; simp only [f_X1_readStatement, if_neg zc12_99, if_neg zc12_109, if_pos zc12_114, if_neg zc178, if_neg zc185, if_pos zc192]) (by replace ezs189 := ezs189.symm; subst ezs189; replace ezs182 := ezs182.symm; subst ezs182; replace ezs175 := ezs175.symm; subst ezs175; replace ezs171 := ezs171.symm; subst ezs171; replace ezs5 := ezs5.symm; subst ezs5; simp only [g_X1_readStatement, if_neg zc12_99, if_neg zc12_109, if_pos zc12_114, if_neg zc178, if_neg zc185, if_pos zc192])
            · -- 195
              refine lv_aload_n hx hb dX1_readStatement_195 rfl (lv_at hl 0 rfl) ?_
              refine lv_bipush (v := 59) hx hb dX1_readStatement_196 (by decide) ?_
              refine k_i (rr_v (rest := []) X w mX1_readSign kw327 (c_X1_readSign 59) m0_1 rfl rfl ⟨Nat.le_of_ble_eq_true rfl, Nat.le_of_ble_eq_true rfl⟩ rfl hl.1 rfl (Nat.le_of_ble_eq_true rfl) dX1_readStatement_198 ⟨Nat.zero_le _, Nat.zero_le _⟩) w (fun H locs w => ?_)
              obtain ⟨zs198, ezs198⟩ : ∃ y : Gr, y = g_X1_readSign zs189 59 := ⟨_, rfl⟩; rw [← ezs198] at w
              refine lv_if_eq (tgt := 208) hx hb dX1_readStatement_201 (by decide) (fun zc201 => ?_) (fun zc201 => ?_)
              · -- 208
                refine lv_iconst (v := 0) hx hb dX1_readStatement_208 (by decide) ?_
                exact t_z X w hr hlk isB0.n dX1_readStatement_209 (by replace ezs198 := ezs198.symm; subst ezs198; replace ezs189 := ezs189.symm; subst ezs189; replace ezs182 := ezs182.symm; subst ezs182; replace ezs175 := ezs175.symm; subst ezs175; replace ezs171 := ezs171.symm; subst ezs171; replace ezs5 := ezs5.symm; subst ezs5; simp only [f_X1_readStatement, if_neg zc12_99, if_neg zc12_109, if_pos zc12_114, if_neg zc178, if_neg zc185, if_neg zc192, if_pos zc201]) (by replace ezs198 := ezs198.symm; subst ezs198; replace ezs189 := ezs189.symm; subst ezs189; replace ezs182 := ezs182.symm; subst ezs182; replace ezs175 := ezs175.symm; subst ezs175; replace ezs171 := ezs171.symm; subst ezs171; replace ezs5 := ezs5.symm; subst ezs5; simp only [g_X1_readStatement, if_neg zc12_99, if_neg zc12_109, if_pos zc12_114, if_neg zc178, if_neg zc185, if_neg zc192, if_pos zc201])
              · -- 204
                refine lv_iconst (v := 1) hx hb dX1_readStatement_204 (by decide) ?_
                refine lv_goto (tgt := 209) hx hb dX1_readStatement_205 (by decide) ?_
                exact t_z X w hr hlk isB1.n dX1_readStatement_209 (by replace ezs198 := ezs198.symm; subst ezs198; replace ezs189 := ezs189.symm; subst ezs189; replace ezs182 := ezs182.symm; subst ezs182; replace ezs175 := ezs175.symm; subst ezs175; replace ezs171 := ezs171.symm; subst ezs171; replace ezs5 := ezs5.symm; subst ezs5; simp only [f_X1_readStatement, if_neg zc12_99, if_neg zc12_109, if_pos zc12_114, if_neg zc178, if_neg zc185, if_neg zc192, if_neg zc201]) (by replace ezs198 := ezs198.symm; subst ezs198; replace ezs189 := ezs189.symm; subst ezs189; replace ezs182 := ezs182.symm; subst ezs182; replace ezs175 := ezs175.symm; subst ezs175; replace ezs171 := ezs171.symm; subst ezs171; replace ezs5 := ezs5.symm; subst ezs5; simp only [g_X1_readStatement, if_neg zc12_99, if_neg zc12_109, if_pos zc12_114, if_neg zc178, if_neg zc185, if_neg zc192, if_neg zc201])
      · -- not 114
        by_cases zc12_119 : (zs5 1 3) = 119
        · -- case 119
          refine lv_lookup (off := 92) (tgt := 104) hx hb dX1_readStatement_12 (by decide) (by rw [zc12_119]; rfl) (by decide) ?_
          refine lv_aload_n hx hb dX1_readStatement_104 rfl (lv_at hl 0 rfl) ?_
          refine lv_dup hx hb dX1_readStatement_105 rfl ?_
          refine gf1_19 X w dX1_readStatement_106 ?_
          refine lv_iconst (v := 1) hx hb dX1_readStatement_109 (by decide) ?_
          refine lv_iadd hx hb dX1_readStatement_110 ?_
          refine pf1_19 X w dX1_readStatement_111 (fun zs111 H locs ezs111 w => ?_)
          refine lv_aload_n hx hb dX1_readStatement_114 rfl (lv_at hl 0 rfl) ?_
          refine k_i (rr_v (rest := []) X w mX1_readDigit kw331 (c_X1_readDigit ) m0_1 rfl rfl ⟨Nat.le_of_ble_eq_true rfl, Nat.le_of_ble_eq_true rfl⟩ rfl hl.1 rfl (Nat.le_of_ble_eq_true rfl) dX1_readStatement_115 ⟨Nat.zero_le _, Nat.zero_le _⟩) w (fun H locs w => ?_)
          obtain ⟨zs115, ezs115⟩ : ∃ y : Gr, y = g_X1_readDigit zs111 := ⟨_, rfl⟩; rw [← ezs115] at w
          refine lv_if_eq (tgt := 162) hx hb dX1_readStatement_118 (by decide) (fun zc118 => ?_) (fun zc118 => ?_)
          · -- 162
            refine lv_iconst (v := 0) hx hb dX1_readStatement_162 (by decide) ?_
            exact t_z X w hr hlk isB0.n dX1_readStatement_163 (by replace ezs115 := ezs115.symm; subst ezs115; replace ezs111 := ezs111.symm; subst ezs111; replace ezs5 := ezs5.symm; subst ezs5; simp only [f_X1_readStatement, if_neg zc12_99, if_neg zc12_109, if_neg zc12_114, if_pos zc12_119, if_pos zc118]) (by replace ezs115 := ezs115.symm; subst ezs115; replace ezs111 := ezs111.symm; subst ezs111; replace ezs5 := ezs5.symm; subst ezs5; simp only [g_X1_readStatement, if_neg zc12_99, if_neg zc12_109, if_neg zc12_114, if_pos zc12_119, if_pos zc118])
          · -- 121
            refine lv_aload_n hx hb dX1_readStatement_121 rfl (lv_at hl 0 rfl) ?_
            refine k_i (rr_v (rest := []) X w mX1_readDigit kw331 (c_X1_readDigit ) m0_1 rfl rfl ⟨Nat.le_of_ble_eq_true rfl, Nat.le_of_ble_eq_true rfl⟩ rfl hl.1 rfl (Nat.le_of_ble_eq_true rfl) dX1_readStatement_122 ⟨Nat.zero_le _, Nat.zero_le _⟩) w (fun H locs w => ?_)
            obtain ⟨zs122, ezs122⟩ : ∃ y : Gr, y = g_X1_readDigit zs115 := ⟨_, rfl⟩; rw [← ezs122] at w
            refine lv_if_eq (tgt := 162) hx hb dX1_readStatement_125 (by decide) (fun zc125 => ?_) (fun zc125 => ?_)
            · -- 162
              refine lv_iconst (v := 0) hx hb dX1_readStatement_162 (by decide) ?_
              exact t_z X w hr hlk isB0.n dX1_readStatement_163 (by replace ezs122 := ezs122.symm; subst ezs122; replace ezs115 := ezs115.symm; subst ezs115; replace ezs111 := ezs111.symm; subst ezs111; replace ezs5 := ezs5.symm; subst ezs5; simp only [f_X1_readStatement, if_neg zc12_99, if_neg zc12_109, if_neg zc12_114, if_pos zc12_119, if_neg zc118, if_pos zc125]) (by replace ezs122 := ezs122.symm; subst ezs122; replace ezs115 := ezs115.symm; subst ezs115; replace ezs111 := ezs111.symm; subst ezs111; replace ezs5 := ezs5.symm; subst ezs5; simp only [g_X1_readStatement, if_neg zc12_99, if_neg zc12_109, if_neg zc12_114, if_pos zc12_119, if_neg zc118, if_pos zc125])
            · -- 128
              refine lv_aload_n hx hb dX1_readStatement_128 rfl (lv_at hl 0 rfl) ?_
              refine k_i (rr_v (rest := []) X w mX1_readKind kw335 (c_X1_readKind ) m0_1 rfl rfl ⟨Nat.le_of_ble_eq_true rfl, Nat.le_of_ble_eq_true rfl⟩ rfl hl.1 rfl (Nat.le_of_ble_eq_true rfl) dX1_readStatement_129 ⟨Nat.zero_le _, Nat.zero_le _⟩) w (fun H locs w => ?_)
              obtain ⟨zs129, ezs129⟩ : ∃ y : Gr, y = g_X1_readKind zs122 := ⟨_, rfl⟩; rw [← ezs129] at w
              refine lv_if_eq (tgt := 162) hx hb dX1_readStatement_132 (by decide) (fun zc132 => ?_) (fun zc132 => ?_)
              · -- 162
                refine lv_iconst (v := 0) hx hb dX1_readStatement_162 (by decide) ?_
                exact t_z X w hr hlk isB0.n dX1_readStatement_163 (by replace ezs129 := ezs129.symm; subst ezs129; replace ezs122 := ezs122.symm; subst ezs122; replace ezs115 := ezs115.symm; subst ezs115; replace ezs111 := ezs111.symm; subst ezs111; replace ezs5 := ezs5.symm; subst ezs5; simp only [f_X1_readStatement, if_neg zc12_99, if_neg zc12_109, if_neg zc12_114, if_pos zc12_119, if_neg zc118, if_neg zc125, if_pos zc132]) (by replace ezs129 := ezs129.symm; subst ezs129; replace ezs122 := ezs122.symm; subst ezs122; replace ezs115 := ezs115.symm; subst ezs115; replace ezs111 := ezs111.symm; subst ezs111; replace ezs5 := ezs5.symm; subst ezs5; simp only [g_X1_readStatement, if_neg zc12_99, if_neg zc12_109, if_neg zc12_114, if_pos zc12_119, if_neg zc118, if_neg zc125, if_pos zc132])
              · -- 135
                refine lv_aload_n hx hb dX1_readStatement_135 rfl (lv_at hl 0 rfl) ?_
                refine k_i (rr_v (rest := []) X w mX1_readStuff kw339 (c_X1_readStuff ) m0_1 rfl rfl ⟨Nat.le_of_ble_eq_true rfl, Nat.le_of_ble_eq_true rfl⟩ rfl hl.1 rfl (Nat.le_of_ble_eq_true rfl) dX1_readStatement_136 ⟨Nat.zero_le _, Nat.zero_le _⟩) w (fun H locs w => ?_)
                obtain ⟨zs136, ezs136⟩ : ∃ y : Gr, y = g_X1_readStuff zs129 := ⟨_, rfl⟩; rw [← ezs136] at w
                refine lv_if_eq (tgt := 162) hx hb dX1_readStatement_139 (by decide) (fun zc139 => ?_) (fun zc139 => ?_)
                · -- 162
                  refine lv_iconst (v := 0) hx hb dX1_readStatement_162 (by decide) ?_
                  exact t_z X w hr hlk isB0.n dX1_readStatement_163 (by replace ezs136 := ezs136.symm; subst ezs136; replace ezs129 := ezs129.symm; subst ezs129; replace ezs122 := ezs122.symm; subst ezs122; replace ezs115 := ezs115.symm; subst ezs115; replace ezs111 := ezs111.symm; subst ezs111; replace ezs5 := ezs5.symm; subst ezs5; simp only [f_X1_readStatement, if_neg zc12_99, if_neg zc12_109, if_neg zc12_114, if_pos zc12_119, if_neg zc118, if_neg zc125, if_neg zc132, if_pos zc139]) (by replace ezs136 := ezs136.symm; subst ezs136; replace ezs129 := ezs129.symm; subst ezs129; replace ezs122 := ezs122.symm; subst ezs122; replace ezs115 := ezs115.symm; subst ezs115; replace ezs111 := ezs111.symm; subst ezs111; replace ezs5 := ezs5.symm; subst ezs5; simp only [g_X1_readStatement, if_neg zc12_99, if_neg zc12_109, if_neg zc12_114, if_pos zc12_119, if_neg zc118, if_neg zc125, if_neg zc132, if_pos zc139])
                · -- 142
                  refine lv_aload_n hx hb dX1_readStatement_142 rfl (lv_at hl 0 rfl) ?_
                  refine k_i (rr_v (rest := []) X w mX1_readNumber kw319 (c_X1_readNumber ) m0_1 rfl rfl ⟨Nat.le_of_ble_eq_true rfl, Nat.le_of_ble_eq_true rfl⟩ rfl hl.1 rfl (Nat.le_of_ble_eq_true rfl) dX1_readStatement_143 ⟨Nat.zero_le _, Nat.zero_le _⟩) w (fun H locs w => ?_)
                  obtain ⟨zs143, ezs143⟩ : ∃ y : Gr, y = g_X1_readNumber zs136 := ⟨_, rfl⟩; rw [← ezs143] at w
                  refine lv_if_eq (tgt := 162) hx hb dX1_readStatement_146 (by decide) (fun zc146 => ?_) (fun zc146 => ?_)
                  · -- 162
                    refine lv_iconst (v := 0) hx hb dX1_readStatement_162 (by decide) ?_
                    exact t_z X w hr hlk isB0.n dX1_readStatement_163 (by replace ezs143 := ezs143.symm; subst ezs143; replace ezs136 := ezs136.symm; subst ezs136; replace ezs129 := ezs129.symm; subst ezs129; replace ezs122 := ezs122.symm; subst ezs122; replace ezs115 := ezs115.symm; subst ezs115; replace ezs111 := ezs111.symm; subst ezs111; replace ezs5 := ezs5.symm; subst ezs5; simp only [f_X1_readStatement, if_neg zc12_99, if_neg zc12_109, if_neg zc12_114, if_pos zc12_119, if_neg zc118, if_neg zc125, if_neg zc132, if_neg zc139, if_pos zc146]) (by replace ezs143 := ezs143.symm; subst ezs143; replace ezs136 := ezs136.symm; subst ezs136; replace ezs129 := ezs129.symm; subst ezs129; replace ezs122 := ezs122.symm; subst ezs122; replace ezs115 := ezs115.symm; subst ezs115; replace ezs111 := ezs111.symm; subst ezs111; replace ezs5 := ezs5.symm; subst ezs5; simp only [g_X1_readStatement, if_neg zc12_99, if_neg zc12_109, if_neg zc12_114, if_pos zc12_119, if_neg zc118, if_neg zc125, if_neg zc132, if_neg zc139, if_pos zc146])
                  · -- 149
                    refine lv_aload_n hx hb dX1_readStatement_149 rfl (lv_at hl 0 rfl) ?_
                    refine lv_bipush (v := 59) hx hb dX1_readStatement_150 (by decide) ?_
                    refine k_i (rr_v (rest := []) X w mX1_readSign kw327 (c_X1_readSign 59) m0_1 rfl rfl ⟨Nat.le_of_ble_eq_true rfl, Nat.le_of_ble_eq_true rfl⟩ rfl hl.1 rfl (Nat.le_of_ble_eq_true rfl) dX1_readStatement_152 ⟨Nat.zero_le _, Nat.zero_le _⟩) w (fun H locs w => ?_)
                    obtain ⟨zs152, ezs152⟩ : ∃ y : Gr, y = g_X1_readSign zs143 59 := ⟨_, rfl⟩; rw [← ezs152] at w
                    refine lv_if_eq (tgt := 162) hx hb dX1_readStatement_155 (by decide) (fun zc155 => ?_) (fun zc155 => ?_)
                    · -- 162
                      refine lv_iconst (v := 0) hx hb dX1_readStatement_162 (by decide) ?_
                      exact t_z X w hr hlk isB0.n dX1_readStatement_163 (by replace ezs152 := ezs152.symm; subst ezs152; replace ezs143 := ezs143.symm; subst ezs143; replace ezs136 := ezs136.symm; subst ezs136; replace ezs129 := ezs129.symm; subst ezs129; replace ezs122 := ezs122.symm; subst ezs122; replace ezs115 := ezs115.symm; subst ezs115; replace ezs111 := ezs111.symm; subst ezs111; replace ezs5 := ezs5.symm; subst ezs5; simp only [f_X1_readStatement, if_neg zc12_99, if_neg zc12_109, if_neg zc12_114, if_pos zc12_119, if_neg zc118, if_neg zc125, if_neg zc132, if_neg zc139, if_neg zc146, if_pos zc155]) (by replace ezs152 := ezs152.symm; subst ezs152; replace ezs143 := ezs143.symm; subst ezs143; replace ezs136 := ezs136.symm; subst ezs136; replace ezs129 := ezs129.symm; subst ezs129; replace ezs122 := ezs122.symm; subst ezs122; replace ezs115 := ezs115.symm; subst ezs115; replace ezs111 := ezs111.symm; subst ezs111; replace ezs5 := ezs5.symm; subst ezs5; simp only [g_X1_readStatement, if_neg zc12_99, if_neg zc12_109, if_neg zc12_114, if_pos zc12_119, if_neg zc118, if_neg zc125, if_neg zc132, if_neg zc139, if_neg zc146, if_pos zc155])
                    · -- 158
                      refine lv_iconst (v := 1) hx hb dX1_readStatement_158 (by decide) ?_
                      refine lv_goto (tgt := 163) hx hb dX1_readStatement_159 (by decide) ?_
                      exact t_z X w hr hlk isB1.n dX1_readStatement_163 (by replace ezs152 := ezs152.symm; subst ezs152; replace ezs143 := ezs143.symm; subst ezs143; replace ezs136 := ezs136.symm; subst ezs136; replace ezs129 := ezs129.symm; subst ezs129; replace ezs122 := ezs122.symm; subst ezs122; replace ezs115 := ezs115.symm; subst ezs115; replace ezs111 := ezs111.symm; subst ezs111; replace ezs5 := ezs5.symm; subst ezs5; simp only [f_X1_readStatement, if_neg zc12_99, if_neg zc12_109, if_neg zc12_114, if_pos zc12_119, if_neg zc118, if_neg zc125, if_neg zc132, if_neg zc139, if_neg zc146, if_neg zc155]) (by replace ezs152 := ezs152.symm; subst ezs152; replace ezs143 := ezs143.symm; subst ezs143; replace ezs136 := ezs136.symm; subst ezs136; replace ezs129 := ezs129.symm; subst ezs129; replace ezs122 := ezs122.symm; subst ezs122; replace ezs115 := ezs115.symm; subst ezs115; replace ezs111 := ezs111.symm; subst ezs111; replace ezs5 := ezs5.symm; subst ezs5; simp only [g_X1_readStatement, if_neg zc12_99, if_neg zc12_109, if_neg zc12_114, if_pos zc12_119, if_neg zc118, if_neg zc125, if_neg zc132, if_neg zc139, if_neg zc146, if_neg zc155])
        · -- not 119
          refine lv_lookup (off := 230) (tgt := 242) hx hb dX1_readStatement_12 (by decide) (by rw [lv_osw zc12_99 (by decide)]; rw [lv_osw zc12_109 (by decide)]; rw [lv_osw zc12_114 (by decide)]; rw [lv_osw zc12_119 (by decide)]; rfl) (by decide) ?_
          refine lv_iconst (v := 0) hx hb dX1_readStatement_242 (by decide) ?_
          exact t_z X w hr hlk isB0.n dX1_readStatement_243 (by replace ezs5 := ezs5.symm; subst ezs5; simp only [f_X1_readStatement, if_neg zc12_99, if_neg zc12_109, if_neg zc12_114, if_neg zc12_119]) (by replace ezs5 := ezs5.symm; subst ezs5; simp only [g_X1_readStatement, if_neg zc12_99, if_neg zc12_109, if_neg zc12_114, if_neg zc12_119])
