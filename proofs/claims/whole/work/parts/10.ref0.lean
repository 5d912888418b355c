/-! the reference's own numbers: where they lie -/
def rg (x : Int32) (lo hi : Nat) : Prop := ∃ j : Nat, lo ≤ j ∧ j ≤ hi ∧ x = nI j
theorem rg.c {x : Int32} {lo hi : Nat} (h : rg x lo hi) (hh : hi < 2 ^ 31) : x.toNatClampNeg ≤ hi := by
  obtain ⟨j, _, h2, rfl⟩ := h
  rw [nI_clamp (by omega)]; exact h2
theorem rg.v {x : Int32} {lo hi n : Nat} (h : rg x lo hi) (hh : hi < n) (hn : n < 2 ^ 31) : vp_in x n := by
  obtain ⟨j, _, h2, rfl⟩ := h
  exact vp_in_nI (by omega) hn
theorem rg.nn {x : Int32} {lo hi : Nat} (h : rg x lo hi) (hh : hi < 2 ^ 31) : ¬ x < 0 := by
  obtain ⟨j, _, h2, rfl⟩ := h
  exact nI_pos (by omega)
theorem rg.mono {x : Int32} {lo hi hi' : Nat} (h : rg x lo hi) (hh : hi ≤ hi') : rg x lo hi' := by
  obtain ⟨j, h1, h2, rfl⟩ := h
  exact ⟨j, h1, by omega, rfl⟩
theorem rg.ne {x : Int32} {hi : Nat} (h : rg x 0 (hi + 1)) (hne : ¬ x = nI (hi + 1)) : rg x 0 hi := by
  obtain ⟨j, h1, h2, rfl⟩ := h
  have : j ≠ hi + 1 := fun e => hne (by rw [e])
  exact ⟨j, h1, by omega, rfl⟩
theorem ix2 {x : Int32} (h : vp_in x 8) : vp_in (2 * x) 16 := by
  obtain ⟨j, hj, rfl⟩ := vp_in_of h (by decide)
  rw [show (2 : Int32) = nI 2 from rfl, pk_mul]
  exact vp_in_nI (by omega) (by decide)
theorem ix2s {x s : Int32} (h : vp_in x 8) (hs : vp_in s 2) : vp_in (2 * x + s) 16 := by
  obtain ⟨j, hj, rfl⟩ := vp_in_of h (by decide)
  obtain ⟨i, hi, rfl⟩ := vp_in_of hs (by decide)
  rw [show (2 : Int32) = nI 2 from rfl, pk_mul, nI_add]
  exact vp_in_nI (by omega) (by decide)
theorem v02 : vp_in 0 2 := vin_lit (by decide +kernel)
theorem v12 : vp_in 1 2 := vin_lit (by decide +kernel)
theorem half_in {k : Nat} (h : k < 16) : vp_in (nI k / 2) 8 := by
  rw [show (2 : Int32) = nI 2 from rfl, pk_div (by omega) (by decide) (by decide)]
  exact vp_in_nI (by omega) (by decide)
theorem rg_nz {x : Int32} {hi : Nat} (h : rg x 1 hi) (hh : hi < 2 ^ 31) : ¬ x = 0 := by
  obtain ⟨j, h1, h2, rfl⟩ := h
  exact nI_ne0 (by omega) (by omega)
theorem rem_in {x y : Int32} (hx : ¬ x < 0) (hy : rg y 1 28) : vp_in (x - x / y * y) 28 := by
  obtain ⟨j, hj, rfl⟩ := nI_of hx
  obtain ⟨i, h1, h2, rfl⟩ := hy
  rw [pk_rem hj (by omega) (by omega)]
  have := Nat.mod_lt j (show 0 < i by omega)
  exact vp_in_nI (by omega) (by decide)
theorem car_in {x : Int32} (h : vp_in x 330) : vp_in (x + 1 - 1) 330 := by
  obtain ⟨j, hj, rfl⟩ := vp_in_of h (by decide)
  rw [nI_1, nI_pred]
  exact vp_in_nI hj (by decide)
noncomputable def f_X7_in (x0 : Int64) (x2 : Int64) (x4 : Int64) : Int32 :=
  if (lg_cmp x0 x2) < 0 then
    0
  else
    if 0 < (lg_cmp x0 x4) then
      0
    else
      1
set_option maxRecDepth 100000 in
set_option maxHeartbeats 4000000 in
theorem c_X7_in {l : Launch} {G : GG} {σ : St}  (x0 : Int64) (x2 : Int64) (x4 : Int64) : MM l G yX7_in cX7_in 6 0 0 (some .boolean) [.long x0, .long x2, .long x4] σ (Qi G (f_X7_in x0 x2 x4) σ) := by
  refine MM.of (by decide) (Nat.le_of_ble_eq_true rfl) ?_
  intro p e s m below meth c ls X hr hlk w hl
  have hx := X.1.1
  have hb := X.1.2.1
  have hl : lv_has ls 6 [(0, .long x0), (2, .long x2), (4, .long x4)] := hl
  refine lv_lload_n hx hb dX7_in_0 rfl (lv_at hl 0 rfl) ?_
  refine lv_lload_n hx hb dX7_in_1 rfl (lv_at hl 1 rfl) ?_
  refine W.lcmp hx hb dX7_in_2 ?_
  refine lv_if_lt (tgt := 17) hx hb dX7_in_3 (by decide) (fun zc3 => ?_) (fun zc3 => ?_)
  · -- 17
    refine lv_iconst (v := 0) hx hb dX7_in_17 (by decide) ?_
    exact t_z X w hr hlk isB0.n dX7_in_18 (by simp only [f_X7_in, if_pos zc3]) rfl
  · -- 6
    refine lv_lload_n hx hb dX7_in_6 rfl (lv_at hl 0 rfl) ?_
    refine lv_lload hx hb dX7_in_7 (lv_at hl 2 rfl) ?_
    refine W.lcmp hx hb dX7_in_9 ?_
    refine lv_if_gt (tgt := 17) hx hb dX7_in_10 (by decide) (fun zc10 => ?_) (fun zc10 => ?_)
    · -- 17
      refine lv_iconst (v := 0) hx hb dX7_in_17 (by decide) ?_
      exact t_z X w hr hlk isB0.n dX7_in_18 (by simp only [f_X7_in, if_neg zc3, if_pos zc10]) rfl
    · -- 13
      refine lv_iconst (v := 1) hx hb dX7_in_13 (by decide) ?_
      refine lv_goto (tgt := 18) hx hb dX7_in_14 (by decide) ?_
      exact t_z X w hr hlk isB1.n dX7_in_18 (by simp only [f_X7_in, if_neg zc3, if_neg zc10]) rfl

theorem in_isB (a b c : Int64) : isB (f_X7_in a b c) := by
  unfold f_X7_in
  repeat' split
  all_goals first | exact isB0 | exact isB1
theorem in_iff (a b c : Int64) : ¬ f_X7_in a b c = 0 ↔ (b ≤ a ∧ a ≤ c) := by
  unfold f_X7_in
  by_cases h1 : lg_cmp a b < 0
  · rw [if_pos h1]
    have := (not_congr (lg_cmp_ge a b)).mp (Int32.not_le.mpr h1)
    constructor
    · intro h; exact absurd rfl h
    · intro h; exact absurd h.1 this
  · rw [if_neg h1]
    have h1' := (lg_cmp_ge a b).mp (Int32.not_lt.mp h1)
    by_cases h2 : 0 < lg_cmp a c
    · rw [if_pos h2]
      constructor
      · intro h; exact absurd rfl h
      · intro h
        have h3 := (lg_cmp_le a c).mpr h.2
        exact absurd h2 (Int32.not_lt.mpr h3)
    · rw [if_neg h2]
      exact ⟨fun _ => ⟨h1', (lg_cmp_le a c).mp (Int32.not_lt.mp h2)⟩, fun _ => by decide⟩
theorem in_ii {x a b : Int32} : ¬ f_X7_in x.toInt64 a.toInt64 b.toInt64 = 0 ↔ (a ≤ x ∧ x ≤ b) := by
  rw [in_iff, Int64.le_iff_toInt_le, Int64.le_iff_toInt_le, Int32.toInt_toInt64, Int32.toInt_toInt64, Int32.toInt_toInt64, Int32.le_iff_toInt_le, Int32.le_iff_toInt_le]

noncomputable def f_X7_refuse (ρ : Gr) (x1 : Int32) : Int32 :=
  let zs10 : Gr := up ρ 33 (-x1).toNatClampNeg ((ρ 33 (-x1).toNatClampNeg) + 1)
  x1
noncomputable def g_X7_refuse (ρ : Gr) (x1 : Int32) : Gr :=
  let zs10 : Gr := up ρ 33 (-x1).toNatClampNeg ((ρ 33 (-x1).toNatClampNeg) + 1)
  zs10
set_option maxRecDepth 100000 in
set_option maxHeartbeats 4000000 in
theorem c_X7_refuse {l : Launch} {G : GG} {σ : St} {ρ : Gr}  (x1 : Int32) (hi1 : vp_in (-x1) 7) : MM l G yX7_refuse cX7_refuse 2 0 0 (some .int) [.ref (aa G 4 0), .int x1] (setG σ 4 ρ) (Qi G (f_X7_refuse ρ x1) (setG σ 4 (g_X7_refuse ρ x1))) := by
  refine MM.of (by decide) (Nat.le_of_ble_eq_true rfl) ?_
  intro p e s m below meth c ls X hr hlk w hl
  have hx := X.1.1
  have hb := X.1.2.1
  have hl : lv_has ls 2 [(0, .ref (aa G 4 0)), (1, .int x1)] := hl
  refine lv_aload_n hx hb dX7_refuse_0 rfl (lv_at hl 0 rfl) ?_
  refine gf7_78 X w dX7_refuse_1 ?_
  refine lv_iload_n hx hb dX7_refuse_4 rfl (lv_at hl 1 rfl) ?_
  refine lv_ineg hx hb dX7_refuse_5 ?_
  refine lv_dup2_11 hx hb dX7_refuse_6 rfl rfl ?_
  refine ia (f := 33) (n := 7) X w m4_33 rfl hi1 dX7_refuse_7 ?_
  refine lv_iconst (v := 1) hx hb dX7_refuse_8 (by decide) ?_
  refine lv_iadd hx hb dX7_refuse_9 ?_
  refine iS (f := 33) (n := 7) X w m4_33 rfl hi1 dX7_refuse_10 (fun zs10 H locs ezs10 w => ?_)
  refine lv_iload_n hx hb dX7_refuse_11 rfl (lv_at hl 1 rfl) ?_
  exact t_i X w hr hlk dX7_refuse_12 (by replace ezs10 := ezs10.symm; subst ezs10; simp only [f_X7_refuse]) (by replace ezs10 := ezs10.symm; subst ezs10; simp only [g_X7_refuse])

noncomputable def f_X7_isCell (ρ : Gr) (x1 : Int32) : Int32 :=
  f_X7_in x1.toInt64 0 (((ρ 0 0) - 1).toInt64)
set_option maxRecDepth 100000 in
set_option maxHeartbeats 4000000 in
theorem c_X7_isCell {l : Launch} {G : GG} {σ : St} {ρ : Gr}  (x1 : Int32) : MM l G yX7_isCell cX7_isCell 2 1 25 (some .boolean) [.ref (aa G 4 0), .int x1] (setG σ 4 ρ) (Qi G (f_X7_isCell ρ x1) (setG σ 4 ρ)) := by
  refine MM.of (by decide) (Nat.le_of_ble_eq_true rfl) ?_
  intro p e s m below meth c ls X hr hlk w hl
  have hx := X.1.1
  have hb := X.1.2.1
  have hl : lv_has ls 2 [(0, .ref (aa G 4 0)), (1, .int x1)] := hl
  refine lv_iload_n hx hb dX7_isCell_0 rfl (lv_at hl 1 rfl) ?_
  refine lv_i2l hx hb dX7_isCell_1 rfl ?_
  refine lv_lconst (v := 0) hx hb dX7_isCell_2 (by decide) ?_
  refine lv_aload_n hx hb dX7_isCell_3 rfl (lv_at hl 0 rfl) ?_
  refine gf7_111 X w dX7_isCell_4 ?_
  refine lv_iconst (v := 1) hx hb dX7_isCell_7 (by decide) ?_
  refine lv_isub hx hb dX7_isCell_8 ?_
  refine lv_i2l hx hb dX7_isCell_9 rfl ?_
  refine k_i (rr_s (rest := []) X w mX7_in kw888 (c_X7_in x1.toInt64 0 (((ρ 0 0) - 1).toInt64)) ⟨Nat.le_of_ble_eq_true rfl, Nat.le_of_ble_eq_true rfl⟩ rfl hl.1 rfl (Nat.le_of_ble_eq_true rfl) dX7_isCell_10 ⟨Nat.zero_le _, Nat.zero_le _⟩) w (fun H locs w => ?_)
  exact t_z X w hr hlk (in_isB _ _ _).n dX7_isCell_13 (by simp only [f_X7_isCell]) rfl

noncomputable def f_X7_isStuff (x0 : Int32) : Int32 :=
  f_X7_in x0.toInt64 0 1
set_option maxRecDepth 100000 in
set_option maxHeartbeats 4000000 in
theorem c_X7_isStuff {l : Launch} {G : GG} {σ : St}  (x0 : Int32) : MM l G yX7_isStuff cX7_isStuff 1 1 25 (some .boolean) [.int x0] σ (Qi G (f_X7_isStuff x0) σ) := by
  refine MM.of (by decide) (Nat.le_of_ble_eq_true rfl) ?_
  intro p e s m below meth c ls X hr hlk w hl
  have hx := X.1.1
  have hb := X.1.2.1
  have hl : lv_has ls 1 [(0, .int x0)] := hl
  refine lv_iload_n hx hb dX7_isStuff_0 rfl (lv_at hl 0 rfl) ?_
  refine lv_i2l hx hb dX7_isStuff_1 rfl ?_
  refine lv_lconst (v := 0) hx hb dX7_isStuff_2 (by decide) ?_
  refine lv_lconst (v := 1) hx hb dX7_isStuff_3 (by decide) ?_
  refine k_i (rr_s (rest := []) X w mX7_in kw888 (c_X7_in x0.toInt64 0 1) ⟨Nat.le_of_ble_eq_true rfl, Nat.le_of_ble_eq_true rfl⟩ rfl hl.1 rfl (Nat.le_of_ble_eq_true rfl) dX7_isStuff_4 ⟨Nat.zero_le _, Nat.zero_le _⟩) w (fun H locs w => ?_)
  exact t_z X w hr hlk (in_isB _ _ _).n dX7_isStuff_7 (by simp only [f_X7_isStuff]) rfl

noncomputable def g_X7_addCell (ρ : Gr) (x1 : Int32) (x2 : Int32) : Gr :=
  let zs9 : Gr := up ρ 1 (ρ 0 0).toNatClampNeg x1
  let zs19 : Gr := up zs9 2 (zs9 0 0).toNatClampNeg x2
  let zs30 : Gr := up zs19 3 (zs19 0 0).toNatClampNeg 50
  let zs41 : Gr := up zs30 4 (zs30 0 0).toNatClampNeg 20
  let zs51 : Gr := up zs41 5 (zs41 0 0).toNatClampNeg 1
  let zs72 : Gr := up zs51 6 ((2 * (zs51 0 0)) + 0).toNatClampNeg 0
  let zs86 : Gr := up zs72 7 ((2 * (zs72 0 0)) + 0).toNatClampNeg 0
  let zs72_2 : Gr := up zs86 6 ((2 * (zs86 0 0)) + 1).toNatClampNeg 0
  let zs86_2 : Gr := up zs72_2 7 ((2 * (zs72_2 0 0)) + 1).toNatClampNeg 0
  let zs100 : Gr := up zs86_2 0 0 ((zs86_2 0 0) + 1)
  zs100
set_option maxRecDepth 100000 in
set_option maxHeartbeats 4000000 in
theorem c_X7_addCell {l : Launch} {G : GG} {σ : St} {ρ : Gr}  (x1 : Int32) (x2 : Int32) (hc : vp_in (ρ 0 0) 8) : MM l G yX7_addCell cX7_addCell 4 0 0 none [.ref (aa G 4 0), .int x1, .int x2] (setG σ 4 ρ) (Qv G (setG σ 4 (g_X7_addCell ρ x1 x2))) := by
  refine MM.of (by decide) (Nat.le_of_ble_eq_true rfl) ?_
  intro p e s m below meth c ls X hr hlk w hl
  have hx := X.1.1
  have hb := X.1.2.1
  have hl : lv_has ls 4 [(0, .ref (aa G 4 0)), (1, .int x1), (2, .int x2)] := hl
  refine lv_aload_n hx hb dX7_addCell_0 rfl (lv_at hl 0 rfl) ?_
  refine gf7_7 X w dX7_addCell_1 ?_
  refine lv_aload_n hx hb dX7_addCell_4 rfl (lv_at hl 0 rfl) ?_
  refine gf7_111 X w dX7_addCell_5 ?_
  refine lv_iload_n hx hb dX7_addCell_8 rfl (lv_at hl 1 rfl) ?_
  refine iS (f := 1) (n := 8) X w m4_1 rfl (by exact hc) dX7_addCell_9 (fun zs9 H locs ezs9 w => ?_)
  refine lv_aload_n hx hb dX7_addCell_10 rfl (lv_at hl 0 rfl) ?_
  refine gf7_13 X w dX7_addCell_11 ?_
  refine lv_aload_n hx hb dX7_addCell_14 rfl (lv_at hl 0 rfl) ?_
  refine gf7_111 X w dX7_addCell_15 ?_
  refine lv_iload_n hx hb dX7_addCell_18 rfl (lv_at hl 2 rfl) ?_
  change W _ _ _ _ _ _ _ _ _ _ _ _ _ _ _ (F0 m 19 ls _)
  refine iS (f := 2) (n := 8) X w m4_2 rfl (by replace ezs9 := ezs9.symm; subst ezs9; exact hc) dX7_addCell_19 (fun zs19 H locs ezs19 w => ?_)
  refine lv_aload_n hx hb dX7_addCell_20 rfl (lv_at hl 0 rfl) ?_
  refine gf7_16 X w dX7_addCell_21 ?_
  refine lv_aload_n hx hb dX7_addCell_24 rfl (lv_at hl 0 rfl) ?_
  refine gf7_111 X w dX7_addCell_25 ?_
  refine lv_bipush (v := 50) hx hb dX7_addCell_28 (by decide) ?_
  refine iS (f := 3) (n := 8) X w m4_3 rfl (by replace ezs19 := ezs19.symm; subst ezs19; replace ezs9 := ezs9.symm; subst ezs9; exact hc) dX7_addCell_30 (fun zs30 H locs ezs30 w => ?_)
  refine lv_aload_n hx hb dX7_addCell_31 rfl (lv_at hl 0 rfl) ?_
  refine gf7_19 X w dX7_addCell_32 ?_
  refine lv_aload_n hx hb dX7_addCell_35 rfl (lv_at hl 0 rfl) ?_
  refine gf7_111 X w dX7_addCell_36 ?_
  refine lv_bipush (v := 20) hx hb dX7_addCell_39 (by decide) ?_
  change W _ _ _ _ _ _ _ _ _ _ _ _ _ _ _ (F0 m 41 ls _)
  refine iS (f := 4) (n := 8) X w m4_4 rfl (by replace ezs30 := ezs30.symm; subst ezs30; replace ezs19 := ezs19.symm; subst ezs19; replace ezs9 := ezs9.symm; subst ezs9; exact hc) dX7_addCell_41 (fun zs41 H locs ezs41 w => ?_)
  refine lv_aload_n hx hb dX7_addCell_42 rfl (lv_at hl 0 rfl) ?_
  refine gf7_22 X w dX7_addCell_43 ?_
  refine lv_aload_n hx hb dX7_addCell_46 rfl (lv_at hl 0 rfl) ?_
  refine gf7_111 X w dX7_addCell_47 ?_
  refine lv_iconst (v := 1) hx hb dX7_addCell_50 (by decide) ?_
  refine iS (f := 5) (n := 8) X w m4_5 rfl (by replace ezs41 := ezs41.symm; subst ezs41; replace ezs30 := ezs30.symm; subst ezs30; replace ezs19 := ezs19.symm; subst ezs19; replace ezs9 := ezs9.symm; subst ezs9; exact hc) dX7_addCell_51 (fun zs51 H locs ezs51 w => ?_)
  refine lv_iconst (v := 0) hx hb dX7_addCell_52 (by decide) ?_
  refine lv_istore_n (lv' := [(3, .int 0), (0, .ref (aa G 4 0)), (1, .int x1), (2, .int x2)]) hx hb dX7_addCell_53 rfl hl (by decide) rfl (fun ls hl => ?_)
  refine lv_iload_n hx hb dX7_addCell_54 rfl (lv_at hl 0 rfl) ?_
  refine lv_iconst (v := 2) hx hb dX7_addCell_55 (by decide) ?_
  refine lv_icmp_ge (tgt := 93) hx hb dX7_addCell_56 (by decide) (fun zc56 => absurd zc56 (by decide)) (fun _ => ?_)
  change W _ _ _ _ _ _ _ _ _ _ _ _ _ _ _ (F0 m 59 ls _)
  refine lv_aload_n hx hb dX7_addCell_59 rfl (lv_at hl 1 rfl) ?_
  refine gf7_25 X w dX7_addCell_60 ?_
  refine lv_iconst (v := 2) hx hb dX7_addCell_63 (by decide) ?_
  refine lv_aload_n hx hb dX7_addCell_64 rfl (lv_at hl 1 rfl) ?_
  refine gf7_111 X w dX7_addCell_65 ?_
  refine lv_imul hx hb dX7_addCell_68 ?_
  refine lv_iload_n hx hb dX7_addCell_69 rfl (lv_at hl 0 rfl) ?_
  refine lv_iadd hx hb dX7_addCell_70 ?_
  refine lv_iconst (v := 0) hx hb dX7_addCell_71 (by decide) ?_
  refine iS (f := 6) (n := 16) X w m4_6 rfl (by replace ezs51 := ezs51.symm; subst ezs51; replace ezs41 := ezs41.symm; subst ezs41; replace ezs30 := ezs30.symm; subst ezs30; replace ezs19 := ezs19.symm; subst ezs19; replace ezs9 := ezs9.symm; subst ezs9; first | exact ix2s hc v02 | exact ix2s hc v12) dX7_addCell_72 (fun zs72 H locs ezs72 w => ?_)
  refine lv_aload_n hx hb dX7_addCell_73 rfl (lv_at hl 1 rfl) ?_
  refine gf7_28 X w dX7_addCell_74 ?_
  change W _ _ _ _ _ _ _ _ _ _ _ _ _ _ _ (F0 m 77 ls _)
  refine lv_iconst (v := 2) hx hb dX7_addCell_77 (by decide) ?_
  refine lv_aload_n hx hb dX7_addCell_78 rfl (lv_at hl 1 rfl) ?_
  refine gf7_111 X w dX7_addCell_79 ?_
  refine lv_imul hx hb dX7_addCell_82 ?_
  refine lv_iload_n hx hb dX7_addCell_83 rfl (lv_at hl 0 rfl) ?_
  refine lv_iadd hx hb dX7_addCell_84 ?_
  refine lv_iconst (v := 0) hx hb dX7_addCell_85 (by decide) ?_
  refine iS (f := 7) (n := 16) X w m4_7 rfl (by replace ezs72 := ezs72.symm; subst ezs72; replace ezs51 := ezs51.symm; subst ezs51; replace ezs41 := ezs41.symm; subst ezs41; replace ezs30 := ezs30.symm; subst ezs30; replace ezs19 := ezs19.symm; subst ezs19; replace ezs9 := ezs9.symm; subst ezs9; first | exact ix2s hc v02 | exact ix2s hc v12) dX7_addCell_86 (fun zs86 H locs ezs86 w => ?_)
  refine lv_iinc (v := 1) (lv' := [(3, .int 1), (0, .ref (aa G 4 0)), (1, .int x1), (2, .int x2)]) hx hb dX7_addCell_87 hl (k := 0) rfl (by decide) (by decide) rfl (fun ls hl => ?_)
  refine lv_goto (tgt := 54) hx hb dX7_addCell_90 (by decide) ?_
  refine lv_iload_n hx hb dX7_addCell_54 rfl (lv_at hl 0 rfl) ?_
  refine lv_iconst (v := 2) hx hb dX7_addCell_55 (by decide) ?_
  change W _ _ _ _ _ _ _ _ _ _ _ _ _ _ _ (F0 m 56 ls _)
  refine lv_icmp_ge (tgt := 93) hx hb dX7_addCell_56 (by decide) (fun zc56 => absurd zc56 (by decide)) (fun _ => ?_)
  refine lv_aload_n hx hb dX7_addCell_59 rfl (lv_at hl 1 rfl) ?_
  refine gf7_25 X w dX7_addCell_60 ?_
  refine lv_iconst (v := 2) hx hb dX7_addCell_63 (by decide) ?_
  refine lv_aload_n hx hb dX7_addCell_64 rfl (lv_at hl 1 rfl) ?_
  refine gf7_111 X w dX7_addCell_65 ?_
  refine lv_imul hx hb dX7_addCell_68 ?_
  refine lv_iload_n hx hb dX7_addCell_69 rfl (lv_at hl 0 rfl) ?_
  refine lv_iadd hx hb dX7_addCell_70 ?_
  refine lv_iconst (v := 0) hx hb dX7_addCell_71 (by decide) ?_
  refine iS (f := 6) (n := 16) X w m4_6 rfl (by replace ezs86 := ezs86.symm; subst ezs86; replace ezs72 := ezs72.symm; subst ezs72; replace ezs51 := ezs51.symm; subst ezs51; replace ezs41 := ezs41.symm; subst ezs41; replace ezs30 := ezs30.symm; subst ezs30; replace ezs19 := ezs19.symm; subst ezs19; replace ezs9 := ezs9.symm; subst ezs9; first | exact ix2s hc v02 | exact ix2s hc v12) dX7_addCell_72 (fun zs72_2 H locs ezs72_2 w => ?_)
  refine lv_aload_n hx hb dX7_addCell_73 rfl (lv_at hl 1 rfl) ?_
  change W _ _ _ _ _ _ _ _ _ _ _ _ _ _ _ (F0 m 74 ls _)
  refine gf7_28 X w dX7_addCell_74 ?_
  refine lv_iconst (v := 2) hx hb dX7_addCell_77 (by decide) ?_
  refine lv_aload_n hx hb dX7_addCell_78 rfl (lv_at hl 1 rfl) ?_
  refine gf7_111 X w dX7_addCell_79 ?_
  refine lv_imul hx hb dX7_addCell_82 ?_
  refine lv_iload_n hx hb dX7_addCell_83 rfl (lv_at hl 0 rfl) ?_
  refine lv_iadd hx hb dX7_addCell_84 ?_
  refine lv_iconst (v := 0) hx hb dX7_addCell_85 (by decide) ?_
  refine iS (f := 7) (n := 16) X w m4_7 rfl (by replace ezs72_2 := ezs72_2.symm; subst ezs72_2; replace ezs86 := ezs86.symm; subst ezs86; replace ezs72 := ezs72.symm; subst ezs72; replace ezs51 := ezs51.symm; subst ezs51; replace ezs41 := ezs41.symm; subst ezs41; replace ezs30 := ezs30.symm; subst ezs30; replace ezs19 := ezs19.symm; subst ezs19; replace ezs9 := ezs9.symm; subst ezs9; first | exact ix2s hc v02 | exact ix2s hc v12) dX7_addCell_86 (fun zs86_2 H locs ezs86_2 w => ?_)
  refine lv_iinc (v := 2) (lv' := [(3, .int 2), (0, .ref (aa G 4 0)), (1, .int x1), (2, .int x2)]) hx hb dX7_addCell_87 hl (k := 0) rfl (by decide) (by decide) rfl (fun ls hl => ?_)
  refine lv_goto (tgt := 54) hx hb dX7_addCell_90 (by decide) ?_
  refine lv_iload_n hx hb dX7_addCell_54 rfl (lv_at hl 0 rfl) ?_
  change W _ _ _ _ _ _ _ _ _ _ _ _ _ _ _ (F0 m 55 ls _)
  refine lv_iconst (v := 2) hx hb dX7_addCell_55 (by decide) ?_
  refine lv_icmp_ge (tgt := 93) hx hb dX7_addCell_56 (by decide) (fun _ => ?_) (fun zc56 => absurd (by decide) zc56)
  refine lv_aload_n hx hb dX7_addCell_93 rfl (lv_at hl 1 rfl) ?_
  refine lv_dup hx hb dX7_addCell_94 rfl ?_
  refine gf7_111 X w dX7_addCell_95 ?_
  refine lv_iconst (v := 1) hx hb dX7_addCell_98 (by decide) ?_
  refine lv_iadd hx hb dX7_addCell_99 ?_
  refine pf7_111 X w dX7_addCell_100 (fun zs100 H locs ezs100 w => ?_)
  exact t_v X w hr hlk dX7_addCell_103 (by replace ezs100 := ezs100.symm; subst ezs100; replace ezs86_2 := ezs86_2.symm; subst ezs86_2; replace ezs72_2 := ezs72_2.symm; subst ezs72_2; replace ezs86 := ezs86.symm; subst ezs86; replace ezs72 := ezs72.symm; subst ezs72; replace ezs51 := ezs51.symm; subst ezs51; replace ezs41 := ezs41.symm; subst ezs41; replace ezs30 := ezs30.symm; subst ezs30; replace ezs19 := ezs19.symm; subst ezs19; replace ezs9 := ezs9.symm; subst ezs9; simp only [g_X7_addCell])

noncomputable def b_X7_partsFrom_6 (ρ : Gr) (y1 : Int32) (y2 : Int32) (y3 : Int32) (k : Nat) (v : Int32) : Int32 :=
  if (ρ 9 (nI k).toNatClampNeg) = y1 then
    if (ρ 11 (nI k).toNatClampNeg) = y2 then
      if (ρ 12 (nI k).toNatClampNeg) = y3 then
        let zv62_4 : Int32 := v + (ρ 13 (nI k).toNatClampNeg)
        zv62_4
      else
        let zv62_3 : Int32 := v + 0
        zv62_3
    else
      let zv62_2 : Int32 := v + 0
      zv62_2
  else
    let zv62 : Int32 := v + 0
    zv62
noncomputable def l_X7_partsFrom_6 (ρ : Gr) (y1 : Int32) (y2 : Int32) (y3 : Int32) (v0 : Int32) : Int32 := itn (b_X7_partsFrom_6 ρ y1 y2 y3) (ρ 0 8).toNatClampNeg v0
noncomputable def f_X7_partsFrom (ρ : Gr) (x1 : Int32) (x2 : Int32) (x3 : Int32) : Int32 :=
  let zl6 : Int32 := (l_X7_partsFrom_6 ρ x1 x2 x3 0)
  zl6
set_option maxRecDepth 100000 in
set_option maxHeartbeats 4000000 in
theorem lp_X7_partsFrom_6 {l : Launch} {G : GG} {p : Program} {e : Env} {s : State} {m : MethodId} {args : Array Value} {below : List Frame} {meth : Method} {c : Code} {Q : State → Prop} {σ : St} {ρ : Gr} (X : Cx p m c cX7_partsFrom 6 s args RX7 G) (y1 : Int32) (y2 : Int32) (y3 : Int32) (v0 : Int32) (hw : (ρ 0 8).toNatClampNeg ≤ 24)
    (kk : ∀ (H : Heap) (locs : List Loc) (ls : Array Slot), Wh G s σ 4 ρ H locs → lv_has ls 6 [(0, .ref (aa G 4 0)), (1, .int y1), (2, .int y2), (3, .int y3), (4, .int (l_X7_partsFrom_6 ρ y1 y2 y3 v0)), (5, .int (nI ((ρ 0 8).toNatClampNeg)))] → W p l e (rmv 0 0) s m args below meth c H locs 0 0 Q (F0 m 70 ls [])) :
    ∀ (n k : Nat) (v : Int32), k ≤ (ρ 0 8).toNatClampNeg → (ρ 0 8).toNatClampNeg - k < n → v = itn (b_X7_partsFrom_6 ρ y1 y2 y3) k v0 → ∀ (H : Heap) (locs : List Loc) (ls : Array Slot), Wh G s σ 4 ρ H locs → lv_has ls 6 [(0, .ref (aa G 4 0)), (1, .int y1), (2, .int y2), (3, .int y3), (4, .int v), (5, .int (nI k))] → W p l e (rmv 0 0) s m args below meth c H locs 0 0 Q (F0 m 6 ls []) := by
  have hx := X.1.1
  have hb := X.1.2.1
  intro n
  induction n with
  | zero => intro k v _ h; omega
  | succ n ih =>
    intro k v hkN hn ev H locs ls w hl
    refine lv_iload hx hb dX7_partsFrom_6 (lv_at hl 5 rfl) ?_
    refine lv_aload_n hx hb dX7_partsFrom_8 rfl (lv_at hl 0 rfl) ?_
    refine gf7_132 X w dX7_partsFrom_9 ?_
    refine lv_icmp_ge (tgt := 70) hx hb dX7_partsFrom_12 (by decide) (fun zc12 => ?_) (fun zc12 => ?_)
    · -- 70
      have hkE : k = (ρ 0 8).toNatClampNeg := lp_eq hkN zc12
      have ev2 : l_X7_partsFrom_6 ρ y1 y2 y3 v0 = v := by unfold l_X7_partsFrom_6; rw [← hkE]; exact ev.symm
      rw [ev2] at kk
      rw [hkE] at hl
      exact kk _ _ _ w (lv_sub hl [0, 1, 2, 3, 4, 5] rfl)
    · -- 15
      have hk : k < (ρ 0 8).toNatClampNeg := lp_lt hkN zc12
      refine lv_iload hx hb dX7_partsFrom_15 (lv_at hl 4 rfl) ?_
      refine lv_aload_n hx hb dX7_partsFrom_17 rfl (lv_at hl 0 rfl) ?_
      refine gf7_31 X w dX7_partsFrom_18 ?_
      refine lv_iload hx hb dX7_partsFrom_21 (lv_at hl 5 rfl) ?_
      refine ia (f := 9) (n := 24) X w m4_9 rfl (vp_in_nI (by omega) (by decide)) dX7_partsFrom_23 ?_
      refine lv_iload_n hx hb dX7_partsFrom_24 rfl (lv_at hl 1 rfl) ?_
      refine lv_icmp_ne (tgt := 60) hx hb dX7_partsFrom_25 (by decide) (fun zc25 => ?_) (fun zc25 => ?_)
      · -- 60
        refine lv_iconst (v := 0) hx hb dX7_partsFrom_60 (by decide) ?_
        refine lv_iadd hx hb dX7_partsFrom_61 ?_
        refine lv_topi (fun zv62 ezv62 => ?_)
        refine lv_istore (lv' := [(4, .int zv62), (0, .ref (aa G 4 0)), (1, .int y1), (2, .int y2), (3, .int y3), (5, .int (nI k))]) hx hb dX7_partsFrom_62 hl (by decide) rfl (fun ls hl => ?_)
        refine lv_iinc (v := nI (k + 1)) (lv' := [(5, .int (nI (k + 1))), (4, .int zv62), (0, .ref (aa G 4 0)), (1, .int y1), (2, .int y2), (3, .int y3)]) hx hb dX7_partsFrom_64 hl (k := 5) rfl (nI_1 _) (by decide) rfl (fun ls hl => ?_)
        refine lv_goto (tgt := 6) hx hb dX7_partsFrom_67 (by decide) ?_
        exact ih (k + 1) zv62 (by omega) (by omega) (by replace ezv62 := ezv62.symm; subst ezv62; simp only [itn, ← ev, b_X7_partsFrom_6, if_neg zc25])  _ _ _ w (lv_sub hl [2, 3, 4, 5, 1, 0] rfl)
      · -- 28
        refine lv_aload_n hx hb dX7_partsFrom_28 rfl (lv_at hl 0 rfl) ?_
        refine gf7_37 X w dX7_partsFrom_29 ?_
        refine lv_iload hx hb dX7_partsFrom_32 (lv_at hl 5 rfl) ?_
        refine ia (f := 11) (n := 24) X w m4_11 rfl (vp_in_nI (by omega) (by decide)) dX7_partsFrom_34 ?_
        refine lv_iload_n hx hb dX7_partsFrom_35 rfl (lv_at hl 2 rfl) ?_
        refine lv_icmp_ne (tgt := 60) hx hb dX7_partsFrom_36 (by decide) (fun zc36 => ?_) (fun zc36 => ?_)
        · -- 60
          refine lv_iconst (v := 0) hx hb dX7_partsFrom_60 (by decide) ?_
          refine lv_iadd hx hb dX7_partsFrom_61 ?_
          refine lv_topi (fun zv62_2 ezv62_2 => ?_)
          refine lv_istore (lv' := [(4, .int zv62_2), (0, .ref (aa G 4 0)), (1, .int y1), (2, .int y2), (3, .int y3), (5, .int (nI k))]) hx hb dX7_partsFrom_62 hl (by decide) rfl (fun ls hl => ?_)
          refine lv_iinc (v := nI (k + 1)) (lv' := [(5, .int (nI (k + 1))), (4, .int zv62_2), (0, .ref (aa G 4 0)), (1, .int y1), (2, .int y2), (3, .int y3)]) hx hb dX7_partsFrom_64 hl (k := 5) rfl (nI_1 _) (by decide) rfl (fun ls hl => ?_)
          refine lv_goto (tgt := 6) hx hb dX7_partsFrom_67 (by decide) ?_
          exact ih (k + 1) zv62_2 (by omega) (by omega) (by replace ezv62_2 := ezv62_2.symm; subst ezv62_2; simp only [itn, ← ev, b_X7_partsFrom_6, if_pos zc25, if_neg zc36])  _ _ _ w (lv_sub hl [2, 3, 4, 5, 1, 0] rfl)
        · -- 39
          refine lv_aload_n hx hb dX7_partsFrom_39 rfl (lv_at hl 0 rfl) ?_
          refine gf7_40 X w dX7_partsFrom_40 ?_
          refine lv_iload hx hb dX7_partsFrom_43 (lv_at hl 5 rfl) ?_
          refine ia (f := 12) (n := 24) X w m4_12 rfl (vp_in_nI (by omega) (by decide)) dX7_partsFrom_45 ?_
          refine lv_iload_n hx hb dX7_partsFrom_46 rfl (lv_at hl 3 rfl) ?_
          refine lv_icmp_ne (tgt := 60) hx hb dX7_partsFrom_47 (by decide) (fun zc47 => ?_) (fun zc47 => ?_)
          · -- 60
            refine lv_iconst (v := 0) hx hb dX7_partsFrom_60 (by decide) ?_
            refine lv_iadd hx hb dX7_partsFrom_61 ?_
            refine lv_topi (fun zv62_3 ezv62_3 => ?_)
            refine lv_istore (lv' := [(4, .int zv62_3), (0, .ref (aa G 4 0)), (1, .int y1), (2, .int y2), (3, .int y3), (5, .int (nI k))]) hx hb dX7_partsFrom_62 hl (by decide) rfl (fun ls hl => ?_)
            refine lv_iinc (v := nI (k + 1)) (lv' := [(5, .int (nI (k + 1))), (4, .int zv62_3), (0, .ref (aa G 4 0)), (1, .int y1), (2, .int y2), (3, .int y3)]) hx hb dX7_partsFrom_64 hl (k := 5) rfl (nI_1 _) (by decide) rfl (fun ls hl => ?_)
            refine lv_goto (tgt := 6) hx hb dX7_partsFrom_67 (by decide) ?_
            exact ih (k + 1) zv62_3 (by omega) (by omega) (by replace ezv62_3 := ezv62_3.symm; subst ezv62_3; simp only [itn, ← ev, b_X7_partsFrom_6, if_pos zc25, if_pos zc36, if_neg zc47])  _ _ _ w (lv_sub hl [2, 3, 4, 5, 1, 0] rfl)
          · -- 50
            refine lv_aload_n hx hb dX7_partsFrom_50 rfl (lv_at hl 0 rfl) ?_
            refine gf7_43 X w dX7_partsFrom_51 ?_
            refine lv_iload hx hb dX7_partsFrom_54 (lv_at hl 5 rfl) ?_
            refine ia (f := 13) (n := 24) X w m4_13 rfl (vp_in_nI (by omega) (by decide)) dX7_partsFrom_56 ?_
            refine lv_goto (tgt := 61) hx hb dX7_partsFrom_57 (by decide) ?_
            refine lv_iadd hx hb dX7_partsFrom_61 ?_
            refine lv_topi (fun zv62_4 ezv62_4 => ?_)
            refine lv_istore (lv' := [(4, .int zv62_4), (0, .ref (aa G 4 0)), (1, .int y1), (2, .int y2), (3, .int y3), (5, .int (nI k))]) hx hb dX7_partsFrom_62 hl (by decide) rfl (fun ls hl => ?_)
            refine lv_iinc (v := nI (k + 1)) (lv' := [(5, .int (nI (k + 1))), (4, .int zv62_4), (0, .ref (aa G 4 0)), (1, .int y1), (2, .int y2), (3, .int y3)]) hx hb dX7_partsFrom_64 hl (k := 5) rfl (nI_1 _) (by decide) rfl (fun ls hl => ?_)
            refine lv_goto (tgt := 6) hx hb dX7_partsFrom_67 (by decide) ?_
            exact ih (k + 1) zv62_4 (by omega) (by omega) (by replace ezv62_4 := ezv62_4.symm; subst ezv62_4; simp only [itn, ← ev, b_X7_partsFrom_6, if_pos zc25, if_pos zc36, if_pos zc47])  _ _ _ w (lv_sub hl [2, 3, 4, 5, 1, 0] rfl)
set_option maxRecDepth 100000 in
set_option maxHeartbeats 4000000 in
theorem c_X7_partsFrom {l : Launch} {G : GG} {σ : St} {ρ : Gr}  (x1 : Int32) (x2 : Int32) (x3 : Int32) (hw : (ρ 0 8).toNatClampNeg ≤ 24) : MM l G yX7_partsFrom cX7_partsFrom 6 0 0 (some .int) [.ref (aa G 4 0), .int x1, .int x2, .int x3] (setG σ 4 ρ) (Qi G (f_X7_partsFrom ρ x1 x2 x3) (setG σ 4 ρ)) := by
  refine MM.of (by decide) (Nat.le_of_ble_eq_true rfl) ?_
  intro p e s m below meth c ls X hr hlk w hl
  have hx := X.1.1
  have hb := X.1.2.1
  have hl : lv_has ls 6 [(0, .ref (aa G 4 0)), (1, .int x1), (2, .int x2), (3, .int x3)] := hl
  refine lv_iconst (v := 0) hx hb dX7_partsFrom_0 (by decide) ?_
  refine lv_istore (lv' := [(4, .int 0), (0, .ref (aa G 4 0)), (1, .int x1), (2, .int x2), (3, .int x3)]) hx hb dX7_partsFrom_1 hl (by decide) rfl (fun ls hl => ?_)
  refine lv_iconst (v := 0) hx hb dX7_partsFrom_3 (by decide) ?_
  refine lv_istore (lv' := [(5, .int 0), (4, .int 0), (0, .ref (aa G 4 0)), (1, .int x1), (2, .int x2), (3, .int x3)]) hx hb dX7_partsFrom_4 hl (by decide) rfl (fun ls hl => ?_)
  refine lp_X7_partsFrom_6 X x1 x2 x3 0 (by assumption) (fun H locs ls w hl => ?_) ((ρ 0 8).toNatClampNeg + 1) 0 _ (Nat.zero_le _) (Nat.lt_succ_of_le (Nat.sub_le _ _)) rfl  _ _ _ w (lv_sub hl [2, 3, 4, 5, 1, 0] rfl)
  obtain ⟨zl6, ezl6⟩ : ∃ y : Int32, y = (l_X7_partsFrom_6 ρ x1 x2 x3 0) := ⟨_, rfl⟩
  rw [← ezl6] at hl
  refine lv_iload hx hb dX7_partsFrom_70 (lv_at hl 4 rfl) ?_
  exact t_i X w hr hlk dX7_partsFrom_72 (by replace ezl6 := ezl6.symm; subst ezl6; simp only [f_X7_partsFrom]) rfl

noncomputable def g_X7_addWay (ρ : Gr) (x1 : Int32) (x2 : Int32) (x3 : Int32) (x4 : Int32) (x5 : Int32) : Gr :=
  let zs9 : Gr := up ρ 9 (ρ 0 8).toNatClampNeg x1
  let zs19 : Gr := up zs9 10 (zs9 0 8).toNatClampNeg x2
  let zs29 : Gr := up zs19 11 (zs19 0 8).toNatClampNeg x3
  let zs40 : Gr := up zs29 12 (zs29 0 8).toNatClampNeg x4
  let zs51 : Gr := up zs40 13 (zs40 0 8).toNatClampNeg x5
  let zs61 : Gr := up zs51 14 (zs51 0 8).toNatClampNeg 0
  let zs69 : Gr := up zs61 0 8 ((zs61 0 8) + 1)
  zs69
set_option maxRecDepth 100000 in
set_option maxHeartbeats 4000000 in
theorem c_X7_addWay {l : Launch} {G : GG} {σ : St} {ρ : Gr}  (x1 : Int32) (x2 : Int32) (x3 : Int32) (x4 : Int32) (x5 : Int32) (hc : vp_in (ρ 0 8) 24) : MM l G yX7_addWay cX7_addWay 6 0 0 none [.ref (aa G 4 0), .int x1, .int x2, .int x3, .int x4, .int x5] (setG σ 4 ρ) (Qv G (setG σ 4 (g_X7_addWay ρ x1 x2 x3 x4 x5))) := by
  refine MM.of (by decide) (Nat.le_of_ble_eq_true rfl) ?_
  intro p e s m below meth c ls X hr hlk w hl
  have hx := X.1.1
  have hb := X.1.2.1
  have hl : lv_has ls 6 [(0, .ref (aa G 4 0)), (1, .int x1), (2, .int x2), (3, .int x3), (4, .int x4), (5, .int x5)] := hl
  refine lv_aload_n hx hb dX7_addWay_0 rfl (lv_at hl 0 rfl) ?_
  refine gf7_31 X w dX7_addWay_1 ?_
  refine lv_aload_n hx hb dX7_addWay_4 rfl (lv_at hl 0 rfl) ?_
  refine gf7_132 X w dX7_addWay_5 ?_
  refine lv_iload_n hx hb dX7_addWay_8 rfl (lv_at hl 1 rfl) ?_
  refine iS (f := 9) (n := 24) X w m4_9 rfl (by exact hc) dX7_addWay_9 (fun zs9 H locs ezs9 w => ?_)
  refine lv_aload_n hx hb dX7_addWay_10 rfl (lv_at hl 0 rfl) ?_
  refine gf7_34 X w dX7_addWay_11 ?_
  refine lv_aload_n hx hb dX7_addWay_14 rfl (lv_at hl 0 rfl) ?_
  refine gf7_132 X w dX7_addWay_15 ?_
  refine lv_iload_n hx hb dX7_addWay_18 rfl (lv_at hl 2 rfl) ?_
  change W _ _ _ _ _ _ _ _ _ _ _ _ _ _ _ (F0 m 19 ls _)
  refine iS (f := 10) (n := 24) X w m4_10 rfl (by replace ezs9 := ezs9.symm; subst ezs9; exact hc) dX7_addWay_19 (fun zs19 H locs ezs19 w => ?_)
  refine lv_aload_n hx hb dX7_addWay_20 rfl (lv_at hl 0 rfl) ?_
  refine gf7_37 X w dX7_addWay_21 ?_
  refine lv_aload_n hx hb dX7_addWay_24 rfl (lv_at hl 0 rfl) ?_
  refine gf7_132 X w dX7_addWay_25 ?_
  refine lv_iload_n hx hb dX7_addWay_28 rfl (lv_at hl 3 rfl) ?_
  refine iS (f := 11) (n := 24) X w m4_11 rfl (by replace ezs19 := ezs19.symm; subst ezs19; replace ezs9 := ezs9.symm; subst ezs9; exact hc) dX7_addWay_29 (fun zs29 H locs ezs29 w => ?_)
  refine lv_aload_n hx hb dX7_addWay_30 rfl (lv_at hl 0 rfl) ?_
  refine gf7_40 X w dX7_addWay_31 ?_
  refine lv_aload_n hx hb dX7_addWay_34 rfl (lv_at hl 0 rfl) ?_
  refine gf7_132 X w dX7_addWay_35 ?_
  refine lv_iload hx hb dX7_addWay_38 (lv_at hl 4 rfl) ?_
  change W _ _ _ _ _ _ _ _ _ _ _ _ _ _ _ (F0 m 40 ls _)
  refine iS (f := 12) (n := 24) X w m4_12 rfl (by replace ezs29 := ezs29.symm; subst ezs29; replace ezs19 := ezs19.symm; subst ezs19; replace ezs9 := ezs9.symm; subst ezs9; exact hc) dX7_addWay_40 (fun zs40 H locs ezs40 w => ?_)
  refine lv_aload_n hx hb dX7_addWay_41 rfl (lv_at hl 0 rfl) ?_
  refine gf7_43 X w dX7_addWay_42 ?_
  refine lv_aload_n hx hb dX7_addWay_45 rfl (lv_at hl 0 rfl) ?_
  refine gf7_132 X w dX7_addWay_46 ?_
  refine lv_iload hx hb dX7_addWay_49 (lv_at hl 5 rfl) ?_
  refine iS (f := 13) (n := 24) X w m4_13 rfl (by replace ezs40 := ezs40.symm; subst ezs40; replace ezs29 := ezs29.symm; subst ezs29; replace ezs19 := ezs19.symm; subst ezs19; replace ezs9 := ezs9.symm; subst ezs9; exact hc) dX7_addWay_51 (fun zs51 H locs ezs51 w => ?_)
  refine lv_aload_n hx hb dX7_addWay_52 rfl (lv_at hl 0 rfl) ?_
  refine gf7_46 X w dX7_addWay_53 ?_
  refine lv_aload_n hx hb dX7_addWay_56 rfl (lv_at hl 0 rfl) ?_
  refine gf7_132 X w dX7_addWay_57 ?_
  refine lv_iconst (v := 0) hx hb dX7_addWay_60 (by decide) ?_
  change W _ _ _ _ _ _ _ _ _ _ _ _ _ _ _ (F0 m 61 ls _)
  refine zS (f := 14) (n := 24) X w m4_14 rfl (by replace ezs51 := ezs51.symm; subst ezs51; replace ezs40 := ezs40.symm; subst ezs40; replace ezs29 := ezs29.symm; subst ezs29; replace ezs19 := ezs19.symm; subst ezs19; replace ezs9 := ezs9.symm; subst ezs9; exact hc) isB0 dX7_addWay_61 (fun zs61 H locs ezs61 w => ?_)
  refine lv_aload_n hx hb dX7_addWay_62 rfl (lv_at hl 0 rfl) ?_
  refine lv_dup hx hb dX7_addWay_63 rfl ?_
  refine gf7_132 X w dX7_addWay_64 ?_
  refine lv_iconst (v := 1) hx hb dX7_addWay_67 (by decide) ?_
  refine lv_iadd hx hb dX7_addWay_68 ?_
  refine pf7_132 X w dX7_addWay_69 (fun zs69 H locs ezs69 w => ?_)
  exact t_v X w hr hlk dX7_addWay_72 (by replace ezs69 := ezs69.symm; subst ezs69; replace ezs61 := ezs61.symm; subst ezs61; replace ezs51 := ezs51.symm; subst ezs51; replace ezs40 := ezs40.symm; subst ezs40; replace ezs29 := ezs29.symm; subst ezs29; replace ezs19 := ezs19.symm; subst ezs19; replace ezs9 := ezs9.symm; subst ezs9; simp only [g_X7_addWay])

noncomputable def f_X7_areEnds (ρ : Gr) (x1 : Int32) (x2 : Int32) : Int32 :=
  if (f_X7_isCell ρ x1) = 0 then
    0
  else
    if x2 = 8 then
      if x1 = x2 then
        0
      else
        1
    else
      if (f_X7_isCell ρ x2) = 0 then
        0
      else
        if x1 = x2 then
          0
        else
          1
set_option maxRecDepth 100000 in
set_option maxHeartbeats 4000000 in
theorem c_X7_areEnds {l : Launch} {G : GG} {σ : St} {ρ : Gr}  (x1 : Int32) (x2 : Int32) : MM l G yX7_areEnds cX7_areEnds 3 2 46 (some .boolean) [.ref (aa G 4 0), .int x1, .int x2] (setG σ 4 ρ) (Qi G (f_X7_areEnds ρ x1 x2) (setG σ 4 ρ)) := by
  refine MM.of (by decide) (Nat.le_of_ble_eq_true rfl) ?_
  intro p e s m below meth c ls X hr hlk w hl
  have hx := X.1.1
  have hb := X.1.2.1
  have hl : lv_has ls 3 [(0, .ref (aa G 4 0)), (1, .int x1), (2, .int x2)] := hl
  refine lv_aload_n hx hb dX7_areEnds_0 rfl (lv_at hl 0 rfl) ?_
  refine lv_iload_n hx hb dX7_areEnds_1 rfl (lv_at hl 1 rfl) ?_
  refine k_i (rr_v (rest := []) X w mX7_isCell kw884 (c_X7_isCell x1) m4_0 rfl rfl ⟨Nat.le_of_ble_eq_true rfl, Nat.le_of_ble_eq_true rfl⟩ rfl hl.1 rfl (Nat.le_of_ble_eq_true rfl) dX7_areEnds_2 ⟨Nat.zero_le _, Nat.zero_le _⟩) w (fun H locs w => ?_)
  refine lv_if_eq (tgt := 31) hx hb dX7_areEnds_5 (by decide) (fun zc5 => ?_) (fun zc5 => ?_)
  · -- 31
    refine lv_iconst (v := 0) hx hb dX7_areEnds_31 (by decide) ?_
    exact t_z X w hr hlk isB0.n dX7_areEnds_32 (by simp only [f_X7_areEnds, if_pos zc5]) rfl
  · -- 8
    refine lv_iload_n hx hb dX7_areEnds_8 rfl (lv_at hl 2 rfl) ?_
    refine lv_bipush (v := 8) hx hb dX7_areEnds_9 (by decide) ?_
    refine lv_icmp_eq (tgt := 22) hx hb dX7_areEnds_11 (by decide) (fun zc11 => ?_) (fun zc11 => ?_)
    · -- 22
      refine lv_iload_n hx hb dX7_areEnds_22 rfl (lv_at hl 1 rfl) ?_
      refine lv_iload_n hx hb dX7_areEnds_23 rfl (lv_at hl 2 rfl) ?_
      refine lv_icmp_eq (tgt := 31) hx hb dX7_areEnds_24 (by decide) (fun zc24 => ?_) (fun zc24 => ?_)
      · -- 31
        refine lv_iconst (v := 0) hx hb dX7_areEnds_31 (by decide) ?_
        exact t_z X w hr hlk isB0.n dX7_areEnds_32 (by simp only [f_X7_areEnds, if_neg zc5, if_pos zc11, if_pos zc24]) rfl
      · -- 27
        refine lv_iconst (v := 1) hx hb dX7_areEnds_27 (by decide) ?_
        refine lv_goto (tgt := 32) hx hb dX7_areEnds_28 (by decide) ?_
        exact t_z X w hr hlk isB1.n dX7_areEnds_32 (by simp only [f_X7_areEnds, if_neg zc5, if_pos zc11, if_neg zc24]) rfl
    · -- 14
      refine lv_aload_n hx hb dX7_areEnds_14 rfl (lv_at hl 0 rfl) ?_
      refine lv_iload_n hx hb dX7_areEnds_15 rfl (lv_at hl 2 rfl) ?_
      refine k_i (rr_v (rest := []) X w mX7_isCell kw884 (c_X7_isCell x2) m4_0 rfl rfl ⟨Nat.le_of_ble_eq_true rfl, Nat.le_of_ble_eq_true rfl⟩ rfl hl.1 rfl (Nat.le_of_ble_eq_true rfl) dX7_areEnds_16 ⟨Nat.zero_le _, Nat.zero_le _⟩) w (fun H locs w => ?_)
      refine lv_if_eq (tgt := 31) hx hb dX7_areEnds_19 (by decide) (fun zc19 => ?_) (fun zc19 => ?_)
      · -- 31
        refine lv_iconst (v := 0) hx hb dX7_areEnds_31 (by decide) ?_
        exact t_z X w hr hlk isB0.n dX7_areEnds_32 (by simp only [f_X7_areEnds, if_neg zc5, if_neg zc11, if_pos zc19]) rfl
      · -- 22
        refine lv_iload_n hx hb dX7_areEnds_22 rfl (lv_at hl 1 rfl) ?_
        refine lv_iload_n hx hb dX7_areEnds_23 rfl (lv_at hl 2 rfl) ?_
        refine lv_icmp_eq (tgt := 31) hx hb dX7_areEnds_24 (by decide) (fun zc24 => ?_) (fun zc24 => ?_)
        · -- 31
          refine lv_iconst (v := 0) hx hb dX7_areEnds_31 (by decide) ?_
          exact t_z X w hr hlk isB0.n dX7_areEnds_32 (by simp only [f_X7_areEnds, if_neg zc5, if_neg zc11, if_neg zc19, if_pos zc24]) rfl
        · -- 27
          refine lv_iconst (v := 1) hx hb dX7_areEnds_27 (by decide) ?_
          refine lv_goto (tgt := 32) hx hb dX7_areEnds_28 (by decide) ?_
          exact t_z X w hr hlk isB1.n dX7_areEnds_32 (by simp only [f_X7_areEnds, if_neg zc5, if_neg zc11, if_neg zc19, if_neg zc24]) rfl

noncomputable def g_X7_addRiver (ρ : Gr) (x1 : Int32) (x2 : Int32) (x3 : Int32) : Gr :=
  let zs9 : Gr := up ρ 16 (ρ 0 15).toNatClampNeg x1
  let zs19 : Gr := up zs9 17 (zs9 0 15).toNatClampNeg x2
  let zs29 : Gr := up zs19 18 (zs19 0 15).toNatClampNeg x3
  let zs37 : Gr := up zs29 0 15 ((zs29 0 15) + 1)
  zs37
set_option maxRecDepth 100000 in
set_option maxHeartbeats 4000000 in
theorem c_X7_addRiver {l : Launch} {G : GG} {σ : St} {ρ : Gr}  (x1 : Int32) (x2 : Int32) (x3 : Int32) (hc : vp_in (ρ 0 15) 8) : MM l G yX7_addRiver cX7_addRiver 4 0 0 none [.ref (aa G 4 0), .int x1, .int x2, .int x3] (setG σ 4 ρ) (Qv G (setG σ 4 (g_X7_addRiver ρ x1 x2 x3))) := by
  refine MM.of (by decide) (Nat.le_of_ble_eq_true rfl) ?_
  intro p e s m below meth c ls X hr hlk w hl
  have hx := X.1.1
  have hb := X.1.2.1
  have hl : lv_has ls 4 [(0, .ref (aa G 4 0)), (1, .int x1), (2, .int x2), (3, .int x3)] := hl
  refine lv_aload_n hx hb dX7_addRiver_0 rfl (lv_at hl 0 rfl) ?_
  refine gf7_50 X w dX7_addRiver_1 ?_
  refine lv_aload_n hx hb dX7_addRiver_4 rfl (lv_at hl 0 rfl) ?_
  refine gf7_147 X w dX7_addRiver_5 ?_
  refine lv_iload_n hx hb dX7_addRiver_8 rfl (lv_at hl 1 rfl) ?_
  refine iS (f := 16) (n := 8) X w m4_16 rfl (by exact hc) dX7_addRiver_9 (fun zs9 H locs ezs9 w => ?_)
  refine lv_aload_n hx hb dX7_addRiver_10 rfl (lv_at hl 0 rfl) ?_
  refine gf7_53 X w dX7_addRiver_11 ?_
  refine lv_aload_n hx hb dX7_addRiver_14 rfl (lv_at hl 0 rfl) ?_
  refine gf7_147 X w dX7_addRiver_15 ?_
  refine lv_iload_n hx hb dX7_addRiver_18 rfl (lv_at hl 2 rfl) ?_
  change W _ _ _ _ _ _ _ _ _ _ _ _ _ _ _ (F0 m 19 ls _)
  refine iS (f := 17) (n := 8) X w m4_17 rfl (by replace ezs9 := ezs9.symm; subst ezs9; exact hc) dX7_addRiver_19 (fun zs19 H locs ezs19 w => ?_)
  refine lv_aload_n hx hb dX7_addRiver_20 rfl (lv_at hl 0 rfl) ?_
  refine gf7_56 X w dX7_addRiver_21 ?_
  refine lv_aload_n hx hb dX7_addRiver_24 rfl (lv_at hl 0 rfl) ?_
  refine gf7_147 X w dX7_addRiver_25 ?_
  refine lv_iload_n hx hb dX7_addRiver_28 rfl (lv_at hl 3 rfl) ?_
  refine iS (f := 18) (n := 8) X w m4_18 rfl (by replace ezs19 := ezs19.symm; subst ezs19; replace ezs9 := ezs9.symm; subst ezs9; exact hc) dX7_addRiver_29 (fun zs29 H locs ezs29 w => ?_)
  refine lv_aload_n hx hb dX7_addRiver_30 rfl (lv_at hl 0 rfl) ?_
  refine lv_dup hx hb dX7_addRiver_31 rfl ?_
  refine gf7_147 X w dX7_addRiver_32 ?_
  refine lv_iconst (v := 1) hx hb dX7_addRiver_35 (by decide) ?_
  refine lv_iadd hx hb dX7_addRiver_36 ?_
  change W _ _ _ _ _ _ _ _ _ _ _ _ _ _ _ (F0 m 37 ls _)
  refine pf7_147 X w dX7_addRiver_37 (fun zs37 H locs ezs37 w => ?_)
  exact t_v X w hr hlk dX7_addRiver_40 (by replace ezs37 := ezs37.symm; subst ezs37; replace ezs29 := ezs29.symm; subst ezs29; replace ezs19 := ezs19.symm; subst ezs19; replace ezs9 := ezs9.symm; subst ezs9; simp only [g_X7_addRiver])

noncomputable def f_X7_settledIn (ρ : Gr) (x1 : Int32) : Int32 :=
  (ρ 7 (2 * x1).toNatClampNeg) + (ρ 7 ((2 * x1) + 1).toNatClampNeg)
set_option maxRecDepth 100000 in
set_option maxHeartbeats 4000000 in
theorem c_X7_settledIn {l : Launch} {G : GG} {σ : St} {ρ : Gr}  (x1 : Int32) (hi1 : vp_in x1 8) : MM l G yX7_settledIn cX7_settledIn 2 0 0 (some .int) [.ref (aa G 4 0), .int x1] (setG σ 4 ρ) (Qi G (f_X7_settledIn ρ x1) (setG σ 4 ρ)) := by
  refine MM.of (by decide) (Nat.le_of_ble_eq_true rfl) ?_
  intro p e s m below meth c ls X hr hlk w hl
  have hx := X.1.1
  have hb := X.1.2.1
  have hl : lv_has ls 2 [(0, .ref (aa G 4 0)), (1, .int x1)] := hl
  refine lv_aload_n hx hb dX7_settledIn_0 rfl (lv_at hl 0 rfl) ?_
  refine gf7_28 X w dX7_settledIn_1 ?_
  refine lv_iconst (v := 2) hx hb dX7_settledIn_4 (by decide) ?_
  refine lv_iload_n hx hb dX7_settledIn_5 rfl (lv_at hl 1 rfl) ?_
  refine lv_imul hx hb dX7_settledIn_6 ?_
  refine ia (f := 7) (n := 16) X w m4_7 rfl (ix2 hi1) dX7_settledIn_7 ?_
  refine lv_aload_n hx hb dX7_settledIn_8 rfl (lv_at hl 0 rfl) ?_
  refine gf7_28 X w dX7_settledIn_9 ?_
  refine lv_iconst (v := 2) hx hb dX7_settledIn_12 (by decide) ?_
  refine lv_iload_n hx hb dX7_settledIn_13 rfl (lv_at hl 1 rfl) ?_
  refine lv_imul hx hb dX7_settledIn_14 ?_
  change W _ _ _ _ _ _ _ _ _ _ _ _ _ _ _ (F0 m 15 ls _)
  refine lv_iconst (v := 1) hx hb dX7_settledIn_15 (by decide) ?_
  refine lv_iadd hx hb dX7_settledIn_16 ?_
  refine ia (f := 7) (n := 16) X w m4_7 rfl (ix2s hi1 v12) dX7_settledIn_17 ?_
  refine lv_iadd hx hb dX7_settledIn_18 ?_
  exact t_i X w hr hlk dX7_settledIn_19 (by simp only [f_X7_settledIn]) rfl

noncomputable def f_X7_depthOf (ρ : Gr) (x1 : Int32) : Int32 :=
  let zv15 : Int32 := (ρ 1 x1.toNatClampNeg) - ((f_X7_settledIn ρ x1) / 100)
  if 0 ≤ zv15 then
    zv15
  else
    0
set_option maxRecDepth 100000 in
set_option maxHeartbeats 4000000 in
theorem c_X7_depthOf {l : Launch} {G : GG} {σ : St} {ρ : Gr}  (x1 : Int32) (hi1 : vp_in x1 8) : MM l G yX7_depthOf cX7_depthOf 3 1 21 (some .int) [.ref (aa G 4 0), .int x1] (setG σ 4 ρ) (Qi G (f_X7_depthOf ρ x1) (setG σ 4 ρ)) := by
  refine MM.of (by decide) (Nat.le_of_ble_eq_true rfl) ?_
  intro p e s m below meth c ls X hr hlk w hl
  have hx := X.1.1
  have hb := X.1.2.1
  have hl : lv_has ls 3 [(0, .ref (aa G 4 0)), (1, .int x1)] := hl
  refine lv_aload_n hx hb dX7_depthOf_0 rfl (lv_at hl 0 rfl) ?_
  refine gf7_7 X w dX7_depthOf_1 ?_
  refine lv_iload_n hx hb dX7_depthOf_4 rfl (lv_at hl 1 rfl) ?_
  refine ia (f := 1) (n := 8) X w m4_1 rfl hi1 dX7_depthOf_5 ?_
  refine lv_aload_n hx hb dX7_depthOf_6 rfl (lv_at hl 0 rfl) ?_
  refine lv_iload_n hx hb dX7_depthOf_7 rfl (lv_at hl 1 rfl) ?_
  refine k_i (rr_v (rest := [.int (ρ 1 x1.toNatClampNeg)]) X w mX7_settledIn kw944 (c_X7_settledIn x1 (by assumption)) m4_0 rfl rfl ⟨Nat.le_of_ble_eq_true rfl, Nat.le_of_ble_eq_true rfl⟩ rfl hl.1 rfl (Nat.le_of_ble_eq_true rfl) dX7_depthOf_8 ⟨Nat.zero_le _, Nat.zero_le _⟩) w (fun H locs w => ?_)
  refine lv_bipush (v := 100) hx hb dX7_depthOf_11 (by decide) ?_
  refine lv_idiv hx hb dX7_depthOf_13 (by decide) ?_
  refine lv_isub hx hb dX7_depthOf_14 ?_
  refine lv_topi (fun zv15 ezv15 => ?_)
  refine lv_istore_n (lv' := [(2, .int zv15), (0, .ref (aa G 4 0)), (1, .int x1)]) hx hb dX7_depthOf_15 rfl hl (by decide) rfl (fun ls hl => ?_)
  change W _ _ _ _ _ _ _ _ _ _ _ _ _ _ _ (F0 m 16 ls _)
  refine lv_iload_n hx hb dX7_depthOf_16 rfl (lv_at hl 0 rfl) ?_
  refine lv_if_ge (tgt := 24) hx hb dX7_depthOf_17 (by decide) (fun zc17 => ?_) (fun zc17 => ?_)
  · -- 24
    refine lv_iload_n hx hb dX7_depthOf_24 rfl (lv_at hl 0 rfl) ?_
    exact t_i X w hr hlk dX7_depthOf_25 (by replace ezv15 := ezv15.symm; subst ezv15; simp only [f_X7_depthOf, if_pos zc17]) rfl
  · -- 20
    refine lv_iconst (v := 0) hx hb dX7_depthOf_20 (by decide) ?_
    refine lv_goto (tgt := 25) hx hb dX7_depthOf_21 (by decide) ?_
    exact t_i X w hr hlk dX7_depthOf_25 (by replace ezv15 := ezv15.symm; subst ezv15; simp only [f_X7_depthOf, if_neg zc17]) rfl

noncomputable def f_X7_lacksOf (ρ : Gr) (x1 : Int32) : Int32 :=
  (ρ 2 x1.toNatClampNeg) - (f_X7_depthOf ρ x1)
set_option maxRecDepth 100000 in
set_option maxHeartbeats 4000000 in
theorem c_X7_lacksOf {l : Launch} {G : GG} {σ : St} {ρ : Gr}  (x1 : Int32) (hi1 : vp_in x1 8) : MM l G yX7_lacksOf cX7_lacksOf 2 2 43 (some .int) [.ref (aa G 4 0), .int x1] (setG σ 4 ρ) (Qi G (f_X7_lacksOf ρ x1) (setG σ 4 ρ)) := by
  refine MM.of (by decide) (Nat.le_of_ble_eq_true rfl) ?_
  intro p e s m below meth c ls X hr hlk w hl
  have hx := X.1.1
  have hb := X.1.2.1
  have hl : lv_has ls 2 [(0, .ref (aa G 4 0)), (1, .int x1)] := hl
  refine lv_aload_n hx hb dX7_lacksOf_0 rfl (lv_at hl 0 rfl) ?_
  refine gf7_13 X w dX7_lacksOf_1 ?_
  refine lv_iload_n hx hb dX7_lacksOf_4 rfl (lv_at hl 1 rfl) ?_
  refine ia (f := 2) (n := 8) X w m4_2 rfl hi1 dX7_lacksOf_5 ?_
  refine lv_aload_n hx hb dX7_lacksOf_6 rfl (lv_at hl 0 rfl) ?_
  refine lv_iload_n hx hb dX7_lacksOf_7 rfl (lv_at hl 1 rfl) ?_
  refine k_i (rr_v (rest := [.int (ρ 2 x1.toNatClampNeg)]) X w mX7_depthOf kw940 (c_X7_depthOf x1 (by assumption)) m4_0 rfl rfl ⟨Nat.le_of_ble_eq_true rfl, Nat.le_of_ble_eq_true rfl⟩ rfl hl.1 rfl (Nat.le_of_ble_eq_true rfl) dX7_lacksOf_8 ⟨Nat.zero_le _, Nat.zero_le _⟩) w (fun H locs w => ?_)
  refine lv_isub hx hb dX7_lacksOf_11 ?_
  exact t_i X w hr hlk dX7_lacksOf_12 (by simp only [f_X7_lacksOf]) rfl

noncomputable def f_X7_kindAt (ρ : Gr) (x1 : Int32) : Int32 :=
  ρ 19 (x1 - x1 / (ρ 0 20) * (ρ 0 20)).toNatClampNeg
set_option maxRecDepth 100000 in
set_option maxHeartbeats 4000000 in
theorem c_X7_kindAt {l : Launch} {G : GG} {σ : St} {ρ : Gr}  (x1 : Int32) (hm : rg (ρ 0 20) 1 28) (ht : ¬ x1 < 0) : MM l G yX7_kindAt cX7_kindAt 2 0 0 (some .int) [.ref (aa G 4 0), .int x1] (setG σ 4 ρ) (Qi G (f_X7_kindAt ρ x1) (setG σ 4 ρ)) := by
  refine MM.of (by decide) (Nat.le_of_ble_eq_true rfl) ?_
  intro p e s m below meth c ls X hr hlk w hl
  have hx := X.1.1
  have hb := X.1.2.1
  have hl : lv_has ls 2 [(0, .ref (aa G 4 0)), (1, .int x1)] := hl
  refine lv_aload_n hx hb dX7_kindAt_0 rfl (lv_at hl 0 rfl) ?_
  refine gf7_59 X w dX7_kindAt_1 ?_
  refine lv_iload_n hx hb dX7_kindAt_4 rfl (lv_at hl 1 rfl) ?_
  refine lv_aload_n hx hb dX7_kindAt_5 rfl (lv_at hl 0 rfl) ?_
  refine gf7_62 X w dX7_kindAt_6 ?_
  refine lv_irem hx hb dX7_kindAt_9 (rg_nz hm (by decide)) ?_
  refine ia (f := 19) (n := 28) X w m4_19 rfl (rem_in ht hm) dX7_kindAt_10 ?_
  exact t_i X w hr hlk dX7_kindAt_11 (by simp only [f_X7_kindAt]) rfl

noncomputable def f_X7_wrongTides (ρ : Gr) (x1 : Int32) : Int32 :=
  if 1 ≤ x1 then
    if x1 ≤ 200 then
      if (ρ 0 0) = 0 then
        (-3)
      else
        0
    else
      (-6)
  else
    (-4)
set_option maxRecDepth 100000 in
set_option maxHeartbeats 4000000 in
theorem c_X7_wrongTides {l : Launch} {G : GG} {σ : St} {ρ : Gr}  (x1 : Int32) : MM l G yX7_wrongTides cX7_wrongTides 2 0 0 (some .int) [.ref (aa G 4 0), .int x1] (setG σ 4 ρ) (Qi G (f_X7_wrongTides ρ x1) (setG σ 4 ρ)) := by
  refine MM.of (by decide) (Nat.le_of_ble_eq_true rfl) ?_
  intro p e s m below meth c ls X hr hlk w hl
  have hx := X.1.1
  have hb := X.1.2.1
  have hl : lv_has ls 2 [(0, .ref (aa G 4 0)), (1, .int x1)] := hl
  refine lv_iload_n hx hb dX7_wrongTides_0 rfl (lv_at hl 1 rfl) ?_
  refine lv_iconst (v := 1) hx hb dX7_wrongTides_1 (by decide) ?_
  refine lv_icmp_ge (tgt := 10) hx hb dX7_wrongTides_2 (by decide) (fun zc2 => ?_) (fun zc2 => ?_)
  · -- 10
    refine lv_iload_n hx hb dX7_wrongTides_10 rfl (lv_at hl 1 rfl) ?_
    refine lv_sipush (v := 200) hx hb dX7_wrongTides_11 (by decide) ?_
    refine lv_icmp_le (tgt := 22) hx hb dX7_wrongTides_14 (by decide) (fun zc14 => ?_) (fun zc14 => ?_)
    · -- 22
      refine lv_aload_n hx hb dX7_wrongTides_22 rfl (lv_at hl 0 rfl) ?_
      refine gf7_111 X w dX7_wrongTides_23 ?_
      refine lv_if_ne (tgt := 34) hx hb dX7_wrongTides_26 (by decide) (fun zc26 => ?_) (fun zc26 => ?_)
      · -- 34
        refine lv_iconst (v := 0) hx hb dX7_wrongTides_34 (by decide) ?_
        exact t_i X w hr hlk dX7_wrongTides_35 (by simp only [f_X7_wrongTides, if_pos zc2, if_pos zc14, if_neg zc26]) rfl
      · -- 29
        refine lv_bipush (v := (-3)) hx hb dX7_wrongTides_29 (by decide) ?_
        refine lv_goto (tgt := 35) hx hb dX7_wrongTides_31 (by decide) ?_
        exact t_i X w hr hlk dX7_wrongTides_35 (by simp only [f_X7_wrongTides, if_pos zc2, if_pos zc14, if_pos zc26]) rfl
    · -- 17
      refine lv_bipush (v := (-6)) hx hb dX7_wrongTides_17 (by decide) ?_
      refine lv_goto (tgt := 35) hx hb dX7_wrongTides_19 (by decide) ?_
      exact t_i X w hr hlk dX7_wrongTides_35 (by simp only [f_X7_wrongTides, if_pos zc2, if_neg zc14]) rfl
  · -- 5
    refine lv_bipush (v := (-4)) hx hb dX7_wrongTides_5 (by decide) ?_
    refine lv_goto (tgt := 35) hx hb dX7_wrongTides_7 (by decide) ?_
    exact t_i X w hr hlk dX7_wrongTides_35 (by simp only [f_X7_wrongTides, if_neg zc2]) rfl

noncomputable def f_X7_carry (ρ : Gr) (x1 : Int32) : Int32 :=
  if (ρ 0 54) = 0 then
    let zs24 : Gr := up ρ 0 53 ((ρ 0 53) + 1)
    zs24 52 ((zs24 0 53) - 1).toNatClampNeg
  else
    let zs16 : Gr := up ρ 52 (ρ 0 53).toNatClampNeg x1
    let zs24_2 : Gr := up zs16 0 53 ((zs16 0 53) + 1)
    zs24_2 52 ((zs24_2 0 53) - 1).toNatClampNeg
noncomputable def g_X7_carry (ρ : Gr) (x1 : Int32) : Gr :=
  if (ρ 0 54) = 0 then
    let zs24 : Gr := up ρ 0 53 ((ρ 0 53) + 1)
    zs24
  else
    let zs16 : Gr := up ρ 52 (ρ 0 53).toNatClampNeg x1
    let zs24_2 : Gr := up zs16 0 53 ((zs16 0 53) + 1)
    zs24_2
set_option maxRecDepth 100000 in
set_option maxHeartbeats 4000000 in
theorem c_X7_carry {l : Launch} {G : GG} {σ : St} {ρ : Gr}  (x1 : Int32) (hi : vp_in (ρ 0 53) 330) : MM l G yX7_carry cX7_carry 2 0 0 (some .int) [.ref (aa G 4 0), .int x1] (setG σ 4 ρ) (Qi G (f_X7_carry ρ x1) (setG σ 4 (g_X7_carry ρ x1))) := by
  refine MM.of (by decide) (Nat.le_of_ble_eq_true rfl) ?_
  intro p e s m below meth c ls X hr hlk w hl
  have hx := X.1.1
  have hb := X.1.2.1
  have hl : lv_has ls 2 [(0, .ref (aa G 4 0)), (1, .int x1)] := hl
  refine lv_aload_n hx hb dX7_carry_0 rfl (lv_at hl 0 rfl) ?_
  refine gf7_311 X w dX7_carry_1 ?_
  refine lv_if_eq (tgt := 17) hx hb dX7_carry_4 (by decide) (fun zc4 => ?_) (fun zc4 => ?_)
  · -- 17
    refine lv_aload_n hx hb dX7_carry_17 rfl (lv_at hl 0 rfl) ?_
    refine lv_dup hx hb dX7_carry_18 rfl ?_
    refine gf7_314 X w dX7_carry_19 ?_
    refine lv_iconst (v := 1) hx hb dX7_carry_22 (by decide) ?_
    refine lv_iadd hx hb dX7_carry_23 ?_
    refine pf7_314 X w dX7_carry_24 (fun zs24 H locs ezs24 w => ?_)
    refine lv_aload_n hx hb dX7_carry_27 rfl (lv_at hl 0 rfl) ?_
    refine gf7_105 X w dX7_carry_28 ?_
    refine lv_aload_n hx hb dX7_carry_31 rfl (lv_at hl 0 rfl) ?_
    refine gf7_314 X w dX7_carry_32 ?_
    refine lv_iconst (v := 1) hx hb dX7_carry_35 (by decide) ?_
    change W _ _ _ _ _ _ _ _ _ _ _ _ _ _ _ (F0 m 36 ls _)
    refine lv_isub hx hb dX7_carry_36 ?_
    refine ia (f := 52) (n := 330) X w m4_52 rfl (by replace ezs24 := ezs24.symm; subst ezs24; exact car_in hi) dX7_carry_37 ?_
    exact t_i X w hr hlk dX7_carry_38 (by replace ezs24 := ezs24.symm; subst ezs24; simp only [f_X7_carry, if_pos zc4]) (by replace ezs24 := ezs24.symm; subst ezs24; simp only [g_X7_carry, if_pos zc4])
  · -- 7
    refine lv_aload_n hx hb dX7_carry_7 rfl (lv_at hl 0 rfl) ?_
    refine gf7_105 X w dX7_carry_8 ?_
    refine lv_aload_n hx hb dX7_carry_11 rfl (lv_at hl 0 rfl) ?_
    refine gf7_314 X w dX7_carry_12 ?_
    refine lv_iload_n hx hb dX7_carry_15 rfl (lv_at hl 1 rfl) ?_
    refine iS (f := 52) (n := 330) X w m4_52 rfl hi dX7_carry_16 (fun zs16 H locs ezs16 w => ?_)
    refine lv_aload_n hx hb dX7_carry_17 rfl (lv_at hl 0 rfl) ?_
    refine lv_dup hx hb dX7_carry_18 rfl ?_
    refine gf7_314 X w dX7_carry_19 ?_
    refine lv_iconst (v := 1) hx hb dX7_carry_22 (by decide) ?_
    refine lv_iadd hx hb dX7_carry_23 ?_
    change W _ _ _ _ _ _ _ _ _ _ _ _ _ _ _ (F0 m 24 ls _)
    refine pf7_314 X w dX7_carry_24 (fun zs24_2 H locs ezs24_2 w => ?_)
    refine lv_aload_n hx hb dX7_carry_27 rfl (lv_at hl 0 rfl) ?_
    refine gf7_105 X w dX7_carry_28 ?_
    refine lv_aload_n hx hb dX7_carry_31 rfl (lv_at hl 0 rfl) ?_
    refine gf7_314 X w dX7_carry_32 ?_
    refine lv_iconst (v := 1) hx hb dX7_carry_35 (by decide) ?_
    refine lv_isub hx hb dX7_carry_36 ?_
    refine ia (f := 52) (n := 330) X w m4_52 rfl (by replace ezs24_2 := ezs24_2.symm; subst ezs24_2; replace ezs16 := ezs16.symm; subst ezs16; exact car_in hi) dX7_carry_37 ?_
    exact t_i X w hr hlk dX7_carry_38 (by replace ezs24_2 := ezs24_2.symm; subst ezs24_2; replace ezs16 := ezs16.symm; subst ezs16; simp only [f_X7_carry, if_neg zc4]) (by replace ezs24_2 := ezs24_2.symm; subst ezs24_2; replace ezs16 := ezs16.symm; subst ezs16; simp only [g_X7_carry, if_neg zc4])

noncomputable def b_X7_lackingMost_5 (ρ : Gr)  (k : Nat) (v : Int32) : Int32 :=
  if (f_X7_lacksOf ρ (nI k)) ≤ 0 then
    v
  else
    if v < 0 then
      if (nI k) = (ρ 0 25) then
        v
      else
        let zv61 : Int32 := nI k
        zv61
    else
      if (f_X7_lacksOf ρ (nI k)) ≤ (f_X7_lacksOf ρ v) then
        v
      else
        if (nI k) = (ρ 0 25) then
          v
        else
          let zv61_2 : Int32 := nI k
          zv61_2
noncomputable def l_X7_lackingMost_5 (ρ : Gr)  (v0 : Int32) : Int32 := itn (b_X7_lackingMost_5 ρ) (ρ 0 0).toNatClampNeg v0
noncomputable def f_X7_lackingMost (ρ : Gr)  : Int32 :=
  let zl5 : Int32 := (l_X7_lackingMost_5 ρ (-9))
  zl5
set_option maxRecDepth 100000 in
set_option maxHeartbeats 4000000 in
theorem lp_X7_lackingMost_5 {l : Launch} {G : GG} {p : Program} {e : Env} {s : State} {m : MethodId} {args : Array Value} {below : List Frame} {meth : Method} {c : Code} {Q : State → Prop} {σ : St} {ρ : Gr} (X : Cx p m c cX7_lackingMost 4 s args RX7 G)  (v0 : Int32) (hn : (ρ 0 0).toNatClampNeg ≤ 8)
    (kk : ∀ (H : Heap) (locs : List Loc) (ls : Array Slot), Wh G s σ 4 ρ H locs → lv_has ls 4 [(0, .ref (aa G 4 0)), (1, .int (l_X7_lackingMost_5 ρ v0)), (2, .int (nI ((ρ 0 0).toNatClampNeg)))] → W p l e (rmv 3 64) s m args below meth c H locs 0 0 Q (F0 m 68 ls [])) :
    ∀ (n k : Nat) (v : Int32), k ≤ (ρ 0 0).toNatClampNeg → (ρ 0 0).toNatClampNeg - k < n → v = itn (b_X7_lackingMost_5 ρ) k v0 → (v < 0 ∨ vp_in v 8) → ∀ (H : Heap) (locs : List Loc) (ls : Array Slot), Wh G s σ 4 ρ H locs → lv_has ls 4 [(0, .ref (aa G 4 0)), (1, .int v), (2, .int (nI k))] → W p l e (rmv 3 64) s m args below meth c H locs 0 0 Q (F0 m 5 ls []) := by
  have hx := X.1.1
  have hb := X.1.2.1
  intro n
  induction n with
  | zero => intro k v _ h; omega
  | succ n ih =>
    intro k v hkN hn ev hbst H locs ls w hl
    refine lv_iload_n hx hb dX7_lackingMost_5 rfl (lv_at hl 2 rfl) ?_
    refine lv_aload_n hx hb dX7_lackingMost_6 rfl (lv_at hl 0 rfl) ?_
    refine gf7_111 X w dX7_lackingMost_7 ?_
    refine lv_icmp_ge (tgt := 68) hx hb dX7_lackingMost_10 (by decide) (fun zc10 => ?_) (fun zc10 => ?_)
    · -- 68
      have hkE : k = (ρ 0 0).toNatClampNeg := lp_eq hkN zc10
      have ev2 : l_X7_lackingMost_5 ρ v0 = v := by unfold l_X7_lackingMost_5; rw [← hkE]; exact ev.symm
      rw [ev2] at kk
      rw [hkE] at hl
      exact kk _ _ _ w (lv_sub hl [0, 1, 2] rfl)
    · -- 13
      have hk : k < (ρ 0 0).toNatClampNeg := lp_lt hkN zc10
      refine lv_aload_n hx hb dX7_lackingMost_13 rfl (lv_at hl 0 rfl) ?_
      refine lv_iload_n hx hb dX7_lackingMost_14 rfl (lv_at hl 2 rfl) ?_
      refine k_i (rr_v (rest := []) X w mX7_lacksOf kw952 (c_X7_lacksOf (nI k) (vp_in_nI (by omega) (by decide))) m4_0 rfl rfl ⟨Nat.le_of_ble_eq_true rfl, Nat.le_of_ble_eq_true rfl⟩ rfl hl.1 rfl (Nat.le_of_ble_eq_true rfl) dX7_lackingMost_15 ⟨Nat.zero_le _, Nat.zero_le _⟩) w (fun H locs w => ?_)
      refine lv_if_le (tgt := 42) hx hb dX7_lackingMost_18 (by decide) (fun zc18 => ?_) (fun zc18 => ?_)
      · -- 42
        refine lv_iconst (v := 0) hx hb dX7_lackingMost_42 (by decide) ?_
        refine lv_istore_n (lv' := [(3, .int 0), (0, .ref (aa G 4 0)), (1, .int v), (2, .int (nI k))]) hx hb dX7_lackingMost_43 rfl hl (by decide) rfl (fun ls hl => ?_)
        refine lv_iload_n hx hb dX7_lackingMost_44 rfl (lv_at hl 3 rfl) ?_
        refine lv_aload_n hx hb dX7_lackingMost_45 rfl (lv_at hl 1 rfl) ?_
        refine gf7_66 X w dX7_lackingMost_46 ?_
        refine lv_icmp_eq (tgt := 60) hx hb dX7_lackingMost_49 (by decide) (fun zc49 => ?_) (fun zc49 => ?_)
        · -- 60
          refine lv_iload_n hx hb dX7_lackingMost_60 rfl (lv_at hl 2 rfl) ?_
          refine lv_istore_n (lv' := [(1, .int v), (3, .int 0), (0, .ref (aa G 4 0)), (2, .int (nI k))]) hx hb dX7_lackingMost_61 rfl hl (by decide) rfl (fun ls hl => ?_)
          refine lv_iinc (v := nI (k + 1)) (lv' := [(2, .int (nI (k + 1))), (1, .int v), (3, .int 0), (0, .ref (aa G 4 0))]) hx hb dX7_lackingMost_62 hl (k := 3) rfl (nI_1 _) (by decide) rfl (fun ls hl => ?_)
          refine lv_goto (tgt := 5) hx hb dX7_lackingMost_65 (by decide) ?_
          exact ih (k + 1) v (by omega) (by omega) (by simp only [itn, ← ev, b_X7_lackingMost_5, if_pos zc18, if_pos zc49]) (by first | exact hbst | exact Or.inr (vp_in_nI (by omega) (by decide))) _ _ _ w (lv_sub hl [3, 1, 0] rfl)
        · -- 52
          refine lv_iload_n hx hb dX7_lackingMost_52 rfl (lv_at hl 0 rfl) ?_
          refine lv_if_eq (tgt := 60) hx hb dX7_lackingMost_53 (by decide) (fun _ => ?_) (fun zc53 => absurd (by decide) zc53)
          refine lv_iload_n hx hb dX7_lackingMost_60 rfl (lv_at hl 2 rfl) ?_
          refine lv_istore_n (lv' := [(1, .int v), (3, .int 0), (0, .ref (aa G 4 0)), (2, .int (nI k))]) hx hb dX7_lackingMost_61 rfl hl (by decide) rfl (fun ls hl => ?_)
          refine lv_iinc (v := nI (k + 1)) (lv' := [(2, .int (nI (k + 1))), (1, .int v), (3, .int 0), (0, .ref (aa G 4 0))]) hx hb dX7_lackingMost_62 hl (k := 3) rfl (nI_1 _) (by decide) rfl (fun ls hl => ?_)
          refine lv_goto (tgt := 5) hx hb dX7_lackingMost_65 (by decide) ?_
          exact ih (k + 1) v (by omega) (by omega) (by simp only [itn, ← ev, b_X7_lackingMost_5, if_pos zc18, if_neg zc49]) (by first | exact hbst | exact Or.inr (vp_in_nI (by omega) (by decide))) _ _ _ w (lv_sub hl [3, 1, 0] rfl)
      · -- 21
        refine lv_iload_n hx hb dX7_lackingMost_21 rfl (lv_at hl 1 rfl) ?_
        refine lv_if_lt (tgt := 38) hx hb dX7_lackingMost_22 (by decide) (fun zc22 => ?_) (fun zc22 => ?_)
        · -- 38
          refine lv_iconst (v := 1) hx hb dX7_lackingMost_38 (by decide) ?_
          refine lv_goto (tgt := 43) hx hb dX7_lackingMost_39 (by decide) ?_
          refine lv_istore_n (lv' := [(3, .int 1), (0, .ref (aa G 4 0)), (1, .int v), (2, .int (nI k))]) hx hb dX7_lackingMost_43 rfl hl (by decide) rfl (fun ls hl => ?_)
          refine lv_iload_n hx hb dX7_lackingMost_44 rfl (lv_at hl 3 rfl) ?_
          refine lv_aload_n hx hb dX7_lackingMost_45 rfl (lv_at hl 1 rfl) ?_
          refine gf7_66 X w dX7_lackingMost_46 ?_
          refine lv_icmp_eq (tgt := 60) hx hb dX7_lackingMost_49 (by decide) (fun zc49 => ?_) (fun zc49 => ?_)
          · -- 60
            refine lv_iload_n hx hb dX7_lackingMost_60 rfl (lv_at hl 2 rfl) ?_
            refine lv_istore_n (lv' := [(1, .int v), (3, .int 1), (0, .ref (aa G 4 0)), (2, .int (nI k))]) hx hb dX7_lackingMost_61 rfl hl (by decide) rfl (fun ls hl => ?_)
            refine lv_iinc (v := nI (k + 1)) (lv' := [(2, .int (nI (k + 1))), (1, .int v), (3, .int 1), (0, .ref (aa G 4 0))]) hx hb dX7_lackingMost_62 hl (k := 3) rfl (nI_1 _) (by decide) rfl (fun ls hl => ?_)
            refine lv_goto (tgt := 5) hx hb dX7_lackingMost_65 (by decide) ?_
            exact ih (k + 1) v (by omega) (by omega) (by simp only [itn, ← ev, b_X7_lackingMost_5, if_neg zc18, if_pos zc22, if_pos zc49]) (by first | exact hbst | exact Or.inr (vp_in_nI (by omega) (by decide))) _ _ _ w (lv_sub hl [3, 1, 0] rfl)
          · -- 52
            refine lv_iload_n hx hb dX7_lackingMost_52 rfl (lv_at hl 0 rfl) ?_
            refine lv_if_eq (tgt := 60) hx hb dX7_lackingMost_53 (by decide) (fun zc53 => absurd zc53 (by decide)) (fun _ => ?_)
            refine lv_iload_n hx hb dX7_lackingMost_56 rfl (lv_at hl 3 rfl) ?_
            refine lv_goto (tgt := 61) hx hb dX7_lackingMost_57 (by decide) ?_
            refine lv_topi (fun zv61 ezv61 => ?_)
            refine lv_istore_n (lv' := [(1, .int zv61), (3, .int 1), (0, .ref (aa G 4 0)), (2, .int (nI k))]) hx hb dX7_lackingMost_61 rfl hl (by decide) rfl (fun ls hl => ?_)
            refine lv_iinc (v := nI (k + 1)) (lv' := [(2, .int (nI (k + 1))), (1, .int zv61), (3, .int 1), (0, .ref (aa G 4 0))]) hx hb dX7_lackingMost_62 hl (k := 3) rfl (nI_1 _) (by decide) rfl (fun ls hl => ?_)
            refine lv_goto (tgt := 5) hx hb dX7_lackingMost_65 (by decide) ?_
            exact ih (k + 1) zv61 (by omega) (by omega) (by replace ezv61 := ezv61.symm; subst ezv61; simp only [itn, ← ev, b_X7_lackingMost_5, if_neg zc18, if_pos zc22, if_neg zc49]) (by replace ezv61 := ezv61.symm; subst ezv61; first | exact hbst | exact Or.inr (vp_in_nI (by omega) (by decide))) _ _ _ w (lv_sub hl [3, 1, 0] rfl)
        · -- 25
          refine lv_aload_n hx hb dX7_lackingMost_25 rfl (lv_at hl 0 rfl) ?_
          refine lv_iload_n hx hb dX7_lackingMost_26 rfl (lv_at hl 2 rfl) ?_
          refine k_i (rr_v (rest := []) X w mX7_lacksOf kw952 (c_X7_lacksOf (nI k) (vp_in_nI (by omega) (by decide))) m4_0 rfl rfl ⟨Nat.le_of_ble_eq_true rfl, Nat.le_of_ble_eq_true rfl⟩ rfl hl.1 rfl (Nat.le_of_ble_eq_true rfl) dX7_lackingMost_27 ⟨Nat.zero_le _, Nat.zero_le _⟩) w (fun H locs w => ?_)
          refine lv_aload_n hx hb dX7_lackingMost_30 rfl (lv_at hl 0 rfl) ?_
          refine lv_iload_n hx hb dX7_lackingMost_31 rfl (lv_at hl 1 rfl) ?_
          refine k_i (rr_v (rest := [.int (f_X7_lacksOf ρ (nI k))]) X w mX7_lacksOf kw952 (c_X7_lacksOf v (hbst.resolve_left zc22)) m4_0 rfl rfl ⟨Nat.le_of_ble_eq_true rfl, Nat.le_of_ble_eq_true rfl⟩ rfl hl.1 rfl (Nat.le_of_ble_eq_true rfl) dX7_lackingMost_32 ⟨Nat.zero_le _, Nat.zero_le _⟩) w (fun H locs w => ?_)
          refine lv_icmp_le (tgt := 42) hx hb dX7_lackingMost_35 (by decide) (fun zc35 => ?_) (fun zc35 => ?_)
          · -- 42
            refine lv_iconst (v := 0) hx hb dX7_lackingMost_42 (by decide) ?_
            refine lv_istore_n (lv' := [(3, .int 0), (0, .ref (aa G 4 0)), (1, .int v), (2, .int (nI k))]) hx hb dX7_lackingMost_43 rfl hl (by decide) rfl (fun ls hl => ?_)
            refine lv_iload_n hx hb dX7_lackingMost_44 rfl (lv_at hl 3 rfl) ?_
            refine lv_aload_n hx hb dX7_lackingMost_45 rfl (lv_at hl 1 rfl) ?_
            refine gf7_66 X w dX7_lackingMost_46 ?_
            refine lv_icmp_eq (tgt := 60) hx hb dX7_lackingMost_49 (by decide) (fun zc49 => ?_) (fun zc49 => ?_)
            · -- 60
              refine lv_iload_n hx hb dX7_lackingMost_60 rfl (lv_at hl 2 rfl) ?_
              refine lv_istore_n (lv' := [(1, .int v), (3, .int 0), (0, .ref (aa G 4 0)), (2, .int (nI k))]) hx hb dX7_lackingMost_61 rfl hl (by decide) rfl (fun ls hl => ?_)
              refine lv_iinc (v := nI (k + 1)) (lv' := [(2, .int (nI (k + 1))), (1, .int v), (3, .int 0), (0, .ref (aa G 4 0))]) hx hb dX7_lackingMost_62 hl (k := 3) rfl (nI_1 _) (by decide) rfl (fun ls hl => ?_)
              refine lv_goto (tgt := 5) hx hb dX7_lackingMost_65 (by decide) ?_
              exact ih (k + 1) v (by omega) (by omega) (by simp only [itn, ← ev, b_X7_lackingMost_5, if_neg zc18, if_neg zc22, if_pos zc35, if_pos zc49]) (by first | exact hbst | exact Or.inr (vp_in_nI (by omega) (by decide))) _ _ _ w (lv_sub hl [3, 1, 0] rfl)
            · -- 52
              refine lv_iload_n hx hb dX7_lackingMost_52 rfl (lv_at hl 0 rfl) ?_
              refine lv_if_eq (tgt := 60) hx hb dX7_lackingMost_53 (by decide) (fun _ => ?_) (fun zc53 => absurd (by decide) zc53)
              refine lv_iload_n hx hb dX7_lackingMost_60 rfl (lv_at hl 2 rfl) ?_
              refine lv_istore_n (lv' := [(1, .int v), (3, .int 0), (0, .ref (aa G 4 0)), (2, .int (nI k))]) hx hb dX7_lackingMost_61 rfl hl (by decide) rfl (fun ls hl => ?_)
              refine lv_iinc (v := nI (k + 1)) (lv' := [(2, .int (nI (k + 1))), (1, .int v), (3, .int 0), (0, .ref (aa G 4 0))]) hx hb dX7_lackingMost_62 hl (k := 3) rfl (nI_1 _) (by decide) rfl (fun ls hl => ?_)
              refine lv_goto (tgt := 5) hx hb dX7_lackingMost_65 (by decide) ?_
              exact ih (k + 1) v (by omega) (by omega) (by simp only [itn, ← ev, b_X7_lackingMost_5, if_neg zc18, if_neg zc22, if_pos zc35, if_neg zc49]) (by first | exact hbst | exact Or.inr (vp_in_nI (by omega) (by decide))) _ _ _ w (lv_sub hl [3, 1, 0] rfl)
          · -- 38
            refine lv_iconst (v := 1) hx hb dX7_lackingMost_38 (by decide) ?_
            refine lv_goto (tgt := 43) hx hb dX7_lackingMost_39 (by decide) ?_
            refine lv_istore_n (lv' := [(3, .int 1), (0, .ref (aa G 4 0)), (1, .int v), (2, .int (nI k))]) hx hb dX7_lackingMost_43 rfl hl (by decide) rfl (fun ls hl => ?_)
            refine lv_iload_n hx hb dX7_lackingMost_44 rfl (lv_at hl 3 rfl) ?_
            refine lv_aload_n hx hb dX7_lackingMost_45 rfl (lv_at hl 1 rfl) ?_
            refine gf7_66 X w dX7_lackingMost_46 ?_
            refine lv_icmp_eq (tgt := 60) hx hb dX7_lackingMost_49 (by decide) (fun zc49 => ?_) (fun zc49 => ?_)
            · -- 60
              refine lv_iload_n hx hb dX7_lackingMost_60 rfl (lv_at hl 2 rfl) ?_
              refine lv_istore_n (lv' := [(1, .int v), (3, .int 1), (0, .ref (aa G 4 0)), (2, .int (nI k))]) hx hb dX7_lackingMost_61 rfl hl (by decide) rfl (fun ls hl => ?_)
              refine lv_iinc (v := nI (k + 1)) (lv' := [(2, .int (nI (k + 1))), (1, .int v), (3, .int 1), (0, .ref (aa G 4 0))]) hx hb dX7_lackingMost_62 hl (k := 3) rfl (nI_1 _) (by decide) rfl (fun ls hl => ?_)
              refine lv_goto (tgt := 5) hx hb dX7_lackingMost_65 (by decide) ?_
              exact ih (k + 1) v (by omega) (by omega) (by simp only [itn, ← ev, b_X7_lackingMost_5, if_neg zc18, if_neg zc22, if_neg zc35, if_pos zc49]) (by first | exact hbst | exact Or.inr (vp_in_nI (by omega) (by decide))) _ _ _ w (lv_sub hl [3, 1, 0] rfl)
            · -- 52
              refine lv_iload_n hx hb dX7_lackingMost_52 rfl (lv_at hl 0 rfl) ?_
              refine lv_if_eq (tgt := 60) hx hb dX7_lackingMost_53 (by decide) (fun zc53 => absurd zc53 (by decide)) (fun _ => ?_)
              refine lv_iload_n hx hb dX7_lackingMost_56 rfl (lv_at hl 3 rfl) ?_
              refine lv_goto (tgt := 61) hx hb dX7_lackingMost_57 (by decide) ?_
              refine lv_topi (fun zv61_2 ezv61_2 => ?_)
              refine lv_istore_n (lv' := [(1, .int zv61_2), (3, .int 1), (0, .ref (aa G 4 0)), (2, .int (nI k))]) hx hb dX7_lackingMost_61 rfl hl (by decide) rfl (fun ls hl => ?_)
              refine lv_iinc (v := nI (k + 1)) (lv' := [(2, .int (nI (k + 1))), (1, .int zv61_2), (3, .int 1), (0, .ref (aa G 4 0))]) hx hb dX7_lackingMost_62 hl (k := 3) rfl (nI_1 _) (by decide) rfl (fun ls hl => ?_)
              refine lv_goto (tgt := 5) hx hb dX7_lackingMost_65 (by decide) ?_
              exact ih (k + 1) zv61_2 (by omega) (by omega) (by replace ezv61_2 := ezv61_2.symm; subst ezv61_2; simp only [itn, ← ev, b_X7_lackingMost_5, if_neg zc18, if_neg zc22, if_neg zc35, if_neg zc49]) (by replace ezv61_2 := ezv61_2.symm; subst ezv61_2; first | exact hbst | exact Or.inr (vp_in_nI (by omega) (by decide))) _ _ _ w (lv_sub hl [3, 1, 0] rfl)
set_option maxRecDepth 100000 in
set_option maxHeartbeats 4000000 in
theorem c_X7_lackingMost {l : Launch} {G : GG} {σ : St} {ρ : Gr}  (hn : (ρ 0 0).toNatClampNeg ≤ 8) : MM l G yX7_lackingMost cX7_lackingMost 4 3 64 (some .int) [.ref (aa G 4 0)] (setG σ 4 ρ) (Qi G (f_X7_lackingMost ρ) (setG σ 4 ρ)) := by
  refine MM.of (by decide) (Nat.le_of_ble_eq_true rfl) ?_
  intro p e s m below meth c ls X hr hlk w hl
  have hx := X.1.1
  have hb := X.1.2.1
  have hl : lv_has ls 4 [(0, .ref (aa G 4 0))] := hl
  refine lv_bipush (v := (-9)) hx hb dX7_lackingMost_0 (by decide) ?_
  refine lv_istore_n (lv' := [(1, .int (-9)), (0, .ref (aa G 4 0))]) hx hb dX7_lackingMost_2 rfl hl (by decide) rfl (fun ls hl => ?_)
  refine lv_iconst (v := 0) hx hb dX7_lackingMost_3 (by decide) ?_
  refine lv_istore_n (lv' := [(2, .int 0), (1, .int (-9)), (0, .ref (aa G 4 0))]) hx hb dX7_lackingMost_4 rfl hl (by decide) rfl (fun ls hl => ?_)
  refine lp_X7_lackingMost_5 X  (-9) (by assumption) (fun H locs ls w hl => ?_) ((ρ 0 0).toNatClampNeg + 1) 0 _ (Nat.zero_le _) (Nat.lt_succ_of_le (Nat.sub_le _ _)) rfl (Or.inl (show (-9 : Int32) < 0 by decide)) _ _ _ w (lv_sub hl [2, 1, 0] rfl)
  obtain ⟨zl5, ezl5⟩ : ∃ y : Int32, y = (l_X7_lackingMost_5 ρ (-9)) := ⟨_, rfl⟩
  rw [← ezl5] at hl
  refine lv_iload_n hx hb dX7_lackingMost_68 rfl (lv_at hl 1 rfl) ?_
  exact t_i X w hr hlk dX7_lackingMost_69 (by replace ezl5 := ezl5.symm; subst ezl5; simp only [f_X7_lackingMost]) rfl

noncomputable def b_X7_deepest_5 (ρ : Gr)  (k : Nat) (v : Int32) : Int32 :=
  if (f_X7_lacksOf ρ (nI k)) ≤ (-2) then
    v
  else
    if v < 0 then
      if (nI k) = (ρ 0 25) then
        v
      else
        let zv63 : Int32 := nI k
        zv63
    else
      if (f_X7_settledIn ρ (nI k)) ≤ (f_X7_settledIn ρ v) then
        v
      else
        if (nI k) = (ρ 0 25) then
          v
        else
          let zv63_2 : Int32 := nI k
          zv63_2
noncomputable def l_X7_deepest_5 (ρ : Gr)  (v0 : Int32) : Int32 := itn (b_X7_deepest_5 ρ) (ρ 0 0).toNatClampNeg v0
noncomputable def f_X7_deepest (ρ : Gr)  : Int32 :=
  let zl5 : Int32 := (l_X7_deepest_5 ρ (-9))
  zl5
set_option maxRecDepth 100000 in
set_option maxHeartbeats 4000000 in
theorem lp_X7_deepest_5 {l : Launch} {G : GG} {p : Program} {e : Env} {s : State} {m : MethodId} {args : Array Value} {below : List Frame} {meth : Method} {c : Code} {Q : State → Prop} {σ : St} {ρ : Gr} (X : Cx p m c cX7_deepest 4 s args RX7 G)  (v0 : Int32) (hn : (ρ 0 0).toNatClampNeg ≤ 8)
    (kk : ∀ (H : Heap) (locs : List Loc) (ls : Array Slot), Wh G s σ 4 ρ H locs → lv_has ls 4 [(0, .ref (aa G 4 0)), (1, .int (l_X7_deepest_5 ρ v0)), (2, .int (nI ((ρ 0 0).toNatClampNeg)))] → W p l e (rmv 3 64) s m args below meth c H locs 0 0 Q (F0 m 70 ls [])) :
    ∀ (n k : Nat) (v : Int32), k ≤ (ρ 0 0).toNatClampNeg → (ρ 0 0).toNatClampNeg - k < n → v = itn (b_X7_deepest_5 ρ) k v0 → (v < 0 ∨ vp_in v 8) → ∀ (H : Heap) (locs : List Loc) (ls : Array Slot), Wh G s σ 4 ρ H locs → lv_has ls 4 [(0, .ref (aa G 4 0)), (1, .int v), (2, .int (nI k))] → W p l e (rmv 3 64) s m args below meth c H locs 0 0 Q (F0 m 5 ls []) := by
  have hx := X.1.1
  have hb := X.1.2.1
  intro n
  induction n with
  | zero => intro k v _ h; omega
  | succ n ih =>
    intro k v hkN hn ev hbst H locs ls w hl
    refine lv_iload_n hx hb dX7_deepest_5 rfl (lv_at hl 2 rfl) ?_
    refine lv_aload_n hx hb dX7_deepest_6 rfl (lv_at hl 0 rfl) ?_
    refine gf7_111 X w dX7_deepest_7 ?_
    refine lv_icmp_ge (tgt := 70) hx hb dX7_deepest_10 (by decide) (fun zc10 => ?_) (fun zc10 => ?_)
    · -- 70
      have hkE : k = (ρ 0 0).toNatClampNeg := lp_eq hkN zc10
      have ev2 : l_X7_deepest_5 ρ v0 = v := by unfold l_X7_deepest_5; rw [← hkE]; exact ev.symm
      rw [ev2] at kk
      rw [hkE] at hl
      exact kk _ _ _ w (lv_sub hl [0, 1, 2] rfl)
    · -- 13
      have hk : k < (ρ 0 0).toNatClampNeg := lp_lt hkN zc10
      refine lv_aload_n hx hb dX7_deepest_13 rfl (lv_at hl 0 rfl) ?_
      refine lv_iload_n hx hb dX7_deepest_14 rfl (lv_at hl 2 rfl) ?_
      refine k_i (rr_v (rest := []) X w mX7_lacksOf kw952 (c_X7_lacksOf (nI k) (vp_in_nI (by omega) (by decide))) m4_0 rfl rfl ⟨Nat.le_of_ble_eq_true rfl, Nat.le_of_ble_eq_true rfl⟩ rfl hl.1 rfl (Nat.le_of_ble_eq_true rfl) dX7_deepest_15 ⟨Nat.zero_le _, Nat.zero_le _⟩) w (fun H locs w => ?_)
      refine lv_bipush (v := (-2)) hx hb dX7_deepest_18 (by decide) ?_
      refine lv_icmp_le (tgt := 44) hx hb dX7_deepest_20 (by decide) (fun zc20 => ?_) (fun zc20 => ?_)
      · -- 44
        refine lv_iconst (v := 0) hx hb dX7_deepest_44 (by decide) ?_
        refine lv_istore_n (lv' := [(3, .int 0), (0, .ref (aa G 4 0)), (1, .int v), (2, .int (nI k))]) hx hb dX7_deepest_45 rfl hl (by decide) rfl (fun ls hl => ?_)
        refine lv_iload_n hx hb dX7_deepest_46 rfl (lv_at hl 3 rfl) ?_
        refine lv_aload_n hx hb dX7_deepest_47 rfl (lv_at hl 1 rfl) ?_
        refine gf7_66 X w dX7_deepest_48 ?_
        refine lv_icmp_eq (tgt := 62) hx hb dX7_deepest_51 (by decide) (fun zc51 => ?_) (fun zc51 => ?_)
        · -- 62
          refine lv_iload_n hx hb dX7_deepest_62 rfl (lv_at hl 2 rfl) ?_
          refine lv_istore_n (lv' := [(1, .int v), (3, .int 0), (0, .ref (aa G 4 0)), (2, .int (nI k))]) hx hb dX7_deepest_63 rfl hl (by decide) rfl (fun ls hl => ?_)
          refine lv_iinc (v := nI (k + 1)) (lv' := [(2, .int (nI (k + 1))), (1, .int v), (3, .int 0), (0, .ref (aa G 4 0))]) hx hb dX7_deepest_64 hl (k := 3) rfl (nI_1 _) (by decide) rfl (fun ls hl => ?_)
          refine lv_goto (tgt := 5) hx hb dX7_deepest_67 (by decide) ?_
          exact ih (k + 1) v (by omega) (by omega) (by simp only [itn, ← ev, b_X7_deepest_5, if_pos zc20, if_pos zc51]) (by first | exact hbst | exact Or.inr (vp_in_nI (by omega) (by decide))) _ _ _ w (lv_sub hl [3, 1, 0] rfl)
        · -- 54
          refine lv_iload_n hx hb dX7_deepest_54 rfl (lv_at hl 0 rfl) ?_
          refine lv_if_eq (tgt := 62) hx hb dX7_deepest_55 (by decide) (fun _ => ?_) (fun zc55 => absurd (by decide) zc55)
          refine lv_iload_n hx hb dX7_deepest_62 rfl (lv_at hl 2 rfl) ?_
          refine lv_istore_n (lv' := [(1, .int v), (3, .int 0), (0, .ref (aa G 4 0)), (2, .int (nI k))]) hx hb dX7_deepest_63 rfl hl (by decide) rfl (fun ls hl => ?_)
          refine lv_iinc (v := nI (k + 1)) (lv' := [(2, .int (nI (k + 1))), (1, .int v), (3, .int 0), (0, .ref (aa G 4 0))]) hx hb dX7_deepest_64 hl (k := 3) rfl (nI_1 _) (by decide) rfl (fun ls hl => ?_)
          refine lv_goto (tgt := 5) hx hb dX7_deepest_67 (by decide) ?_
          exact ih (k + 1) v (by omega) (by omega) (by simp only [itn, ← ev, b_X7_deepest_5, if_pos zc20, if_neg zc51]) (by first | exact hbst | exact Or.inr (vp_in_nI (by omega) (by decide))) _ _ _ w (lv_sub hl [3, 1, 0] rfl)
      · -- 23
        refine lv_iload_n hx hb dX7_deepest_23 rfl (lv_at hl 1 rfl) ?_
        refine lv_if_lt (tgt := 40) hx hb dX7_deepest_24 (by decide) (fun zc24 => ?_) (fun zc24 => ?_)
        · -- 40
          refine lv_iconst (v := 1) hx hb dX7_deepest_40 (by decide) ?_
          refine lv_goto (tgt := 45) hx hb dX7_deepest_41 (by decide) ?_
          refine lv_istore_n (lv' := [(3, .int 1), (0, .ref (aa G 4 0)), (1, .int v), (2, .int (nI k))]) hx hb dX7_deepest_45 rfl hl (by decide) rfl (fun ls hl => ?_)
          refine lv_iload_n hx hb dX7_deepest_46 rfl (lv_at hl 3 rfl) ?_
          refine lv_aload_n hx hb dX7_deepest_47 rfl (lv_at hl 1 rfl) ?_
          refine gf7_66 X w dX7_deepest_48 ?_
          refine lv_icmp_eq (tgt := 62) hx hb dX7_deepest_51 (by decide) (fun zc51 => ?_) (fun zc51 => ?_)
          · -- 62
            refine lv_iload_n hx hb dX7_deepest_62 rfl (lv_at hl 2 rfl) ?_
            refine lv_istore_n (lv' := [(1, .int v), (3, .int 1), (0, .ref (aa G 4 0)), (2, .int (nI k))]) hx hb dX7_deepest_63 rfl hl (by decide) rfl (fun ls hl => ?_)
            refine lv_iinc (v := nI (k + 1)) (lv' := [(2, .int (nI (k + 1))), (1, .int v), (3, .int 1), (0, .ref (aa G 4 0))]) hx hb dX7_deepest_64 hl (k := 3) rfl (nI_1 _) (by decide) rfl (fun ls hl => ?_)
            refine lv_goto (tgt := 5) hx hb dX7_deepest_67 (by decide) ?_
            exact ih (k + 1) v (by omega) (by omega) (by simp only [itn, ← ev, b_X7_deepest_5, if_neg zc20, if_pos zc24, if_pos zc51]) (by first | exact hbst | exact Or.inr (vp_in_nI (by omega) (by decide))) _ _ _ w (lv_sub hl [3, 1, 0] rfl)
          · -- 54
            refine lv_iload_n hx hb dX7_deepest_54 rfl (lv_at hl 0 rfl) ?_
            refine lv_if_eq (tgt := 62) hx hb dX7_deepest_55 (by decide) (fun zc55 => absurd zc55 (by decide)) (fun _ => ?_)
            refine lv_iload_n hx hb dX7_deepest_58 rfl (lv_at hl 3 rfl) ?_
            refine lv_goto (tgt := 63) hx hb dX7_deepest_59 (by decide) ?_
            refine lv_topi (fun zv63 ezv63 => ?_)
            refine lv_istore_n (lv' := [(1, .int zv63), (3, .int 1), (0, .ref (aa G 4 0)), (2, .int (nI k))]) hx hb dX7_deepest_63 rfl hl (by decide) rfl (fun ls hl => ?_)
            refine lv_iinc (v := nI (k + 1)) (lv' := [(2, .int (nI (k + 1))), (1, .int zv63), (3, .int 1), (0, .ref (aa G 4 0))]) hx hb dX7_deepest_64 hl (k := 3) rfl (nI_1 _) (by decide) rfl (fun ls hl => ?_)
            refine lv_goto (tgt := 5) hx hb dX7_deepest_67 (by decide) ?_
            exact ih (k + 1) zv63 (by omega) (by omega) (by replace ezv63 := ezv63.symm; subst ezv63; simp only [itn, ← ev, b_X7_deepest_5, if_neg zc20, if_pos zc24, if_neg zc51]) (by replace ezv63 := ezv63.symm; subst ezv63; first | exact hbst | exact Or.inr (vp_in_nI (by omega) (by decide))) _ _ _ w (lv_sub hl [3, 1, 0] rfl)
        · -- 27
          refine lv_aload_n hx hb dX7_deepest_27 rfl (lv_at hl 0 rfl) ?_
          refine lv_iload_n hx hb dX7_deepest_28 rfl (lv_at hl 2 rfl) ?_
          refine k_i (rr_v (rest := []) X w mX7_settledIn kw944 (c_X7_settledIn (nI k) (vp_in_nI (by omega) (by decide))) m4_0 rfl rfl ⟨Nat.le_of_ble_eq_true rfl, Nat.le_of_ble_eq_true rfl⟩ rfl hl.1 rfl (Nat.le_of_ble_eq_true rfl) dX7_deepest_29 ⟨Nat.zero_le _, Nat.zero_le _⟩) w (fun H locs w => ?_)
          refine lv_aload_n hx hb dX7_deepest_32 rfl (lv_at hl 0 rfl) ?_
          refine lv_iload_n hx hb dX7_deepest_33 rfl (lv_at hl 1 rfl) ?_
          refine k_i (rr_v (rest := [.int (f_X7_settledIn ρ (nI k))]) X w mX7_settledIn kw944 (c_X7_settledIn v (hbst.resolve_left zc24)) m4_0 rfl rfl ⟨Nat.le_of_ble_eq_true rfl, Nat.le_of_ble_eq_true rfl⟩ rfl hl.1 rfl (Nat.le_of_ble_eq_true rfl) dX7_deepest_34 ⟨Nat.zero_le _, Nat.zero_le _⟩) w (fun H locs w => ?_)
          refine lv_icmp_le (tgt := 44) hx hb dX7_deepest_37 (by decide) (fun zc37 => ?_) (fun zc37 => ?_)
          · -- 44
            refine lv_iconst (v := 0) hx hb dX7_deepest_44 (by decide) ?_
            refine lv_istore_n (lv' := [(3, .int 0), (0, .ref (aa G 4 0)), (1, .int v), (2, .int (nI k))]) hx hb dX7_deepest_45 rfl hl (by decide) rfl (fun ls hl => ?_)
            refine lv_iload_n hx hb dX7_deepest_46 rfl (lv_at hl 3 rfl) ?_
            refine lv_aload_n hx hb dX7_deepest_47 rfl (lv_at hl 1 rfl) ?_
            refine gf7_66 X w dX7_deepest_48 ?_
            refine lv_icmp_eq (tgt := 62) hx hb dX7_deepest_51 (by decide) (fun zc51 => ?_) (fun zc51 => ?_)
            · -- 62
              refine lv_iload_n hx hb dX7_deepest_62 rfl (lv_at hl 2 rfl) ?_
              refine lv_istore_n (lv' := [(1, .int v), (3, .int 0), (0, .ref (aa G 4 0)), (2, .int (nI k))]) hx hb dX7_deepest_63 rfl hl (by decide) rfl (fun ls hl => ?_)
              refine lv_iinc (v := nI (k + 1)) (lv' := [(2, .int (nI (k + 1))), (1, .int v), (3, .int 0), (0, .ref (aa G 4 0))]) hx hb dX7_deepest_64 hl (k := 3) rfl (nI_1 _) (by decide) rfl (fun ls hl => ?_)
              refine lv_goto (tgt := 5) hx hb dX7_deepest_67 (by decide) ?_
              exact ih (k + 1) v (by omega) (by omega) (by simp only [itn, ← ev, b_X7_deepest_5, if_neg zc20, if_neg zc24, if_pos zc37, if_pos zc51]) (by first | exact hbst | exact Or.inr (vp_in_nI (by omega) (by decide))) _ _ _ w (lv_sub hl [3, 1, 0] rfl)
            · -- 54
              refine lv_iload_n hx hb dX7_deepest_54 rfl (lv_at hl 0 rfl) ?_
              refine lv_if_eq (tgt := 62) hx hb dX7_deepest_55 (by decide) (fun _ => ?_) (fun zc55 => absurd (by decide) zc55)
              refine lv_iload_n hx hb dX7_deepest_62 rfl (lv_at hl 2 rfl) ?_
              refine lv_istore_n (lv' := [(1, .int v), (3, .int 0), (0, .ref (aa G 4 0)), (2, .int (nI k))]) hx hb dX7_deepest_63 rfl hl (by decide) rfl (fun ls hl => ?_)
              refine lv_iinc (v := nI (k + 1)) (lv' := [(2, .int (nI (k + 1))), (1, .int v), (3, .int 0), (0, .ref (aa G 4 0))]) hx hb dX7_deepest_64 hl (k := 3) rfl (nI_1 _) (by decide) rfl (fun ls hl => ?_)
              refine lv_goto (tgt := 5) hx hb dX7_deepest_67 (by decide) ?_
              exact ih (k + 1) v (by omega) (by omega) (by simp only [itn, ← ev, b_X7_deepest_5, if_neg zc20, if_neg zc24, if_pos zc37, if_neg zc51]) (by first | exact hbst | exact Or.inr (vp_in_nI (by omega) (by decide))) _ _ _ w (lv_sub hl [3, 1, 0] rfl)
          · -- 40
            refine lv_iconst (v := 1) hx hb dX7_deepest_40 (by decide) ?_
            refine lv_goto (tgt := 45) hx hb dX7_deepest_41 (by decide) ?_
            refine lv_istore_n (lv' := [(3, .int 1), (0, .ref (aa G 4 0)), (1, .int v), (2, .int (nI k))]) hx hb dX7_deepest_45 rfl hl (by decide) rfl (fun ls hl => ?_)
            refine lv_iload_n hx hb dX7_deepest_46 rfl (lv_at hl 3 rfl) ?_
            refine lv_aload_n hx hb dX7_deepest_47 rfl (lv_at hl 1 rfl) ?_
            refine gf7_66 X w dX7_deepest_48 ?_
            refine lv_icmp_eq (tgt := 62) hx hb dX7_deepest_51 (by decide) (fun zc51 => ?_) (fun zc51 => ?_)
            · -- 62
              refine lv_iload_n hx hb dX7_deepest_62 rfl (lv_at hl 2 rfl) ?_
              refine lv_istore_n (lv' := [(1, .int v), (3, .int 1), (0, .ref (aa G 4 0)), (2, .int (nI k))]) hx hb dX7_deepest_63 rfl hl (by decide) rfl (fun ls hl => ?_)
              refine lv_iinc (v := nI (k + 1)) (lv' := [(2, .int (nI (k + 1))), (1, .int v), (3, .int 1), (0, .ref (aa G 4 0))]) hx hb dX7_deepest_64 hl (k := 3) rfl (nI_1 _) (by decide) rfl (fun ls hl => ?_)
              refine lv_goto (tgt := 5) hx hb dX7_deepest_67 (by decide) ?_
              exact ih (k + 1) v (by omega) (by omega) (by simp only [itn, ← ev, b_X7_deepest_5, if_neg zc20, if_neg zc24, if_neg zc37, if_pos zc51]) (by first | exact hbst | exact Or.inr (vp_in_nI (by omega) (by decide))) _ _ _ w (lv_sub hl [3, 1, 0] rfl)
            · -- 54
              refine lv_iload_n hx hb dX7_deepest_54 rfl (lv_at hl 0 rfl) ?_
              refine lv_if_eq (tgt := 62) hx hb dX7_deepest_55 (by decide) (fun zc55 => absurd zc55 (by decide)) (fun _ => ?_)
              refine lv_iload_n hx hb dX7_deepest_58 rfl (lv_at hl 3 rfl) ?_
              refine lv_goto (tgt := 63) hx hb dX7_deepest_59 (by decide) ?_
              refine lv_topi (fun zv63_2 ezv63_2 => ?_)
              refine lv_istore_n (lv' := [(1, .int zv63_2), (3, .int 1), (0, .ref (aa G 4 0)), (2, .int (nI k))]) hx hb dX7_deepest_63 rfl hl (by decide) rfl (fun ls hl => ?_)
              refine lv_iinc (v := nI (k + 1)) (lv' := [(2, .int (nI (k + 1))), (1, .int zv63_2), (3, .int 1), (0, .ref (aa G 4 0))]) hx hb dX7_deepest_64 hl (k := 3) rfl (nI_1 _) (by decide) rfl (fun ls hl => ?_)
              refine lv_goto (tgt := 5) hx hb dX7_deepest_67 (by decide) ?_
              exact ih (k + 1) zv63_2 (by omega) (by omega) (by replace ezv63_2 := ezv63_2.symm; subst ezv63_2; simp only [itn, ← ev, b_X7_deepest_5, if_neg zc20, if_neg zc24, if_neg zc37, if_neg zc51]) (by replace ezv63_2 := ezv63_2.symm; subst ezv63_2; first | exact hbst | exact Or.inr (vp_in_nI (by omega) (by decide))) _ _ _ w (lv_sub hl [3, 1, 0] rfl)
set_option maxRecDepth 100000 in
set_option maxHeartbeats 4000000 in
theorem c_X7_deepest {l : Launch} {G : GG} {σ : St} {ρ : Gr}  (hn : (ρ 0 0).toNatClampNeg ≤ 8) : MM l G yX7_deepest cX7_deepest 4 3 64 (some .int) [.ref (aa G 4 0)] (setG σ 4 ρ) (Qi G (f_X7_deepest ρ) (setG σ 4 ρ)) := by
  refine MM.of (by decide) (Nat.le_of_ble_eq_true rfl) ?_
  intro p e s m below meth c ls X hr hlk w hl
  have hx := X.1.1
  have hb := X.1.2.1
  have hl : lv_has ls 4 [(0, .ref (aa G 4 0))] := hl
  refine lv_bipush (v := (-9)) hx hb dX7_deepest_0 (by decide) ?_
  refine lv_istore_n (lv' := [(1, .int (-9)), (0, .ref (aa G 4 0))]) hx hb dX7_deepest_2 rfl hl (by decide) rfl (fun ls hl => ?_)
  refine lv_iconst (v := 0) hx hb dX7_deepest_3 (by decide) ?_
  refine lv_istore_n (lv' := [(2, .int 0), (1, .int (-9)), (0, .ref (aa G 4 0))]) hx hb dX7_deepest_4 rfl hl (by decide) rfl (fun ls hl => ?_)
  refine lp_X7_deepest_5 X  (-9) (by assumption) (fun H locs ls w hl => ?_) ((ρ 0 0).toNatClampNeg + 1) 0 _ (Nat.zero_le _) (Nat.lt_succ_of_le (Nat.sub_le _ _)) rfl (Or.inl (show (-9 : Int32) < 0 by decide)) _ _ _ w (lv_sub hl [2, 1, 0] rfl)
  obtain ⟨zl5, ezl5⟩ : ∃ y : Int32, y = (l_X7_deepest_5 ρ (-9)) := ⟨_, rfl⟩
  rw [← ezl5] at hl
  refine lv_iload_n hx hb dX7_deepest_70 rfl (lv_at hl 1 rfl) ?_
  exact t_i X w hr hlk dX7_deepest_71 (by replace ezl5 := ezl5.symm; subst ezl5; simp only [f_X7_deepest]) rfl

noncomputable def f_X7_chosen (ρ : Gr) (x1 : Int32) : Int32 :=
  if (ρ 0 27) = (ρ 0 25) then
    if (ρ 0 26) = 0 then
      f_X7_lackingMost ρ
    else
      if (ρ 0 26) = 1 then
        if x1 = 1 then
          f_X7_lackingMost ρ
        else
          (-9)
      else
        if (ρ 0 26) = 2 then
          (-9)
        else
          if (ρ 0 26) = 3 then
            f_X7_deepest ρ
          else
            if x1 = 0 then
              (-9)
            else
              f_X7_lackingMost ρ
  else
    let zv20 : Int32 := ρ 0 27
    if (ρ 0 26) = 0 then
      f_X7_lackingMost ρ
    else
      if (ρ 0 26) = 1 then
        if x1 = 1 then
          f_X7_lackingMost ρ
        else
          (-9)
      else
        if (ρ 0 26) = 2 then
          zv20
        else
          if (ρ 0 26) = 3 then
            f_X7_deepest ρ
          else
            if x1 = 0 then
              zv20
            else
              f_X7_lackingMost ρ
set_option maxRecDepth 100000 in
set_option maxHeartbeats 4000000 in
theorem c_X7_chosen {l : Launch} {G : GG} {σ : St} {ρ : Gr}  (x1 : Int32) (hn : (ρ 0 0).toNatClampNeg ≤ 8) : MM l G yX7_chosen cX7_chosen 3 4 87 (some .int) [.ref (aa G 4 0), .int x1] (setG σ 4 ρ) (Qi G (f_X7_chosen ρ x1) (setG σ 4 ρ)) := by
  refine MM.of (by decide) (Nat.le_of_ble_eq_true rfl) ?_
  intro p e s m below meth c ls X hr hlk w hl
  have hx := X.1.1
  have hb := X.1.2.1
  have hl : lv_has ls 3 [(0, .ref (aa G 4 0)), (1, .int x1)] := hl
  refine lv_aload_n hx hb dX7_chosen_0 rfl (lv_at hl 0 rfl) ?_
  refine gf7_176 X w dX7_chosen_1 ?_
  refine lv_aload_n hx hb dX7_chosen_4 rfl (lv_at hl 0 rfl) ?_
  refine gf7_66 X w dX7_chosen_5 ?_
  refine lv_icmp_ne (tgt := 16) hx hb dX7_chosen_8 (by decide) (fun zc8 => ?_) (fun zc8 => ?_)
  · -- 16
    refine lv_aload_n hx hb dX7_chosen_16 rfl (lv_at hl 0 rfl) ?_
    refine gf7_176 X w dX7_chosen_17 ?_
    refine lv_topi (fun zv20 ezv20 => ?_)
    refine lv_istore_n (lv' := [(2, .int zv20), (0, .ref (aa G 4 0)), (1, .int x1)]) hx hb dX7_chosen_20 rfl hl (by decide) rfl (fun ls hl => ?_)
    refine lv_aload_n hx hb dX7_chosen_21 rfl (lv_at hl 1 rfl) ?_
    refine gf7_173 X w dX7_chosen_22 ?_
    by_cases zc25_0 : (ρ 0 26) = 0
    · -- case 0
      refine lv_tableIn (off := 31) (tgt := 56) hx hb dX7_chosen_25 (by rw [zc25_0]; decide) (by rw [zc25_0]; decide) (by rw [zc25_0]; rfl) (by decide) ?_
      refine lv_aload_n hx hb dX7_chosen_56 rfl (lv_at hl 1 rfl) ?_
      refine k_i (rr_v (rest := []) X w mX7_lackingMost kw974 (c_X7_lackingMost (by assumption)) m4_0 rfl rfl ⟨Nat.le_of_ble_eq_true rfl, Nat.le_of_ble_eq_true rfl⟩ rfl hl.1 rfl (Nat.le_of_ble_eq_true rfl) dX7_chosen_57 ⟨Nat.zero_le _, Nat.zero_le _⟩) w (fun H locs w => ?_)
      exact t_i X w hr hlk dX7_chosen_60 (by replace ezv20 := ezv20.symm; subst ezv20; simp only [f_X7_chosen, if_neg zc8, if_pos zc25_0]) rfl
    · -- not 0
      by_cases zc25_1 : (ρ 0 26) = 1
      · -- case 1
        refine lv_tableIn (off := 36) (tgt := 61) hx hb dX7_chosen_25 (by rw [zc25_1]; decide) (by rw [zc25_1]; decide) (by rw [zc25_1]; rfl) (by decide) ?_
        refine lv_iload_n hx hb dX7_chosen_61 rfl (lv_at hl 2 rfl) ?_
        refine lv_iconst (v := 1) hx hb dX7_chosen_62 (by decide) ?_
        refine lv_icmp_ne (tgt := 73) hx hb dX7_chosen_63 (by decide) (fun zc63 => ?_) (fun zc63 => ?_)
        · -- 73
          refine lv_bipush (v := (-9)) hx hb dX7_chosen_73 (by decide) ?_
          exact t_i X w hr hlk dX7_chosen_75 (by replace ezv20 := ezv20.symm; subst ezv20; simp only [f_X7_chosen, if_neg zc8, if_neg zc25_0, if_pos zc25_1, if_neg zc63]) rfl
        · -- 66
          refine lv_aload_n hx hb dX7_chosen_66 rfl (lv_at hl 1 rfl) ?_
          refine k_i (rr_v (rest := []) X w mX7_lackingMost kw974 (c_X7_lackingMost (by assumption)) m4_0 rfl rfl ⟨Nat.le_of_ble_eq_true rfl, Nat.le_of_ble_eq_true rfl⟩ rfl hl.1 rfl (Nat.le_of_ble_eq_true rfl) dX7_chosen_67 ⟨Nat.zero_le _, Nat.zero_le _⟩) w (fun H locs w => ?_)
          refine lv_goto (tgt := 75) hx hb dX7_chosen_70 (by decide) ?_
          exact t_i X w hr hlk dX7_chosen_75 (by replace ezv20 := ezv20.symm; subst ezv20; simp only [f_X7_chosen, if_neg zc8, if_neg zc25_0, if_pos zc25_1, if_pos zc63]) rfl
      · -- not 1
        by_cases zc25_2 : (ρ 0 26) = 2
        · -- case 2
          refine lv_tableIn (off := 51) (tgt := 76) hx hb dX7_chosen_25 (by rw [zc25_2]; decide) (by rw [zc25_2]; decide) (by rw [zc25_2]; rfl) (by decide) ?_
          refine lv_iload_n hx hb dX7_chosen_76 rfl (lv_at hl 0 rfl) ?_
          exact t_i X w hr hlk dX7_chosen_77 (by replace ezv20 := ezv20.symm; subst ezv20; simp only [f_X7_chosen, if_neg zc8, if_neg zc25_0, if_neg zc25_1, if_pos zc25_2]) rfl
        · -- not 2
          by_cases zc25_3 : (ρ 0 26) = 3
          · -- case 3
            refine lv_tableIn (off := 53) (tgt := 78) hx hb dX7_chosen_25 (by rw [zc25_3]; decide) (by rw [zc25_3]; decide) (by rw [zc25_3]; rfl) (by decide) ?_
            refine lv_aload_n hx hb dX7_chosen_78 rfl (lv_at hl 1 rfl) ?_
            refine k_i (rr_v (rest := []) X w mX7_deepest kw978 (c_X7_deepest (by assumption)) m4_0 rfl rfl ⟨Nat.le_of_ble_eq_true rfl, Nat.le_of_ble_eq_true rfl⟩ rfl hl.1 rfl (Nat.le_of_ble_eq_true rfl) dX7_chosen_79 ⟨Nat.zero_le _, Nat.zero_le _⟩) w (fun H locs w => ?_)
            exact t_i X w hr hlk dX7_chosen_82 (by replace ezv20 := ezv20.symm; subst ezv20; simp only [f_X7_chosen, if_neg zc8, if_neg zc25_0, if_neg zc25_1, if_neg zc25_2, if_pos zc25_3]) rfl
          · -- not 3
            refine lv_tableOut (tgt := 83) hx hb dX7_chosen_25 (by have hzc25_0 := lv_neT zc25_0 (a := 0) (by decide); have hzc25_1 := lv_neT zc25_1 (a := 1) (by decide); have hzc25_2 := lv_neT zc25_2 (a := 2) (by decide); have hzc25_3 := lv_neT zc25_3 (a := 3) (by decide); omega) (by decide) ?_
            refine lv_iload_n hx hb dX7_chosen_83 rfl (lv_at hl 2 rfl) ?_
            refine lv_if_ne (tgt := 91) hx hb dX7_chosen_84 (by decide) (fun zc84 => ?_) (fun zc84 => ?_)
            · -- 91
              refine lv_aload_n hx hb dX7_chosen_91 rfl (lv_at hl 1 rfl) ?_
              refine k_i (rr_v (rest := []) X w mX7_lackingMost kw974 (c_X7_lackingMost (by assumption)) m4_0 rfl rfl ⟨Nat.le_of_ble_eq_true rfl, Nat.le_of_ble_eq_true rfl⟩ rfl hl.1 rfl (Nat.le_of_ble_eq_true rfl) dX7_chosen_92 ⟨Nat.zero_le _, Nat.zero_le _⟩) w (fun H locs w => ?_)
              exact t_i X w hr hlk dX7_chosen_95 (by replace ezv20 := ezv20.symm; subst ezv20; simp only [f_X7_chosen, if_neg zc8, if_neg zc25_0, if_neg zc25_1, if_neg zc25_2, if_neg zc25_3, if_neg zc84]) rfl
            · -- 87
              refine lv_iload_n hx hb dX7_chosen_87 rfl (lv_at hl 0 rfl) ?_
              refine lv_goto (tgt := 95) hx hb dX7_chosen_88 (by decide) ?_
              exact t_i X w hr hlk dX7_chosen_95 (by replace ezv20 := ezv20.symm; subst ezv20; simp only [f_X7_chosen, if_neg zc8, if_neg zc25_0, if_neg zc25_1, if_neg zc25_2, if_neg zc25_3, if_pos zc84]) rfl
  · -- 11
    refine lv_bipush (v := (-9)) hx hb dX7_chosen_11 (by decide) ?_
    refine lv_goto (tgt := 20) hx hb dX7_chosen_13 (by decide) ?_
    refine lv_istore_n (lv' := [(2, .int (-9)), (0, .ref (aa G 4 0)), (1, .int x1)]) hx hb dX7_chosen_20 rfl hl (by decide) rfl (fun ls hl => ?_)
    refine lv_aload_n hx hb dX7_chosen_21 rfl (lv_at hl 1 rfl) ?_
    refine gf7_173 X w dX7_chosen_22 ?_
    by_cases zc25_0 : (ρ 0 26) = 0
    · -- case 0
      refine lv_tableIn (off := 31) (tgt := 56) hx hb dX7_chosen_25 (by rw [zc25_0]; decide) (by rw [zc25_0]; decide) (by rw [zc25_0]; rfl) (by decide) ?_
      refine lv_aload_n hx hb dX7_chosen_56 rfl (lv_at hl 1 rfl) ?_
      refine k_i (rr_v (rest := []) X w mX7_lackingMost kw974 (c_X7_lackingMost (by assumption)) m4_0 rfl rfl ⟨Nat.le_of_ble_eq_true rfl, Nat.le_of_ble_eq_true rfl⟩ rfl hl.1 rfl (Nat.le_of_ble_eq_true rfl) dX7_chosen_57 ⟨Nat.zero_le _, Nat.zero_le _⟩) w (fun H locs w => ?_)
      exact t_i X w hr hlk dX7_chosen_60 (by simp only [f_X7_chosen, if_pos zc8, if_pos zc25_0]) rfl
    · -- not 0
      by_cases zc25_1 : (ρ 0 26) = 1
      · -- case 1
        refine lv_tableIn (off := 36) (tgt := 61) hx hb dX7_chosen_25 (by rw [zc25_1]; decide) (by rw [zc25_1]; decide) (by rw [zc25_1]; rfl) (by decide) ?_
        refine lv_iload_n hx hb dX7_chosen_61 rfl (lv_at hl 2 rfl) ?_
        refine lv_iconst (v := 1) hx hb dX7_chosen_62 (by decide) ?_
        refine lv_icmp_ne (tgt := 73) hx hb dX7_chosen_63 (by decide) (fun zc63 => ?_) (fun zc63 => ?_)
        · -- 73
          refine lv_bipush (v := (-9)) hx hb dX7_chosen_73 (by decide) ?_
          exact t_i X w hr hlk dX7_chosen_75 (by simp only [f_X7_chosen, if_pos zc8, if_neg zc25_0, if_pos zc25_1, if_neg zc63]) rfl
        · -- 66
          refine lv_aload_n hx hb dX7_chosen_66 rfl (lv_at hl 1 rfl) ?_
          refine k_i (rr_v (rest := []) X w mX7_lackingMost kw974 (c_X7_lackingMost (by assumption)) m4_0 rfl rfl ⟨Nat.le_of_ble_eq_true rfl, Nat.le_of_ble_eq_true rfl⟩ rfl hl.1 rfl (Nat.le_of_ble_eq_true rfl) dX7_chosen_67 ⟨Nat.zero_le _, Nat.zero_le _⟩) w (fun H locs w => ?_)
          refine lv_goto (tgt := 75) hx hb dX7_chosen_70 (by decide) ?_
          exact t_i X w hr hlk dX7_chosen_75 (by simp only [f_X7_chosen, if_pos zc8, if_neg zc25_0, if_pos zc25_1, if_pos zc63]) rfl
      · -- not 1
        by_cases zc25_2 : (ρ 0 26) = 2
        · -- case 2
          refine lv_tableIn (off := 51) (tgt := 76) hx hb dX7_chosen_25 (by rw [zc25_2]; decide) (by rw [zc25_2]; decide) (by rw [zc25_2]; rfl) (by decide) ?_
          refine lv_iload_n hx hb dX7_chosen_76 rfl (lv_at hl 0 rfl) ?_
          exact t_i X w hr hlk dX7_chosen_77 (by simp only [f_X7_chosen, if_pos zc8, if_neg zc25_0, if_neg zc25_1, if_pos zc25_2]) rfl
        · -- not 2
          by_cases zc25_3 : (ρ 0 26) = 3
          · -- case 3
            refine lv_tableIn (off := 53) (tgt := 78) hx hb dX7_chosen_25 (by rw [zc25_3]; decide) (by rw [zc25_3]; decide) (by rw [zc25_3]; rfl) (by decide) ?_
            refine lv_aload_n hx hb dX7_chosen_78 rfl (lv_at hl 1 rfl) ?_
            refine k_i (rr_v (rest := []) X w mX7_deepest kw978 (c_X7_deepest (by assumption)) m4_0 rfl rfl ⟨Nat.le_of_ble_eq_true rfl, Nat.le_of_ble_eq_true rfl⟩ rfl hl.1 rfl (Nat.le_of_ble_eq_true rfl) dX7_chosen_79 ⟨Nat.zero_le _, Nat.zero_le _⟩) w (fun H locs w => ?_)
            exact t_i X w hr hlk dX7_chosen_82 (by simp only [f_X7_chosen, if_pos zc8, if_neg zc25_0, if_neg zc25_1, if_neg zc25_2, if_pos zc25_3]) rfl
          · -- not 3
            refine lv_tableOut (tgt := 83) hx hb dX7_chosen_25 (by have hzc25_0 := lv_neT zc25_0 (a := 0) (by decide); have hzc25_1 := lv_neT zc25_1 (a := 1) (by decide); have hzc25_2 := lv_neT zc25_2 (a := 2) (by decide); have hzc25_3 := lv_neT zc25_3 (a := 3) (by decide); omega) (by decide) ?_
            refine lv_iload_n hx hb dX7_chosen_83 rfl (lv_at hl 2 rfl) ?_
            refine lv_if_ne (tgt := 91) hx hb dX7_chosen_84 (by decide) (fun zc84 => ?_) (fun zc84 => ?_)
            · -- 91
              refine lv_aload_n hx hb dX7_chosen_91 rfl (lv_at hl 1 rfl) ?_
              refine k_i (rr_v (rest := []) X w mX7_lackingMost kw974 (c_X7_lackingMost (by assumption)) m4_0 rfl rfl ⟨Nat.le_of_ble_eq_true rfl, Nat.le_of_ble_eq_true rfl⟩ rfl hl.1 rfl (Nat.le_of_ble_eq_true rfl) dX7_chosen_92 ⟨Nat.zero_le _, Nat.zero_le _⟩) w (fun H locs w => ?_)
              exact t_i X w hr hlk dX7_chosen_95 (by simp only [f_X7_chosen, if_pos zc8, if_neg zc25_0, if_neg zc25_1, if_neg zc25_2, if_neg zc25_3, if_neg zc84]) rfl
            · -- 87
              refine lv_iload_n hx hb dX7_chosen_87 rfl (lv_at hl 0 rfl) ?_
              refine lv_goto (tgt := 95) hx hb dX7_chosen_88 (by decide) ?_
              exact t_i X w hr hlk dX7_chosen_95 (by simp only [f_X7_chosen, if_pos zc8, if_neg zc25_0, if_neg zc25_1, if_neg zc25_2, if_neg zc25_3, if_pos zc84]) rfl

noncomputable def b_X7_feetLacking_4 (ρ : Gr) (y1 : Int32) (k : Nat) (v : Int32) : Int32 :=
  let zv17 : Int32 := f_X7_lacksOf ρ (nI k)
  if zv17 ≤ 0 then
    let zv47 : Int32 := v + 0
    zv47
  else
    if y1 = 0 then
      let zv47_2 : Int32 := v + (zv17 * 1)
      zv47_2
    else
      let zv47_3 : Int32 := v + (zv17 * (ρ 5 (nI k).toNatClampNeg))
      zv47_3
noncomputable def l_X7_feetLacking_4 (ρ : Gr) (y1 : Int32) (v0 : Int32) : Int32 := itn (b_X7_feetLacking_4 ρ y1) (ρ 0 0).toNatClampNeg v0
noncomputable def f_X7_feetLacking (ρ : Gr) (x1 : Int32) : Int32 :=
  let zl4 : Int32 := (l_X7_feetLacking_4 ρ x1 0)
  zl4
set_option maxRecDepth 100000 in
set_option maxHeartbeats 4000000 in
theorem lp_X7_feetLacking_4 {l : Launch} {G : GG} {p : Program} {e : Env} {s : State} {m : MethodId} {args : Array Value} {below : List Frame} {meth : Method} {c : Code} {Q : State → Prop} {σ : St} {ρ : Gr} (X : Cx p m c cX7_feetLacking 5 s args RX7 G) (y1 : Int32) (v0 : Int32) (hn : (ρ 0 0).toNatClampNeg ≤ 8)
    (kk : ∀ (H : Heap) (locs : List Loc) (ls : Array Slot), Wh G s σ 4 ρ H locs → lv_has ls 5 [(0, .ref (aa G 4 0)), (1, .int y1), (2, .int (l_X7_feetLacking_4 ρ y1 v0)), (3, .int (nI ((ρ 0 0).toNatClampNeg)))] → W p l e (rmv 3 64) s m args below meth c H locs 0 0 Q (F0 m 54 ls [])) :
    ∀ (n k : Nat) (v : Int32), k ≤ (ρ 0 0).toNatClampNeg → (ρ 0 0).toNatClampNeg - k < n → v = itn (b_X7_feetLacking_4 ρ y1) k v0 → ∀ (H : Heap) (locs : List Loc) (ls : Array Slot), Wh G s σ 4 ρ H locs → lv_has ls 5 [(0, .ref (aa G 4 0)), (1, .int y1), (2, .int v), (3, .int (nI k))] → W p l e (rmv 3 64) s m args below meth c H locs 0 0 Q (F0 m 4 ls []) := by
  have hx := X.1.1
  have hb := X.1.2.1
  intro n
  induction n with
  | zero => intro k v _ h; omega
  | succ n ih =>
    intro k v hkN hn ev H locs ls w hl
    refine lv_iload_n hx hb dX7_feetLacking_4 rfl (lv_at hl 3 rfl) ?_
    refine lv_aload_n hx hb dX7_feetLacking_5 rfl (lv_at hl 0 rfl) ?_
    refine gf7_111 X w dX7_feetLacking_6 ?_
    refine lv_icmp_ge (tgt := 54) hx hb dX7_feetLacking_9 (by decide) (fun zc9 => ?_) (fun zc9 => ?_)
    · -- 54
      have hkE : k = (ρ 0 0).toNatClampNeg := lp_eq hkN zc9
      have ev2 : l_X7_feetLacking_4 ρ y1 v0 = v := by unfold l_X7_feetLacking_4; rw [← hkE]; exact ev.symm
      rw [ev2] at kk
      rw [hkE] at hl
      exact kk _ _ _ w (lv_sub hl [0, 1, 2, 3] rfl)
    · -- 12
      have hk : k < (ρ 0 0).toNatClampNeg := lp_lt hkN zc9
      refine lv_aload_n hx hb dX7_feetLacking_12 rfl (lv_at hl 0 rfl) ?_
      refine lv_iload_n hx hb dX7_feetLacking_13 rfl (lv_at hl 3 rfl) ?_
      refine k_i (rr_v (rest := []) X w mX7_lacksOf kw952 (c_X7_lacksOf (nI k) (vp_in_nI (by omega) (by decide))) m4_0 rfl rfl ⟨Nat.le_of_ble_eq_true rfl, Nat.le_of_ble_eq_true rfl⟩ rfl hl.1 rfl (Nat.le_of_ble_eq_true rfl) dX7_feetLacking_14 ⟨Nat.zero_le _, Nat.zero_le _⟩) w (fun H locs w => ?_)
      refine lv_topi (fun zv17 ezv17 => ?_)
      refine lv_istore (lv' := [(4, .int zv17), (0, .ref (aa G 4 0)), (1, .int y1), (2, .int v), (3, .int (nI k))]) hx hb dX7_feetLacking_17 hl (by decide) rfl (fun ls hl => ?_)
      refine lv_iload_n hx hb dX7_feetLacking_19 rfl (lv_at hl 3 rfl) ?_
      refine lv_iload hx hb dX7_feetLacking_20 (lv_at hl 0 rfl) ?_
      refine lv_if_le (tgt := 45) hx hb dX7_feetLacking_22 (by decide) (fun zc22 => ?_) (fun zc22 => ?_)
      · -- 45
        refine lv_iconst (v := 0) hx hb dX7_feetLacking_45 (by decide) ?_
        refine lv_iadd hx hb dX7_feetLacking_46 ?_
        refine lv_topi (fun zv47 ezv47 => ?_)
        refine lv_istore_n (lv' := [(2, .int zv47), (4, .int zv17), (0, .ref (aa G 4 0)), (1, .int y1), (3, .int (nI k))]) hx hb dX7_feetLacking_47 rfl hl (by decide) rfl (fun ls hl => ?_)
        refine lv_iinc (v := nI (k + 1)) (lv' := [(3, .int (nI (k + 1))), (2, .int zv47), (4, .int zv17), (0, .ref (aa G 4 0)), (1, .int y1)]) hx hb dX7_feetLacking_48 hl (k := 4) rfl (nI_1 _) (by decide) rfl (fun ls hl => ?_)
        refine lv_goto (tgt := 4) hx hb dX7_feetLacking_51 (by decide) ?_
        exact ih (k + 1) zv47 (by omega) (by omega) (by replace ezv47 := ezv47.symm; subst ezv47; replace ezv17 := ezv17.symm; subst ezv17; simp only [itn, ← ev, b_X7_feetLacking_4, if_pos zc22])  _ _ _ w (lv_sub hl [3, 4, 1, 0] rfl)
      · -- 25
        refine lv_iload hx hb dX7_feetLacking_25 (lv_at hl 0 rfl) ?_
        refine lv_iload_n hx hb dX7_feetLacking_27 rfl (lv_at hl 2 rfl) ?_
        refine lv_if_eq (tgt := 40) hx hb dX7_feetLacking_28 (by decide) (fun zc28 => ?_) (fun zc28 => ?_)
        · -- 40
          refine lv_iconst (v := 1) hx hb dX7_feetLacking_40 (by decide) ?_
          refine lv_imul hx hb dX7_feetLacking_41 ?_
          refine lv_goto (tgt := 46) hx hb dX7_feetLacking_42 (by decide) ?_
          refine lv_iadd hx hb dX7_feetLacking_46 ?_
          refine lv_topi (fun zv47_2 ezv47_2 => ?_)
          refine lv_istore_n (lv' := [(2, .int zv47_2), (4, .int zv17), (0, .ref (aa G 4 0)), (1, .int y1), (3, .int (nI k))]) hx hb dX7_feetLacking_47 rfl hl (by decide) rfl (fun ls hl => ?_)
          refine lv_iinc (v := nI (k + 1)) (lv' := [(3, .int (nI (k + 1))), (2, .int zv47_2), (4, .int zv17), (0, .ref (aa G 4 0)), (1, .int y1)]) hx hb dX7_feetLacking_48 hl (k := 4) rfl (nI_1 _) (by decide) rfl (fun ls hl => ?_)
          refine lv_goto (tgt := 4) hx hb dX7_feetLacking_51 (by decide) ?_
          exact ih (k + 1) zv47_2 (by omega) (by omega) (by replace ezv47_2 := ezv47_2.symm; subst ezv47_2; replace ezv17 := ezv17.symm; subst ezv17; simp only [itn, ← ev, b_X7_feetLacking_4, if_neg zc22, if_pos zc28])  _ _ _ w (lv_sub hl [3, 4, 1, 0] rfl)
        · -- 31
          refine lv_aload_n hx hb dX7_feetLacking_31 rfl (lv_at hl 1 rfl) ?_
          refine gf7_22 X w dX7_feetLacking_32 ?_
          refine lv_iload_n hx hb dX7_feetLacking_35 rfl (lv_at hl 4 rfl) ?_
          refine ia (f := 5) (n := 8) X w m4_5 rfl (vp_in_nI (by omega) (by decide)) dX7_feetLacking_36 ?_
          refine lv_goto (tgt := 41) hx hb dX7_feetLacking_37 (by decide) ?_
          refine lv_imul hx hb dX7_feetLacking_41 ?_
          refine lv_goto (tgt := 46) hx hb dX7_feetLacking_42 (by decide) ?_
          refine lv_iadd hx hb dX7_feetLacking_46 ?_
          refine lv_topi (fun zv47_3 ezv47_3 => ?_)
          refine lv_istore_n (lv' := [(2, .int zv47_3), (4, .int zv17), (0, .ref (aa G 4 0)), (1, .int y1), (3, .int (nI k))]) hx hb dX7_feetLacking_47 rfl hl (by decide) rfl (fun ls hl => ?_)
          refine lv_iinc (v := nI (k + 1)) (lv' := [(3, .int (nI (k + 1))), (2, .int zv47_3), (4, .int zv17), (0, .ref (aa G 4 0)), (1, .int y1)]) hx hb dX7_feetLacking_48 hl (k := 4) rfl (nI_1 _) (by decide) rfl (fun ls hl => ?_)
          refine lv_goto (tgt := 4) hx hb dX7_feetLacking_51 (by decide) ?_
          exact ih (k + 1) zv47_3 (by omega) (by omega) (by replace ezv47_3 := ezv47_3.symm; subst ezv47_3; replace ezv17 := ezv17.symm; subst ezv17; simp only [itn, ← ev, b_X7_feetLacking_4, if_neg zc22, if_neg zc28])  _ _ _ w (lv_sub hl [3, 4, 1, 0] rfl)
set_option maxRecDepth 100000 in
set_option maxHeartbeats 4000000 in
theorem c_X7_feetLacking {l : Launch} {G : GG} {σ : St} {ρ : Gr}  (x1 : Int32) (hn : (ρ 0 0).toNatClampNeg ≤ 8) : MM l G yX7_feetLacking cX7_feetLacking 5 3 64 (some .int) [.ref (aa G 4 0), .int x1] (setG σ 4 ρ) (Qi G (f_X7_feetLacking ρ x1) (setG σ 4 ρ)) := by
  refine MM.of (by decide) (Nat.le_of_ble_eq_true rfl) ?_
  intro p e s m below meth c ls X hr hlk w hl
  have hx := X.1.1
  have hb := X.1.2.1
  have hl : lv_has ls 5 [(0, .ref (aa G 4 0)), (1, .int x1)] := hl
  refine lv_iconst (v := 0) hx hb dX7_feetLacking_0 (by decide) ?_
  refine lv_istore_n (lv' := [(2, .int 0), (0, .ref (aa G 4 0)), (1, .int x1)]) hx hb dX7_feetLacking_1 rfl hl (by decide) rfl (fun ls hl => ?_)
  refine lv_iconst (v := 0) hx hb dX7_feetLacking_2 (by decide) ?_
  refine lv_istore_n (lv' := [(3, .int 0), (2, .int 0), (0, .ref (aa G 4 0)), (1, .int x1)]) hx hb dX7_feetLacking_3 rfl hl (by decide) rfl (fun ls hl => ?_)
  refine lp_X7_feetLacking_4 X x1 0 (by assumption) (fun H locs ls w hl => ?_) ((ρ 0 0).toNatClampNeg + 1) 0 _ (Nat.zero_le _) (Nat.lt_succ_of_le (Nat.sub_le _ _)) rfl  _ _ _ w (lv_sub hl [2, 3, 1, 0] rfl)
  obtain ⟨zl4, ezl4⟩ : ∃ y : Int32, y = (l_X7_feetLacking_4 ρ x1 0) := ⟨_, rfl⟩
  rw [← ezl4] at hl
  refine lv_iload_n hx hb dX7_feetLacking_54 rfl (lv_at hl 2 rfl) ?_
  exact t_i X w hr hlk dX7_feetLacking_55 (by replace ezl4 := ezl4.symm; subst ezl4; simp only [f_X7_feetLacking]) rfl

noncomputable def f_X7_costNow (ρ : Gr)  : Int32 :=
  ((f_X7_feetLacking ρ 1) + ((ρ 0 36) * (ρ 0 28))) + (2 * (ρ 0 37))
set_option maxRecDepth 100000 in
set_option maxHeartbeats 4000000 in
theorem c_X7_costNow {l : Launch} {G : GG} {σ : St} {ρ : Gr}  (hn : (ρ 0 0).toNatClampNeg ≤ 8) : MM l G yX7_costNow cX7_costNow 1 4 88 (some .int) [.ref (aa G 4 0)] (setG σ 4 ρ) (Qi G (f_X7_costNow ρ) (setG σ 4 ρ)) := by
  refine MM.of (by decide) (Nat.le_of_ble_eq_true rfl) ?_
  intro p e s m below meth c ls X hr hlk w hl
  have hx := X.1.1
  have hb := X.1.2.1
  have hl : lv_has ls 1 [(0, .ref (aa G 4 0))] := hl
  refine lv_aload_n hx hb dX7_costNow_0 rfl (lv_at hl 0 rfl) ?_
  refine lv_iconst (v := 1) hx hb dX7_costNow_1 (by decide) ?_
  refine k_i (rr_v (rest := []) X w mX7_feetLacking kw1020 (c_X7_feetLacking 1 (by assumption)) m4_0 rfl rfl ⟨Nat.le_of_ble_eq_true rfl, Nat.le_of_ble_eq_true rfl⟩ rfl hl.1 rfl (Nat.le_of_ble_eq_true rfl) dX7_costNow_2 ⟨Nat.zero_le _, Nat.zero_le _⟩) w (fun H locs w => ?_)
  refine lv_aload_n hx hb dX7_costNow_5 rfl (lv_at hl 0 rfl) ?_
  refine gf7_197 X w dX7_costNow_6 ?_
  refine lv_aload_n hx hb dX7_costNow_9 rfl (lv_at hl 0 rfl) ?_
  refine gf7_69 X w dX7_costNow_10 ?_
  refine lv_imul hx hb dX7_costNow_13 ?_
  refine lv_iadd hx hb dX7_costNow_14 ?_
  refine lv_iconst (v := 2) hx hb dX7_costNow_15 (by decide) ?_
  refine lv_aload_n hx hb dX7_costNow_16 rfl (lv_at hl 0 rfl) ?_
  change W _ _ _ _ _ _ _ _ _ _ _ _ _ _ _ (F0 m 17 ls _)
  refine gf7_200 X w dX7_costNow_17 ?_
  refine lv_imul hx hb dX7_costNow_20 ?_
  refine lv_iadd hx hb dX7_costNow_21 ?_
  exact t_i X w hr hlk dX7_costNow_22 (by simp only [f_X7_costNow]) rfl
