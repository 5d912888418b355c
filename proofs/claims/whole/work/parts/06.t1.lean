theorem vin_lit {i : Int32} {n : Nat} (h : (decide (0 ≤ i.toInt) && decide (i.toInt < n)) = true) : vp_in i n := by
  rw [Bool.and_eq_true, decide_eq_true_eq, decide_eq_true_eq] at h
  exact vp_in_iff.mpr h
theorem ge0 {x : Int32} (h : ¬ x < 0) : 0 ≤ x.toInt := by
  have a := Int32.le_iff_toInt_le.mp (Int32.not_lt.mp h)
  have z : (0 : Int32).toInt = 0 := by decide
  omega
theorem vin_n {x b : Int32} {n : Nat} (h0 : ¬ x < 0) (h1 : ¬ b ≤ x) (hb : b.toInt ≤ n) : vp_in x n := by
  have a0 := ge0 h0
  have a1 := Int32.lt_iff_toInt_lt.mp (Int32.not_le.mp h1)
  exact vp_in_iff.mpr (by omega)
theorem vin_l {x b : Int32} {n : Nat} (h0 : ¬ x < 0) (h1 : x < b) (hb : b.toInt ≤ n) : vp_in x n := by
  have a0 := ge0 h0
  have a1 := Int32.lt_iff_toInt_lt.mp h1
  exact vp_in_iff.mpr (by omega)
theorem vin_l8 {x : Int32} (h0 : ¬ x < 0) (h1 : x < 8) : vp_in (8 + x) 16 := by
  have a1 := Int32.lt_iff_toInt_lt.mp h1
  have z8 : (8 : Int32).toInt = 8 := by decide
  obtain ⟨j, hj, rfl⟩ := nI_of h0
  rw [nI_toInt hj] at a1
  rw [show (8 : Int32) = nI 8 from rfl, nI_add]
  exact vp_in_nI (by omega) (by decide)
theorem clampI (x : Int32) : (x.toNatClampNeg : Int) = if x.toInt < 0 then 0 else x.toInt := by
  show ((x.toInt.toNat : Nat) : Int) = _
  by_cases h : x.toInt < 0
  · rw [if_pos h]; omega
  · rw [if_neg h]; omega
theorem clamp_lt (x : Int32) : x.toNatClampNeg < 2 ^ 31 := by
  have h := clampI x
  have h2 : x.toInt < 2 ^ 31 := Int32.toInt_lt x
  by_cases g : x.toInt < 0
  · rw [if_pos g] at h; omega
  · rw [if_neg g] at h; omega
theorem lp_eq {B : Int32} {k : Nat} (hk : k ≤ B.toNatClampNeg) (c : B ≤ nI k) : k = B.toNatClampNeg := by
  have h := clampI B
  have hl := clamp_lt B
  have c1 := Int32.le_iff_toInt_le.mp c
  rw [nI_toInt (by omega)] at c1
  by_cases g : B.toInt < 0
  · rw [if_pos g] at h; omega
  · rw [if_neg g] at h; omega
theorem lp_lt {B : Int32} {k : Nat} (hk : k ≤ B.toNatClampNeg) (c : ¬ B ≤ nI k) : k < B.toNatClampNeg := by
  have h := clampI B
  have hl := clamp_lt B
  have c1 := Int32.lt_iff_toInt_lt.mp (Int32.not_le.mp c)
  rw [nI_toInt (by omega)] at c1
  by_cases g : B.toInt < 0
  · rw [if_pos g] at h; omega
  · rw [if_neg g] at h; omega
theorem lp_eq' {B : Int32} {k : Nat} (hk : k ≤ B.toNatClampNeg) (c : ¬ nI k < B) : k = B.toNatClampNeg := lp_eq hk (Int32.not_lt.mp c)
theorem lp_lt' {B : Int32} {k : Nat} (hk : k ≤ B.toNatClampNeg) (c : nI k < B) : k < B.toNatClampNeg := lp_lt hk (Int32.not_le.mpr c)
def itn {S : Type} (f : Nat → S → S) : Nat → S → S
  | 0, v => v
  | n + 1, v => f n (itn f n v)
theorem vmask {x : Int32} {n : Nat} (y : Int32) (hy : y.toBitVec.toNat = 2 ^ n - 1) (hn : n ≤ 30) : vp_in (x &&& y) (2 ^ n) := pk_andIn x n hy hn
def f_X6_isStuff (x0 : Int32) : Int32 :=
  if x0 = 0 then
    1
  else
    if x0 = 1 then
      1
    else
      0
set_option maxRecDepth 100000 in
set_option maxHeartbeats 4000000 in
theorem c_X6_isStuff {l : Launch} {G : GG} {σ : St}  (x0 : Int32) : MM l G yX6_isStuff cX6_isStuff 1 0 0 (some .boolean) [.int x0] σ (Qi G (f_X6_isStuff x0) σ) := by
  refine MM.of (by decide) (Nat.le_of_ble_eq_true rfl) ?_
  intro p e s m below meth c ls X hr hlk w hl
  have hx := X.1.1
  have hb := X.1.2.1
  have hl : lv_has ls 1 [(0, .int x0)] := hl
  refine lv_iload_n hx hb dX6_isStuff_0 rfl (lv_at hl 0 rfl) ?_
  refine lv_if_eq (tgt := 9) hx hb dX6_isStuff_1 (by decide) (fun zc1 => ?_) (fun zc1 => ?_)
  · -- 9
    refine lv_iconst (v := 1) hx hb dX6_isStuff_9 (by decide) ?_
    refine lv_goto (tgt := 14) hx hb dX6_isStuff_10 (by decide) ?_
    exact t_z X w hr hlk isB1.n dX6_isStuff_14 (by simp only [f_X6_isStuff, if_pos zc1]) rfl
  · -- 4
    refine lv_iload_n hx hb dX6_isStuff_4 rfl (lv_at hl 0 rfl) ?_
    refine lv_iconst (v := 1) hx hb dX6_isStuff_5 (by decide) ?_
    refine lv_icmp_ne (tgt := 13) hx hb dX6_isStuff_6 (by decide) (fun zc6 => ?_) (fun zc6 => ?_)
    · -- 13
      refine lv_iconst (v := 0) hx hb dX6_isStuff_13 (by decide) ?_
      exact t_z X w hr hlk isB0.n dX6_isStuff_14 (by simp only [f_X6_isStuff, if_neg zc1, if_neg zc6]) rfl
    · -- 9
      refine lv_iconst (v := 1) hx hb dX6_isStuff_9 (by decide) ?_
      refine lv_goto (tgt := 14) hx hb dX6_isStuff_10 (by decide) ?_
      exact t_z X w hr hlk isB1.n dX6_isStuff_14 (by simp only [f_X6_isStuff, if_neg zc1, if_pos zc6]) rfl

def f_X6_isKind (x0 : Int32) : Int32 :=
  if x0 = 0 then
    1
  else
    if x0 = 1 then
      1
    else
      0
set_option maxRecDepth 100000 in
set_option maxHeartbeats 4000000 in
theorem c_X6_isKind {l : Launch} {G : GG} {σ : St}  (x0 : Int32) : MM l G yX6_isKind cX6_isKind 1 0 0 (some .boolean) [.int x0] σ (Qi G (f_X6_isKind x0) σ) := by
  refine MM.of (by decide) (Nat.le_of_ble_eq_true rfl) ?_
  intro p e s m below meth c ls X hr hlk w hl
  have hx := X.1.1
  have hb := X.1.2.1
  have hl : lv_has ls 1 [(0, .int x0)] := hl
  refine lv_iload_n hx hb dX6_isKind_0 rfl (lv_at hl 0 rfl) ?_
  refine lv_if_eq (tgt := 9) hx hb dX6_isKind_1 (by decide) (fun zc1 => ?_) (fun zc1 => ?_)
  · -- 9
    refine lv_iconst (v := 1) hx hb dX6_isKind_9 (by decide) ?_
    refine lv_goto (tgt := 14) hx hb dX6_isKind_10 (by decide) ?_
    exact t_z X w hr hlk isB1.n dX6_isKind_14 (by simp only [f_X6_isKind, if_pos zc1]) rfl
  · -- 4
    refine lv_iload_n hx hb dX6_isKind_4 rfl (lv_at hl 0 rfl) ?_
    refine lv_iconst (v := 1) hx hb dX6_isKind_5 (by decide) ?_
    refine lv_icmp_ne (tgt := 13) hx hb dX6_isKind_6 (by decide) (fun zc6 => ?_) (fun zc6 => ?_)
    · -- 13
      refine lv_iconst (v := 0) hx hb dX6_isKind_13 (by decide) ?_
      exact t_z X w hr hlk isB0.n dX6_isKind_14 (by simp only [f_X6_isKind, if_neg zc1, if_neg zc6]) rfl
    · -- 9
      refine lv_iconst (v := 1) hx hb dX6_isKind_9 (by decide) ?_
      refine lv_goto (tgt := 14) hx hb dX6_isKind_10 (by decide) ?_
      exact t_z X w hr hlk isB1.n dX6_isKind_14 (by simp only [f_X6_isKind, if_neg zc1, if_pos zc6]) rfl

def f_X6_heapOf (x0 : Int32) (x1 : Int32) : Int32 :=
  ((x1 &&& 1) * 8) + (x0 &&& 7)
set_option maxRecDepth 100000 in
set_option maxHeartbeats 4000000 in
theorem c_X6_heapOf {l : Launch} {G : GG} {σ : St}  (x0 : Int32) (x1 : Int32) : MM l G yX6_heapOf cX6_heapOf 2 0 0 (some .int) [.int x0, .int x1] σ (Qi G (f_X6_heapOf x0 x1) σ) := by
  refine MM.of (by decide) (Nat.le_of_ble_eq_true rfl) ?_
  intro p e s m below meth c ls X hr hlk w hl
  have hx := X.1.1
  have hb := X.1.2.1
  have hl : lv_has ls 2 [(0, .int x0), (1, .int x1)] := hl
  refine lv_iload_n hx hb dX6_heapOf_0 rfl (lv_at hl 1 rfl) ?_
  refine lv_iconst (v := 1) hx hb dX6_heapOf_1 (by decide) ?_
  refine lv_iand hx hb dX6_heapOf_2 ?_
  refine lv_bipush (v := 8) hx hb dX6_heapOf_3 (by decide) ?_
  refine lv_imul hx hb dX6_heapOf_5 ?_
  refine lv_iload_n hx hb dX6_heapOf_6 rfl (lv_at hl 0 rfl) ?_
  refine lv_bipush (v := 7) hx hb dX6_heapOf_7 (by decide) ?_
  refine lv_iand hx hb dX6_heapOf_9 ?_
  refine lv_iadd hx hb dX6_heapOf_10 ?_
  exact t_i X w hr hlk dX6_heapOf_11 (by simp only [f_X6_heapOf]) rfl

def f_X6_depthAbove (x0 : Int32) (x1 : Int32) : Int32 :=
  if 0 < (x1 - (x0 / 100)) then (x1 - (x0 / 100)) else 0
set_option maxRecDepth 100000 in
set_option maxHeartbeats 4000000 in
theorem c_X6_depthAbove {l : Launch} {G : GG} {σ : St}  (x0 : Int32) (x1 : Int32) : MM l G yX6_depthAbove cX6_depthAbove 2 1 13 (some .int) [.int x0, .int x1] σ (Qi G (f_X6_depthAbove x0 x1) σ) := by
  refine MM.of (by decide) (Nat.le_of_ble_eq_true rfl) ?_
  intro p e s m below meth c ls X hr hlk w hl
  have hx := X.1.1
  have hb := X.1.2.1
  have hl : lv_has ls 2 [(0, .int x0), (1, .int x1)] := hl
  refine lv_iconst (v := 0) hx hb dX6_depthAbove_0 (by decide) ?_
  refine lv_iload_n hx hb dX6_depthAbove_1 rfl (lv_at hl 1 rfl) ?_
  refine lv_iload_n hx hb dX6_depthAbove_2 rfl (lv_at hl 0 rfl) ?_
  refine lv_bipush (v := 100) hx hb dX6_depthAbove_3 (by decide) ?_
  refine lv_idiv hx hb dX6_depthAbove_5 (by decide) ?_
  refine lv_isub hx hb dX6_depthAbove_6 ?_
  refine mmax X hl.1 kw460 (Nat.le_of_ble_eq_true rfl) (Nat.le_of_ble_eq_true rfl) (Nat.zero_le _) (Nat.zero_le _) dX6_depthAbove_7 ?_
  exact t_i X w hr hlk dX6_depthAbove_10 (by simp only [f_X6_depthAbove]) rfl

def f_X6_partOf (x0 : Int32) (x1 : Int32) : Int32 :=
  ((x0.toInt64 * x1.toInt64) / 100).toInt32
set_option maxRecDepth 100000 in
set_option maxHeartbeats 4000000 in
theorem c_X6_partOf {l : Launch} {G : GG} {σ : St}  (x0 : Int32) (x1 : Int32) : MM l G yX6_partOf cX6_partOf 2 0 0 (some .int) [.int x0, .int x1] σ (Qi G (f_X6_partOf x0 x1) σ) := by
  refine MM.of (by decide) (Nat.le_of_ble_eq_true rfl) ?_
  intro p e s m below meth c ls X hr hlk w hl
  have hx := X.1.1
  have hb := X.1.2.1
  have hl : lv_has ls 2 [(0, .int x0), (1, .int x1)] := hl
  refine lv_iload_n hx hb dX6_partOf_0 rfl (lv_at hl 0 rfl) ?_
  refine lv_i2l hx hb dX6_partOf_1 rfl ?_
  refine lv_iload_n hx hb dX6_partOf_2 rfl (lv_at hl 1 rfl) ?_
  refine lv_i2l hx hb dX6_partOf_3 rfl ?_
  refine lv_lmul hx hb dX6_partOf_4 ?_
  refine lv_ldc2 hx hb X.1.2.2.2.1 (X.1.2.2.2.2 _ kw549) dX6_partOf_5 ?_
  refine lv_ldiv hx hb dX6_partOf_8 (by decide) ?_
  refine lv_l2i hx hb dX6_partOf_9 rfl ?_
  exact t_i X w hr hlk dX6_partOf_10 (by simp only [f_X6_partOf]) rfl

def f_X0_has (ρ : Gr) (x1 : Int32) : Int32 :=
  if x1 < 0 then
    0
  else
    if (ρ 1 0) ≤ x1 then
      0
    else
      if 8 ≤ x1 then
        0
      else
        1
set_option maxRecDepth 100000 in
set_option maxHeartbeats 4000000 in
theorem c_X0_has {l : Launch} {G : GG} {σ : St} {g : Nat} {ρ : Gr} (hg : HG g)  (x1 : Int32) : MM l G yX0_has cX0_has 2 0 0 (some .boolean) [.ref (aa G g 1), .int x1] (setG σ g ρ) (Qi G (f_X0_has ρ x1) (setG σ g ρ)) := by
  refine MM.of (by decide) (Nat.le_of_ble_eq_true rfl) ?_
  intro p e s m below meth c ls X hr hlk w hl
  have hx := X.1.1
  have hb := X.1.2.1
  have hl : lv_has ls 2 [(0, .ref (aa G g 1)), (1, .int x1)] := hl
  refine lv_iload_n hx hb dX0_has_0 rfl (lv_at hl 1 rfl) ?_
  refine lv_if_lt (tgt := 22) hx hb dX0_has_1 (by decide) (fun zc1 => ?_) (fun zc1 => ?_)
  · -- 22
    refine lv_iconst (v := 0) hx hb dX0_has_22 (by decide) ?_
    exact t_z X w hr hlk isB0.n dX0_has_23 (by simp only [f_X0_has, if_pos zc1]) rfl
  · -- 4
    refine lv_iload_n hx hb dX0_has_4 rfl (lv_at hl 1 rfl) ?_
    refine lv_aload_n hx hb dX0_has_5 rfl (lv_at hl 0 rfl) ?_
    refine gf0_9 hg X w dX0_has_6 ?_
    refine lv_icmp_ge (tgt := 22) hx hb dX0_has_9 (by decide) (fun zc9 => ?_) (fun zc9 => ?_)
    · -- 22
      refine lv_iconst (v := 0) hx hb dX0_has_22 (by decide) ?_
      exact t_z X w hr hlk isB0.n dX0_has_23 (by simp only [f_X0_has, if_neg zc1, if_pos zc9]) rfl
    · -- 12
      refine lv_iload_n hx hb dX0_has_12 rfl (lv_at hl 1 rfl) ?_
      refine lv_bipush (v := 8) hx hb dX0_has_13 (by decide) ?_
      refine lv_icmp_ge (tgt := 22) hx hb dX0_has_15 (by decide) (fun zc15 => ?_) (fun zc15 => ?_)
      · -- 22
        refine lv_iconst (v := 0) hx hb dX0_has_22 (by decide) ?_
        exact t_z X w hr hlk isB0.n dX0_has_23 (by simp only [f_X0_has, if_neg zc1, if_neg zc9, if_pos zc15]) rfl
      · -- 18
        refine lv_iconst (v := 1) hx hb dX0_has_18 (by decide) ?_
        refine lv_goto (tgt := 23) hx hb dX0_has_19 (by decide) ?_
        exact t_z X w hr hlk isB1.n dX0_has_23 (by simp only [f_X0_has, if_neg zc1, if_neg zc9, if_neg zc15]) rfl

def f_X0_hasAll (ρ : Gr) (x1 : Int32) : Int32 :=
  if x1 < 0 then
    0
  else
    if (1 <<< ((ρ 1 0) &&& 31)) ≤ x1 then
      0
    else
      1
set_option maxRecDepth 100000 in
set_option maxHeartbeats 4000000 in
theorem c_X0_hasAll {l : Launch} {G : GG} {σ : St} {g : Nat} {ρ : Gr} (hg : HG g)  (x1 : Int32) : MM l G yX0_hasAll cX0_hasAll 2 0 0 (some .boolean) [.ref (aa G g 1), .int x1] (setG σ g ρ) (Qi G (f_X0_hasAll ρ x1) (setG σ g ρ)) := by
  refine MM.of (by decide) (Nat.le_of_ble_eq_true rfl) ?_
  intro p e s m below meth c ls X hr hlk w hl
  have hx := X.1.1
  have hb := X.1.2.1
  have hl : lv_has ls 2 [(0, .ref (aa G g 1)), (1, .int x1)] := hl
  refine lv_iload_n hx hb dX0_hasAll_0 rfl (lv_at hl 1 rfl) ?_
  refine lv_if_lt (tgt := 18) hx hb dX0_hasAll_1 (by decide) (fun zc1 => ?_) (fun zc1 => ?_)
  · -- 18
    refine lv_iconst (v := 0) hx hb dX0_hasAll_18 (by decide) ?_
    exact t_z X w hr hlk isB0.n dX0_hasAll_19 (by simp only [f_X0_hasAll, if_pos zc1]) rfl
  · -- 4
    refine lv_iload_n hx hb dX0_hasAll_4 rfl (lv_at hl 1 rfl) ?_
    refine lv_iconst (v := 1) hx hb dX0_hasAll_5 (by decide) ?_
    refine lv_aload_n hx hb dX0_hasAll_6 rfl (lv_at hl 0 rfl) ?_
    refine gf0_9 hg X w dX0_hasAll_7 ?_
    refine lv_ishl hx hb dX0_hasAll_10 ?_
    refine lv_icmp_ge (tgt := 18) hx hb dX0_hasAll_11 (by decide) (fun zc11 => ?_) (fun zc11 => ?_)
    · -- 18
      refine lv_iconst (v := 0) hx hb dX0_hasAll_18 (by decide) ?_
      exact t_z X w hr hlk isB0.n dX0_hasAll_19 (by simp only [f_X0_hasAll, if_neg zc1, if_pos zc11]) rfl
    · -- 14
      refine lv_iconst (v := 1) hx hb dX0_hasAll_14 (by decide) ?_
      refine lv_goto (tgt := 19) hx hb dX0_hasAll_15 (by decide) ?_
      exact t_z X w hr hlk isB1.n dX0_hasAll_19 (by simp only [f_X0_hasAll, if_neg zc1, if_neg zc11]) rfl

def f_X0_settledIn (ρ : Gr) (x1 : Int32) : Int32 :=
  if x1 < 0 then
    0
  else
    if x1 < 8 then
      (ρ 8 x1.toNatClampNeg) + (ρ 8 (8 + x1).toNatClampNeg)
    else
      0
set_option maxRecDepth 100000 in
set_option maxHeartbeats 4000000 in
theorem c_X0_settledIn {l : Launch} {G : GG} {σ : St} {g : Nat} {ρ : Gr} (hg : HG g)  (x1 : Int32) : MM l G yX0_settledIn cX0_settledIn 2 0 0 (some .int) [.ref (aa G g 1), .int x1] (setG σ g ρ) (Qi G (f_X0_settledIn ρ x1) (setG σ g ρ)) := by
  refine MM.of (by decide) (Nat.le_of_ble_eq_true rfl) ?_
  intro p e s m below meth c ls X hr hlk w hl
  have hx := X.1.1
  have hb := X.1.2.1
  have hl : lv_has ls 2 [(0, .ref (aa G g 1)), (1, .int x1)] := hl
  refine lv_iload_n hx hb dX0_settledIn_0 rfl (lv_at hl 1 rfl) ?_
  refine lv_if_lt (tgt := 10) hx hb dX0_settledIn_1 (by decide) (fun zc1 => ?_) (fun zc1 => ?_)
  · -- 10
    refine lv_iconst (v := 0) hx hb dX0_settledIn_10 (by decide) ?_
    exact t_i X w hr hlk dX0_settledIn_11 (by simp only [f_X0_settledIn, if_pos zc1]) rfl
  · -- 4
    refine lv_iload_n hx hb dX0_settledIn_4 rfl (lv_at hl 1 rfl) ?_
    refine lv_bipush (v := 8) hx hb dX0_settledIn_5 (by decide) ?_
    refine lv_icmp_lt (tgt := 12) hx hb dX0_settledIn_7 (by decide) (fun zc7 => ?_) (fun zc7 => ?_)
    · -- 12
      refine lv_aload_n hx hb dX0_settledIn_12 rfl (lv_at hl 0 rfl) ?_
      refine gf0_34 hg X w dX0_settledIn_13 ?_
      refine lv_iload_n hx hb dX0_settledIn_16 rfl (lv_at hl 1 rfl) ?_
      refine ia (f := 8) (n := 16) X w (hg.in (by decide)) hg.sh (vin_l zc1 zc7 (by decide)) dX0_settledIn_17 ?_
      refine lv_aload_n hx hb dX0_settledIn_18 rfl (lv_at hl 0 rfl) ?_
      refine gf0_34 hg X w dX0_settledIn_19 ?_
      refine lv_bipush (v := 8) hx hb dX0_settledIn_22 (by decide) ?_
      refine lv_iload_n hx hb dX0_settledIn_24 rfl (lv_at hl 1 rfl) ?_
      refine lv_iadd hx hb dX0_settledIn_25 ?_
      refine ia (f := 8) (n := 16) X w (hg.in (by decide)) hg.sh (vin_l8 zc1 zc7) dX0_settledIn_26 ?_
      refine lv_iadd hx hb dX0_settledIn_27 ?_
      exact t_i X w hr hlk dX0_settledIn_28 (by simp only [f_X0_settledIn, if_neg zc1, if_pos zc7]) rfl
    · -- 10
      refine lv_iconst (v := 0) hx hb dX0_settledIn_10 (by decide) ?_
      exact t_i X w hr hlk dX0_settledIn_11 (by simp only [f_X0_settledIn, if_neg zc1, if_neg zc7]) rfl

def f_X5_has (ρ : Gr) (x1 : Int32) : Int32 :=
  if x1 < 0 then
    0
  else
    if (ρ 9 0) ≤ x1 then
      0
    else
      if 24 ≤ x1 then
        0
      else
        1
set_option maxRecDepth 100000 in
set_option maxHeartbeats 4000000 in
theorem c_X5_has {l : Launch} {G : GG} {σ : St} {g : Nat} {ρ : Gr} (hg : HG g)  (x1 : Int32) : MM l G yX5_has cX5_has 2 0 0 (some .boolean) [.ref (aa G g 9), .int x1] (setG σ g ρ) (Qi G (f_X5_has ρ x1) (setG σ g ρ)) := by
  refine MM.of (by decide) (Nat.le_of_ble_eq_true rfl) ?_
  intro p e s m below meth c ls X hr hlk w hl
  have hx := X.1.1
  have hb := X.1.2.1
  have hl : lv_has ls 2 [(0, .ref (aa G g 9)), (1, .int x1)] := hl
  refine lv_iload_n hx hb dX5_has_0 rfl (lv_at hl 1 rfl) ?_
  refine lv_if_lt (tgt := 22) hx hb dX5_has_1 (by decide) (fun zc1 => ?_) (fun zc1 => ?_)
  · -- 22
    refine lv_iconst (v := 0) hx hb dX5_has_22 (by decide) ?_
    exact t_z X w hr hlk isB0.n dX5_has_23 (by simp only [f_X5_has, if_pos zc1]) rfl
  · -- 4
    refine lv_iload_n hx hb dX5_has_4 rfl (lv_at hl 1 rfl) ?_
    refine lv_aload_n hx hb dX5_has_5 rfl (lv_at hl 0 rfl) ?_
    refine gf5_9 hg X w dX5_has_6 ?_
    refine lv_icmp_ge (tgt := 22) hx hb dX5_has_9 (by decide) (fun zc9 => ?_) (fun zc9 => ?_)
    · -- 22
      refine lv_iconst (v := 0) hx hb dX5_has_22 (by decide) ?_
      exact t_z X w hr hlk isB0.n dX5_has_23 (by simp only [f_X5_has, if_neg zc1, if_pos zc9]) rfl
    · -- 12
      refine lv_iload_n hx hb dX5_has_12 rfl (lv_at hl 1 rfl) ?_
      refine lv_bipush (v := 24) hx hb dX5_has_13 (by decide) ?_
      refine lv_icmp_ge (tgt := 22) hx hb dX5_has_15 (by decide) (fun zc15 => ?_) (fun zc15 => ?_)
      · -- 22
        refine lv_iconst (v := 0) hx hb dX5_has_22 (by decide) ?_
        exact t_z X w hr hlk isB0.n dX5_has_23 (by simp only [f_X5_has, if_neg zc1, if_neg zc9, if_pos zc15]) rfl
      · -- 18
        refine lv_iconst (v := 1) hx hb dX5_has_18 (by decide) ?_
        refine lv_goto (tgt := 23) hx hb dX5_has_19 (by decide) ?_
        exact t_z X w hr hlk isB1.n dX5_has_23 (by simp only [f_X5_has, if_neg zc1, if_neg zc9, if_neg zc15]) rfl

def f_X5_isFull (ρ : Gr)  : Int32 :=
  if (ρ 9 0) < 0 then
    1
  else
    if (ρ 9 0) < 24 then
      0
    else
      1
set_option maxRecDepth 100000 in
set_option maxHeartbeats 4000000 in
theorem c_X5_isFull {l : Launch} {G : GG} {σ : St} {g : Nat} {ρ : Gr} (hg : HG g)   : MM l G yX5_isFull cX5_isFull 1 0 0 (some .boolean) [.ref (aa G g 9)] (setG σ g ρ) (Qi G (f_X5_isFull ρ) (setG σ g ρ)) := by
  refine MM.of (by decide) (Nat.le_of_ble_eq_true rfl) ?_
  intro p e s m below meth c ls X hr hlk w hl
  have hx := X.1.1
  have hb := X.1.2.1
  have hl : lv_has ls 1 [(0, .ref (aa G g 9))] := hl
  refine lv_aload_n hx hb dX5_isFull_0 rfl (lv_at hl 0 rfl) ?_
  refine gf5_9 hg X w dX5_isFull_1 ?_
  refine lv_if_lt (tgt := 16) hx hb dX5_isFull_4 (by decide) (fun zc4 => ?_) (fun zc4 => ?_)
  · -- 16
    refine lv_iconst (v := 1) hx hb dX5_isFull_16 (by decide) ?_
    refine lv_goto (tgt := 21) hx hb dX5_isFull_17 (by decide) ?_
    exact t_z X w hr hlk isB1.n dX5_isFull_21 (by simp only [f_X5_isFull, if_pos zc4]) rfl
  · -- 7
    refine lv_aload_n hx hb dX5_isFull_7 rfl (lv_at hl 0 rfl) ?_
    refine gf5_9 hg X w dX5_isFull_8 ?_
    refine lv_bipush (v := 24) hx hb dX5_isFull_11 (by decide) ?_
    refine lv_icmp_lt (tgt := 20) hx hb dX5_isFull_13 (by decide) (fun zc13 => ?_) (fun zc13 => ?_)
    · -- 20
      refine lv_iconst (v := 0) hx hb dX5_isFull_20 (by decide) ?_
      exact t_z X w hr hlk isB0.n dX5_isFull_21 (by simp only [f_X5_isFull, if_neg zc4, if_pos zc13]) rfl
    · -- 16
      refine lv_iconst (v := 1) hx hb dX5_isFull_16 (by decide) ?_
      refine lv_goto (tgt := 21) hx hb dX5_isFull_17 (by decide) ?_
      exact t_z X w hr hlk isB1.n dX5_isFull_21 (by simp only [f_X5_isFull, if_neg zc4, if_neg zc13]) rfl

def f_X5_isShut (ρ : Gr) (x1 : Int32) : Int32 :=
  if (((ρ 9 6) >>> (x1 &&& 31)) &&& 1) = 1 then
    1
  else
    0
set_option maxRecDepth 100000 in
set_option maxHeartbeats 4000000 in
theorem c_X5_isShut {l : Launch} {G : GG} {σ : St} {g : Nat} {ρ : Gr} (hg : HG g)  (x1 : Int32) : MM l G yX5_isShut cX5_isShut 2 0 0 (some .boolean) [.ref (aa G g 9), .int x1] (setG σ g ρ) (Qi G (f_X5_isShut ρ x1) (setG σ g ρ)) := by
  refine MM.of (by decide) (Nat.le_of_ble_eq_true rfl) ?_
  intro p e s m below meth c ls X hr hlk w hl
  have hx := X.1.1
  have hb := X.1.2.1
  have hl : lv_has ls 2 [(0, .ref (aa G g 9)), (1, .int x1)] := hl
  refine lv_aload_n hx hb dX5_isShut_0 rfl (lv_at hl 0 rfl) ?_
  refine gf5_31 hg X w dX5_isShut_1 ?_
  refine lv_iload_n hx hb dX5_isShut_4 rfl (lv_at hl 1 rfl) ?_
  refine lv_ishr hx hb dX5_isShut_5 ?_
  refine lv_iconst (v := 1) hx hb dX5_isShut_6 (by decide) ?_
  refine lv_iand hx hb dX5_isShut_7 ?_
  refine lv_iconst (v := 1) hx hb dX5_isShut_8 (by decide) ?_
  refine lv_icmp_ne (tgt := 16) hx hb dX5_isShut_9 (by decide) (fun zc9 => ?_) (fun zc9 => ?_)
  · -- 16
    refine lv_iconst (v := 0) hx hb dX5_isShut_16 (by decide) ?_
    exact t_z X w hr hlk isB0.n dX5_isShut_17 (by simp only [f_X5_isShut, if_neg zc9]) rfl
  · -- 12
    refine lv_iconst (v := 1) hx hb dX5_isShut_12 (by decide) ?_
    refine lv_goto (tgt := 17) hx hb dX5_isShut_13 (by decide) ?_
    exact t_z X w hr hlk isB1.n dX5_isShut_17 (by simp only [f_X5_isShut, if_pos zc9]) rfl

def g_X5_turn (ρ : Gr) (x1 : Int32) : Gr :=
  let zs9 : Gr := up ρ 9 6 ((ρ 9 6) ^^^ (1 <<< (x1 &&& 31)))
  zs9
set_option maxRecDepth 100000 in
set_option maxHeartbeats 4000000 in
theorem c_X5_turn {l : Launch} {G : GG} {σ : St} {g : Nat} {ρ : Gr} (hg : HG g)  (x1 : Int32) : MM l G yX5_turn cX5_turn 2 0 0 none [.ref (aa G g 9), .int x1] (setG σ g ρ) (Qv G (setG σ g (g_X5_turn ρ x1))) := by
  refine MM.of (by decide) (Nat.le_of_ble_eq_true rfl) ?_
  intro p e s m below meth c ls X hr hlk w hl
  have hx := X.1.1
  have hb := X.1.2.1
  have hl : lv_has ls 2 [(0, .ref (aa G g 9)), (1, .int x1)] := hl
  refine lv_aload_n hx hb dX5_turn_0 rfl (lv_at hl 0 rfl) ?_
  refine lv_dup hx hb dX5_turn_1 rfl ?_
  refine gf5_31 hg X w dX5_turn_2 ?_
  refine lv_iconst (v := 1) hx hb dX5_turn_5 (by decide) ?_
  refine lv_iload_n hx hb dX5_turn_6 rfl (lv_at hl 1 rfl) ?_
  refine lv_ishl hx hb dX5_turn_7 ?_
  refine lv_ixor hx hb dX5_turn_8 ?_
  refine pf5_31 hg X w dX5_turn_9 (fun zs9 H locs ezs9 w => ?_)
  exact t_v X w hr hlk dX5_turn_12 (by subst ezs9; simp only [g_X5_turn])

def f_X4_has (ρ : Gr) (x1 : Int32) : Int32 :=
  if x1 < 0 then
    0
  else
    if (ρ 15 0) ≤ x1 then
      0
    else
      if 8 ≤ x1 then
        0
      else
        1
set_option maxRecDepth 100000 in
set_option maxHeartbeats 4000000 in
theorem c_X4_has {l : Launch} {G : GG} {σ : St} {g : Nat} {ρ : Gr} (hg : HG g)  (x1 : Int32) : MM l G yX4_has cX4_has 2 0 0 (some .boolean) [.ref (aa G g 15), .int x1] (setG σ g ρ) (Qi G (f_X4_has ρ x1) (setG σ g ρ)) := by
  refine MM.of (by decide) (Nat.le_of_ble_eq_true rfl) ?_
  intro p e s m below meth c ls X hr hlk w hl
  have hx := X.1.1
  have hb := X.1.2.1
  have hl : lv_has ls 2 [(0, .ref (aa G g 15)), (1, .int x1)] := hl
  refine lv_iload_n hx hb dX4_has_0 rfl (lv_at hl 1 rfl) ?_
  refine lv_if_lt (tgt := 22) hx hb dX4_has_1 (by decide) (fun zc1 => ?_) (fun zc1 => ?_)
  · -- 22
    refine lv_iconst (v := 0) hx hb dX4_has_22 (by decide) ?_
    exact t_z X w hr hlk isB0.n dX4_has_23 (by simp only [f_X4_has, if_pos zc1]) rfl
  · -- 4
    refine lv_iload_n hx hb dX4_has_4 rfl (lv_at hl 1 rfl) ?_
    refine lv_aload_n hx hb dX4_has_5 rfl (lv_at hl 0 rfl) ?_
    refine gf4_9 hg X w dX4_has_6 ?_
    refine lv_icmp_ge (tgt := 22) hx hb dX4_has_9 (by decide) (fun zc9 => ?_) (fun zc9 => ?_)
    · -- 22
      refine lv_iconst (v := 0) hx hb dX4_has_22 (by decide) ?_
      exact t_z X w hr hlk isB0.n dX4_has_23 (by simp only [f_X4_has, if_neg zc1, if_pos zc9]) rfl
    · -- 12
      refine lv_iload_n hx hb dX4_has_12 rfl (lv_at hl 1 rfl) ?_
      refine lv_bipush (v := 8) hx hb dX4_has_13 (by decide) ?_
      refine lv_icmp_ge (tgt := 22) hx hb dX4_has_15 (by decide) (fun zc15 => ?_) (fun zc15 => ?_)
      · -- 22
        refine lv_iconst (v := 0) hx hb dX4_has_22 (by decide) ?_
        exact t_z X w hr hlk isB0.n dX4_has_23 (by simp only [f_X4_has, if_neg zc1, if_neg zc9, if_pos zc15]) rfl
      · -- 18
        refine lv_iconst (v := 1) hx hb dX4_has_18 (by decide) ?_
        refine lv_goto (tgt := 23) hx hb dX4_has_19 (by decide) ?_
        exact t_z X w hr hlk isB1.n dX4_has_23 (by simp only [f_X4_has, if_neg zc1, if_neg zc9, if_neg zc15]) rfl

def f_X4_isFull (ρ : Gr)  : Int32 :=
  if (ρ 15 0) < 0 then
    1
  else
    if (ρ 15 0) < 8 then
      0
    else
      1
set_option maxRecDepth 100000 in
set_option maxHeartbeats 4000000 in
theorem c_X4_isFull {l : Launch} {G : GG} {σ : St} {g : Nat} {ρ : Gr} (hg : HG g)   : MM l G yX4_isFull cX4_isFull 1 0 0 (some .boolean) [.ref (aa G g 15)] (setG σ g ρ) (Qi G (f_X4_isFull ρ) (setG σ g ρ)) := by
  refine MM.of (by decide) (Nat.le_of_ble_eq_true rfl) ?_
  intro p e s m below meth c ls X hr hlk w hl
  have hx := X.1.1
  have hb := X.1.2.1
  have hl : lv_has ls 1 [(0, .ref (aa G g 15))] := hl
  refine lv_aload_n hx hb dX4_isFull_0 rfl (lv_at hl 0 rfl) ?_
  refine gf4_9 hg X w dX4_isFull_1 ?_
  refine lv_if_lt (tgt := 16) hx hb dX4_isFull_4 (by decide) (fun zc4 => ?_) (fun zc4 => ?_)
  · -- 16
    refine lv_iconst (v := 1) hx hb dX4_isFull_16 (by decide) ?_
    refine lv_goto (tgt := 21) hx hb dX4_isFull_17 (by decide) ?_
    exact t_z X w hr hlk isB1.n dX4_isFull_21 (by simp only [f_X4_isFull, if_pos zc4]) rfl
  · -- 7
    refine lv_aload_n hx hb dX4_isFull_7 rfl (lv_at hl 0 rfl) ?_
    refine gf4_9 hg X w dX4_isFull_8 ?_
    refine lv_bipush (v := 8) hx hb dX4_isFull_11 (by decide) ?_
    refine lv_icmp_lt (tgt := 20) hx hb dX4_isFull_13 (by decide) (fun zc13 => ?_) (fun zc13 => ?_)
    · -- 20
      refine lv_iconst (v := 0) hx hb dX4_isFull_20 (by decide) ?_
      exact t_z X w hr hlk isB0.n dX4_isFull_21 (by simp only [f_X4_isFull, if_neg zc4, if_pos zc13]) rfl
    · -- 16
      refine lv_iconst (v := 1) hx hb dX4_isFull_16 (by decide) ?_
      refine lv_goto (tgt := 21) hx hb dX4_isFull_17 (by decide) ?_
      exact t_z X w hr hlk isB1.n dX4_isFull_21 (by simp only [f_X4_isFull, if_neg zc4, if_neg zc13]) rfl

def f_X2_greatest (x0 : Int32) : Int32 :=
  if x0 = 0 then
    999
  else
    if x0 = 2 then
      4
    else
      99
set_option maxRecDepth 100000 in
set_option maxHeartbeats 4000000 in
theorem c_X2_greatest {l : Launch} {G : GG} {σ : St}  (x0 : Int32) : MM l G yX2_greatest cX2_greatest 1 0 0 (some .int) [.int x0] σ (Qi G (f_X2_greatest x0) σ) := by
  refine MM.of (by decide) (Nat.le_of_ble_eq_true rfl) ?_
  intro p e s m below meth c ls X hr hlk w hl
  have hx := X.1.1
  have hb := X.1.2.1
  have hl : lv_has ls 1 [(0, .int x0)] := hl
  refine lv_iload_n hx hb dX2_greatest_0 rfl (lv_at hl 0 rfl) ?_
  by_cases zc1_0 : x0 = 0
  · -- case 0
    refine lv_lookup (off := 27) (tgt := 28) hx hb dX2_greatest_1 (by decide) (by rw [zc1_0]; rfl) (by decide) ?_
    refine lv_sipush (v := 999) hx hb dX2_greatest_28 (by decide) ?_
    exact t_i X w hr hlk dX2_greatest_31 (by simp only [f_X2_greatest, if_pos zc1_0]) rfl
  · -- not 0
    by_cases zc1_2 : x0 = 2
    · -- case 2
      refine lv_lookup (off := 31) (tgt := 32) hx hb dX2_greatest_1 (by decide) (by rw [zc1_2]; rfl) (by decide) ?_
      refine lv_iconst (v := 4) hx hb dX2_greatest_32 (by decide) ?_
      exact t_i X w hr hlk dX2_greatest_33 (by simp only [f_X2_greatest, if_neg zc1_0, if_pos zc1_2]) rfl
    · -- not 2
      refine lv_lookup (off := 33) (tgt := 34) hx hb dX2_greatest_1 (by decide) (by rw [lv_osw zc1_0 (by decide)]; rw [lv_osw zc1_2 (by decide)]; rfl) (by decide) ?_
      refine lv_bipush (v := 99) hx hb dX2_greatest_34 (by decide) ?_
      exact t_i X w hr hlk dX2_greatest_36 (by simp only [f_X2_greatest, if_neg zc1_0, if_neg zc1_2]) rfl

def f_X2_change (ρ : Gr) (x1 : Int32) (x2 : Int32) : Int32 :=
  if x1 = 0 then
    let zv36 : Int32 := ρ 19 0
    let zs39 : Gr := up ρ 19 0 x2
    zv36
  else
    if x1 = 1 then
      let zv48 : Int32 := ρ 19 1
      let zs51 : Gr := up ρ 19 1 x2
      zv48
    else
      if x1 = 2 then
        let zv60 : Int32 := ρ 19 2
        let zs63 : Gr := up ρ 19 2 x2
        zv60
      else
        if x1 = 3 then
          let zv72 : Int32 := ρ 19 3
          let zs75 : Gr := up ρ 19 3 x2
          zv72
        else
          let zv84 : Int32 := ρ 19 4
          let zs87 : Gr := up ρ 19 4 x2
          zv84
def g_X2_change (ρ : Gr) (x1 : Int32) (x2 : Int32) : Gr :=
  if x1 = 0 then
    let zv36 : Int32 := ρ 19 0
    let zs39 : Gr := up ρ 19 0 x2
    zs39
  else
    if x1 = 1 then
      let zv48 : Int32 := ρ 19 1
      let zs51 : Gr := up ρ 19 1 x2
      zs51
    else
      if x1 = 2 then
        let zv60 : Int32 := ρ 19 2
        let zs63 : Gr := up ρ 19 2 x2
        zs63
      else
        if x1 = 3 then
          let zv72 : Int32 := ρ 19 3
          let zs75 : Gr := up ρ 19 3 x2
          zs75
        else
          let zv84 : Int32 := ρ 19 4
          let zs87 : Gr := up ρ 19 4 x2
          zs87
set_option maxRecDepth 100000 in
set_option maxHeartbeats 4000000 in
theorem c_X2_change {l : Launch} {G : GG} {σ : St} {g : Nat} {ρ : Gr} (hg : HG g)  (x1 : Int32) (x2 : Int32) : MM l G yX2_change cX2_change 4 0 0 (some .int) [.ref (aa G g 19), .int x1, .int x2] (setG σ g ρ) (Qi G (f_X2_change ρ x1 x2) (setG σ g (g_X2_change ρ x1 x2))) := by
  refine MM.of (by decide) (Nat.le_of_ble_eq_true rfl) ?_
  intro p e s m below meth c ls X hr hlk w hl
  have hx := X.1.1
  have hb := X.1.2.1
  have hl : lv_has ls 4 [(0, .ref (aa G g 19)), (1, .int x1), (2, .int x2)] := hl
  refine lv_iload_n hx hb dX2_change_0 rfl (lv_at hl 1 rfl) ?_
  by_cases zc1_0 : x1 = 0
  · -- case 0
    refine lv_tableIn (off := 31) (tgt := 32) hx hb dX2_change_1 (by rw [zc1_0]; decide) (by rw [zc1_0]; decide) (by rw [zc1_0]; rfl) (by decide) ?_
    refine lv_aload_n hx hb dX2_change_32 rfl (lv_at hl 0 rfl) ?_
    refine gf2_9 hg X w dX2_change_33 ?_
    refine lv_topi (fun zv36 ezv36 => ?_)
    refine lv_istore_n (lv' := [(3, .int zv36), (0, .ref (aa G g 19)), (1, .int x1), (2, .int x2)]) hx hb dX2_change_36 rfl hl (by decide) rfl (fun ls hl => ?_)
    refine lv_aload_n hx hb dX2_change_37 rfl (lv_at hl 1 rfl) ?_
    refine lv_iload_n hx hb dX2_change_38 rfl (lv_at hl 3 rfl) ?_
    refine pf2_9 hg X w dX2_change_39 (fun zs39 H locs ezs39 w => ?_)
    refine lv_iload_n hx hb dX2_change_42 rfl (lv_at hl 0 rfl) ?_
    exact t_i X w hr hlk dX2_change_43 (by subst ezs39 ezv36; simp only [f_X2_change, if_pos zc1_0]) (by subst ezs39 ezv36; simp only [g_X2_change, if_pos zc1_0])
  · -- not 0
    by_cases zc1_1 : x1 = 1
    · -- case 1
      refine lv_tableIn (off := 43) (tgt := 44) hx hb dX2_change_1 (by rw [zc1_1]; decide) (by rw [zc1_1]; decide) (by rw [zc1_1]; rfl) (by decide) ?_
      refine lv_aload_n hx hb dX2_change_44 rfl (lv_at hl 0 rfl) ?_
      refine gf2_15 hg X w dX2_change_45 ?_
      refine lv_topi (fun zv48 ezv48 => ?_)
      refine lv_istore_n (lv' := [(3, .int zv48), (0, .ref (aa G g 19)), (1, .int x1), (2, .int x2)]) hx hb dX2_change_48 rfl hl (by decide) rfl (fun ls hl => ?_)
      refine lv_aload_n hx hb dX2_change_49 rfl (lv_at hl 1 rfl) ?_
      refine lv_iload_n hx hb dX2_change_50 rfl (lv_at hl 3 rfl) ?_
      refine pf2_15 hg X w dX2_change_51 (fun zs51 H locs ezs51 w => ?_)
      refine lv_iload_n hx hb dX2_change_54 rfl (lv_at hl 0 rfl) ?_
      exact t_i X w hr hlk dX2_change_55 (by subst ezs51 ezv48; simp only [f_X2_change, if_neg zc1_0, if_pos zc1_1]) (by subst ezs51 ezv48; simp only [g_X2_change, if_neg zc1_0, if_pos zc1_1])
    · -- not 1
      by_cases zc1_2 : x1 = 2
      · -- case 2
        refine lv_tableIn (off := 55) (tgt := 56) hx hb dX2_change_1 (by rw [zc1_2]; decide) (by rw [zc1_2]; decide) (by rw [zc1_2]; rfl) (by decide) ?_
        refine lv_aload_n hx hb dX2_change_56 rfl (lv_at hl 0 rfl) ?_
        refine gf2_18 hg X w dX2_change_57 ?_
        refine lv_topi (fun zv60 ezv60 => ?_)
        refine lv_istore_n (lv' := [(3, .int zv60), (0, .ref (aa G g 19)), (1, .int x1), (2, .int x2)]) hx hb dX2_change_60 rfl hl (by decide) rfl (fun ls hl => ?_)
        refine lv_aload_n hx hb dX2_change_61 rfl (lv_at hl 1 rfl) ?_
        refine lv_iload_n hx hb dX2_change_62 rfl (lv_at hl 3 rfl) ?_
        refine pf2_18 hg X w dX2_change_63 (fun zs63 H locs ezs63 w => ?_)
        refine lv_iload_n hx hb dX2_change_66 rfl (lv_at hl 0 rfl) ?_
        exact t_i X w hr hlk dX2_change_67 (by subst ezs63 ezv60; simp only [f_X2_change, if_neg zc1_0, if_neg zc1_1, if_pos zc1_2]) (by subst ezs63 ezv60; simp only [g_X2_change, if_neg zc1_0, if_neg zc1_1, if_pos zc1_2])
      · -- not 2
        by_cases zc1_3 : x1 = 3
        · -- case 3
          refine lv_tableIn (off := 67) (tgt := 68) hx hb dX2_change_1 (by rw [zc1_3]; decide) (by rw [zc1_3]; decide) (by rw [zc1_3]; rfl) (by decide) ?_
          refine lv_aload_n hx hb dX2_change_68 rfl (lv_at hl 0 rfl) ?_
          refine gf2_21 hg X w dX2_change_69 ?_
          refine lv_topi (fun zv72 ezv72 => ?_)
          refine lv_istore_n (lv' := [(3, .int zv72), (0, .ref (aa G g 19)), (1, .int x1), (2, .int x2)]) hx hb dX2_change_72 rfl hl (by decide) rfl (fun ls hl => ?_)
          refine lv_aload_n hx hb dX2_change_73 rfl (lv_at hl 1 rfl) ?_
          refine lv_iload_n hx hb dX2_change_74 rfl (lv_at hl 3 rfl) ?_
          refine pf2_21 hg X w dX2_change_75 (fun zs75 H locs ezs75 w => ?_)
          refine lv_iload_n hx hb dX2_change_78 rfl (lv_at hl 0 rfl) ?_
          exact t_i X w hr hlk dX2_change_79 (by subst ezs75 ezv72; simp only [f_X2_change, if_neg zc1_0, if_neg zc1_1, if_neg zc1_2, if_pos zc1_3]) (by subst ezs75 ezv72; simp only [g_X2_change, if_neg zc1_0, if_neg zc1_1, if_neg zc1_2, if_pos zc1_3])
        · -- not 3
          refine lv_tableOut (tgt := 80) hx hb dX2_change_1 (by have hzc1_0 := lv_neT zc1_0 (a := 0) (by decide); have hzc1_1 := lv_neT zc1_1 (a := 1) (by decide); have hzc1_2 := lv_neT zc1_2 (a := 2) (by decide); have hzc1_3 := lv_neT zc1_3 (a := 3) (by decide); omega) (by decide) ?_
          refine lv_aload_n hx hb dX2_change_80 rfl (lv_at hl 0 rfl) ?_
          refine gf2_24 hg X w dX2_change_81 ?_
          refine lv_topi (fun zv84 ezv84 => ?_)
          refine lv_istore_n (lv' := [(3, .int zv84), (0, .ref (aa G g 19)), (1, .int x1), (2, .int x2)]) hx hb dX2_change_84 rfl hl (by decide) rfl (fun ls hl => ?_)
          refine lv_aload_n hx hb dX2_change_85 rfl (lv_at hl 1 rfl) ?_
          refine lv_iload_n hx hb dX2_change_86 rfl (lv_at hl 3 rfl) ?_
          refine pf2_24 hg X w dX2_change_87 (fun zs87 H locs ezs87 w => ?_)
          refine lv_iload_n hx hb dX2_change_90 rfl (lv_at hl 0 rfl) ?_
          exact t_i X w hr hlk dX2_change_91 (by subst ezs87 ezv84; simp only [f_X2_change, if_neg zc1_0, if_neg zc1_1, if_neg zc1_2, if_neg zc1_3]) (by subst ezs87 ezv84; simp only [g_X2_change, if_neg zc1_0, if_neg zc1_1, if_neg zc1_2, if_neg zc1_3])

def g_X3_changeMoon (ρ : Gr) (x1 : Int32) (x2 : Int32) : Gr :=
  let zs2 : Gr := up ρ 0 4 x1
  let zs7 : Gr := up zs2 0 5 x2
  zs7
set_option maxRecDepth 100000 in
set_option maxHeartbeats 4000000 in
theorem c_X3_changeMoon {l : Launch} {G : GG} {σ : St} {g : Nat} {ρ : Gr} (hg : HG g)  (x1 : Int32) (x2 : Int32) : MM l G yX3_changeMoon cX3_changeMoon 3 0 0 none [.ref (aa G g 0), .int x1, .int x2] (setG σ g ρ) (Qv G (setG σ g (g_X3_changeMoon ρ x1 x2))) := by
  refine MM.of (by decide) (Nat.le_of_ble_eq_true rfl) ?_
  intro p e s m below meth c ls X hr hlk w hl
  have hx := X.1.1
  have hb := X.1.2.1
  have hl : lv_has ls 3 [(0, .ref (aa G g 0)), (1, .int x1), (2, .int x2)] := hl
  refine lv_aload_n hx hb dX3_changeMoon_0 rfl (lv_at hl 0 rfl) ?_
  refine lv_iload_n hx hb dX3_changeMoon_1 rfl (lv_at hl 1 rfl) ?_
  refine pf3_39 hg X w dX3_changeMoon_2 (fun zs2 H locs ezs2 w => ?_)
  refine lv_aload_n hx hb dX3_changeMoon_5 rfl (lv_at hl 0 rfl) ?_
  refine lv_iload_n hx hb dX3_changeMoon_6 rfl (lv_at hl 2 rfl) ?_
  refine pf3_43 hg X w dX3_changeMoon_7 (fun zs7 H locs ezs7 w => ?_)
  exact t_v X w hr hlk dX3_changeMoon_10 (by subst ezs7 ezs2; simp only [g_X3_changeMoon])

def f_X0_depthOf (ρ : Gr) (x1 : Int32) : Int32 :=
  if x1 < 0 then
    0
  else
    if x1 < 8 then
      f_X6_depthAbove (f_X0_settledIn ρ x1) (ρ 2 x1.toNatClampNeg)
    else
      0
set_option maxRecDepth 100000 in
set_option maxHeartbeats 4000000 in
theorem c_X0_depthOf {l : Launch} {G : GG} {σ : St} {g : Nat} {ρ : Gr} (hg : HG g)  (x1 : Int32) : MM l G yX0_depthOf cX0_depthOf 2 2 34 (some .int) [.ref (aa G g 1), .int x1] (setG σ g ρ) (Qi G (f_X0_depthOf ρ x1) (setG σ g ρ)) := by
  refine MM.of (by decide) (Nat.le_of_ble_eq_true rfl) ?_
  intro p e s m below meth c ls X hr hlk w hl
  have hx := X.1.1
  have hb := X.1.2.1
  have hl : lv_has ls 2 [(0, .ref (aa G g 1)), (1, .int x1)] := hl
  refine lv_iload_n hx hb dX0_depthOf_0 rfl (lv_at hl 1 rfl) ?_
  refine lv_if_lt (tgt := 10) hx hb dX0_depthOf_1 (by decide) (fun zc1 => ?_) (fun zc1 => ?_)
  · -- 10
    refine lv_iconst (v := 0) hx hb dX0_depthOf_10 (by decide) ?_
    exact t_i X w hr hlk dX0_depthOf_11 (by simp only [f_X0_depthOf, if_pos zc1]) rfl
  · -- 4
    refine lv_iload_n hx hb dX0_depthOf_4 rfl (lv_at hl 1 rfl) ?_
    refine lv_bipush (v := 8) hx hb dX0_depthOf_5 (by decide) ?_
    refine lv_icmp_lt (tgt := 12) hx hb dX0_depthOf_7 (by decide) (fun zc7 => ?_) (fun zc7 => ?_)
    · -- 12
      refine lv_aload_n hx hb dX0_depthOf_12 rfl (lv_at hl 0 rfl) ?_
      refine lv_iload_n hx hb dX0_depthOf_13 rfl (lv_at hl 1 rfl) ?_
      refine k_i (rr_v (rest := []) X w mX0_settledIn kw476 (c_X0_settledIn hg x1) (hg.in (by decide)) hg.sh rfl ⟨Nat.le_of_ble_eq_true rfl, Nat.le_of_ble_eq_true rfl⟩ rfl hl.1 rfl (Nat.le_of_ble_eq_true rfl) dX0_depthOf_14 ⟨Nat.zero_le _, Nat.zero_le _⟩) w (fun H locs w => ?_)
      refine lv_aload_n hx hb dX0_depthOf_17 rfl (lv_at hl 0 rfl) ?_
      refine gf0_15 hg X w dX0_depthOf_18 ?_
      refine lv_iload_n hx hb dX0_depthOf_21 rfl (lv_at hl 1 rfl) ?_
      refine ia (f := 2) (n := 8) X w (hg.in (by decide)) hg.sh (vin_l zc1 zc7 (by decide)) dX0_depthOf_22 ?_
      refine k_i (rr_n (rest := []) X w mX6_depthAbove nw8 (c_X6_depthAbove (f_X0_settledIn ρ x1) (ρ 2 x1.toNatClampNeg)) ⟨Nat.le_of_ble_eq_true rfl, Nat.le_of_ble_eq_true rfl⟩ rfl hl.1 rfl (Nat.le_of_ble_eq_true rfl) dX0_depthOf_23 ⟨Nat.zero_le _, Nat.zero_le _⟩) w (fun H locs w => ?_)
      exact t_i X w hr hlk dX0_depthOf_26 (by simp only [f_X0_depthOf, if_neg zc1, if_pos zc7]) rfl
    · -- 10
      refine lv_iconst (v := 0) hx hb dX0_depthOf_10 (by decide) ?_
      exact t_i X w hr hlk dX0_depthOf_11 (by simp only [f_X0_depthOf, if_neg zc1, if_neg zc7]) rfl

def f_X0_lackOf (ρ : Gr) (x1 : Int32) : Int32 :=
  if x1 < 0 then
    0
  else
    if x1 < 8 then
      (ρ 3 x1.toNatClampNeg) - (f_X6_depthAbove (f_X0_settledIn ρ x1) (ρ 2 x1.toNatClampNeg))
    else
      0
set_option maxRecDepth 100000 in
set_option maxHeartbeats 4000000 in
theorem c_X0_lackOf {l : Launch} {G : GG} {σ : St} {g : Nat} {ρ : Gr} (hg : HG g)  (x1 : Int32) : MM l G yX0_lackOf cX0_lackOf 2 2 34 (some .int) [.ref (aa G g 1), .int x1] (setG σ g ρ) (Qi G (f_X0_lackOf ρ x1) (setG σ g ρ)) := by
  refine MM.of (by decide) (Nat.le_of_ble_eq_true rfl) ?_
  intro p e s m below meth c ls X hr hlk w hl
  have hx := X.1.1
  have hb := X.1.2.1
  have hl : lv_has ls 2 [(0, .ref (aa G g 1)), (1, .int x1)] := hl
  refine lv_iload_n hx hb dX0_lackOf_0 rfl (lv_at hl 1 rfl) ?_
  refine lv_if_lt (tgt := 10) hx hb dX0_lackOf_1 (by decide) (fun zc1 => ?_) (fun zc1 => ?_)
  · -- 10
    refine lv_iconst (v := 0) hx hb dX0_lackOf_10 (by decide) ?_
    exact t_i X w hr hlk dX0_lackOf_11 (by simp only [f_X0_lackOf, if_pos zc1]) rfl
  · -- 4
    refine lv_iload_n hx hb dX0_lackOf_4 rfl (lv_at hl 1 rfl) ?_
    refine lv_bipush (v := 8) hx hb dX0_lackOf_5 (by decide) ?_
    refine lv_icmp_lt (tgt := 12) hx hb dX0_lackOf_7 (by decide) (fun zc7 => ?_) (fun zc7 => ?_)
    · -- 12
      refine lv_aload_n hx hb dX0_lackOf_12 rfl (lv_at hl 0 rfl) ?_
      refine gf0_19 hg X w dX0_lackOf_13 ?_
      refine lv_iload_n hx hb dX0_lackOf_16 rfl (lv_at hl 1 rfl) ?_
      refine ia (f := 3) (n := 8) X w (hg.in (by decide)) hg.sh (vin_l zc1 zc7 (by decide)) dX0_lackOf_17 ?_
      refine lv_aload_n hx hb dX0_lackOf_18 rfl (lv_at hl 0 rfl) ?_
      refine lv_iload_n hx hb dX0_lackOf_19 rfl (lv_at hl 1 rfl) ?_
      refine k_i (rr_v (rest := [.int (ρ 3 x1.toNatClampNeg)]) X w mX0_settledIn kw476 (c_X0_settledIn hg x1) (hg.in (by decide)) hg.sh rfl ⟨Nat.le_of_ble_eq_true rfl, Nat.le_of_ble_eq_true rfl⟩ rfl hl.1 rfl (Nat.le_of_ble_eq_true rfl) dX0_lackOf_20 ⟨Nat.zero_le _, Nat.zero_le _⟩) w (fun H locs w => ?_)
      refine lv_aload_n hx hb dX0_lackOf_23 rfl (lv_at hl 0 rfl) ?_
      refine gf0_15 hg X w dX0_lackOf_24 ?_
      refine lv_iload_n hx hb dX0_lackOf_27 rfl (lv_at hl 1 rfl) ?_
      refine ia (f := 2) (n := 8) X w (hg.in (by decide)) hg.sh (vin_l zc1 zc7 (by decide)) dX0_lackOf_28 ?_
      refine k_i (rr_n (rest := [.int (ρ 3 x1.toNatClampNeg)]) X w mX6_depthAbove nw8 (c_X6_depthAbove (f_X0_settledIn ρ x1) (ρ 2 x1.toNatClampNeg)) ⟨Nat.le_of_ble_eq_true rfl, Nat.le_of_ble_eq_true rfl⟩ rfl hl.1 rfl (Nat.le_of_ble_eq_true rfl) dX0_lackOf_29 ⟨Nat.zero_le _, Nat.zero_le _⟩) w (fun H locs w => ?_)
      refine lv_isub hx hb dX0_lackOf_32 ?_
      exact t_i X w hr hlk dX0_lackOf_33 (by simp only [f_X0_lackOf, if_neg zc1, if_pos zc7]) rfl
    · -- 10
      refine lv_iconst (v := 0) hx hb dX0_lackOf_10 (by decide) ?_
      exact t_i X w hr hlk dX0_lackOf_11 (by simp only [f_X0_lackOf, if_neg zc1, if_neg zc7]) rfl

def b_X0_feetLacked_4 (ρ : Gr)  (k : Nat) (v : Int32) : Int32 :=
  let zv23 : Int32 := v + (if 0 < (f_X0_lackOf ρ (nI k)) then (f_X0_lackOf ρ (nI k)) else 0)
  zv23
def l_X0_feetLacked_4 (ρ : Gr)  (v0 : Int32) : Int32 := itn (b_X0_feetLacked_4 ρ) (ρ 1 0).toNatClampNeg v0
def f_X0_feetLacked (ρ : Gr)  : Int32 :=
  let zl4 : Int32 := (l_X0_feetLacked_4 ρ 0)
  zl4
set_option maxRecDepth 100000 in
set_option maxHeartbeats 4000000 in
theorem lp_X0_feetLacked_4 {l : Launch} {G : GG} {p : Program} {e : Env} {s : State} {m : MethodId} {args : Array Value} {below : List Frame} {meth : Method} {c : Code} {Q : State → Prop} {σ : St} {g : Nat} (hg : HG g) {ρ : Gr} (X : Cx p m c cX0_feetLacked 3 s args RX0 G)  (v0 : Int32) 
    (kk : ∀ (H : Heap) (locs : List Loc) (ls : Array Slot), Wh G s σ g ρ H locs → lv_has ls 3 [(0, .ref (aa G g 1)), (1, .int (l_X0_feetLacked_4 ρ v0)), (2, .int (nI ((ρ 1 0).toNatClampNeg)))] → W p l e (rmv 3 55) s m args below meth c H locs 0 0 Q (F0 m 30 ls [])) :
    ∀ (n k : Nat) (v : Int32), k ≤ (ρ 1 0).toNatClampNeg → (ρ 1 0).toNatClampNeg - k < n → v = itn (b_X0_feetLacked_4 ρ) k v0 → ∀ (H : Heap) (locs : List Loc) (ls : Array Slot), Wh G s σ g ρ H locs → lv_has ls 3 [(0, .ref (aa G g 1)), (1, .int v), (2, .int (nI k))] → W p l e (rmv 3 55) s m args below meth c H locs 0 0 Q (F0 m 4 ls []) := by
  have hx := X.1.1
  have hb := X.1.2.1
  intro n
  induction n with
  | zero => intro k v _ h; omega
  | succ n ih =>
    intro k v hkN hn ev H locs ls w hl
    refine lv_iload_n hx hb dX0_feetLacked_4 rfl (lv_at hl 2 rfl) ?_
    refine lv_aload_n hx hb dX0_feetLacked_5 rfl (lv_at hl 0 rfl) ?_
    refine gf0_9 hg X w dX0_feetLacked_6 ?_
    refine lv_icmp_ge (tgt := 30) hx hb dX0_feetLacked_9 (by decide) (fun zc9 => ?_) (fun zc9 => ?_)
    · -- 30
      obtain rfl : k = (ρ 1 0).toNatClampNeg := lp_eq hkN zc9
      subst ev
      exact kk _ _ _ w (lv_sub hl [0, 1, 2] rfl)
    · -- 12
      have hk : k < (ρ 1 0).toNatClampNeg := lp_lt hkN zc9
      refine lv_iload_n hx hb dX0_feetLacked_12 rfl (lv_at hl 1 rfl) ?_
      refine lv_iconst (v := 0) hx hb dX0_feetLacked_13 (by decide) ?_
      refine lv_aload_n hx hb dX0_feetLacked_14 rfl (lv_at hl 0 rfl) ?_
      refine lv_iload_n hx hb dX0_feetLacked_15 rfl (lv_at hl 2 rfl) ?_
      refine k_i (rr_v (rest := [.int 0, .int v]) X w mX0_lackOf kw519 (c_X0_lackOf hg (nI k)) (hg.in (by decide)) hg.sh rfl ⟨Nat.le_of_ble_eq_true rfl, Nat.le_of_ble_eq_true rfl⟩ rfl hl.1 rfl (Nat.le_of_ble_eq_true rfl) dX0_feetLacked_16 ⟨Nat.zero_le _, Nat.zero_le _⟩) w (fun H locs w => ?_)
      refine mmax X hl.1 kw600 (Nat.le_of_ble_eq_true rfl) (Nat.le_of_ble_eq_true rfl) (Nat.zero_le _) (Nat.zero_le _) dX0_feetLacked_19 ?_
      refine lv_iadd hx hb dX0_feetLacked_22 ?_
      refine lv_topi (fun zv23 ezv23 => ?_)
      refine lv_istore_n (lv' := [(1, .int zv23), (0, .ref (aa G g 1)), (2, .int (nI k))]) hx hb dX0_feetLacked_23 rfl hl (by decide) rfl (fun ls hl => ?_)
      refine lv_iinc (v := nI (k + 1)) (lv' := [(2, .int (nI (k + 1))), (1, .int zv23), (0, .ref (aa G g 1))]) hx hb dX0_feetLacked_24 hl (k := 2) rfl (nI_1 _) (by decide) rfl (fun ls hl => ?_)
      refine lv_goto (tgt := 4) hx hb dX0_feetLacked_27 (by decide) ?_
      exact ih (k + 1) zv23 (by omega) (by omega) (by subst ezv23; simp only [itn, ← ev, b_X0_feetLacked_4])  _ _ _ w (lv_sub hl [2, 1, 0] rfl)
set_option maxRecDepth 100000 in
set_option maxHeartbeats 4000000 in
theorem c_X0_feetLacked {l : Launch} {G : GG} {σ : St} {g : Nat} {ρ : Gr} (hg : HG g)   : MM l G yX0_feetLacked cX0_feetLacked 3 3 55 (some .int) [.ref (aa G g 1)] (setG σ g ρ) (Qi G (f_X0_feetLacked ρ) (setG σ g ρ)) := by
  refine MM.of (by decide) (Nat.le_of_ble_eq_true rfl) ?_
  intro p e s m below meth c ls X hr hlk w hl
  have hx := X.1.1
  have hb := X.1.2.1
  have hl : lv_has ls 3 [(0, .ref (aa G g 1))] := hl
  refine lv_iconst (v := 0) hx hb dX0_feetLacked_0 (by decide) ?_
  refine lv_istore_n (lv' := [(1, .int 0), (0, .ref (aa G g 1))]) hx hb dX0_feetLacked_1 rfl hl (by decide) rfl (fun ls hl => ?_)
  refine lv_iconst (v := 0) hx hb dX0_feetLacked_2 (by decide) ?_
  refine lv_istore_n (lv' := [(2, .int 0), (1, .int 0), (0, .ref (aa G g 1))]) hx hb dX0_feetLacked_3 rfl hl (by decide) rfl (fun ls hl => ?_)
  refine lp_X0_feetLacked_4 hg X  0  (fun H locs ls w hl => ?_) ((ρ 1 0).toNatClampNeg + 1) 0 _ (Nat.zero_le _) (by omega) rfl  _ _ _ w (lv_sub hl [2, 1, 0] rfl)
  obtain ⟨zl4, ezl4⟩ : ∃ y : Int32, y = (l_X0_feetLacked_4 ρ 0) := ⟨_, rfl⟩
  rw [← ezl4] at hl
  refine lv_iload_n hx hb dX0_feetLacked_30 rfl (lv_at hl 1 rfl) ?_
  exact t_i X w hr hlk dX0_feetLacked_31 (by subst ezl4; simp only [f_X0_feetLacked]) rfl

def b_X0_settledInAll_4 (ρ : Gr)  (k : Nat) (v : Int32) : Int32 :=
  let zv19 : Int32 := v + (f_X0_settledIn ρ (nI k))
  zv19
def l_X0_settledInAll_4 (ρ : Gr)  (v0 : Int32) : Int32 := itn (b_X0_settledInAll_4 ρ) (ρ 1 0).toNatClampNeg v0
def f_X0_settledInAll (ρ : Gr)  : Int32 :=
  let zl4 : Int32 := (l_X0_settledInAll_4 ρ 0)
  zl4
set_option maxRecDepth 100000 in
set_option maxHeartbeats 4000000 in
theorem lp_X0_settledInAll_4 {l : Launch} {G : GG} {p : Program} {e : Env} {s : State} {m : MethodId} {args : Array Value} {below : List Frame} {meth : Method} {c : Code} {Q : State → Prop} {σ : St} {g : Nat} (hg : HG g) {ρ : Gr} (X : Cx p m c cX0_settledInAll 3 s args RX0 G)  (v0 : Int32) 
    (kk : ∀ (H : Heap) (locs : List Loc) (ls : Array Slot), Wh G s σ g ρ H locs → lv_has ls 3 [(0, .ref (aa G g 1)), (1, .int (l_X0_settledInAll_4 ρ v0)), (2, .int (nI ((ρ 1 0).toNatClampNeg)))] → W p l e (rmv 1 21) s m args below meth c H locs 0 0 Q (F0 m 26 ls [])) :
    ∀ (n k : Nat) (v : Int32), k ≤ (ρ 1 0).toNatClampNeg → (ρ 1 0).toNatClampNeg - k < n → v = itn (b_X0_settledInAll_4 ρ) k v0 → ∀ (H : Heap) (locs : List Loc) (ls : Array Slot), Wh G s σ g ρ H locs → lv_has ls 3 [(0, .ref (aa G g 1)), (1, .int v), (2, .int (nI k))] → W p l e (rmv 1 21) s m args below meth c H locs 0 0 Q (F0 m 4 ls []) := by
  have hx := X.1.1
  have hb := X.1.2.1
  intro n
  induction n with
  | zero => intro k v _ h; omega
  | succ n ih =>
    intro k v hkN hn ev H locs ls w hl
    refine lv_iload_n hx hb dX0_settledInAll_4 rfl (lv_at hl 2 rfl) ?_
    refine lv_aload_n hx hb dX0_settledInAll_5 rfl (lv_at hl 0 rfl) ?_
    refine gf0_9 hg X w dX0_settledInAll_6 ?_
    refine lv_icmp_ge (tgt := 26) hx hb dX0_settledInAll_9 (by decide) (fun zc9 => ?_) (fun zc9 => ?_)
    · -- 26
      obtain rfl : k = (ρ 1 0).toNatClampNeg := lp_eq hkN zc9
      subst ev
      exact kk _ _ _ w (lv_sub hl [0, 1, 2] rfl)
    · -- 12
      have hk : k < (ρ 1 0).toNatClampNeg := lp_lt hkN zc9
      refine lv_iload_n hx hb dX0_settledInAll_12 rfl (lv_at hl 1 rfl) ?_
      refine lv_aload_n hx hb dX0_settledInAll_13 rfl (lv_at hl 0 rfl) ?_
      refine lv_iload_n hx hb dX0_settledInAll_14 rfl (lv_at hl 2 rfl) ?_
      refine k_i (rr_v (rest := [.int v]) X w mX0_settledIn kw476 (c_X0_settledIn hg (nI k)) (hg.in (by decide)) hg.sh rfl ⟨Nat.le_of_ble_eq_true rfl, Nat.le_of_ble_eq_true rfl⟩ rfl hl.1 rfl (Nat.le_of_ble_eq_true rfl) dX0_settledInAll_15 ⟨Nat.zero_le _, Nat.zero_le _⟩) w (fun H locs w => ?_)
      refine lv_iadd hx hb dX0_settledInAll_18 ?_
      refine lv_topi (fun zv19 ezv19 => ?_)
      refine lv_istore_n (lv' := [(1, .int zv19), (0, .ref (aa G g 1)), (2, .int (nI k))]) hx hb dX0_settledInAll_19 rfl hl (by decide) rfl (fun ls hl => ?_)
      refine lv_iinc (v := nI (k + 1)) (lv' := [(2, .int (nI (k + 1))), (1, .int zv19), (0, .ref (aa G g 1))]) hx hb dX0_settledInAll_20 hl (k := 2) rfl (nI_1 _) (by decide) rfl (fun ls hl => ?_)
      refine lv_goto (tgt := 4) hx hb dX0_settledInAll_23 (by decide) ?_
      exact ih (k + 1) zv19 (by omega) (by omega) (by subst ezv19; simp only [itn, ← ev, b_X0_settledInAll_4])  _ _ _ w (lv_sub hl [2, 1, 0] rfl)
set_option maxRecDepth 100000 in
set_option maxHeartbeats 4000000 in
theorem c_X0_settledInAll {l : Launch} {G : GG} {σ : St} {g : Nat} {ρ : Gr} (hg : HG g)   : MM l G yX0_settledInAll cX0_settledInAll 3 1 21 (some .int) [.ref (aa G g 1)] (setG σ g ρ) (Qi G (f_X0_settledInAll ρ) (setG σ g ρ)) := by
  refine MM.of (by decide) (Nat.le_of_ble_eq_true rfl) ?_
  intro p e s m below meth c ls X hr hlk w hl
  have hx := X.1.1
  have hb := X.1.2.1
  have hl : lv_has ls 3 [(0, .ref (aa G g 1))] := hl
  refine lv_iconst (v := 0) hx hb dX0_settledInAll_0 (by decide) ?_
  refine lv_istore_n (lv' := [(1, .int 0), (0, .ref (aa G g 1))]) hx hb dX0_settledInAll_1 rfl hl (by decide) rfl (fun ls hl => ?_)
  refine lv_iconst (v := 0) hx hb dX0_settledInAll_2 (by decide) ?_
  refine lv_istore_n (lv' := [(2, .int 0), (1, .int 0), (0, .ref (aa G g 1))]) hx hb dX0_settledInAll_3 rfl hl (by decide) rfl (fun ls hl => ?_)
  refine lp_X0_settledInAll_4 hg X  0  (fun H locs ls w hl => ?_) ((ρ 1 0).toNatClampNeg + 1) 0 _ (Nat.zero_le _) (by omega) rfl  _ _ _ w (lv_sub hl [2, 1, 0] rfl)
  obtain ⟨zl4, ezl4⟩ : ∃ y : Int32, y = (l_X0_settledInAll_4 ρ 0) := ⟨_, rfl⟩
  rw [← ezl4] at hl
  refine lv_iload_n hx hb dX0_settledInAll_26 rfl (lv_at hl 1 rfl) ?_
  exact t_i X w hr hlk dX0_settledInAll_27 (by subst ezl4; simp only [f_X0_settledInAll]) rfl
