theorem vin_lit {i : Int32} {n : Nat} (h : (decide (0 ≤ i.toInt) && decide (i.toInt < n)) = true) : vp_in i n := by
  rw [Bool.and_eq_true, decide_eq_true_eq, decide_eq_true_eq] at h
  exact vp_in_iff.mpr h
theorem ge0 {x : Int32} (h : ¬ x < 0) : 0 ≤ x.toInt := by
  have a := Int32.le_iff_toInt_le.mp (Int32.not_lt.mp h)
  have z : (0 : Int32).toInt = 0 := by decide
  omega
theorem vin_n {x b : Int32} {n : Nat} (h0 : ¬ x < 0) (h1 : ¬ b ≤ x) (hb : b.toInt ≤ n) : vp_in x n := by
  have a0 := ge0 h0
  have a1 := Int32.lt_iff_toInt_lt.mp (Int32.not_le.mp h1)
  exact vp_in_iff.mpr (by omega)
theorem vin_l {x b : Int32} {n : Nat} (h0 : ¬ x < 0) (h1 : x < b) (hb : b.toInt ≤ n) : vp_in x n := by
  have a0 := ge0 h0
  have a1 := Int32.lt_iff_toInt_lt.mp h1
  exact vp_in_iff.mpr (by omega)
theorem kn8 {k : Nat} (h : k < 8) : ¬ (8 : Int32) ≤ nI k := Int32.not_le.mpr ((nI_ltI (a := k) (b := 8) (by omega) (by decide)).mpr h)
theorem kn24 {k : Nat} (h : k < 24) : ¬ (24 : Int32) ≤ nI k := Int32.not_le.mpr ((nI_ltI (a := k) (b := 24) (by omega) (by decide)).mpr h)
theorem kn28 {k : Nat} (h : k < 28) : ¬ (28 : Int32) ≤ nI k := Int32.not_le.mpr ((nI_ltI (a := k) (b := 28) (by omega) (by decide)).mpr h)
theorem vin_l8 {x : Int32} (h0 : ¬ x < 0) (h1 : x < 8) : vp_in (8 + x) 16 := by
  have a1 := Int32.lt_iff_toInt_lt.mp h1
  have z8 : (8 : Int32).toInt = 8 := by decide
  obtain ⟨j, hj, rfl⟩ := nI_of h0
  rw [nI_toInt hj] at a1
  rw [show (8 : Int32) = nI 8 from rfl, nI_add]
  exact vp_in_nI (by omega) (by decide)
theorem clampI (x : Int32) : (x.toNatClampNeg : Int) = if x.toInt < 0 then 0 else x.toInt := by
  show ((x.toInt.toNat : Nat) : Int) = _
  by_cases h : x.toInt < 0
  · rw [if_pos h]; omega
  · rw [if_neg h]; omega
theorem clamp_lt (x : Int32) : x.toNatClampNeg < 2 ^ 31 := by
  have h := clampI x
  have h2 : x.toInt < 2 ^ 31 := Int32.toInt_lt x
  by_cases g : x.toInt < 0
  · rw [if_pos g] at h; omega
  · rw [if_neg g] at h; omega
theorem lp_eq {B : Int32} {k : Nat} (hk : k ≤ B.toNatClampNeg) (c : B ≤ nI k) : k = B.toNatClampNeg := by
  have h := clampI B
  have hl := clamp_lt B
  have c1 := Int32.le_iff_toInt_le.mp c
  rw [nI_toInt (by omega)] at c1
  by_cases g : B.toInt < 0
  · rw [if_pos g] at h; omega
  · rw [if_neg g] at h; omega
theorem lp_lt {B : Int32} {k : Nat} (hk : k ≤ B.toNatClampNeg) (c : ¬ B ≤ nI k) : k < B.toNatClampNeg := by
  have h := clampI B
  have hl := clamp_lt B
  have c1 := Int32.lt_iff_toInt_lt.mp (Int32.not_le.mp c)
  rw [nI_toInt (by omega)] at c1
  by_cases g : B.toInt < 0
  · rw [if_pos g] at h; omega
  · rw [if_neg g] at h; omega
theorem lp_eq' {B : Int32} {k : Nat} (hk : k ≤ B.toNatClampNeg) (c : ¬ nI k < B) : k = B.toNatClampNeg := lp_eq hk (Int32.not_lt.mp c)
theorem lp_lt' {B : Int32} {k : Nat} (hk : k ≤ B.toNatClampNeg) (c : nI k < B) : k < B.toNatClampNeg := lp_lt hk (Int32.not_le.mpr c)
/-- a number that is not counted out -/
noncomputable def nn (n : Nat) : Nat := Classical.choose (⟨n, rfl⟩ : ∃ m : Nat, m = n)
theorem nn_eq (n : Nat) : nn n = n := Classical.choose_spec (⟨n, rfl⟩ : ∃ m : Nat, m = n)
def itn {S : Type} (f : Nat → S → S) : Nat → S → S
  | 0, v => v
  | n + 1, v => f n (itn f n v)
theorem vmask {x : Int32} {n : Nat} (y : Int32) (hy : y.toBitVec.toNat = 2 ^ n - 1) (hn : n ≤ 30) : vp_in (x &&& y) (2 ^ n) := pk_andIn x n hy hn
def wl {S : Type} (it : Nat → S → Bool × Nat × Int32 × S) : Nat → Nat → S → Nat × Int32 × S
  | 0, _, v => (0, 0, v)
  | n + 1, k, v => if (it k v).1 = true then wl it n (k + 1) (it k v).2.2.2 else (it k v).2
theorem wl_go {S : Type} {it : Nat → S → Bool × Nat × Int32 × S} {n k : Nat} {v v1 : S} {t : Nat} {r : Int32} (h : it k v = (true, t, r, v1)) : wl it (n + 1) k v = wl it n (k + 1) v1 := by
  show (if (it k v).1 = true then wl it n (k + 1) (it k v).2.2.2 else (it k v).2) = _
  rw [h, if_pos rfl]
theorem wl_out {S : Type} {it : Nat → S → Bool × Nat × Int32 × S} {n k : Nat} {v : S} {z : Nat × Int32 × S} (h : it k v = (false, z)) : wl it (n + 1) k v = z := by
  show (if (it k v).1 = true then wl it n (k + 1) (it k v).2.2.2 else (it k v).2) = _
  rw [h, if_neg Bool.false_ne_true]
theorem Wd.oth {G : GG} {s : State} {σ : St} {g h : Nat} {ρ τ : Gr} {H : Heap} {locs : List Loc} (hne : h ≠ g) (hτ : σ h = τ) (w : Wh G s σ g ρ H locs) : Wh G s (setG σ g ρ) h τ H locs := by
  have a := w.at h
  rw [setG_ne hne, hτ] at a
  exact a
theorem t_r {p : Program} {l : Launch} {e : Env} {R : Room} {s : State} {m : MethodId} {args : Array Value} {below : List Frame} {meth : Method} {c : Code} {H : Heap} {locs : List Loc} {cells slots : Nat} {cc : ByteArray} {nL : Nat} {own : String} {pc : Nat} {ls : Array Slot} {G : GG} {σ σ' : St} {g f f' : Nat} {rt : FieldType} (X : Cx p m c cc nL s args own G) (w : Wd G s σ H locs) (hr : meth.sig.returnType = some (.array rt)) (hlk : meth.locks = false) (hd : decode cc pc = .ok (.areturn, 1)) (e1 : f = f') (e2 : σ = σ') : W p l e R s m args below meth c H locs cells slots (MQ below (Qr G (aa G g f') σ') args s cells slots (AA G)) (F0 m pc ls [.ref (aa G g f)]) :=
  W.aret X.1.1 X.1.2.1 hr (Or.inr ⟨_, rfl⟩) (Or.inr ⟨_, rfl⟩) (fun t ht _ => ⟨⟨σ, _, rfl, e2, by rw [e1], by show WO G σ t.heap; rw [ht]; exact w.1⟩, w.2.F ht⟩) w.2.2.2 hd hlk
theorem itn_fr {S T : Type} {f : Nat → S → S} (P : S → T) (h : ∀ k v, P (f k v) = P v) : ∀ (n : Nat) (v : S), P (itn f n v) = P v
  | 0, _ => rfl
  | n + 1, v => (h n _).trans (itn_fr P h n v)
theorem nz1 {x : Int32} (h : ¬ x < 1) : ¬ x = 0 := fun e => h (by rw [e]; decide)
theorem lp_eqN {B : Int32} {k N : Nat} (hk : k ≤ N) (hB : B.toNatClampNeg = N) (c : B ≤ nI k) : k = N := by subst hB; exact lp_eq hk c
theorem lp_ltN {B : Int32} {k N : Nat} (hk : k ≤ N) (hB : B.toNatClampNeg = N) (c : ¬ B ≤ nI k) : k < N := by subst hB; exact lp_lt hk c
theorem nz2 {x : Int32} (h : 1 ≤ x) : ¬ x = 0 := fun e => absurd h (by rw [e]; decide)
theorem ite_P {α : Sort _} {P : α → Prop} {p : Prop} [Decidable p] {a b : α} (ha : P a) (hb : P b) : P (if p then a else b) := by
  by_cases h : p
  · rw [if_pos h]; exact ha
  · rw [if_neg h]; exact hb
theorem lp_eqG {B : Int32} {k N : Nat} (hk : k ≤ N) (h0 : ¬ B < 0) (hB : B.toNatClampNeg + 1 = N) (hN : N < 2 ^ 31) (c : B < nI k) : k = N := by
  obtain ⟨j, hj, rfl⟩ := nI_of h0
  rw [nI_clamp hj] at hB
  have := (nI_ltI (a := j) (b := k) hj (by omega)).mp c
  omega
theorem lp_ltG {B : Int32} {k N : Nat} (hk : k ≤ N) (h0 : ¬ B < 0) (hB : B.toNatClampNeg + 1 = N) (hN : N < 2 ^ 31) (c : ¬ B < nI k) : k < N := by
  obtain ⟨j, hj, rfl⟩ := nI_of h0
  rw [nI_clamp hj] at hB
  have h2 : ¬ j < k := fun q => c ((nI_ltI (a := j) (b := k) hj (by omega)).mpr q)
  omega
theorem lc20 {k : Nat} (hk : k ≤ 20) (c : ¬ (950 : Int32) < nI (50 * k)) : k < 20 := by
  have h2 : ¬ 950 < 50 * k := fun q => c ((nI_ltI (a := 950) (by decide) (by omega)).mpr q)
  omega
theorem cnt_in {x : Int32} (h1 : ¬ x < 11) (h2 : x ≤ 16) : vp_in (x - 10) 7 := by
  have a1 := Int32.le_iff_toInt_le.mp (Int32.not_lt.mp h1)
  have a2 := Int32.le_iff_toInt_le.mp h2
  have z1 : (11 : Int32).toInt = 11 := by decide
  have z2 : (16 : Int32).toInt = 16 := by decide
  have h0 : ¬ x < 0 := fun q => by
    have := Int32.lt_iff_toInt_lt.mp q
    have z0 : (0 : Int32).toInt = 0 := by decide
    omega
  obtain ⟨j, hj, rfl⟩ := nI_of h0
  rw [nI_toInt hj] at a1 a2
  rw [show (10 : Int32) = nI 10 from rfl, pk_sub (by omega)]
  exact vp_in_nI (by omega) (by decide)
noncomputable def f_X6_isStuff (x0 : Int32) : Int32 :=
  if x0 = 0 then
    1
  else
    if x0 = 1 then
      1
    else
      0
set_option maxRecDepth 100000 in
set_option maxHeartbeats 4000000 in
theorem c_X6_isStuff {l : Launch} {G : GG} {σ : St}  (x0 : Int32) : MM l G yX6_isStuff cX6_isStuff 1 0 0 (some .boolean) [.int x0] σ (Qi G (f_X6_isStuff x0) σ) := by
  refine MM.of (by decide) (Nat.le_of_ble_eq_true rfl) ?_
  intro p e s m below meth c ls X hr hlk w hl
  have hx := X.1.1
  have hb := X.1.2.1
  have hl : lv_has ls 1 [(0, .int x0)] := hl
  refine lv_iload_n hx hb dX6_isStuff_0 rfl (lv_at hl 0 rfl) ?_
  refine lv_if_eq (tgt := 9) hx hb dX6_isStuff_1 (by decide) (fun zc1 => ?_) (fun zc1 => ?_)
  · -- 9
    refine lv_iconst (v := 1) hx hb dX6_isStuff_9 (by decide) ?_
    refine lv_goto (tgt := 14) hx hb dX6_isStuff_10 (by decide) ?_
    exact t_z X w hr hlk isB1.n dX6_isStuff_14 (by simp only [f_X6_isStuff, if_pos zc1]) rfl
  · -- 4
    refine lv_iload_n hx hb dX6_isStuff_4 rfl (lv_at hl 0 rfl) ?_
    refine lv_iconst (v := 1) hx hb dX6_isStuff_5 (by decide) ?_
    refine lv_icmp_ne (tgt := 13) hx hb dX6_isStuff_6 (by decide) (fun zc6 => ?_) (fun zc6 => ?_)
    · -- 13
      refine lv_iconst (v := 0) hx hb dX6_isStuff_13 (by decide) ?_
      exact t_z X w hr hlk isB0.n dX6_isStuff_14 (by simp only [f_X6_isStuff, if_neg zc1, if_neg zc6]) rfl
    · -- 9
      refine lv_iconst (v := 1) hx hb dX6_isStuff_9 (by decide) ?_
      refine lv_goto (tgt := 14) hx hb dX6_isStuff_10 (by decide) ?_
      exact t_z X w hr hlk isB1.n dX6_isStuff_14 (by simp only [f_X6_isStuff, if_neg zc1, if_pos zc6]) rfl

noncomputable def f_X6_isKind (x0 : Int32) : Int32 :=
  if x0 = 0 then
    1
  else
    if x0 = 1 then
      1
    else
      0
set_option maxRecDepth 100000 in
set_option maxHeartbeats 4000000 in
theorem c_X6_isKind {l : Launch} {G : GG} {σ : St}  (x0 : Int32) : MM l G yX6_isKind cX6_isKind 1 0 0 (some .boolean) [.int x0] σ (Qi G (f_X6_isKind x0) σ) := by
  refine MM.of (by decide) (Nat.le_of_ble_eq_true rfl) ?_
  intro p e s m below meth c ls X hr hlk w hl
  have hx := X.1.1
  have hb := X.1.2.1
  have hl : lv_has ls 1 [(0, .int x0)] := hl
  refine lv_iload_n hx hb dX6_isKind_0 rfl (lv_at hl 0 rfl) ?_
  refine lv_if_eq (tgt := 9) hx hb dX6_isKind_1 (by decide) (fun zc1 => ?_) (fun zc1 => ?_)
  · -- 9
    refine lv_iconst (v := 1) hx hb dX6_isKind_9 (by decide) ?_
    refine lv_goto (tgt := 14) hx hb dX6_isKind_10 (by decide) ?_
    exact t_z X w hr hlk isB1.n dX6_isKind_14 (by simp only [f_X6_isKind, if_pos zc1]) rfl
  · -- 4
    refine lv_iload_n hx hb dX6_isKind_4 rfl (lv_at hl 0 rfl) ?_
    refine lv_iconst (v := 1) hx hb dX6_isKind_5 (by decide) ?_
    refine lv_icmp_ne (tgt := 13) hx hb dX6_isKind_6 (by decide) (fun zc6 => ?_) (fun zc6 => ?_)
    · -- 13
      refine lv_iconst (v := 0) hx hb dX6_isKind_13 (by decide) ?_
      exact t_z X w hr hlk isB0.n dX6_isKind_14 (by simp only [f_X6_isKind, if_neg zc1, if_neg zc6]) rfl
    · -- 9
      refine lv_iconst (v := 1) hx hb dX6_isKind_9 (by decide) ?_
      refine lv_goto (tgt := 14) hx hb dX6_isKind_10 (by decide) ?_
      exact t_z X w hr hlk isB1.n dX6_isKind_14 (by simp only [f_X6_isKind, if_neg zc1, if_pos zc6]) rfl

noncomputable def f_X6_heapOf (x0 : Int32) (x1 : Int32) : Int32 :=
  ((x1 &&& 1) * 8) + (x0 &&& 7)
set_option maxRecDepth 100000 in
set_option maxHeartbeats 4000000 in
theorem c_X6_heapOf {l : Launch} {G : GG} {σ : St}  (x0 : Int32) (x1 : Int32) : MM l G yX6_heapOf cX6_heapOf 2 0 0 (some .int) [.int x0, .int x1] σ (Qi G (f_X6_heapOf x0 x1) σ) := by
  refine MM.of (by decide) (Nat.le_of_ble_eq_true rfl) ?_
  intro p e s m below meth c ls X hr hlk w hl
  have hx := X.1.1
  have hb := X.1.2.1
  have hl : lv_has ls 2 [(0, .int x0), (1, .int x1)] := hl
  refine lv_iload_n hx hb dX6_heapOf_0 rfl (lv_at hl 1 rfl) ?_
  refine lv_iconst (v := 1) hx hb dX6_heapOf_1 (by decide) ?_
  refine lv_iand hx hb dX6_heapOf_2 ?_
  refine lv_bipush (v := 8) hx hb dX6_heapOf_3 (by decide) ?_
  refine lv_imul hx hb dX6_heapOf_5 ?_
  refine lv_iload_n hx hb dX6_heapOf_6 rfl (lv_at hl 0 rfl) ?_
  refine lv_bipush (v := 7) hx hb dX6_heapOf_7 (by decide) ?_
  refine lv_iand hx hb dX6_heapOf_9 ?_
  refine lv_iadd hx hb dX6_heapOf_10 ?_
  exact t_i X w hr hlk dX6_heapOf_11 (by simp only [f_X6_heapOf]) rfl

theorem heap_in (x y : Int32) : vp_in (f_X6_heapOf x y) 16 := by
  obtain ⟨a, ha, e1⟩ := pk_andE y (m := 1) 1 (by decide)
  obtain ⟨b, hb, e2⟩ := pk_andE x (m := 7) 3 (by decide)
  show vp_in ((y &&& 1) * 8 + (x &&& 7)) 16
  rw [e1, e2, show (8 : Int32) = nI 8 from rfl, pk_mul, nI_add]
  exact vp_in_nI (by omega) (by decide)

noncomputable def f_X6_depthAbove (x0 : Int32) (x1 : Int32) : Int32 :=
  if 0 < (x1 - (x0 / 100)) then (x1 - (x0 / 100)) else 0
set_option maxRecDepth 100000 in
set_option maxHeartbeats 4000000 in
theorem c_X6_depthAbove {l : Launch} {G : GG} {σ : St}  (x0 : Int32) (x1 : Int32) : MM l G yX6_depthAbove cX6_depthAbove 2 1 13 (some .int) [.int x0, .int x1] σ (Qi G (f_X6_depthAbove x0 x1) σ) := by
  refine MM.of (by decide) (Nat.le_of_ble_eq_true rfl) ?_
  intro p e s m below meth c ls X hr hlk w hl
  have hx := X.1.1
  have hb := X.1.2.1
  have hl : lv_has ls 2 [(0, .int x0), (1, .int x1)] := hl
  refine lv_iconst (v := 0) hx hb dX6_depthAbove_0 (by decide) ?_
  refine lv_iload_n hx hb dX6_depthAbove_1 rfl (lv_at hl 1 rfl) ?_
  refine lv_iload_n hx hb dX6_depthAbove_2 rfl (lv_at hl 0 rfl) ?_
  refine lv_bipush (v := 100) hx hb dX6_depthAbove_3 (by decide) ?_
  refine lv_idiv hx hb dX6_depthAbove_5 (by decide) ?_
  refine lv_isub hx hb dX6_depthAbove_6 ?_
  refine mmax X hl.1 kw460 (Nat.le_of_ble_eq_true rfl) (Nat.le_of_ble_eq_true rfl) (Nat.zero_le _) (Nat.zero_le _) dX6_depthAbove_7 ?_
  exact t_i X w hr hlk dX6_depthAbove_10 (by simp only [f_X6_depthAbove]) rfl

noncomputable def f_X6_partOf (x0 : Int32) (x1 : Int32) : Int32 :=
  ((x0.toInt64 * x1.toInt64) / 100).toInt32
set_option maxRecDepth 100000 in
set_option maxHeartbeats 4000000 in
theorem c_X6_partOf {l : Launch} {G : GG} {σ : St}  (x0 : Int32) (x1 : Int32) : MM l G yX6_partOf cX6_partOf 2 0 0 (some .int) [.int x0, .int x1] σ (Qi G (f_X6_partOf x0 x1) σ) := by
  refine MM.of (by decide) (Nat.le_of_ble_eq_true rfl) ?_
  intro p e s m below meth c ls X hr hlk w hl
  have hx := X.1.1
  have hb := X.1.2.1
  have hl : lv_has ls 2 [(0, .int x0), (1, .int x1)] := hl
  refine lv_iload_n hx hb dX6_partOf_0 rfl (lv_at hl 0 rfl) ?_
  refine lv_i2l hx hb dX6_partOf_1 rfl ?_
  refine lv_iload_n hx hb dX6_partOf_2 rfl (lv_at hl 1 rfl) ?_
  refine lv_i2l hx hb dX6_partOf_3 rfl ?_
  refine lv_lmul hx hb dX6_partOf_4 ?_
  refine lv_ldc2 hx hb X.1.2.2.2.1 (X.1.2.2.2.2 _ kw549) dX6_partOf_5 ?_
  refine lv_ldiv hx hb dX6_partOf_8 (by decide) ?_
  refine lv_l2i hx hb dX6_partOf_9 rfl ?_
  exact t_i X w hr hlk dX6_partOf_10 (by simp only [f_X6_partOf]) rfl

noncomputable def g_X0_become (ρ : Gr) (τ : Gr)  : Gr :=
  let zs5 : Gr := up ρ 1 0 (τ 1 0)
  let zs20 : Gr := setF zs5 2 (va_cpy (τ 2) (zs5 2) 0 0 (8 : Int32).toNatClampNeg)
  let zs35 : Gr := setF zs20 3 (va_cpy (τ 3) (zs20 3) 0 0 (8 : Int32).toNatClampNeg)
  let zs50 : Gr := setF zs35 4 (va_cpy (τ 4) (zs35 4) 0 0 (8 : Int32).toNatClampNeg)
  let zs65 : Gr := setF zs50 5 (va_cpy (τ 5) (zs50 5) 0 0 (8 : Int32).toNatClampNeg)
  let zs80 : Gr := setF zs65 6 (va_cpy (τ 6) (zs65 6) 0 0 (8 : Int32).toNatClampNeg)
  let zs95 : Gr := setF zs80 7 (va_cpy (τ 7) (zs80 7) 0 0 (16 : Int32).toNatClampNeg)
  let zs110 : Gr := setF zs95 8 (va_cpy (τ 8) (zs95 8) 0 0 (16 : Int32).toNatClampNeg)
  zs110
set_option maxRecDepth 100000 in
set_option maxHeartbeats 4000000 in
theorem c_X0_become {l : Launch} {G : GG} {σ : St} {g : Nat} {ρ : Gr} (hg : HG g) {h : Nat} {τ : Gr} (hh : HG h) (hne : h ≠ g) (hτ : σ h = τ)   : MM l G yX0_become cX0_become 2 1 40 none [.ref (aa G g 1), .ref (aa G h 1)] (setG σ g ρ) (Qv G (setG σ g (g_X0_become ρ τ))) := by
  refine MM.of (by decide) (Nat.le_of_ble_eq_true rfl) ?_
  intro p e s m below meth c ls X hr hlk w hl
  have hx := X.1.1
  have hb := X.1.2.1
  have hl : lv_has ls 2 [(0, .ref (aa G g 1)), (1, .ref (aa G h 1))] := hl
  refine lv_aload_n hx hb dX0_become_0 rfl (lv_at hl 0 rfl) ?_
  refine lv_aload_n hx hb dX0_become_1 rfl (lv_at hl 1 rfl) ?_
  refine gf0_9 hh X (w.oth hne hτ) dX0_become_2 ?_
  refine pf0_9 hg X w dX0_become_5 (fun zs5 H locs ezs5 w => ?_)
  refine lv_aload_n hx hb dX0_become_8 rfl (lv_at hl 1 rfl) ?_
  refine gf0_15 hh X (w.oth hne hτ) dX0_become_9 ?_
  refine lv_iconst (v := 0) hx hb dX0_become_12 (by decide) ?_
  refine lv_aload_n hx hb dX0_become_13 rfl (lv_at hl 0 rfl) ?_
  refine gf0_15 hg X w dX0_become_14 ?_
  refine lv_iconst (v := 0) hx hb dX0_become_17 (by decide) ?_
  refine lv_bipush (v := 8) hx hb dX0_become_18 (by decide) ?_
  change W _ _ _ _ _ _ _ _ _ _ _ _ _ _ _ (F0 m 20 ls _)
  refine r_cp (g0 := h) (f0 := 2) (f := 2) (n0 := 8) (n1 := 8) (src := τ 2) X w hl.1 (hh.in (by decide)) hh.sh (by rw [setG_ne hne, hτ]) (hg.in (by decide)) hg.sh kw290 (by decide) (by decide) (by decide) (Nat.le_of_ble_eq_true rfl) (Nat.le_of_ble_eq_true rfl) dX0_become_20 (fun H locs w => ?_)
  obtain ⟨zs20, ezs20⟩ : ∃ y : Gr, y = setF zs5 2 (va_cpy (τ 2) (zs5 2) 0 0 (8 : Int32).toNatClampNeg) := ⟨_, rfl⟩; rw [← ezs20] at w
  refine lv_aload_n hx hb dX0_become_23 rfl (lv_at hl 1 rfl) ?_
  refine gf0_19 hh X (w.oth hne hτ) dX0_become_24 ?_
  refine lv_iconst (v := 0) hx hb dX0_become_27 (by decide) ?_
  refine lv_aload_n hx hb dX0_become_28 rfl (lv_at hl 0 rfl) ?_
  refine gf0_19 hg X w dX0_become_29 ?_
  refine lv_iconst (v := 0) hx hb dX0_become_32 (by decide) ?_
  refine lv_bipush (v := 8) hx hb dX0_become_33 (by decide) ?_
  refine r_cp (g0 := h) (f0 := 3) (f := 3) (n0 := 8) (n1 := 8) (src := τ 3) X w hl.1 (hh.in (by decide)) hh.sh (by rw [setG_ne hne, hτ]) (hg.in (by decide)) hg.sh kw290 (by decide) (by decide) (by decide) (Nat.le_of_ble_eq_true rfl) (Nat.le_of_ble_eq_true rfl) dX0_become_35 (fun H locs w => ?_)
  obtain ⟨zs35, ezs35⟩ : ∃ y : Gr, y = setF zs20 3 (va_cpy (τ 3) (zs20 3) 0 0 (8 : Int32).toNatClampNeg) := ⟨_, rfl⟩; rw [← ezs35] at w
  refine lv_aload_n hx hb dX0_become_38 rfl (lv_at hl 1 rfl) ?_
  refine gf0_22 hh X (w.oth hne hτ) dX0_become_39 ?_
  refine lv_iconst (v := 0) hx hb dX0_become_42 (by decide) ?_
  change W _ _ _ _ _ _ _ _ _ _ _ _ _ _ _ (F0 m 43 ls _)
  refine lv_aload_n hx hb dX0_become_43 rfl (lv_at hl 0 rfl) ?_
  refine gf0_22 hg X w dX0_become_44 ?_
  refine lv_iconst (v := 0) hx hb dX0_become_47 (by decide) ?_
  refine lv_bipush (v := 8) hx hb dX0_become_48 (by decide) ?_
  refine r_cp (g0 := h) (f0 := 4) (f := 4) (n0 := 8) (n1 := 8) (src := τ 4) X w hl.1 (hh.in (by decide)) hh.sh (by rw [setG_ne hne, hτ]) (hg.in (by decide)) hg.sh kw290 (by decide) (by decide) (by decide) (Nat.le_of_ble_eq_true rfl) (Nat.le_of_ble_eq_true rfl) dX0_become_50 (fun H locs w => ?_)
  obtain ⟨zs50, ezs50⟩ : ∃ y : Gr, y = setF zs35 4 (va_cpy (τ 4) (zs35 4) 0 0 (8 : Int32).toNatClampNeg) := ⟨_, rfl⟩; rw [← ezs50] at w
  refine lv_aload_n hx hb dX0_become_53 rfl (lv_at hl 1 rfl) ?_
  refine gf0_25 hh X (w.oth hne hτ) dX0_become_54 ?_
  refine lv_iconst (v := 0) hx hb dX0_become_57 (by decide) ?_
  refine lv_aload_n hx hb dX0_become_58 rfl (lv_at hl 0 rfl) ?_
  refine gf0_25 hg X w dX0_become_59 ?_
  refine lv_iconst (v := 0) hx hb dX0_become_62 (by decide) ?_
  refine lv_bipush (v := 8) hx hb dX0_become_63 (by decide) ?_
  change W _ _ _ _ _ _ _ _ _ _ _ _ _ _ _ (F0 m 65 ls _)
  refine r_cp (g0 := h) (f0 := 5) (f := 5) (n0 := 8) (n1 := 8) (src := τ 5) X w hl.1 (hh.in (by decide)) hh.sh (by rw [setG_ne hne, hτ]) (hg.in (by decide)) hg.sh kw290 (by decide) (by decide) (by decide) (Nat.le_of_ble_eq_true rfl) (Nat.le_of_ble_eq_true rfl) dX0_become_65 (fun H locs w => ?_)
  obtain ⟨zs65, ezs65⟩ : ∃ y : Gr, y = setF zs50 5 (va_cpy (τ 5) (zs50 5) 0 0 (8 : Int32).toNatClampNeg) := ⟨_, rfl⟩; rw [← ezs65] at w
  refine lv_aload_n hx hb dX0_become_68 rfl (lv_at hl 1 rfl) ?_
  refine gf0_28 hh X (w.oth hne hτ) dX0_become_69 ?_
  refine lv_iconst (v := 0) hx hb dX0_become_72 (by decide) ?_
  refine lv_aload_n hx hb dX0_become_73 rfl (lv_at hl 0 rfl) ?_
  refine gf0_28 hg X w dX0_become_74 ?_
  refine lv_iconst (v := 0) hx hb dX0_become_77 (by decide) ?_
  refine lv_bipush (v := 8) hx hb dX0_become_78 (by decide) ?_
  refine r_cp (g0 := h) (f0 := 6) (f := 6) (n0 := 8) (n1 := 8) (src := τ 6) X w hl.1 (hh.in (by decide)) hh.sh (by rw [setG_ne hne, hτ]) (hg.in (by decide)) hg.sh kw290 (by decide) (by decide) (by decide) (Nat.le_of_ble_eq_true rfl) (Nat.le_of_ble_eq_true rfl) dX0_become_80 (fun H locs w => ?_)
  obtain ⟨zs80, ezs80⟩ : ∃ y : Gr, y = setF zs65 6 (va_cpy (τ 6) (zs65 6) 0 0 (8 : Int32).toNatClampNeg) := ⟨_, rfl⟩; rw [← ezs80] at w
  refine lv_aload_n hx hb dX0_become_83 rfl (lv_at hl 1 rfl) ?_
  refine gf0_31 hh X (w.oth hne hτ) dX0_become_84 ?_
  refine lv_iconst (v := 0) hx hb dX0_become_87 (by decide) ?_
  change W _ _ _ _ _ _ _ _ _ _ _ _ _ _ _ (F0 m 88 ls _)
  refine lv_aload_n hx hb dX0_become_88 rfl (lv_at hl 0 rfl) ?_
  refine gf0_31 hg X w dX0_become_89 ?_
  refine lv_iconst (v := 0) hx hb dX0_become_92 (by decide) ?_
  refine lv_bipush (v := 16) hx hb dX0_become_93 (by decide) ?_
  refine r_cp (g0 := h) (f0 := 7) (f := 7) (n0 := 16) (n1 := 16) (src := τ 7) X w hl.1 (hh.in (by decide)) hh.sh (by rw [setG_ne hne, hτ]) (hg.in (by decide)) hg.sh kw290 (by decide) (by decide) (by decide) (Nat.le_of_ble_eq_true rfl) (Nat.le_of_ble_eq_true rfl) dX0_become_95 (fun H locs w => ?_)
  obtain ⟨zs95, ezs95⟩ : ∃ y : Gr, y = setF zs80 7 (va_cpy (τ 7) (zs80 7) 0 0 (16 : Int32).toNatClampNeg) := ⟨_, rfl⟩; rw [← ezs95] at w
  refine lv_aload_n hx hb dX0_become_98 rfl (lv_at hl 1 rfl) ?_
  refine gf0_34 hh X (w.oth hne hτ) dX0_become_99 ?_
  refine lv_iconst (v := 0) hx hb dX0_become_102 (by decide) ?_
  refine lv_aload_n hx hb dX0_become_103 rfl (lv_at hl 0 rfl) ?_
  refine gf0_34 hg X w dX0_become_104 ?_
  refine lv_iconst (v := 0) hx hb dX0_become_107 (by decide) ?_
  refine lv_bipush (v := 16) hx hb dX0_become_108 (by decide) ?_
  change W _ _ _ _ _ _ _ _ _ _ _ _ _ _ _ (F0 m 110 ls _)
  refine r_cp (g0 := h) (f0 := 8) (f := 8) (n0 := 16) (n1 := 16) (src := τ 8) X w hl.1 (hh.in (by decide)) hh.sh (by rw [setG_ne hne, hτ]) (hg.in (by decide)) hg.sh kw290 (by decide) (by decide) (by decide) (Nat.le_of_ble_eq_true rfl) (Nat.le_of_ble_eq_true rfl) dX0_become_110 (fun H locs w => ?_)
  obtain ⟨zs110, ezs110⟩ : ∃ y : Gr, y = setF zs95 8 (va_cpy (τ 8) (zs95 8) 0 0 (16 : Int32).toNatClampNeg) := ⟨_, rfl⟩; rw [← ezs110] at w
  exact t_v X w hr hlk dX0_become_113 (by replace ezs110 := ezs110.symm; subst ezs110; replace ezs95 := ezs95.symm; subst ezs95; replace ezs80 := ezs80.symm; subst ezs80; replace ezs65 := ezs65.symm; subst ezs65; replace ezs50 := ezs50.symm; subst ezs50; replace ezs35 := ezs35.symm; subst ezs35; replace ezs20 := ezs20.symm; subst ezs20; replace ezs5 := ezs5.symm; subst ezs5; simp only [g_X0_become])

noncomputable def f_X0_has (ρ : Gr) (x1 : Int32) : Int32 :=
  if x1 < 0 then
    0
  else
    if (ρ 1 0) ≤ x1 then
      0
    else
      if 8 ≤ x1 then
        0
      else
        1
set_option maxRecDepth 100000 in
set_option maxHeartbeats 4000000 in
theorem c_X0_has {l : Launch} {G : GG} {σ : St} {g : Nat} {ρ : Gr} (hg : HG g)  (x1 : Int32) : MM l G yX0_has cX0_has 2 0 0 (some .boolean) [.ref (aa G g 1), .int x1] (setG σ g ρ) (Qi G (f_X0_has ρ x1) (setG σ g ρ)) := by
  refine MM.of (by decide) (Nat.le_of_ble_eq_true rfl) ?_
  intro p e s m below meth c ls X hr hlk w hl
  have hx := X.1.1
  have hb := X.1.2.1
  have hl : lv_has ls 2 [(0, .ref (aa G g 1)), (1, .int x1)] := hl
  refine lv_iload_n hx hb dX0_has_0 rfl (lv_at hl 1 rfl) ?_
  refine lv_if_lt (tgt := 22) hx hb dX0_has_1 (by decide) (fun zc1 => ?_) (fun zc1 => ?_)
  · -- 22
    refine lv_iconst (v := 0) hx hb dX0_has_22 (by decide) ?_
    exact t_z X w hr hlk isB0.n dX0_has_23 (by simp only [f_X0_has, if_pos zc1]) rfl
  · -- 4
    refine lv_iload_n hx hb dX0_has_4 rfl (lv_at hl 1 rfl) ?_
    refine lv_aload_n hx hb dX0_has_5 rfl (lv_at hl 0 rfl) ?_
    refine gf0_9 hg X w dX0_has_6 ?_
    refine lv_icmp_ge (tgt := 22) hx hb dX0_has_9 (by decide) (fun zc9 => ?_) (fun zc9 => ?_)
    · -- 22
      refine lv_iconst (v := 0) hx hb dX0_has_22 (by decide) ?_
      exact t_z X w hr hlk isB0.n dX0_has_23 (by simp only [f_X0_has, if_neg zc1, if_pos zc9]) rfl
    · -- 12
      refine lv_iload_n hx hb dX0_has_12 rfl (lv_at hl 1 rfl) ?_
      refine lv_bipush (v := 8) hx hb dX0_has_13 (by decide) ?_
      refine lv_icmp_ge (tgt := 22) hx hb dX0_has_15 (by decide) (fun zc15 => ?_) (fun zc15 => ?_)
      · -- 22
        refine lv_iconst (v := 0) hx hb dX0_has_22 (by decide) ?_
        exact t_z X w hr hlk isB0.n dX0_has_23 (by simp only [f_X0_has, if_neg zc1, if_neg zc9, if_pos zc15]) rfl
      · -- 18
        refine lv_iconst (v := 1) hx hb dX0_has_18 (by decide) ?_
        refine lv_goto (tgt := 23) hx hb dX0_has_19 (by decide) ?_
        exact t_z X w hr hlk isB1.n dX0_has_23 (by simp only [f_X0_has, if_neg zc1, if_neg zc9, if_neg zc15]) rfl

theorem has_in {ρ : Gr} {x : Int32} (h : ¬ f_X0_has ρ x = 0) : vp_in x 8 := by
  unfold f_X0_has at h
  by_cases h1 : x < 0
  · rw [if_pos h1] at h; exact absurd rfl h
  · rw [if_neg h1] at h
    by_cases h2 : ρ 1 0 ≤ x
    · rw [if_pos h2] at h; exact absurd rfl h
    · rw [if_neg h2] at h
      by_cases h3 : 8 ≤ x
      · rw [if_pos h3] at h; exact absurd rfl h
      · exact vin_n h1 h3 (by decide)

noncomputable def f_X0_hasAll (ρ : Gr) (x1 : Int32) : Int32 :=
  if x1 < 0 then
    0
  else
    if (1 <<< ((ρ 1 0) &&& 31)) ≤ x1 then
      0
    else
      1
set_option maxRecDepth 100000 in
set_option maxHeartbeats 4000000 in
theorem c_X0_hasAll {l : Launch} {G : GG} {σ : St} {g : Nat} {ρ : Gr} (hg : HG g)  (x1 : Int32) : MM l G yX0_hasAll cX0_hasAll 2 0 0 (some .boolean) [.ref (aa G g 1), .int x1] (setG σ g ρ) (Qi G (f_X0_hasAll ρ x1) (setG σ g ρ)) := by
  refine MM.of (by decide) (Nat.le_of_ble_eq_true rfl) ?_
  intro p e s m below meth c ls X hr hlk w hl
  have hx := X.1.1
  have hb := X.1.2.1
  have hl : lv_has ls 2 [(0, .ref (aa G g 1)), (1, .int x1)] := hl
  refine lv_iload_n hx hb dX0_hasAll_0 rfl (lv_at hl 1 rfl) ?_
  refine lv_if_lt (tgt := 18) hx hb dX0_hasAll_1 (by decide) (fun zc1 => ?_) (fun zc1 => ?_)
  · -- 18
    refine lv_iconst (v := 0) hx hb dX0_hasAll_18 (by decide) ?_
    exact t_z X w hr hlk isB0.n dX0_hasAll_19 (by simp only [f_X0_hasAll, if_pos zc1]) rfl
  · -- 4
    refine lv_iload_n hx hb dX0_hasAll_4 rfl (lv_at hl 1 rfl) ?_
    refine lv_iconst (v := 1) hx hb dX0_hasAll_5 (by decide) ?_
    refine lv_aload_n hx hb dX0_hasAll_6 rfl (lv_at hl 0 rfl) ?_
    refine gf0_9 hg X w dX0_hasAll_7 ?_
    refine lv_ishl hx hb dX0_hasAll_10 ?_
    refine lv_icmp_ge (tgt := 18) hx hb dX0_hasAll_11 (by decide) (fun zc11 => ?_) (fun zc11 => ?_)
    · -- 18
      refine lv_iconst (v := 0) hx hb dX0_hasAll_18 (by decide) ?_
      exact t_z X w hr hlk isB0.n dX0_hasAll_19 (by simp only [f_X0_hasAll, if_neg zc1, if_pos zc11]) rfl
    · -- 14
      refine lv_iconst (v := 1) hx hb dX0_hasAll_14 (by decide) ?_
      refine lv_goto (tgt := 19) hx hb dX0_hasAll_15 (by decide) ?_
      exact t_z X w hr hlk isB1.n dX0_hasAll_19 (by simp only [f_X0_hasAll, if_neg zc1, if_neg zc11]) rfl

noncomputable def f_X0_add (ρ : Gr) (x1 : Int32) (x2 : Int32) : Int32 :=
  if x1 < 1 then
    (-4)
  else
    if 0 ≤ x2 then
      if 99 < x1 then
        (-6)
      else
        if 99 < x2 then
          (-6)
        else
          if (ρ 1 0) < 0 then
            (-6)
          else
            if (ρ 1 0) < 8 then
              let zv47 : Int32 := ρ 1 0
              let zs55 : Gr := up ρ 1 0 ((ρ 1 0) + 1)
              let zs64 : Gr := up zs55 2 zv47.toNatClampNeg x1
              let zs71 : Gr := up zs64 3 zv47.toNatClampNeg x2
              let zs79 : Gr := up zs71 4 zv47.toNatClampNeg 50
              let zs87 : Gr := up zs79 5 zv47.toNatClampNeg 20
              let zs94 : Gr := up zs87 6 zv47.toNatClampNeg 1
              zv47
            else
              (-6)
    else
      (-4)
noncomputable def g_X0_add (ρ : Gr) (x1 : Int32) (x2 : Int32) : Gr :=
  if x1 < 1 then
    ρ
  else
    if 0 ≤ x2 then
      if 99 < x1 then
        ρ
      else
        if 99 < x2 then
          ρ
        else
          if (ρ 1 0) < 0 then
            ρ
          else
            if (ρ 1 0) < 8 then
              let zv47 : Int32 := ρ 1 0
              let zs55 : Gr := up ρ 1 0 ((ρ 1 0) + 1)
              let zs64 : Gr := up zs55 2 zv47.toNatClampNeg x1
              let zs71 : Gr := up zs64 3 zv47.toNatClampNeg x2
              let zs79 : Gr := up zs71 4 zv47.toNatClampNeg 50
              let zs87 : Gr := up zs79 5 zv47.toNatClampNeg 20
              let zs94 : Gr := up zs87 6 zv47.toNatClampNeg 1
              zs94
            else
              ρ
    else
      ρ
set_option maxRecDepth 100000 in
set_option maxHeartbeats 4000000 in
theorem c_X0_add {l : Launch} {G : GG} {σ : St} {g : Nat} {ρ : Gr} (hg : HG g)  (x1 : Int32) (x2 : Int32) : MM l G yX0_add cX0_add 4 0 0 (some .int) [.ref (aa G g 1), .int x1, .int x2] (setG σ g ρ) (Qi G (f_X0_add ρ x1 x2) (setG σ g (g_X0_add ρ x1 x2))) := by
  refine MM.of (by decide) (Nat.le_of_ble_eq_true rfl) ?_
  intro p e s m below meth c ls X hr hlk w hl
  have hx := X.1.1
  have hb := X.1.2.1
  have hl : lv_has ls 4 [(0, .ref (aa G g 1)), (1, .int x1), (2, .int x2)] := hl
  refine lv_iload_n hx hb dX0_add_0 rfl (lv_at hl 1 rfl) ?_
  refine lv_iconst (v := 1) hx hb dX0_add_1 (by decide) ?_
  refine lv_icmp_lt (tgt := 9) hx hb dX0_add_2 (by decide) (fun zc2 => ?_) (fun zc2 => ?_)
  · -- 9
    refine lv_bipush (v := (-4)) hx hb dX0_add_9 (by decide) ?_
    exact t_i X w hr hlk dX0_add_11 (by simp only [f_X0_add, if_pos zc2]) (by simp only [g_X0_add, if_pos zc2])
  · -- 5
    refine lv_iload_n hx hb dX0_add_5 rfl (lv_at hl 2 rfl) ?_
    refine lv_if_ge (tgt := 12) hx hb dX0_add_6 (by decide) (fun zc6 => ?_) (fun zc6 => ?_)
    · -- 12
      refine lv_iload_n hx hb dX0_add_12 rfl (lv_at hl 1 rfl) ?_
      refine lv_bipush (v := 99) hx hb dX0_add_13 (by decide) ?_
      refine lv_icmp_gt (tgt := 40) hx hb dX0_add_15 (by decide) (fun zc15 => ?_) (fun zc15 => ?_)
      · -- 40
        refine lv_bipush (v := (-6)) hx hb dX0_add_40 (by decide) ?_
        exact t_i X w hr hlk dX0_add_42 (by simp only [f_X0_add, if_neg zc2, if_pos zc6, if_pos zc15]) (by simp only [g_X0_add, if_neg zc2, if_pos zc6, if_pos zc15])
      · -- 18
        refine lv_iload_n hx hb dX0_add_18 rfl (lv_at hl 2 rfl) ?_
        refine lv_bipush (v := 99) hx hb dX0_add_19 (by decide) ?_
        refine lv_icmp_gt (tgt := 40) hx hb dX0_add_21 (by decide) (fun zc21 => ?_) (fun zc21 => ?_)
        · -- 40
          refine lv_bipush (v := (-6)) hx hb dX0_add_40 (by decide) ?_
          exact t_i X w hr hlk dX0_add_42 (by simp only [f_X0_add, if_neg zc2, if_pos zc6, if_neg zc15, if_pos zc21]) (by simp only [g_X0_add, if_neg zc2, if_pos zc6, if_neg zc15, if_pos zc21])
        · -- 24
          refine lv_aload_n hx hb dX0_add_24 rfl (lv_at hl 0 rfl) ?_
          refine gf0_9 hg X w dX0_add_25 ?_
          refine lv_if_lt (tgt := 40) hx hb dX0_add_28 (by decide) (fun zc28 => ?_) (fun zc28 => ?_)
          · -- 40
            refine lv_bipush (v := (-6)) hx hb dX0_add_40 (by decide) ?_
            exact t_i X w hr hlk dX0_add_42 (by simp only [f_X0_add, if_neg zc2, if_pos zc6, if_neg zc15, if_neg zc21, if_pos zc28]) (by simp only [g_X0_add, if_neg zc2, if_pos zc6, if_neg zc15, if_neg zc21, if_pos zc28])
          · -- 31
            refine lv_aload_n hx hb dX0_add_31 rfl (lv_at hl 0 rfl) ?_
            refine gf0_9 hg X w dX0_add_32 ?_
            refine lv_bipush (v := 8) hx hb dX0_add_35 (by decide) ?_
            refine lv_icmp_lt (tgt := 43) hx hb dX0_add_37 (by decide) (fun zc37 => ?_) (fun zc37 => ?_)
            · -- 43
              refine lv_aload_n hx hb dX0_add_43 rfl (lv_at hl 0 rfl) ?_
              refine gf0_9 hg X w dX0_add_44 ?_
              refine lv_topi (fun zv47 ezv47 => ?_)
              refine lv_istore_n (lv' := [(3, .int zv47), (0, .ref (aa G g 1)), (1, .int x1), (2, .int x2)]) hx hb dX0_add_47 rfl hl (by decide) rfl (fun ls hl => ?_)
              refine lv_aload_n hx hb dX0_add_48 rfl (lv_at hl 1 rfl) ?_
              refine lv_dup hx hb dX0_add_49 rfl ?_
              refine gf0_9 hg X w dX0_add_50 ?_
              refine lv_iconst (v := 1) hx hb dX0_add_53 (by decide) ?_
              refine lv_iadd hx hb dX0_add_54 ?_
              refine pf0_9 hg X w dX0_add_55 (fun zs55 H locs ezs55 w => ?_)
              refine lv_aload_n hx hb dX0_add_58 rfl (lv_at hl 1 rfl) ?_
              refine gf0_15 hg X w dX0_add_59 ?_
              change W _ _ _ _ _ _ _ _ _ _ _ _ _ _ _ (F0 m 62 ls _)
              refine lv_iload_n hx hb dX0_add_62 rfl (lv_at hl 0 rfl) ?_
              refine lv_iload_n hx hb dX0_add_63 rfl (lv_at hl 2 rfl) ?_
              refine iS (f := 2) (n := 8) X w (hg.in (by decide)) hg.sh (by rw [ezv47]; exact (vin_l zc28 zc37 (by decide))) dX0_add_64 (fun zs64 H locs ezs64 w => ?_)
              refine lv_aload_n hx hb dX0_add_65 rfl (lv_at hl 1 rfl) ?_
              refine gf0_19 hg X w dX0_add_66 ?_
              refine lv_iload_n hx hb dX0_add_69 rfl (lv_at hl 0 rfl) ?_
              refine lv_iload_n hx hb dX0_add_70 rfl (lv_at hl 3 rfl) ?_
              refine iS (f := 3) (n := 8) X w (hg.in (by decide)) hg.sh (by rw [ezv47]; exact (vin_l zc28 zc37 (by decide))) dX0_add_71 (fun zs71 H locs ezs71 w => ?_)
              refine lv_aload_n hx hb dX0_add_72 rfl (lv_at hl 1 rfl) ?_
              refine gf0_22 hg X w dX0_add_73 ?_
              refine lv_iload_n hx hb dX0_add_76 rfl (lv_at hl 0 rfl) ?_
              refine lv_bipush (v := 50) hx hb dX0_add_77 (by decide) ?_
              change W _ _ _ _ _ _ _ _ _ _ _ _ _ _ _ (F0 m 79 ls _)
              refine iS (f := 4) (n := 8) X w (hg.in (by decide)) hg.sh (by rw [ezv47]; exact (vin_l zc28 zc37 (by decide))) dX0_add_79 (fun zs79 H locs ezs79 w => ?_)
              refine lv_aload_n hx hb dX0_add_80 rfl (lv_at hl 1 rfl) ?_
              refine gf0_25 hg X w dX0_add_81 ?_
              refine lv_iload_n hx hb dX0_add_84 rfl (lv_at hl 0 rfl) ?_
              refine lv_bipush (v := 20) hx hb dX0_add_85 (by decide) ?_
              refine iS (f := 5) (n := 8) X w (hg.in (by decide)) hg.sh (by rw [ezv47]; exact (vin_l zc28 zc37 (by decide))) dX0_add_87 (fun zs87 H locs ezs87 w => ?_)
              refine lv_aload_n hx hb dX0_add_88 rfl (lv_at hl 1 rfl) ?_
              refine gf0_28 hg X w dX0_add_89 ?_
              refine lv_iload_n hx hb dX0_add_92 rfl (lv_at hl 0 rfl) ?_
              refine lv_iconst (v := 1) hx hb dX0_add_93 (by decide) ?_
              refine iS (f := 6) (n := 8) X w (hg.in (by decide)) hg.sh (by rw [ezv47]; exact (vin_l zc28 zc37 (by decide))) dX0_add_94 (fun zs94 H locs ezs94 w => ?_)
              refine lv_iload_n hx hb dX0_add_95 rfl (lv_at hl 0 rfl) ?_
              change W _ _ _ _ _ _ _ _ _ _ _ _ _ _ _ (F0 m 96 ls _)
              exact t_i X w hr hlk dX0_add_96 (by replace ezs94 := ezs94.symm; subst ezs94; replace ezs87 := ezs87.symm; subst ezs87; replace ezs79 := ezs79.symm; subst ezs79; replace ezs71 := ezs71.symm; subst ezs71; replace ezs64 := ezs64.symm; subst ezs64; replace ezs55 := ezs55.symm; subst ezs55; replace ezv47 := ezv47.symm; subst ezv47; simp only [f_X0_add, if_neg zc2, if_pos zc6, if_neg zc15, if_neg zc21, if_neg zc28, if_pos zc37]) (by replace ezs94 := ezs94.symm; subst ezs94; replace ezs87 := ezs87.symm; subst ezs87; replace ezs79 := ezs79.symm; subst ezs79; replace ezs71 := ezs71.symm; subst ezs71; replace ezs64 := ezs64.symm; subst ezs64; replace ezs55 := ezs55.symm; subst ezs55; replace ezv47 := ezv47.symm; subst ezv47; simp only [g_X0_add, if_neg zc2, if_pos zc6, if_neg zc15, if_neg zc21, if_neg zc28, if_pos zc37])
            · -- 40
              refine lv_bipush (v := (-6)) hx hb dX0_add_40 (by decide) ?_
              exact t_i X w hr hlk dX0_add_42 (by simp only [f_X0_add, if_neg zc2, if_pos zc6, if_neg zc15, if_neg zc21, if_neg zc28, if_neg zc37]) (by simp only [g_X0_add, if_neg zc2, if_pos zc6, if_neg zc15, if_neg zc21, if_neg zc28, if_neg zc37])
    · -- 9
      refine lv_bipush (v := (-4)) hx hb dX0_add_9 (by decide) ?_
      exact t_i X w hr hlk dX0_add_11 (by simp only [f_X0_add, if_neg zc2, if_neg zc6]) (by simp only [g_X0_add, if_neg zc2, if_neg zc6])

noncomputable def f_X0_valuesOf (ρ : Gr) (x1 : Int32) : Nat :=
  if x1 = 0 then
    4
  else
    if x1 = 1 then
      5
    else
      if x1 = 2 then
        6
      else
        3
set_option maxRecDepth 100000 in
set_option maxHeartbeats 4000000 in
theorem c_X0_valuesOf {l : Launch} {G : GG} {σ : St} {g : Nat} {ρ : Gr} (hg : HG g)  (x1 : Int32) : MM l G yX0_valuesOf cX0_valuesOf 2 0 0 (some (.array .int)) [.ref (aa G g 1), .int x1] (setG σ g ρ) (Qr G (aa G g (f_X0_valuesOf ρ x1)) (setG σ g ρ)) := by
  refine MM.of (by decide) (Nat.le_of_ble_eq_true rfl) ?_
  intro p e s m below meth c ls X hr hlk w hl
  have hx := X.1.1
  have hb := X.1.2.1
  have hl : lv_has ls 2 [(0, .ref (aa G g 1)), (1, .int x1)] := hl
  refine lv_iload_n hx hb dX0_valuesOf_0 rfl (lv_at hl 1 rfl) ?_
  by_cases zc1_0 : x1 = 0
  · -- case 0
    refine lv_tableIn (off := 27) (tgt := 28) hx hb dX0_valuesOf_1 (by rw [zc1_0]; decide) (by rw [zc1_0]; decide) (by rw [zc1_0]; rfl) (by decide) ?_
    refine lv_aload_n hx hb dX0_valuesOf_28 rfl (lv_at hl 0 rfl) ?_
    refine gf0_22 hg X w dX0_valuesOf_29 ?_
    exact t_r X w hr hlk dX0_valuesOf_32 (by simp only [f_X0_valuesOf, if_pos zc1_0]) rfl
  · -- not 0
    by_cases zc1_1 : x1 = 1
    · -- case 1
      refine lv_tableIn (off := 32) (tgt := 33) hx hb dX0_valuesOf_1 (by rw [zc1_1]; decide) (by rw [zc1_1]; decide) (by rw [zc1_1]; rfl) (by decide) ?_
      refine lv_aload_n hx hb dX0_valuesOf_33 rfl (lv_at hl 0 rfl) ?_
      refine gf0_25 hg X w dX0_valuesOf_34 ?_
      exact t_r X w hr hlk dX0_valuesOf_37 (by simp only [f_X0_valuesOf, if_neg zc1_0, if_pos zc1_1]) rfl
    · -- not 1
      by_cases zc1_2 : x1 = 2
      · -- case 2
        refine lv_tableIn (off := 37) (tgt := 38) hx hb dX0_valuesOf_1 (by rw [zc1_2]; decide) (by rw [zc1_2]; decide) (by rw [zc1_2]; rfl) (by decide) ?_
        refine lv_aload_n hx hb dX0_valuesOf_38 rfl (lv_at hl 0 rfl) ?_
        refine gf0_28 hg X w dX0_valuesOf_39 ?_
        exact t_r X w hr hlk dX0_valuesOf_42 (by simp only [f_X0_valuesOf, if_neg zc1_0, if_neg zc1_1, if_pos zc1_2]) rfl
      · -- not 2
        refine lv_tableOut (tgt := 43) hx hb dX0_valuesOf_1 (by have hzc1_0 := lv_neT zc1_0 (a := 0) (by decide); have hzc1_1 := lv_neT zc1_1 (a := 1) (by decide); have hzc1_2 := lv_neT zc1_2 (a := 2) (by decide); omega) (by decide) ?_
        refine lv_aload_n hx hb dX0_valuesOf_43 rfl (lv_at hl 0 rfl) ?_
        refine gf0_19 hg X w dX0_valuesOf_44 ?_
        exact t_r X w hr hlk dX0_valuesOf_47 (by simp only [f_X0_valuesOf, if_neg zc1_0, if_neg zc1_1, if_neg zc1_2]) rfl

theorem vo_mem (ρ : Gr) (x : Int32) : (1, f_X0_valuesOf ρ x) ∈ cellsL := by
  refine HG1.in ?_
  unfold f_X0_valuesOf
  repeat' split
  all_goals decide
theorem vo_sh (ρ : Gr) (x : Int32) : sh 1 (f_X0_valuesOf ρ x) = .inr (8, false) := by
  unfold f_X0_valuesOf
  repeat' split
  all_goals rfl

noncomputable def f_X0_heapsOf (ρ : Gr) (x1 : Int32) : Nat :=
  if x1 = 0 then
    8
  else
    7
set_option maxRecDepth 100000 in
set_option maxHeartbeats 4000000 in
theorem c_X0_heapsOf {l : Launch} {G : GG} {σ : St} {g : Nat} {ρ : Gr} (hg : HG g)  (x1 : Int32) : MM l G yX0_heapsOf cX0_heapsOf 2 0 0 (some (.array .int)) [.ref (aa G g 1), .int x1] (setG σ g ρ) (Qr G (aa G g (f_X0_heapsOf ρ x1)) (setG σ g ρ)) := by
  refine MM.of (by decide) (Nat.le_of_ble_eq_true rfl) ?_
  intro p e s m below meth c ls X hr hlk w hl
  have hx := X.1.1
  have hb := X.1.2.1
  have hl : lv_has ls 2 [(0, .ref (aa G g 1)), (1, .int x1)] := hl
  refine lv_iload_n hx hb dX0_heapsOf_0 rfl (lv_at hl 1 rfl) ?_
  refine lv_if_eq (tgt := 11) hx hb dX0_heapsOf_1 (by decide) (fun zc1 => ?_) (fun zc1 => ?_)
  · -- 11
    refine lv_aload_n hx hb dX0_heapsOf_11 rfl (lv_at hl 0 rfl) ?_
    refine gf0_34 hg X w dX0_heapsOf_12 ?_
    exact t_r X w hr hlk dX0_heapsOf_15 (by simp only [f_X0_heapsOf, if_pos zc1]) rfl
  · -- 4
    refine lv_aload_n hx hb dX0_heapsOf_4 rfl (lv_at hl 0 rfl) ?_
    refine gf0_31 hg X w dX0_heapsOf_5 ?_
    refine lv_goto (tgt := 15) hx hb dX0_heapsOf_8 (by decide) ?_
    exact t_r X w hr hlk dX0_heapsOf_15 (by simp only [f_X0_heapsOf, if_neg zc1]) rfl

theorem ho_mem (ρ : Gr) (x : Int32) : (1, f_X0_heapsOf ρ x) ∈ cellsL := by
  refine HG1.in ?_
  unfold f_X0_heapsOf
  split
  all_goals decide
theorem ho_sh (ρ : Gr) (x : Int32) : sh 1 (f_X0_heapsOf ρ x) = .inr (16, false) := by
  unfold f_X0_heapsOf
  split
  all_goals rfl

noncomputable def f_X0_settledIn (ρ : Gr) (x1 : Int32) : Int32 :=
  if x1 < 0 then
    0
  else
    if x1 < 8 then
      (ρ 8 x1.toNatClampNeg) + (ρ 8 (8 + x1).toNatClampNeg)
    else
      0
set_option maxRecDepth 100000 in
set_option maxHeartbeats 4000000 in
theorem c_X0_settledIn {l : Launch} {G : GG} {σ : St} {g : Nat} {ρ : Gr} (hg : HG g)  (x1 : Int32) : MM l G yX0_settledIn cX0_settledIn 2 0 0 (some .int) [.ref (aa G g 1), .int x1] (setG σ g ρ) (Qi G (f_X0_settledIn ρ x1) (setG σ g ρ)) := by
  refine MM.of (by decide) (Nat.le_of_ble_eq_true rfl) ?_
  intro p e s m below meth c ls X hr hlk w hl
  have hx := X.1.1
  have hb := X.1.2.1
  have hl : lv_has ls 2 [(0, .ref (aa G g 1)), (1, .int x1)] := hl
  refine lv_iload_n hx hb dX0_settledIn_0 rfl (lv_at hl 1 rfl) ?_
  refine lv_if_lt (tgt := 10) hx hb dX0_settledIn_1 (by decide) (fun zc1 => ?_) (fun zc1 => ?_)
  · -- 10
    refine lv_iconst (v := 0) hx hb dX0_settledIn_10 (by decide) ?_
    exact t_i X w hr hlk dX0_settledIn_11 (by simp only [f_X0_settledIn, if_pos zc1]) rfl
  · -- 4
    refine lv_iload_n hx hb dX0_settledIn_4 rfl (lv_at hl 1 rfl) ?_
    refine lv_bipush (v := 8) hx hb dX0_settledIn_5 (by decide) ?_
    refine lv_icmp_lt (tgt := 12) hx hb dX0_settledIn_7 (by decide) (fun zc7 => ?_) (fun zc7 => ?_)
    · -- 12
      refine lv_aload_n hx hb dX0_settledIn_12 rfl (lv_at hl 0 rfl) ?_
      refine gf0_34 hg X w dX0_settledIn_13 ?_
      refine lv_iload_n hx hb dX0_settledIn_16 rfl (lv_at hl 1 rfl) ?_
      refine ia (f := 8) (n := 16) X w (hg.in (by decide)) hg.sh (vin_l zc1 zc7 (by decide)) dX0_settledIn_17 ?_
      refine lv_aload_n hx hb dX0_settledIn_18 rfl (lv_at hl 0 rfl) ?_
      refine gf0_34 hg X w dX0_settledIn_19 ?_
      refine lv_bipush (v := 8) hx hb dX0_settledIn_22 (by decide) ?_
      refine lv_iload_n hx hb dX0_settledIn_24 rfl (lv_at hl 1 rfl) ?_
      refine lv_iadd hx hb dX0_settledIn_25 ?_
      refine ia (f := 8) (n := 16) X w (hg.in (by decide)) hg.sh (vin_l8 zc1 zc7) dX0_settledIn_26 ?_
      refine lv_iadd hx hb dX0_settledIn_27 ?_
      change W _ _ _ _ _ _ _ _ _ _ _ _ _ _ _ (F0 m 28 ls _)
      exact t_i X w hr hlk dX0_settledIn_28 (by simp only [f_X0_settledIn, if_neg zc1, if_pos zc7]) rfl
    · -- 10
      refine lv_iconst (v := 0) hx hb dX0_settledIn_10 (by decide) ?_
      exact t_i X w hr hlk dX0_settledIn_11 (by simp only [f_X0_settledIn, if_neg zc1, if_neg zc7]) rfl

noncomputable def f_X0_depthOf (ρ : Gr) (x1 : Int32) : Int32 :=
  if x1 < 0 then
    0
  else
    if x1 < 8 then
      f_X6_depthAbove (f_X0_settledIn ρ x1) (ρ 2 x1.toNatClampNeg)
    else
      0
set_option maxRecDepth 100000 in
set_option maxHeartbeats 4000000 in
theorem c_X0_depthOf {l : Launch} {G : GG} {σ : St} {g : Nat} {ρ : Gr} (hg : HG g)  (x1 : Int32) : MM l G yX0_depthOf cX0_depthOf 2 2 34 (some .int) [.ref (aa G g 1), .int x1] (setG σ g ρ) (Qi G (f_X0_depthOf ρ x1) (setG σ g ρ)) := by
  refine MM.of (by decide) (Nat.le_of_ble_eq_true rfl) ?_
  intro p e s m below meth c ls X hr hlk w hl
  have hx := X.1.1
  have hb := X.1.2.1
  have hl : lv_has ls 2 [(0, .ref (aa G g 1)), (1, .int x1)] := hl
  refine lv_iload_n hx hb dX0_depthOf_0 rfl (lv_at hl 1 rfl) ?_
  refine lv_if_lt (tgt := 10) hx hb dX0_depthOf_1 (by decide) (fun zc1 => ?_) (fun zc1 => ?_)
  · -- 10
    refine lv_iconst (v := 0) hx hb dX0_depthOf_10 (by decide) ?_
    exact t_i X w hr hlk dX0_depthOf_11 (by simp only [f_X0_depthOf, if_pos zc1]) rfl
  · -- 4
    refine lv_iload_n hx hb dX0_depthOf_4 rfl (lv_at hl 1 rfl) ?_
    refine lv_bipush (v := 8) hx hb dX0_depthOf_5 (by decide) ?_
    refine lv_icmp_lt (tgt := 12) hx hb dX0_depthOf_7 (by decide) (fun zc7 => ?_) (fun zc7 => ?_)
    · -- 12
      refine lv_aload_n hx hb dX0_depthOf_12 rfl (lv_at hl 0 rfl) ?_
      refine lv_iload_n hx hb dX0_depthOf_13 rfl (lv_at hl 1 rfl) ?_
      refine k_i (rr_v (rest := []) X w mX0_settledIn kw476 (c_X0_settledIn hg x1) (hg.in (by decide)) hg.sh rfl ⟨Nat.le_of_ble_eq_true rfl, Nat.le_of_ble_eq_true rfl⟩ rfl hl.1 rfl (Nat.le_of_ble_eq_true rfl) dX0_depthOf_14 ⟨Nat.zero_le _, Nat.zero_le _⟩) w (fun H locs w => ?_)
      refine lv_aload_n hx hb dX0_depthOf_17 rfl (lv_at hl 0 rfl) ?_
      refine gf0_15 hg X w dX0_depthOf_18 ?_
      refine lv_iload_n hx hb dX0_depthOf_21 rfl (lv_at hl 1 rfl) ?_
      refine ia (f := 2) (n := 8) X w (hg.in (by decide)) hg.sh (vin_l zc1 zc7 (by decide)) dX0_depthOf_22 ?_
      refine k_i (rr_n (rest := []) X w mX6_depthAbove nw8 (c_X6_depthAbove (f_X0_settledIn ρ x1) (ρ 2 x1.toNatClampNeg)) ⟨Nat.le_of_ble_eq_true rfl, Nat.le_of_ble_eq_true rfl⟩ rfl hl.1 rfl (Nat.le_of_ble_eq_true rfl) dX0_depthOf_23 ⟨Nat.zero_le _, Nat.zero_le _⟩) w (fun H locs w => ?_)
      exact t_i X w hr hlk dX0_depthOf_26 (by simp only [f_X0_depthOf, if_neg zc1, if_pos zc7]) rfl
    · -- 10
      refine lv_iconst (v := 0) hx hb dX0_depthOf_10 (by decide) ?_
      exact t_i X w hr hlk dX0_depthOf_11 (by simp only [f_X0_depthOf, if_neg zc1, if_neg zc7]) rfl

noncomputable def f_X0_lackOf (ρ : Gr) (x1 : Int32) : Int32 :=
  if x1 < 0 then
    0
  else
    if x1 < 8 then
      (ρ 3 x1.toNatClampNeg) - (f_X6_depthAbove (f_X0_settledIn ρ x1) (ρ 2 x1.toNatClampNeg))
    else
      0
set_option maxRecDepth 100000 in
set_option maxHeartbeats 4000000 in
theorem c_X0_lackOf {l : Launch} {G : GG} {σ : St} {g : Nat} {ρ : Gr} (hg : HG g)  (x1 : Int32) : MM l G yX0_lackOf cX0_lackOf 2 2 34 (some .int) [.ref (aa G g 1), .int x1] (setG σ g ρ) (Qi G (f_X0_lackOf ρ x1) (setG σ g ρ)) := by
  refine MM.of (by decide) (Nat.le_of_ble_eq_true rfl) ?_
  intro p e s m below meth c ls X hr hlk w hl
  have hx := X.1.1
  have hb := X.1.2.1
  have hl : lv_has ls 2 [(0, .ref (aa G g 1)), (1, .int x1)] := hl
  refine lv_iload_n hx hb dX0_lackOf_0 rfl (lv_at hl 1 rfl) ?_
  refine lv_if_lt (tgt := 10) hx hb dX0_lackOf_1 (by decide) (fun zc1 => ?_) (fun zc1 => ?_)
  · -- 10
    refine lv_iconst (v := 0) hx hb dX0_lackOf_10 (by decide) ?_
    exact t_i X w hr hlk dX0_lackOf_11 (by simp only [f_X0_lackOf, if_pos zc1]) rfl
  · -- 4
    refine lv_iload_n hx hb dX0_lackOf_4 rfl (lv_at hl 1 rfl) ?_
    refine lv_bipush (v := 8) hx hb dX0_lackOf_5 (by decide) ?_
    refine lv_icmp_lt (tgt := 12) hx hb dX0_lackOf_7 (by decide) (fun zc7 => ?_) (fun zc7 => ?_)
    · -- 12
      refine lv_aload_n hx hb dX0_lackOf_12 rfl (lv_at hl 0 rfl) ?_
      refine gf0_19 hg X w dX0_lackOf_13 ?_
      refine lv_iload_n hx hb dX0_lackOf_16 rfl (lv_at hl 1 rfl) ?_
      refine ia (f := 3) (n := 8) X w (hg.in (by decide)) hg.sh (vin_l zc1 zc7 (by decide)) dX0_lackOf_17 ?_
      refine lv_aload_n hx hb dX0_lackOf_18 rfl (lv_at hl 0 rfl) ?_
      refine lv_iload_n hx hb dX0_lackOf_19 rfl (lv_at hl 1 rfl) ?_
      refine k_i (rr_v (rest := [.int (ρ 3 x1.toNatClampNeg)]) X w mX0_settledIn kw476 (c_X0_settledIn hg x1) (hg.in (by decide)) hg.sh rfl ⟨Nat.le_of_ble_eq_true rfl, Nat.le_of_ble_eq_true rfl⟩ rfl hl.1 rfl (Nat.le_of_ble_eq_true rfl) dX0_lackOf_20 ⟨Nat.zero_le _, Nat.zero_le _⟩) w (fun H locs w => ?_)
      refine lv_aload_n hx hb dX0_lackOf_23 rfl (lv_at hl 0 rfl) ?_
      refine gf0_15 hg X w dX0_lackOf_24 ?_
      refine lv_iload_n hx hb dX0_lackOf_27 rfl (lv_at hl 1 rfl) ?_
      refine ia (f := 2) (n := 8) X w (hg.in (by decide)) hg.sh (vin_l zc1 zc7 (by decide)) dX0_lackOf_28 ?_
      change W _ _ _ _ _ _ _ _ _ _ _ _ _ _ _ (F0 m 29 ls _)
      refine k_i (rr_n (rest := [.int (ρ 3 x1.toNatClampNeg)]) X w mX6_depthAbove nw8 (c_X6_depthAbove (f_X0_settledIn ρ x1) (ρ 2 x1.toNatClampNeg)) ⟨Nat.le_of_ble_eq_true rfl, Nat.le_of_ble_eq_true rfl⟩ rfl hl.1 rfl (Nat.le_of_ble_eq_true rfl) dX0_lackOf_29 ⟨Nat.zero_le _, Nat.zero_le _⟩) w (fun H locs w => ?_)
      refine lv_isub hx hb dX0_lackOf_32 ?_
      exact t_i X w hr hlk dX0_lackOf_33 (by simp only [f_X0_lackOf, if_neg zc1, if_pos zc7]) rfl
    · -- 10
      refine lv_iconst (v := 0) hx hb dX0_lackOf_10 (by decide) ?_
      exact t_i X w hr hlk dX0_lackOf_11 (by simp only [f_X0_lackOf, if_neg zc1, if_neg zc7]) rfl

noncomputable def b_X0_someLack_2 (ρ : Gr)  (k : Nat) (v : Unit) : Bool × Nat × Int32 × Unit :=
  if (ρ 1 0) ≤ (nI k) then
    (false, 26, 0, ())
  else
    if (f_X0_lackOf ρ (nI k)) ≤ 0 then
      (true, 0, 0, ())
    else
      (false, 19, 1, ())
noncomputable def l_X0_someLack_2 (ρ : Gr)  (v0 : Unit) : Nat × Int32 × Unit   := wl (b_X0_someLack_2 ρ) (nn ((ρ 1 0).toNatClampNeg + 1)) 0 v0
noncomputable def f_X0_someLack (ρ : Gr)  : Int32 :=
  let zl2 : Nat × Int32 × Unit := (l_X0_someLack_2 ρ ())
  if zl2.1 = 26 then
    0
  else
    1
set_option maxRecDepth 100000 in
set_option maxHeartbeats 4000000 in
theorem lp_X0_someLack_2 {l : Launch} {G : GG} {p : Program} {e : Env} {s : State} {m : MethodId} {args : Array Value} {below : List Frame} {meth : Method} {c : Code} {Q : State → Prop} {σ : St} {g : Nat} (hg : HG g) {ρ : Gr} (X : Cx p m c cX0_someLack 2 s args RX0 G)   (z : Nat × Int32 × Unit)
    (kk26 : z.1 = 26 → ∀ (H : Heap) (locs : List Loc) (ls : Array Slot), Wh G s σ g ρ H locs → lv_has ls 2 [(0, .ref (aa G g 1))] → W p l e (rmv 3 55) s m args below meth c H locs 0 0 Q (F0 m 26 ls []))
    (kk19 : z.1 = 19 → ∀ (H : Heap) (locs : List Loc) (ls : Array Slot), Wh G s σ g ρ H locs → lv_has ls 2 [(0, .ref (aa G g 1))] → W p l e (rmv 3 55) s m args below meth c H locs 0 0 Q (F0 m 19 ls [.int 1])) :
    ∀ (n k : Nat) (v : Unit), k ≤ (ρ 1 0).toNatClampNeg → (ρ 1 0).toNatClampNeg - k < n → wl (b_X0_someLack_2 ρ) n k v = z → ∀ (H : Heap) (locs : List Loc) (ls : Array Slot), Wh G s σ g ρ H locs → lv_has ls 2 [(0, .ref (aa G g 1)), (1, .int (nI k))] → W p l e (rmv 3 55) s m args below meth c H locs 0 0 Q (F0 m 2 ls []) := by
  have hx := X.1.1
  have hb := X.1.2.1
  intro n
  induction n with
  | zero => intro k v _ h; omega
  | succ n ih =>
    intro k v hkN hn hz H locs ls w hl
    refine lv_iload_n hx hb dX0_someLack_2 rfl (lv_at hl 1 rfl) ?_
    refine lv_aload_n hx hb dX0_someLack_3 rfl (lv_at hl 0 rfl) ?_
    refine gf0_9 hg X w dX0_someLack_4 ?_
    refine lv_icmp_ge (tgt := 26) hx hb dX0_someLack_7 (by decide) (fun zc7 => ?_) (fun zc7 => ?_)
    · -- 26
      have hz1 : z = ((26, 0, ()) : Nat × Int32 × Unit) := by rw [← hz]; exact wl_out (by simp only [b_X0_someLack_2, if_pos zc7])
      subst hz1
      exact kk26 rfl _ _ _ w (lv_sub hl [0] rfl)
    · -- 10
      have hk : k < (ρ 1 0).toNatClampNeg := (lp_lt hkN zc7)
      refine lv_aload_n hx hb dX0_someLack_10 rfl (lv_at hl 0 rfl) ?_
      refine lv_iload_n hx hb dX0_someLack_11 rfl (lv_at hl 1 rfl) ?_
      refine k_i (rr_v (rest := []) X w mX0_lackOf kw519 (c_X0_lackOf hg (nI k)) (hg.in (by decide)) hg.sh rfl ⟨Nat.le_of_ble_eq_true rfl, Nat.le_of_ble_eq_true rfl⟩ rfl hl.1 rfl (Nat.le_of_ble_eq_true rfl) dX0_someLack_12 ⟨Nat.zero_le _, Nat.zero_le _⟩) w (fun H locs w => ?_)
      refine lv_if_le (tgt := 20) hx hb dX0_someLack_15 (by decide) (fun zc15 => ?_) (fun zc15 => ?_)
      · -- 20
        refine lv_iinc (v := nI (k + 1)) (lv' := [(1, .int (nI (k + 1))), (0, .ref (aa G g 1))]) hx hb dX0_someLack_20 hl (k := 1) rfl (nI_1 _) (by decide) rfl (fun ls hl => ?_)
        refine lv_goto (tgt := 2) hx hb dX0_someLack_23 (by decide) ?_
        have hk : k < (ρ 1 0).toNatClampNeg := (lp_lt hkN zc7)
        exact ih (k + 1) () (by omega) (by omega) (by rw [← hz]; exact (wl_go (t := 0) (r := 0) (by simp only [b_X0_someLack_2, if_neg zc7, if_pos zc15])).symm)  _ _ _ w (lv_sub hl [1, 0] rfl)
      · -- 18
        refine lv_iconst (v := 1) hx hb dX0_someLack_18 (by decide) ?_
        have hz1 : z = ((19, 1, ()) : Nat × Int32 × Unit) := by rw [← hz]; exact wl_out (by simp only [b_X0_someLack_2, if_neg zc7, if_neg zc15])
        subst hz1
        exact kk19 rfl _ _ _ w (lv_sub hl [0] rfl)
set_option maxRecDepth 100000 in
set_option maxHeartbeats 4000000 in
theorem c_X0_someLack {l : Launch} {G : GG} {σ : St} {g : Nat} {ρ : Gr} (hg : HG g)   : MM l G yX0_someLack cX0_someLack 2 3 55 (some .boolean) [.ref (aa G g 1)] (setG σ g ρ) (Qi G (f_X0_someLack ρ) (setG σ g ρ)) := by
  refine MM.of (by decide) (Nat.le_of_ble_eq_true rfl) ?_
  intro p e s m below meth c ls X hr hlk w hl
  have hx := X.1.1
  have hb := X.1.2.1
  have hl : lv_has ls 2 [(0, .ref (aa G g 1))] := hl
  refine lv_iconst (v := 0) hx hb dX0_someLack_0 (by decide) ?_
  refine lv_istore_n (lv' := [(1, .int 0), (0, .ref (aa G g 1))]) hx hb dX0_someLack_1 rfl hl (by decide) rfl (fun ls hl => ?_)
  obtain ⟨zl2, ezl2⟩ : ∃ y : Nat × Int32 × Unit, y = (l_X0_someLack_2 ρ ()) := ⟨_, rfl⟩
  refine lp_X0_someLack_2 hg X   zl2 (fun hz26 H locs ls w hl => ?_) (fun hz19 H locs ls w hl => ?_) (nn ((ρ 1 0).toNatClampNeg + 1)) 0 () (Nat.zero_le _) (by rw [nn_eq]; exact Nat.lt_succ_of_le (Nat.sub_le _ _)) ezl2.symm  _ _ _ w (lv_sub hl [1, 0] rfl)
  · -- leaves at 26
    refine lv_iconst (v := 0) hx hb dX0_someLack_26 (by decide) ?_
    exact t_z X w hr hlk isB0.n dX0_someLack_27 (by replace ezl2 := ezl2.symm; subst ezl2; simp only [f_X0_someLack, if_pos hz26]) rfl
  · -- leaves at 19
    have hn26 : ¬ zl2.1 = 26 := by rw [hz19]; decide
    exact t_z X w hr hlk isB1.n dX0_someLack_19 (by replace ezl2 := ezl2.symm; subst ezl2; simp only [f_X0_someLack, if_neg hn26]) rfl

noncomputable def b_X0_feetLacked_4 (ρ : Gr)  (k : Nat) (v : Int32) : Int32 :=
  let zv23 : Int32 := v + (if 0 < (f_X0_lackOf ρ (nI k)) then (f_X0_lackOf ρ (nI k)) else 0)
  zv23
noncomputable def l_X0_feetLacked_4 (ρ : Gr)  (v0 : Int32) : Int32 := itn (b_X0_feetLacked_4 ρ) (ρ 1 0).toNatClampNeg v0
noncomputable def f_X0_feetLacked (ρ : Gr)  : Int32 :=
  let zl4 : Int32 := (l_X0_feetLacked_4 ρ 0)
  zl4
set_option maxRecDepth 100000 in
set_option maxHeartbeats 4000000 in
theorem lp_X0_feetLacked_4 {l : Launch} {G : GG} {p : Program} {e : Env} {s : State} {m : MethodId} {args : Array Value} {below : List Frame} {meth : Method} {c : Code} {Q : State → Prop} {σ : St} {g : Nat} (hg : HG g) {ρ : Gr} (X : Cx p m c cX0_feetLacked 3 s args RX0 G)  (v0 : Int32) 
    (kk : ∀ (H : Heap) (locs : List Loc) (ls : Array Slot), Wh G s σ g ρ H locs → lv_has ls 3 [(0, .ref (aa G g 1)), (1, .int (l_X0_feetLacked_4 ρ v0)), (2, .int (nI ((ρ 1 0).toNatClampNeg)))] → W p l e (rmv 3 55) s m args below meth c H locs 0 0 Q (F0 m 30 ls [])) :
    ∀ (n k : Nat) (v : Int32), k ≤ (ρ 1 0).toNatClampNeg → (ρ 1 0).toNatClampNeg - k < n → v = itn (b_X0_feetLacked_4 ρ) k v0 → ∀ (H : Heap) (locs : List Loc) (ls : Array Slot), Wh G s σ g ρ H locs → lv_has ls 3 [(0, .ref (aa G g 1)), (1, .int v), (2, .int (nI k))] → W p l e (rmv 3 55) s m args below meth c H locs 0 0 Q (F0 m 4 ls []) := by
  have hx := X.1.1
  have hb := X.1.2.1
  intro n
  induction n with
  | zero => intro k v _ h; omega
  | succ n ih =>
    intro k v hkN hn ev H locs ls w hl
    refine lv_iload_n hx hb dX0_feetLacked_4 rfl (lv_at hl 2 rfl) ?_
    refine lv_aload_n hx hb dX0_feetLacked_5 rfl (lv_at hl 0 rfl) ?_
    refine gf0_9 hg X w dX0_feetLacked_6 ?_
    refine lv_icmp_ge (tgt := 30) hx hb dX0_feetLacked_9 (by decide) (fun zc9 => ?_) (fun zc9 => ?_)
    · -- 30
      have hkE : k = (ρ 1 0).toNatClampNeg := lp_eq hkN zc9
      have ev2 : l_X0_feetLacked_4 ρ v0 = v := by unfold l_X0_feetLacked_4; rw [← hkE]; exact ev.symm
      rw [ev2] at kk
      rw [hkE] at hl
      exact kk _ _ _ w (lv_sub hl [0, 1, 2] rfl)
    · -- 12
      have hk : k < (ρ 1 0).toNatClampNeg := lp_lt hkN zc9
      refine lv_iload_n hx hb dX0_feetLacked_12 rfl (lv_at hl 1 rfl) ?_
      refine lv_iconst (v := 0) hx hb dX0_feetLacked_13 (by decide) ?_
      refine lv_aload_n hx hb dX0_feetLacked_14 rfl (lv_at hl 0 rfl) ?_
      refine lv_iload_n hx hb dX0_feetLacked_15 rfl (lv_at hl 2 rfl) ?_
      refine k_i (rr_v (rest := [.int 0, .int v]) X w mX0_lackOf kw519 (c_X0_lackOf hg (nI k)) (hg.in (by decide)) hg.sh rfl ⟨Nat.le_of_ble_eq_true rfl, Nat.le_of_ble_eq_true rfl⟩ rfl hl.1 rfl (Nat.le_of_ble_eq_true rfl) dX0_feetLacked_16 ⟨Nat.zero_le _, Nat.zero_le _⟩) w (fun H locs w => ?_)
      refine mmax X hl.1 kw600 (Nat.le_of_ble_eq_true rfl) (Nat.le_of_ble_eq_true rfl) (Nat.zero_le _) (Nat.zero_le _) dX0_feetLacked_19 ?_
      refine lv_iadd hx hb dX0_feetLacked_22 ?_
      refine lv_topi (fun zv23 ezv23 => ?_)
      refine lv_istore_n (lv' := [(1, .int zv23), (0, .ref (aa G g 1)), (2, .int (nI k))]) hx hb dX0_feetLacked_23 rfl hl (by decide) rfl (fun ls hl => ?_)
      refine lv_iinc (v := nI (k + 1)) (lv' := [(2, .int (nI (k + 1))), (1, .int zv23), (0, .ref (aa G g 1))]) hx hb dX0_feetLacked_24 hl (k := 2) rfl (nI_1 _) (by decide) rfl (fun ls hl => ?_)
      refine lv_goto (tgt := 4) hx hb dX0_feetLacked_27 (by decide) ?_
      exact ih (k + 1) zv23 (by omega) (by omega) (by replace ezv23 := ezv23.symm; subst ezv23; simp only [itn, ← ev, b_X0_feetLacked_4])  _ _ _ w (lv_sub hl [2, 1, 0] rfl)
set_option maxRecDepth 100000 in
set_option maxHeartbeats 4000000 in
theorem c_X0_feetLacked {l : Launch} {G : GG} {σ : St} {g : Nat} {ρ : Gr} (hg : HG g)   : MM l G yX0_feetLacked cX0_feetLacked 3 3 55 (some .int) [.ref (aa G g 1)] (setG σ g ρ) (Qi G (f_X0_feetLacked ρ) (setG σ g ρ)) := by
  refine MM.of (by decide) (Nat.le_of_ble_eq_true rfl) ?_
  intro p e s m below meth c ls X hr hlk w hl
  have hx := X.1.1
  have hb := X.1.2.1
  have hl : lv_has ls 3 [(0, .ref (aa G g 1))] := hl
  refine lv_iconst (v := 0) hx hb dX0_feetLacked_0 (by decide) ?_
  refine lv_istore_n (lv' := [(1, .int 0), (0, .ref (aa G g 1))]) hx hb dX0_feetLacked_1 rfl hl (by decide) rfl (fun ls hl => ?_)
  refine lv_iconst (v := 0) hx hb dX0_feetLacked_2 (by decide) ?_
  refine lv_istore_n (lv' := [(2, .int 0), (1, .int 0), (0, .ref (aa G g 1))]) hx hb dX0_feetLacked_3 rfl hl (by decide) rfl (fun ls hl => ?_)
  refine lp_X0_feetLacked_4 hg X  0  (fun H locs ls w hl => ?_) ((ρ 1 0).toNatClampNeg + 1) 0 _ (Nat.zero_le _) (Nat.lt_succ_of_le (Nat.sub_le _ _)) rfl  _ _ _ w (lv_sub hl [2, 1, 0] rfl)
  obtain ⟨zl4, ezl4⟩ : ∃ y : Int32, y = (l_X0_feetLacked_4 ρ 0) := ⟨_, rfl⟩
  rw [← ezl4] at hl
  refine lv_iload_n hx hb dX0_feetLacked_30 rfl (lv_at hl 1 rfl) ?_
  exact t_i X w hr hlk dX0_feetLacked_31 (by replace ezl4 := ezl4.symm; subst ezl4; simp only [f_X0_feetLacked]) rfl

noncomputable def b_X0_priceOfLacks_4 (ρ : Gr)  (k : Nat) (v : Int64) : Int64 :=
  let zv38 : Int64 := v + (((if 0 < (f_X0_lackOf ρ (nI k)) then (f_X0_lackOf ρ (nI k)) else 0).toInt64) * ((ρ 6 (nI k).toNatClampNeg).toInt64))
  zv38
noncomputable def l_X0_priceOfLacks_4 (ρ : Gr)  (v0 : Int64) : Int64 := itn (b_X0_priceOfLacks_4 ρ) (ρ 1 0).toNatClampNeg v0
noncomputable def f_X0_priceOfLacks (ρ : Gr)  : Int64 :=
  let zl4 : Int64 := (l_X0_priceOfLacks_4 ρ 0)
  zl4
set_option maxRecDepth 100000 in
set_option maxHeartbeats 4000000 in
theorem lp_X0_priceOfLacks_4 {l : Launch} {G : GG} {p : Program} {e : Env} {s : State} {m : MethodId} {args : Array Value} {below : List Frame} {meth : Method} {c : Code} {Q : State → Prop} {σ : St} {g : Nat} (hg : HG g) {ρ : Gr} (X : Cx p m c cX0_priceOfLacks 4 s args RX0 G)  (v0 : Int64) (hn : (ρ 1 0).toNatClampNeg ≤ 8)
    (kk : ∀ (H : Heap) (locs : List Loc) (ls : Array Slot), Wh G s σ g ρ H locs → lv_has ls 4 [(0, .ref (aa G g 1)), (1, .long (l_X0_priceOfLacks_4 ρ v0)), (3, .int (nI ((ρ 1 0).toNatClampNeg)))] → W p l e (rmv 3 55) s m args below meth c H locs 0 0 Q (F0 m 45 ls [])) :
    ∀ (n k : Nat) (v : Int64), k ≤ (ρ 1 0).toNatClampNeg → (ρ 1 0).toNatClampNeg - k < n → v = itn (b_X0_priceOfLacks_4 ρ) k v0 → ∀ (H : Heap) (locs : List Loc) (ls : Array Slot), Wh G s σ g ρ H locs → lv_has ls 4 [(0, .ref (aa G g 1)), (1, .long v), (3, .int (nI k))] → W p l e (rmv 3 55) s m args below meth c H locs 0 0 Q (F0 m 4 ls []) := by
  have hx := X.1.1
  have hb := X.1.2.1
  intro n
  induction n with
  | zero => intro k v _ h; omega
  | succ n ih =>
    intro k v hkN hn ev H locs ls w hl
    refine lv_iload_n hx hb dX0_priceOfLacks_4 rfl (lv_at hl 2 rfl) ?_
    refine lv_aload_n hx hb dX0_priceOfLacks_5 rfl (lv_at hl 0 rfl) ?_
    refine gf0_9 hg X w dX0_priceOfLacks_6 ?_
    refine lv_icmp_ge (tgt := 45) hx hb dX0_priceOfLacks_9 (by decide) (fun zc9 => ?_) (fun zc9 => ?_)
    · -- 45
      have hkE : k = (ρ 1 0).toNatClampNeg := lp_eq hkN zc9
      have ev2 : l_X0_priceOfLacks_4 ρ v0 = v := by unfold l_X0_priceOfLacks_4; rw [← hkE]; exact ev.symm
      rw [ev2] at kk
      rw [hkE] at hl
      exact kk _ _ _ w (lv_sub hl [0, 1, 2] rfl)
    · -- 12
      have hk : k < (ρ 1 0).toNatClampNeg := lp_lt hkN zc9
      refine lv_iload_n hx hb dX0_priceOfLacks_12 rfl (lv_at hl 2 rfl) ?_
      refine lv_bipush (v := 8) hx hb dX0_priceOfLacks_13 (by decide) ?_
      refine lv_icmp_ge (tgt := 45) hx hb dX0_priceOfLacks_15 (by decide) (fun zc15 => absurd zc15 (kn8 (by omega))) (fun _ => ?_)
      refine lv_lload_n hx hb dX0_priceOfLacks_18 rfl (lv_at hl 1 rfl) ?_
      refine lv_iconst (v := 0) hx hb dX0_priceOfLacks_19 (by decide) ?_
      refine lv_aload_n hx hb dX0_priceOfLacks_20 rfl (lv_at hl 0 rfl) ?_
      refine lv_iload_n hx hb dX0_priceOfLacks_21 rfl (lv_at hl 2 rfl) ?_
      refine k_i (rr_v (rest := [.int 0, .long v]) X w mX0_lackOf kw519 (c_X0_lackOf hg (nI k)) (hg.in (by decide)) hg.sh rfl ⟨Nat.le_of_ble_eq_true rfl, Nat.le_of_ble_eq_true rfl⟩ rfl hl.1 rfl (Nat.le_of_ble_eq_true rfl) dX0_priceOfLacks_22 ⟨Nat.zero_le _, Nat.zero_le _⟩) w (fun H locs w => ?_)
      refine mmax X hl.1 kw600 (Nat.le_of_ble_eq_true rfl) (Nat.le_of_ble_eq_true rfl) (Nat.zero_le _) (Nat.zero_le _) dX0_priceOfLacks_25 ?_
      refine lv_i2l hx hb dX0_priceOfLacks_28 rfl ?_
      refine lv_aload_n hx hb dX0_priceOfLacks_29 rfl (lv_at hl 0 rfl) ?_
      change W _ _ _ _ _ _ _ _ _ _ _ _ _ _ _ (F0 m 30 ls _)
      refine gf0_28 hg X w dX0_priceOfLacks_30 ?_
      refine lv_iload_n hx hb dX0_priceOfLacks_33 rfl (lv_at hl 2 rfl) ?_
      refine ia (f := 6) (n := 8) X w (hg.in (by decide)) hg.sh (vp_in_nI (by omega) (by decide)) dX0_priceOfLacks_34 ?_
      refine lv_i2l hx hb dX0_priceOfLacks_35 rfl ?_
      refine lv_lmul hx hb dX0_priceOfLacks_36 ?_
      refine lv_ladd hx hb dX0_priceOfLacks_37 ?_
      refine lv_topl (fun zv38 ezv38 => ?_)
      refine lv_lstore_n (lv' := [(1, .long zv38), (0, .ref (aa G g 1)), (3, .int (nI k))]) hx hb dX0_priceOfLacks_38 rfl hl (by decide) rfl (fun ls hl => ?_)
      refine lv_iinc (v := nI (k + 1)) (lv' := [(3, .int (nI (k + 1))), (1, .long zv38), (0, .ref (aa G g 1))]) hx hb dX0_priceOfLacks_39 hl (k := 2) rfl (nI_1 _) (by decide) rfl (fun ls hl => ?_)
      refine lv_goto (tgt := 4) hx hb dX0_priceOfLacks_42 (by decide) ?_
      exact ih (k + 1) zv38 (by omega) (by omega) (by replace ezv38 := ezv38.symm; subst ezv38; simp only [itn, ← ev, b_X0_priceOfLacks_4])  _ _ _ w (lv_sub hl [2, 1, 0] rfl)
set_option maxRecDepth 100000 in
set_option maxHeartbeats 4000000 in
theorem c_X0_priceOfLacks {l : Launch} {G : GG} {σ : St} {g : Nat} {ρ : Gr} (hg : HG g)  (hn : (ρ 1 0).toNatClampNeg ≤ 8) : MM l G yX0_priceOfLacks cX0_priceOfLacks 4 3 55 (some .long) [.ref (aa G g 1)] (setG σ g ρ) (Ql G (f_X0_priceOfLacks ρ) (setG σ g ρ)) := by
  refine MM.of (by decide) (Nat.le_of_ble_eq_true rfl) ?_
  intro p e s m below meth c ls X hr hlk w hl
  have hx := X.1.1
  have hb := X.1.2.1
  have hl : lv_has ls 4 [(0, .ref (aa G g 1))] := hl
  refine lv_lconst (v := 0) hx hb dX0_priceOfLacks_0 (by decide) ?_
  refine lv_lstore_n (lv' := [(1, .long 0), (0, .ref (aa G g 1))]) hx hb dX0_priceOfLacks_1 rfl hl (by decide) rfl (fun ls hl => ?_)
  refine lv_iconst (v := 0) hx hb dX0_priceOfLacks_2 (by decide) ?_
  refine lv_istore_n (lv' := [(3, .int 0), (1, .long 0), (0, .ref (aa G g 1))]) hx hb dX0_priceOfLacks_3 rfl hl (by decide) rfl (fun ls hl => ?_)
  refine lp_X0_priceOfLacks_4 hg X  0 (by assumption) (fun H locs ls w hl => ?_) ((ρ 1 0).toNatClampNeg + 1) 0 _ (Nat.zero_le _) (Nat.lt_succ_of_le (Nat.sub_le _ _)) rfl  _ _ _ w (lv_sub hl [2, 1, 0] rfl)
  obtain ⟨zl4, ezl4⟩ : ∃ y : Int64, y = (l_X0_priceOfLacks_4 ρ 0) := ⟨_, rfl⟩
  rw [← ezl4] at hl
  refine lv_lload_n hx hb dX0_priceOfLacks_45 rfl (lv_at hl 1 rfl) ?_
  exact t_l X w hr hlk dX0_priceOfLacks_46 (by replace ezl4 := ezl4.symm; subst ezl4; simp only [f_X0_priceOfLacks]) rfl

noncomputable def b_X0_settledInAll_4 (ρ : Gr)  (k : Nat) (v : Int32) : Int32 :=
  let zv19 : Int32 := v + (f_X0_settledIn ρ (nI k))
  zv19
noncomputable def l_X0_settledInAll_4 (ρ : Gr)  (v0 : Int32) : Int32 := itn (b_X0_settledInAll_4 ρ) (ρ 1 0).toNatClampNeg v0
noncomputable def f_X0_settledInAll (ρ : Gr)  : Int32 :=
  let zl4 : Int32 := (l_X0_settledInAll_4 ρ 0)
  zl4
set_option maxRecDepth 100000 in
set_option maxHeartbeats 4000000 in
theorem lp_X0_settledInAll_4 {l : Launch} {G : GG} {p : Program} {e : Env} {s : State} {m : MethodId} {args : Array Value} {below : List Frame} {meth : Method} {c : Code} {Q : State → Prop} {σ : St} {g : Nat} (hg : HG g) {ρ : Gr} (X : Cx p m c cX0_settledInAll 3 s args RX0 G)  (v0 : Int32) 
    (kk : ∀ (H : Heap) (locs : List Loc) (ls : Array Slot), Wh G s σ g ρ H locs → lv_has ls 3 [(0, .ref (aa G g 1)), (1, .int (l_X0_settledInAll_4 ρ v0)), (2, .int (nI ((ρ 1 0).toNatClampNeg)))] → W p l e (rmv 1 21) s m args below meth c H locs 0 0 Q (F0 m 26 ls [])) :
    ∀ (n k : Nat) (v : Int32), k ≤ (ρ 1 0).toNatClampNeg → (ρ 1 0).toNatClampNeg - k < n → v = itn (b_X0_settledInAll_4 ρ) k v0 → ∀ (H : Heap) (locs : List Loc) (ls : Array Slot), Wh G s σ g ρ H locs → lv_has ls 3 [(0, .ref (aa G g 1)), (1, .int v), (2, .int (nI k))] → W p l e (rmv 1 21) s m args below meth c H locs 0 0 Q (F0 m 4 ls []) := by
  have hx := X.1.1
  have hb := X.1.2.1
  intro n
  induction n with
  | zero => intro k v _ h; omega
  | succ n ih =>
    intro k v hkN hn ev H locs ls w hl
    refine lv_iload_n hx hb dX0_settledInAll_4 rfl (lv_at hl 2 rfl) ?_
    refine lv_aload_n hx hb dX0_settledInAll_5 rfl (lv_at hl 0 rfl) ?_
    refine gf0_9 hg X w dX0_settledInAll_6 ?_
    refine lv_icmp_ge (tgt := 26) hx hb dX0_settledInAll_9 (by decide) (fun zc9 => ?_) (fun zc9 => ?_)
    · -- 26
      have hkE : k = (ρ 1 0).toNatClampNeg := lp_eq hkN zc9
      have ev2 : l_X0_settledInAll_4 ρ v0 = v := by unfold l_X0_settledInAll_4; rw [← hkE]; exact ev.symm
      rw [ev2] at kk
      rw [hkE] at hl
      exact kk _ _ _ w (lv_sub hl [0, 1, 2] rfl)
    · -- 12
      have hk : k < (ρ 1 0).toNatClampNeg := lp_lt hkN zc9
      refine lv_iload_n hx hb dX0_settledInAll_12 rfl (lv_at hl 1 rfl) ?_
      refine lv_aload_n hx hb dX0_settledInAll_13 rfl (lv_at hl 0 rfl) ?_
      refine lv_iload_n hx hb dX0_settledInAll_14 rfl (lv_at hl 2 rfl) ?_
      refine k_i (rr_v (rest := [.int v]) X w mX0_settledIn kw476 (c_X0_settledIn hg (nI k)) (hg.in (by decide)) hg.sh rfl ⟨Nat.le_of_ble_eq_true rfl, Nat.le_of_ble_eq_true rfl⟩ rfl hl.1 rfl (Nat.le_of_ble_eq_true rfl) dX0_settledInAll_15 ⟨Nat.zero_le _, Nat.zero_le _⟩) w (fun H locs w => ?_)
      refine lv_iadd hx hb dX0_settledInAll_18 ?_
      refine lv_topi (fun zv19 ezv19 => ?_)
      refine lv_istore_n (lv' := [(1, .int zv19), (0, .ref (aa G g 1)), (2, .int (nI k))]) hx hb dX0_settledInAll_19 rfl hl (by decide) rfl (fun ls hl => ?_)
      refine lv_iinc (v := nI (k + 1)) (lv' := [(2, .int (nI (k + 1))), (1, .int zv19), (0, .ref (aa G g 1))]) hx hb dX0_settledInAll_20 hl (k := 2) rfl (nI_1 _) (by decide) rfl (fun ls hl => ?_)
      refine lv_goto (tgt := 4) hx hb dX0_settledInAll_23 (by decide) ?_
      exact ih (k + 1) zv19 (by omega) (by omega) (by replace ezv19 := ezv19.symm; subst ezv19; simp only [itn, ← ev, b_X0_settledInAll_4])  _ _ _ w (lv_sub hl [2, 1, 0] rfl)
set_option maxRecDepth 100000 in
set_option maxHeartbeats 4000000 in
theorem c_X0_settledInAll {l : Launch} {G : GG} {σ : St} {g : Nat} {ρ : Gr} (hg : HG g)   : MM l G yX0_settledInAll cX0_settledInAll 3 1 21 (some .int) [.ref (aa G g 1)] (setG σ g ρ) (Qi G (f_X0_settledInAll ρ) (setG σ g ρ)) := by
  refine MM.of (by decide) (Nat.le_of_ble_eq_true rfl) ?_
  intro p e s m below meth c ls X hr hlk w hl
  have hx := X.1.1
  have hb := X.1.2.1
  have hl : lv_has ls 3 [(0, .ref (aa G g 1))] := hl
  refine lv_iconst (v := 0) hx hb dX0_settledInAll_0 (by decide) ?_
  refine lv_istore_n (lv' := [(1, .int 0), (0, .ref (aa G g 1))]) hx hb dX0_settledInAll_1 rfl hl (by decide) rfl (fun ls hl => ?_)
  refine lv_iconst (v := 0) hx hb dX0_settledInAll_2 (by decide) ?_
  refine lv_istore_n (lv' := [(2, .int 0), (1, .int 0), (0, .ref (aa G g 1))]) hx hb dX0_settledInAll_3 rfl hl (by decide) rfl (fun ls hl => ?_)
  refine lp_X0_settledInAll_4 hg X  0  (fun H locs ls w hl => ?_) ((ρ 1 0).toNatClampNeg + 1) 0 _ (Nat.zero_le _) (Nat.lt_succ_of_le (Nat.sub_le _ _)) rfl  _ _ _ w (lv_sub hl [2, 1, 0] rfl)
  obtain ⟨zl4, ezl4⟩ : ∃ y : Int32, y = (l_X0_settledInAll_4 ρ 0) := ⟨_, rfl⟩
  rw [← ezl4] at hl
  refine lv_iload_n hx hb dX0_settledInAll_26 rfl (lv_at hl 1 rfl) ?_
  exact t_i X w hr hlk dX0_settledInAll_27 (by replace ezl4 := ezl4.symm; subst ezl4; simp only [f_X0_settledInAll]) rfl

noncomputable def b_X0_tonsInSet_5 (ρ : Gr) (y1 : Int32) (y2 : Int32) (k : Nat) (v : Int32) : Int32 :=
  if ((y1 >>> ((nI k) &&& 31)) &&& 1) = 1 then
    if (f_X6_isStuff y2) = 0 then
      v
    else
      let zv37 : Int32 := f_X6_heapOf (nI k) y2
      let zv56 : Int32 := v + ((ρ 7 zv37.toNatClampNeg) + (ρ 8 zv37.toNatClampNeg))
      zv56
  else
    v
noncomputable def l_X0_tonsInSet_5 (ρ : Gr) (y1 : Int32) (y2 : Int32) (v0 : Int32) : Int32 := itn (b_X0_tonsInSet_5 ρ y1 y2) (ρ 1 0).toNatClampNeg v0
noncomputable def f_X0_tonsInSet (ρ : Gr) (x1 : Int32) (x2 : Int32) : Int32 :=
  let zl5 : Int32 := (l_X0_tonsInSet_5 ρ x1 x2 0)
  zl5
set_option maxRecDepth 100000 in
set_option maxHeartbeats 4000000 in
theorem lp_X0_tonsInSet_5 {l : Launch} {G : GG} {p : Program} {e : Env} {s : State} {m : MethodId} {args : Array Value} {below : List Frame} {meth : Method} {c : Code} {Q : State → Prop} {σ : St} {g : Nat} (hg : HG g) {ρ : Gr} (X : Cx p m c cX0_tonsInSet 6 s args RX0 G) (y1 : Int32) (y2 : Int32) (v0 : Int32) 
    (kk : ∀ (H : Heap) (locs : List Loc) (ls : Array Slot), Wh G s σ g ρ H locs → lv_has ls 6 [(0, .ref (aa G g 1)), (1, .int y1), (2, .int y2), (3, .int (l_X0_tonsInSet_5 ρ y1 y2 v0)), (4, .int (nI ((ρ 1 0).toNatClampNeg)))] → W p l e (rmv 1 21) s m args below meth c H locs 0 0 Q (F0 m 63 ls [])) :
    ∀ (n k : Nat) (v : Int32), k ≤ (ρ 1 0).toNatClampNeg → (ρ 1 0).toNatClampNeg - k < n → v = itn (b_X0_tonsInSet_5 ρ y1 y2) k v0 → ∀ (H : Heap) (locs : List Loc) (ls : Array Slot), Wh G s σ g ρ H locs → lv_has ls 6 [(0, .ref (aa G g 1)), (1, .int y1), (2, .int y2), (3, .int v), (4, .int (nI k))] → W p l e (rmv 1 21) s m args below meth c H locs 0 0 Q (F0 m 5 ls []) := by
  have hx := X.1.1
  have hb := X.1.2.1
  intro n
  induction n with
  | zero => intro k v _ h; omega
  | succ n ih =>
    intro k v hkN hn ev H locs ls w hl
    refine lv_iload hx hb dX0_tonsInSet_5 (lv_at hl 4 rfl) ?_
    refine lv_aload_n hx hb dX0_tonsInSet_7 rfl (lv_at hl 0 rfl) ?_
    refine gf0_9 hg X w dX0_tonsInSet_8 ?_
    refine lv_icmp_ge (tgt := 63) hx hb dX0_tonsInSet_11 (by decide) (fun zc11 => ?_) (fun zc11 => ?_)
    · -- 63
      have hkE : k = (ρ 1 0).toNatClampNeg := lp_eq hkN zc11
      have ev2 : l_X0_tonsInSet_5 ρ y1 y2 v0 = v := by unfold l_X0_tonsInSet_5; rw [← hkE]; exact ev.symm
      rw [ev2] at kk
      rw [hkE] at hl
      exact kk _ _ _ w (lv_sub hl [0, 1, 2, 3, 4] rfl)
    · -- 14
      have hk : k < (ρ 1 0).toNatClampNeg := lp_lt hkN zc11
      refine lv_iload_n hx hb dX0_tonsInSet_14 rfl (lv_at hl 1 rfl) ?_
      refine lv_iload hx hb dX0_tonsInSet_15 (lv_at hl 4 rfl) ?_
      refine lv_ishr hx hb dX0_tonsInSet_17 ?_
      refine lv_iconst (v := 1) hx hb dX0_tonsInSet_18 (by decide) ?_
      refine lv_iand hx hb dX0_tonsInSet_19 ?_
      refine lv_iconst (v := 1) hx hb dX0_tonsInSet_20 (by decide) ?_
      refine lv_icmp_ne (tgt := 57) hx hb dX0_tonsInSet_21 (by decide) (fun zc21 => ?_) (fun zc21 => ?_)
      · -- 57
        refine lv_iinc (v := nI (k + 1)) (lv' := [(4, .int (nI (k + 1))), (0, .ref (aa G g 1)), (1, .int y1), (2, .int y2), (3, .int v)]) hx hb dX0_tonsInSet_57 hl (k := 4) rfl (nI_1 _) (by decide) rfl (fun ls hl => ?_)
        refine lv_goto (tgt := 5) hx hb dX0_tonsInSet_60 (by decide) ?_
        exact ih (k + 1) v (by omega) (by omega) (by simp only [itn, ← ev, b_X0_tonsInSet_5, if_neg zc21])  _ _ _ w (lv_sub hl [1, 2, 3, 4, 0] rfl)
      · -- 24
        refine lv_iload_n hx hb dX0_tonsInSet_24 rfl (lv_at hl 2 rfl) ?_
        refine k_i (rr_n (rest := []) X w mX6_isStuff nw13 (c_X6_isStuff y2) ⟨Nat.le_of_ble_eq_true rfl, Nat.le_of_ble_eq_true rfl⟩ rfl hl.1 rfl (Nat.le_of_ble_eq_true rfl) dX0_tonsInSet_25 ⟨Nat.zero_le _, Nat.zero_le _⟩) w (fun H locs w => ?_)
        refine lv_if_eq (tgt := 57) hx hb dX0_tonsInSet_28 (by decide) (fun zc28 => ?_) (fun zc28 => ?_)
        · -- 57
          refine lv_iinc (v := nI (k + 1)) (lv' := [(4, .int (nI (k + 1))), (0, .ref (aa G g 1)), (1, .int y1), (2, .int y2), (3, .int v)]) hx hb dX0_tonsInSet_57 hl (k := 4) rfl (nI_1 _) (by decide) rfl (fun ls hl => ?_)
          refine lv_goto (tgt := 5) hx hb dX0_tonsInSet_60 (by decide) ?_
          exact ih (k + 1) v (by omega) (by omega) (by simp only [itn, ← ev, b_X0_tonsInSet_5, if_pos zc21, if_pos zc28])  _ _ _ w (lv_sub hl [1, 2, 3, 4, 0] rfl)
        · -- 31
          refine lv_iload hx hb dX0_tonsInSet_31 (lv_at hl 4 rfl) ?_
          refine lv_iload_n hx hb dX0_tonsInSet_33 rfl (lv_at hl 2 rfl) ?_
          refine k_i (rr_n (rest := []) X w mX6_heapOf nw9 (c_X6_heapOf (nI k) y2) ⟨Nat.le_of_ble_eq_true rfl, Nat.le_of_ble_eq_true rfl⟩ rfl hl.1 rfl (Nat.le_of_ble_eq_true rfl) dX0_tonsInSet_34 ⟨Nat.zero_le _, Nat.zero_le _⟩) w (fun H locs w => ?_)
          refine lv_topi (fun zv37 ezv37 => ?_)
          refine lv_istore (lv' := [(5, .int zv37), (0, .ref (aa G g 1)), (1, .int y1), (2, .int y2), (3, .int v), (4, .int (nI k))]) hx hb dX0_tonsInSet_37 hl (by decide) rfl (fun ls hl => ?_)
          refine lv_iload_n hx hb dX0_tonsInSet_39 rfl (lv_at hl 4 rfl) ?_
          refine lv_aload_n hx hb dX0_tonsInSet_40 rfl (lv_at hl 1 rfl) ?_
          refine gf0_31 hg X w dX0_tonsInSet_41 ?_
          refine lv_iload hx hb dX0_tonsInSet_44 (lv_at hl 0 rfl) ?_
          refine ia (f := 7) (n := 16) X w (hg.in (by decide)) hg.sh (by rw [ezv37]; exact (heap_in _ _)) dX0_tonsInSet_46 ?_
          refine lv_aload_n hx hb dX0_tonsInSet_47 rfl (lv_at hl 1 rfl) ?_
          refine gf0_34 hg X w dX0_tonsInSet_48 ?_
          change W _ _ _ _ _ _ _ _ _ _ _ _ _ _ _ (F0 m 51 ls _)
          refine lv_iload hx hb dX0_tonsInSet_51 (lv_at hl 0 rfl) ?_
          refine ia (f := 8) (n := 16) X w (hg.in (by decide)) hg.sh (by rw [ezv37]; exact (heap_in _ _)) dX0_tonsInSet_53 ?_
          refine lv_iadd hx hb dX0_tonsInSet_54 ?_
          refine lv_iadd hx hb dX0_tonsInSet_55 ?_
          refine lv_topi (fun zv56 ezv56 => ?_)
          refine lv_istore_n (lv' := [(3, .int zv56), (5, .int zv37), (0, .ref (aa G g 1)), (1, .int y1), (2, .int y2), (4, .int (nI k))]) hx hb dX0_tonsInSet_56 rfl hl (by decide) rfl (fun ls hl => ?_)
          refine lv_iinc (v := nI (k + 1)) (lv' := [(4, .int (nI (k + 1))), (3, .int zv56), (5, .int zv37), (0, .ref (aa G g 1)), (1, .int y1), (2, .int y2)]) hx hb dX0_tonsInSet_57 hl (k := 5) rfl (nI_1 _) (by decide) rfl (fun ls hl => ?_)
          refine lv_goto (tgt := 5) hx hb dX0_tonsInSet_60 (by decide) ?_
          exact ih (k + 1) zv56 (by omega) (by omega) (by replace ezv56 := ezv56.symm; subst ezv56; replace ezv37 := ezv37.symm; subst ezv37; simp only [itn, ← ev, b_X0_tonsInSet_5, if_pos zc21, if_neg zc28])  _ _ _ w (lv_sub hl [3, 4, 5, 1, 0] rfl)
set_option maxRecDepth 100000 in
set_option maxHeartbeats 4000000 in
theorem c_X0_tonsInSet {l : Launch} {G : GG} {σ : St} {g : Nat} {ρ : Gr} (hg : HG g)  (x1 : Int32) (x2 : Int32) : MM l G yX0_tonsInSet cX0_tonsInSet 6 1 21 (some .int) [.ref (aa G g 1), .int x1, .int x2] (setG σ g ρ) (Qi G (f_X0_tonsInSet ρ x1 x2) (setG σ g ρ)) := by
  refine MM.of (by decide) (Nat.le_of_ble_eq_true rfl) ?_
  intro p e s m below meth c ls X hr hlk w hl
  have hx := X.1.1
  have hb := X.1.2.1
  have hl : lv_has ls 6 [(0, .ref (aa G g 1)), (1, .int x1), (2, .int x2)] := hl
  refine lv_iconst (v := 0) hx hb dX0_tonsInSet_0 (by decide) ?_
  refine lv_istore_n (lv' := [(3, .int 0), (0, .ref (aa G g 1)), (1, .int x1), (2, .int x2)]) hx hb dX0_tonsInSet_1 rfl hl (by decide) rfl (fun ls hl => ?_)
  refine lv_iconst (v := 0) hx hb dX0_tonsInSet_2 (by decide) ?_
  refine lv_istore (lv' := [(4, .int 0), (3, .int 0), (0, .ref (aa G g 1)), (1, .int x1), (2, .int x2)]) hx hb dX0_tonsInSet_3 hl (by decide) rfl (fun ls hl => ?_)
  refine lp_X0_tonsInSet_5 hg X x1 x2 0  (fun H locs ls w hl => ?_) ((ρ 1 0).toNatClampNeg + 1) 0 _ (Nat.zero_le _) (Nat.lt_succ_of_le (Nat.sub_le _ _)) rfl  _ _ _ w (lv_sub hl [2, 3, 4, 1, 0] rfl)
  obtain ⟨zl5, ezl5⟩ : ∃ y : Int32, y = (l_X0_tonsInSet_5 ρ x1 x2 0) := ⟨_, rfl⟩
  rw [← ezl5] at hl
  refine lv_iload_n hx hb dX0_tonsInSet_63 rfl (lv_at hl 3 rfl) ?_
  exact t_i X w hr hlk dX0_tonsInSet_64 (by replace ezl5 := ezl5.symm; subst ezl5; simp only [f_X0_tonsInSet]) rfl

noncomputable def f_X0_tonsInAll (ρ : Gr)  : Int32 :=
  (f_X0_tonsInSet ρ 255 0) + (f_X0_tonsInSet ρ 255 1)
set_option maxRecDepth 100000 in
set_option maxHeartbeats 4000000 in
theorem c_X0_tonsInAll {l : Launch} {G : GG} {σ : St} {g : Nat} {ρ : Gr} (hg : HG g)   : MM l G yX0_tonsInAll cX0_tonsInAll 2 2 46 (some .int) [.ref (aa G g 1)] (setG σ g ρ) (Qi G (f_X0_tonsInAll ρ) (setG σ g ρ)) := by
  refine MM.of (by decide) (Nat.le_of_ble_eq_true rfl) ?_
  intro p e s m below meth c ls X hr hlk w hl
  have hx := X.1.1
  have hb := X.1.2.1
  have hl : lv_has ls 2 [(0, .ref (aa G g 1))] := hl
  refine lv_sipush (v := 255) hx hb dX0_tonsInAll_0 (by decide) ?_
  refine lv_istore_n (lv' := [(1, .int 255), (0, .ref (aa G g 1))]) hx hb dX0_tonsInAll_3 rfl hl (by decide) rfl (fun ls hl => ?_)
  refine lv_aload_n hx hb dX0_tonsInAll_4 rfl (lv_at hl 1 rfl) ?_
  refine lv_iload_n hx hb dX0_tonsInAll_5 rfl (lv_at hl 0 rfl) ?_
  refine lv_iconst (v := 0) hx hb dX0_tonsInAll_6 (by decide) ?_
  refine k_i (rr_v (rest := []) X w mX0_tonsInSet kw694 (c_X0_tonsInSet hg 255 0) (hg.in (by decide)) hg.sh rfl ⟨Nat.le_of_ble_eq_true rfl, Nat.le_of_ble_eq_true rfl⟩ rfl hl.1 rfl (Nat.le_of_ble_eq_true rfl) dX0_tonsInAll_7 ⟨Nat.zero_le _, Nat.zero_le _⟩) w (fun H locs w => ?_)
  refine lv_aload_n hx hb dX0_tonsInAll_10 rfl (lv_at hl 1 rfl) ?_
  refine lv_iload_n hx hb dX0_tonsInAll_11 rfl (lv_at hl 0 rfl) ?_
  refine lv_iconst (v := 1) hx hb dX0_tonsInAll_12 (by decide) ?_
  refine k_i (rr_v (rest := [.int (f_X0_tonsInSet ρ 255 0)]) X w mX0_tonsInSet kw694 (c_X0_tonsInSet hg 255 1) (hg.in (by decide)) hg.sh rfl ⟨Nat.le_of_ble_eq_true rfl, Nat.le_of_ble_eq_true rfl⟩ rfl hl.1 rfl (Nat.le_of_ble_eq_true rfl) dX0_tonsInAll_13 ⟨Nat.zero_le _, Nat.zero_le _⟩) w (fun H locs w => ?_)
  refine lv_iadd hx hb dX0_tonsInAll_16 ?_
  change W _ _ _ _ _ _ _ _ _ _ _ _ _ _ _ (F0 m 17 ls _)
  exact t_i X w hr hlk dX0_tonsInAll_17 (by simp only [f_X0_tonsInAll]) rfl

noncomputable def b_X0_stir_18 (y1 : Int32) (k : Nat) (v : Gr) : Gr :=
  let zv28 : Int32 := f_X6_heapOf y1 (nI k)
  let zv44 : Int32 := f_X6_partOf (v 8 zv28.toNatClampNeg) (v 5 y1.toNatClampNeg)
  let zs56 : Gr := up v 8 zv28.toNatClampNeg ((v 8 zv28.toNatClampNeg) - zv44)
  let zs67 : Gr := up zs56 7 zv28.toNatClampNeg ((zs56 7 zv28.toNatClampNeg) + zv44)
  zs67
noncomputable def l_X0_stir_18 (y1 : Int32) (v0 : Gr) : Gr := itn (b_X0_stir_18 y1) (nn 2) v0
noncomputable def b_X0_stir_2  (k : Nat) (v : Gr) : Gr :=
  let zl18 : Gr := (l_X0_stir_18 (nI k) v)
  zl18
noncomputable def l_X0_stir_2  (v0 : Gr) : Gr := itn (b_X0_stir_2) (v0 1 0).toNatClampNeg v0
noncomputable def g_X0_stir (ρ : Gr)  : Gr :=
  let zl2 : Gr := (l_X0_stir_2 ρ)
  zl2
theorem stir_fr (y1 : Int32) (v0 : Gr) : l_X0_stir_18 y1 v0 1 0 = v0 1 0 := itn_fr (fun v : Gr => v 1 0) (fun k v => by simp [b_X0_stir_18, up, setF]) _ _
set_option maxRecDepth 100000 in
set_option maxHeartbeats 4000000 in
theorem lp_X0_stir_18 {l : Launch} {G : GG} {p : Program} {e : Env} {s : State} {m : MethodId} {args : Array Value} {below : List Frame} {meth : Method} {c : Code} {Q : State → Prop} {σ : St} {g : Nat} (hg : HG g) (X : Cx p m c cX0_stir 5 s args RX0 G) (y1 : Int32) (v0 : Gr) (hy : vp_in y1 8)
    (kk : ∀ (H : Heap) (locs : List Loc) (ls : Array Slot), Wh G s σ g (l_X0_stir_18 y1 v0) H locs → lv_has ls 5 [(0, .ref (aa G g 1)), (1, .int y1), (2, .int (nI (2)))] → W p l e (rmv 1 21) s m args below meth c H locs 0 0 Q (F0 m 74 ls [])) :
    ∀ (n k : Nat) (v : Gr), k ≤ 2 → 2 - k < n → v = itn (b_X0_stir_18 y1) k v0 → ∀ (H : Heap) (locs : List Loc) (ls : Array Slot), Wh G s σ g v H locs → lv_has ls 5 [(0, .ref (aa G g 1)), (1, .int y1), (2, .int (nI k))] → W p l e (rmv 1 21) s m args below meth c H locs 0 0 Q (F0 m 18 ls []) := by
  have hx := X.1.1
  have hb := X.1.2.1
  intro n
  induction n with
  | zero => intro k v _ h; omega
  | succ n ih =>
    intro k v hkN hn ev H locs ls w hl
    refine lv_iload_n hx hb dX0_stir_18 rfl (lv_at hl 2 rfl) ?_
    refine lv_iconst (v := 2) hx hb dX0_stir_19 (by decide) ?_
    refine lv_icmp_ge (tgt := 74) hx hb dX0_stir_20 (by decide) (fun zc20 => ?_) (fun zc20 => ?_)
    · -- 74
      have hkE : k = 2 := lp_eqN hkN (by decide) zc20
      have ev2 : l_X0_stir_18 y1 v0 = v := by unfold l_X0_stir_18; rw [nn_eq, ← hkE]; exact ev.symm
      rw [ev2] at kk
      rw [hkE] at hl
      exact kk _ _ _ w (lv_sub hl [0, 1, 2] rfl)
    · -- 23
      have hk : k < 2 := lp_ltN hkN (by decide) zc20
      refine lv_iload_n hx hb dX0_stir_23 rfl (lv_at hl 1 rfl) ?_
      refine lv_iload_n hx hb dX0_stir_24 rfl (lv_at hl 2 rfl) ?_
      refine k_i (rr_n (rest := []) X w mX6_heapOf nw9 (c_X6_heapOf y1 (nI k)) ⟨Nat.le_of_ble_eq_true rfl, Nat.le_of_ble_eq_true rfl⟩ rfl hl.1 rfl (Nat.le_of_ble_eq_true rfl) dX0_stir_25 ⟨Nat.zero_le _, Nat.zero_le _⟩) w (fun H locs w => ?_)
      refine lv_topi (fun zv28 ezv28 => ?_)
      refine lv_istore_n (lv' := [(3, .int zv28), (0, .ref (aa G g 1)), (1, .int y1), (2, .int (nI k))]) hx hb dX0_stir_28 rfl hl (by decide) rfl (fun ls hl => ?_)
      refine lv_aload_n hx hb dX0_stir_29 rfl (lv_at hl 1 rfl) ?_
      refine gf0_34 hg X w dX0_stir_30 ?_
      refine lv_iload_n hx hb dX0_stir_33 rfl (lv_at hl 0 rfl) ?_
      refine ia (f := 8) (n := 16) X w (hg.in (by decide)) hg.sh (by rw [ezv28]; exact (heap_in _ _)) dX0_stir_34 ?_
      refine lv_aload_n hx hb dX0_stir_35 rfl (lv_at hl 1 rfl) ?_
      refine gf0_25 hg X w dX0_stir_36 ?_
      refine lv_iload_n hx hb dX0_stir_39 rfl (lv_at hl 2 rfl) ?_
      change W _ _ _ _ _ _ _ _ _ _ _ _ _ _ _ (F0 m 40 ls _)
      refine ia (f := 5) (n := 8) X w (hg.in (by decide)) hg.sh hy dX0_stir_40 ?_
      refine k_i (rr_n (rest := []) X w mX6_partOf nw10 (c_X6_partOf (v 8 zv28.toNatClampNeg) (v 5 y1.toNatClampNeg)) ⟨Nat.le_of_ble_eq_true rfl, Nat.le_of_ble_eq_true rfl⟩ rfl hl.1 rfl (Nat.le_of_ble_eq_true rfl) dX0_stir_41 ⟨Nat.zero_le _, Nat.zero_le _⟩) w (fun H locs w => ?_)
      refine lv_topi (fun zv44 ezv44 => ?_)
      refine lv_istore (lv' := [(4, .int zv44), (3, .int zv28), (0, .ref (aa G g 1)), (1, .int y1), (2, .int (nI k))]) hx hb dX0_stir_44 hl (by decide) rfl (fun ls hl => ?_)
      refine lv_aload_n hx hb dX0_stir_46 rfl (lv_at hl 2 rfl) ?_
      refine gf0_34 hg X w dX0_stir_47 ?_
      refine lv_iload_n hx hb dX0_stir_50 rfl (lv_at hl 1 rfl) ?_
      refine lv_dup2_11 hx hb dX0_stir_51 rfl rfl ?_
      refine ia (f := 8) (n := 16) X w (hg.in (by decide)) hg.sh (by rw [ezv28]; exact (heap_in _ _)) dX0_stir_52 ?_
      refine lv_iload hx hb dX0_stir_53 (lv_at hl 0 rfl) ?_
      refine lv_isub hx hb dX0_stir_55 ?_
      refine iS (f := 8) (n := 16) X w (hg.in (by decide)) hg.sh (by rw [ezv28]; exact (heap_in _ _)) dX0_stir_56 (fun zs56 H locs ezs56 w => ?_)
      refine lv_aload_n hx hb dX0_stir_57 rfl (lv_at hl 2 rfl) ?_
      change W _ _ _ _ _ _ _ _ _ _ _ _ _ _ _ (F0 m 58 ls _)
      refine gf0_31 hg X w dX0_stir_58 ?_
      refine lv_iload_n hx hb dX0_stir_61 rfl (lv_at hl 1 rfl) ?_
      refine lv_dup2_11 hx hb dX0_stir_62 rfl rfl ?_
      refine ia (f := 7) (n := 16) X w (hg.in (by decide)) hg.sh (by rw [ezv28]; exact (heap_in _ _)) dX0_stir_63 ?_
      refine lv_iload hx hb dX0_stir_64 (lv_at hl 0 rfl) ?_
      refine lv_iadd hx hb dX0_stir_66 ?_
      refine iS (f := 7) (n := 16) X w (hg.in (by decide)) hg.sh (by rw [ezv28]; exact (heap_in _ _)) dX0_stir_67 (fun zs67 H locs ezs67 w => ?_)
      refine lv_iinc (v := nI (k + 1)) (lv' := [(2, .int (nI (k + 1))), (4, .int zv44), (3, .int zv28), (0, .ref (aa G g 1)), (1, .int y1)]) hx hb dX0_stir_68 hl (k := 4) rfl (nI_1 _) (by decide) rfl (fun ls hl => ?_)
      refine lv_goto (tgt := 18) hx hb dX0_stir_71 (by decide) ?_
      exact ih (k + 1) zs67 (by omega) (by omega) (by replace ezs67 := ezs67.symm; subst ezs67; replace ezs56 := ezs56.symm; subst ezs56; replace ezv44 := ezv44.symm; subst ezv44; replace ezv28 := ezv28.symm; subst ezv28; simp only [itn, ← ev, b_X0_stir_18])  _ _ _ w (lv_sub hl [3, 4, 0] rfl)
set_option maxRecDepth 100000 in
set_option maxHeartbeats 4000000 in
theorem lp_X0_stir_2 {l : Launch} {G : GG} {p : Program} {e : Env} {s : State} {m : MethodId} {args : Array Value} {below : List Frame} {meth : Method} {c : Code} {Q : State → Prop} {σ : St} {g : Nat} (hg : HG g) (X : Cx p m c cX0_stir 5 s args RX0 G)  (v0 : Gr) (hn : (v0 1 0).toNatClampNeg ≤ 8)
    (kk : ∀ (H : Heap) (locs : List Loc) (ls : Array Slot), Wh G s σ g (l_X0_stir_2 v0) H locs → lv_has ls 5 [(0, .ref (aa G g 1)), (1, .int (nI ((v0 1 0).toNatClampNeg)))] → W p l e (rmv 1 21) s m args below meth c H locs 0 0 Q (F0 m 80 ls [])) :
    ∀ (n k : Nat) (v : Gr), k ≤ (v0 1 0).toNatClampNeg → (v0 1 0).toNatClampNeg - k < n → v = itn (b_X0_stir_2) k v0 → (v 1 0 = v0 1 0) → ∀ (H : Heap) (locs : List Loc) (ls : Array Slot), Wh G s σ g v H locs → lv_has ls 5 [(0, .ref (aa G g 1)), (1, .int (nI k))] → W p l e (rmv 1 21) s m args below meth c H locs 0 0 Q (F0 m 2 ls []) := by
  have hx := X.1.1
  have hb := X.1.2.1
  intro n
  induction n with
  | zero => intro k v _ h; omega
  | succ n ih =>
    intro k v hkN hn ev hv H locs ls w hl
    refine lv_iload_n hx hb dX0_stir_2 rfl (lv_at hl 1 rfl) ?_
    refine lv_aload_n hx hb dX0_stir_3 rfl (lv_at hl 0 rfl) ?_
    refine gf0_9 hg X w dX0_stir_4 ?_
    refine lv_icmp_ge (tgt := 80) hx hb dX0_stir_7 (by decide) (fun zc7 => ?_) (fun zc7 => ?_)
    · -- 80
      have hkE : k = (v0 1 0).toNatClampNeg := lp_eq hkN (by rw [← hv]; exact zc7)
      have ev2 : l_X0_stir_2 v0 = v := by unfold l_X0_stir_2; rw [← hkE]; exact ev.symm
      rw [ev2] at kk
      rw [hkE] at hl
      exact kk _ _ _ w (lv_sub hl [0, 1] rfl)
    · -- 10
      have hk : k < (v0 1 0).toNatClampNeg := lp_lt hkN (by rw [← hv]; exact zc7)
      refine lv_iload_n hx hb dX0_stir_10 rfl (lv_at hl 1 rfl) ?_
      refine lv_bipush (v := 8) hx hb dX0_stir_11 (by decide) ?_
      refine lv_icmp_ge (tgt := 80) hx hb dX0_stir_13 (by decide) (fun zc13 => absurd zc13 (kn8 (by omega))) (fun _ => ?_)
      refine lv_iconst (v := 0) hx hb dX0_stir_16 (by decide) ?_
      refine lv_istore_n (lv' := [(2, .int 0), (0, .ref (aa G g 1)), (1, .int (nI k))]) hx hb dX0_stir_17 rfl hl (by decide) rfl (fun ls hl => ?_)
      refine lp_X0_stir_18 hg X (nI k) v (vp_in_nI (by omega) (by decide)) (fun H locs ls w hl => ?_) (2 + 1) 0 _ (Nat.zero_le _) (Nat.lt_succ_of_le (Nat.sub_le _ _)) rfl  _ _ _ w (lv_sub hl [1, 2, 0] rfl)
      obtain ⟨zl18, ezl18⟩ : ∃ y : Gr, y = (l_X0_stir_18 (nI k) v) := ⟨_, rfl⟩
      rw [← ezl18] at w
      refine lv_iinc (v := nI (k + 1)) (lv' := [(1, .int (nI (k + 1))), (0, .ref (aa G g 1)), (2, .int (nI (2)))]) hx hb dX0_stir_74 hl (k := 1) rfl (nI_1 _) (by decide) rfl (fun ls hl => ?_)
      refine lv_goto (tgt := 2) hx hb dX0_stir_77 (by decide) ?_
      exact ih (k + 1) zl18 (by omega) (by omega) (by replace ezl18 := ezl18.symm; subst ezl18; simp only [itn, ← ev, b_X0_stir_2]) (by rw [ezl18, stir_fr]; exact hv) _ _ _ w (lv_sub hl [1, 0] rfl)
set_option maxRecDepth 100000 in
set_option maxHeartbeats 4000000 in
theorem c_X0_stir {l : Launch} {G : GG} {σ : St} {g : Nat} {ρ : Gr} (hg : HG g)  (hn : (ρ 1 0).toNatClampNeg ≤ 8) : MM l G yX0_stir cX0_stir 5 1 21 none [.ref (aa G g 1)] (setG σ g ρ) (Qv G (setG σ g (g_X0_stir ρ))) := by
  refine MM.of (by decide) (Nat.le_of_ble_eq_true rfl) ?_
  intro p e s m below meth c ls X hr hlk w hl
  have hx := X.1.1
  have hb := X.1.2.1
  have hl : lv_has ls 5 [(0, .ref (aa G g 1))] := hl
  refine lv_iconst (v := 0) hx hb dX0_stir_0 (by decide) ?_
  refine lv_istore_n (lv' := [(1, .int 0), (0, .ref (aa G g 1))]) hx hb dX0_stir_1 rfl hl (by decide) rfl (fun ls hl => ?_)
  refine lp_X0_stir_2 hg X  ρ (by assumption) (fun H locs ls w hl => ?_) ((ρ 1 0).toNatClampNeg + 1) 0 _ (Nat.zero_le _) (Nat.lt_succ_of_le (Nat.sub_le _ _)) rfl rfl _ _ _ w (lv_sub hl [1, 0] rfl)
  obtain ⟨zl2, ezl2⟩ : ∃ y : Gr, y = (l_X0_stir_2 ρ) := ⟨_, rfl⟩
  rw [← ezl2] at w
  exact t_v X w hr hlk dX0_stir_80 (by replace ezl2 := ezl2.symm; subst ezl2; simp only [g_X0_stir])

noncomputable def b_X0_settle_18 (y1 : Int32) (k : Nat) (v : Gr) : Gr :=
  let zv28 : Int32 := f_X6_heapOf y1 (nI k)
  let zv44 : Int32 := f_X6_partOf (v 7 zv28.toNatClampNeg) (v 4 y1.toNatClampNeg)
  let zs56 : Gr := up v 7 zv28.toNatClampNeg ((v 7 zv28.toNatClampNeg) - zv44)
  let zs67 : Gr := up zs56 8 zv28.toNatClampNeg ((zs56 8 zv28.toNatClampNeg) + zv44)
  zs67
noncomputable def l_X0_settle_18 (y1 : Int32) (v0 : Gr) : Gr := itn (b_X0_settle_18 y1) (nn 2) v0
noncomputable def b_X0_settle_2  (k : Nat) (v : Gr) : Gr :=
  let zl18 : Gr := (l_X0_settle_18 (nI k) v)
  zl18
noncomputable def l_X0_settle_2  (v0 : Gr) : Gr := itn (b_X0_settle_2) (v0 1 0).toNatClampNeg v0
noncomputable def g_X0_settle (ρ : Gr)  : Gr :=
  let zl2 : Gr := (l_X0_settle_2 ρ)
  zl2
theorem settle_fr (y1 : Int32) (v0 : Gr) : l_X0_settle_18 y1 v0 1 0 = v0 1 0 := itn_fr (fun v : Gr => v 1 0) (fun k v => by simp [b_X0_settle_18, up, setF]) _ _
set_option maxRecDepth 100000 in
set_option maxHeartbeats 4000000 in
theorem lp_X0_settle_18 {l : Launch} {G : GG} {p : Program} {e : Env} {s : State} {m : MethodId} {args : Array Value} {below : List Frame} {meth : Method} {c : Code} {Q : State → Prop} {σ : St} {g : Nat} (hg : HG g) (X : Cx p m c cX0_settle 5 s args RX0 G) (y1 : Int32) (v0 : Gr) (hy : vp_in y1 8)
    (kk : ∀ (H : Heap) (locs : List Loc) (ls : Array Slot), Wh G s σ g (l_X0_settle_18 y1 v0) H locs → lv_has ls 5 [(0, .ref (aa G g 1)), (1, .int y1), (2, .int (nI (2)))] → W p l e (rmv 1 21) s m args below meth c H locs 0 0 Q (F0 m 74 ls [])) :
    ∀ (n k : Nat) (v : Gr), k ≤ 2 → 2 - k < n → v = itn (b_X0_settle_18 y1) k v0 → ∀ (H : Heap) (locs : List Loc) (ls : Array Slot), Wh G s σ g v H locs → lv_has ls 5 [(0, .ref (aa G g 1)), (1, .int y1), (2, .int (nI k))] → W p l e (rmv 1 21) s m args below meth c H locs 0 0 Q (F0 m 18 ls []) := by
  have hx := X.1.1
  have hb := X.1.2.1
  intro n
  induction n with
  | zero => intro k v _ h; omega
  | succ n ih =>
    intro k v hkN hn ev H locs ls w hl
    refine lv_iload_n hx hb dX0_settle_18 rfl (lv_at hl 2 rfl) ?_
    refine lv_iconst (v := 2) hx hb dX0_settle_19 (by decide) ?_
    refine lv_icmp_ge (tgt := 74) hx hb dX0_settle_20 (by decide) (fun zc20 => ?_) (fun zc20 => ?_)
    · -- 74
      have hkE : k = 2 := lp_eqN hkN (by decide) zc20
      have ev2 : l_X0_settle_18 y1 v0 = v := by unfold l_X0_settle_18; rw [nn_eq, ← hkE]; exact ev.symm
      rw [ev2] at kk
      rw [hkE] at hl
      exact kk _ _ _ w (lv_sub hl [0, 1, 2] rfl)
    · -- 23
      have hk : k < 2 := lp_ltN hkN (by decide) zc20
      refine lv_iload_n hx hb dX0_settle_23 rfl (lv_at hl 1 rfl) ?_
      refine lv_iload_n hx hb dX0_settle_24 rfl (lv_at hl 2 rfl) ?_
      refine k_i (rr_n (rest := []) X w mX6_heapOf nw9 (c_X6_heapOf y1 (nI k)) ⟨Nat.le_of_ble_eq_true rfl, Nat.le_of_ble_eq_true rfl⟩ rfl hl.1 rfl (Nat.le_of_ble_eq_true rfl) dX0_settle_25 ⟨Nat.zero_le _, Nat.zero_le _⟩) w (fun H locs w => ?_)
      refine lv_topi (fun zv28 ezv28 => ?_)
      refine lv_istore_n (lv' := [(3, .int zv28), (0, .ref (aa G g 1)), (1, .int y1), (2, .int (nI k))]) hx hb dX0_settle_28 rfl hl (by decide) rfl (fun ls hl => ?_)
      refine lv_aload_n hx hb dX0_settle_29 rfl (lv_at hl 1 rfl) ?_
      refine gf0_31 hg X w dX0_settle_30 ?_
      refine lv_iload_n hx hb dX0_settle_33 rfl (lv_at hl 0 rfl) ?_
      refine ia (f := 7) (n := 16) X w (hg.in (by decide)) hg.sh (by rw [ezv28]; exact (heap_in _ _)) dX0_settle_34 ?_
      refine lv_aload_n hx hb dX0_settle_35 rfl (lv_at hl 1 rfl) ?_
      refine gf0_22 hg X w dX0_settle_36 ?_
      refine lv_iload_n hx hb dX0_settle_39 rfl (lv_at hl 2 rfl) ?_
      change W _ _ _ _ _ _ _ _ _ _ _ _ _ _ _ (F0 m 40 ls _)
      refine ia (f := 4) (n := 8) X w (hg.in (by decide)) hg.sh hy dX0_settle_40 ?_
      refine k_i (rr_n (rest := []) X w mX6_partOf nw10 (c_X6_partOf (v 7 zv28.toNatClampNeg) (v 4 y1.toNatClampNeg)) ⟨Nat.le_of_ble_eq_true rfl, Nat.le_of_ble_eq_true rfl⟩ rfl hl.1 rfl (Nat.le_of_ble_eq_true rfl) dX0_settle_41 ⟨Nat.zero_le _, Nat.zero_le _⟩) w (fun H locs w => ?_)
      refine lv_topi (fun zv44 ezv44 => ?_)
      refine lv_istore (lv' := [(4, .int zv44), (3, .int zv28), (0, .ref (aa G g 1)), (1, .int y1), (2, .int (nI k))]) hx hb dX0_settle_44 hl (by decide) rfl (fun ls hl => ?_)
      refine lv_aload_n hx hb dX0_settle_46 rfl (lv_at hl 2 rfl) ?_
      refine gf0_31 hg X w dX0_settle_47 ?_
      refine lv_iload_n hx hb dX0_settle_50 rfl (lv_at hl 1 rfl) ?_
      refine lv_dup2_11 hx hb dX0_settle_51 rfl rfl ?_
      refine ia (f := 7) (n := 16) X w (hg.in (by decide)) hg.sh (by rw [ezv28]; exact (heap_in _ _)) dX0_settle_52 ?_
      refine lv_iload hx hb dX0_settle_53 (lv_at hl 0 rfl) ?_
      refine lv_isub hx hb dX0_settle_55 ?_
      refine iS (f := 7) (n := 16) X w (hg.in (by decide)) hg.sh (by rw [ezv28]; exact (heap_in _ _)) dX0_settle_56 (fun zs56 H locs ezs56 w => ?_)
      refine lv_aload_n hx hb dX0_settle_57 rfl (lv_at hl 2 rfl) ?_
      change W _ _ _ _ _ _ _ _ _ _ _ _ _ _ _ (F0 m 58 ls _)
      refine gf0_34 hg X w dX0_settle_58 ?_
      refine lv_iload_n hx hb dX0_settle_61 rfl (lv_at hl 1 rfl) ?_
      refine lv_dup2_11 hx hb dX0_settle_62 rfl rfl ?_
      refine ia (f := 8) (n := 16) X w (hg.in (by decide)) hg.sh (by rw [ezv28]; exact (heap_in _ _)) dX0_settle_63 ?_
      refine lv_iload hx hb dX0_settle_64 (lv_at hl 0 rfl) ?_
      refine lv_iadd hx hb dX0_settle_66 ?_
      refine iS (f := 8) (n := 16) X w (hg.in (by decide)) hg.sh (by rw [ezv28]; exact (heap_in _ _)) dX0_settle_67 (fun zs67 H locs ezs67 w => ?_)
      refine lv_iinc (v := nI (k + 1)) (lv' := [(2, .int (nI (k + 1))), (4, .int zv44), (3, .int zv28), (0, .ref (aa G g 1)), (1, .int y1)]) hx hb dX0_settle_68 hl (k := 4) rfl (nI_1 _) (by decide) rfl (fun ls hl => ?_)
      refine lv_goto (tgt := 18) hx hb dX0_settle_71 (by decide) ?_
      exact ih (k + 1) zs67 (by omega) (by omega) (by replace ezs67 := ezs67.symm; subst ezs67; replace ezs56 := ezs56.symm; subst ezs56; replace ezv44 := ezv44.symm; subst ezv44; replace ezv28 := ezv28.symm; subst ezv28; simp only [itn, ← ev, b_X0_settle_18])  _ _ _ w (lv_sub hl [3, 4, 0] rfl)
set_option maxRecDepth 100000 in
set_option maxHeartbeats 4000000 in
theorem lp_X0_settle_2 {l : Launch} {G : GG} {p : Program} {e : Env} {s : State} {m : MethodId} {args : Array Value} {below : List Frame} {meth : Method} {c : Code} {Q : State → Prop} {σ : St} {g : Nat} (hg : HG g) (X : Cx p m c cX0_settle 5 s args RX0 G)  (v0 : Gr) (hn : (v0 1 0).toNatClampNeg ≤ 8)
    (kk : ∀ (H : Heap) (locs : List Loc) (ls : Array Slot), Wh G s σ g (l_X0_settle_2 v0) H locs → lv_has ls 5 [(0, .ref (aa G g 1)), (1, .int (nI ((v0 1 0).toNatClampNeg)))] → W p l e (rmv 1 21) s m args below meth c H locs 0 0 Q (F0 m 80 ls [])) :
    ∀ (n k : Nat) (v : Gr), k ≤ (v0 1 0).toNatClampNeg → (v0 1 0).toNatClampNeg - k < n → v = itn (b_X0_settle_2) k v0 → (v 1 0 = v0 1 0) → ∀ (H : Heap) (locs : List Loc) (ls : Array Slot), Wh G s σ g v H locs → lv_has ls 5 [(0, .ref (aa G g 1)), (1, .int (nI k))] → W p l e (rmv 1 21) s m args below meth c H locs 0 0 Q (F0 m 2 ls []) := by
  have hx := X.1.1
  have hb := X.1.2.1
  intro n
  induction n with
  | zero => intro k v _ h; omega
  | succ n ih =>
    intro k v hkN hn ev hv H locs ls w hl
    refine lv_iload_n hx hb dX0_settle_2 rfl (lv_at hl 1 rfl) ?_
    refine lv_aload_n hx hb dX0_settle_3 rfl (lv_at hl 0 rfl) ?_
    refine gf0_9 hg X w dX0_settle_4 ?_
    refine lv_icmp_ge (tgt := 80) hx hb dX0_settle_7 (by decide) (fun zc7 => ?_) (fun zc7 => ?_)
    · -- 80
      have hkE : k = (v0 1 0).toNatClampNeg := lp_eq hkN (by rw [← hv]; exact zc7)
      have ev2 : l_X0_settle_2 v0 = v := by unfold l_X0_settle_2; rw [← hkE]; exact ev.symm
      rw [ev2] at kk
      rw [hkE] at hl
      exact kk _ _ _ w (lv_sub hl [0, 1] rfl)
    · -- 10
      have hk : k < (v0 1 0).toNatClampNeg := lp_lt hkN (by rw [← hv]; exact zc7)
      refine lv_iload_n hx hb dX0_settle_10 rfl (lv_at hl 1 rfl) ?_
      refine lv_bipush (v := 8) hx hb dX0_settle_11 (by decide) ?_
      refine lv_icmp_ge (tgt := 80) hx hb dX0_settle_13 (by decide) (fun zc13 => absurd zc13 (kn8 (by omega))) (fun _ => ?_)
      refine lv_iconst (v := 0) hx hb dX0_settle_16 (by decide) ?_
      refine lv_istore_n (lv' := [(2, .int 0), (0, .ref (aa G g 1)), (1, .int (nI k))]) hx hb dX0_settle_17 rfl hl (by decide) rfl (fun ls hl => ?_)
      refine lp_X0_settle_18 hg X (nI k) v (vp_in_nI (by omega) (by decide)) (fun H locs ls w hl => ?_) (2 + 1) 0 _ (Nat.zero_le _) (Nat.lt_succ_of_le (Nat.sub_le _ _)) rfl  _ _ _ w (lv_sub hl [1, 2, 0] rfl)
      obtain ⟨zl18, ezl18⟩ : ∃ y : Gr, y = (l_X0_settle_18 (nI k) v) := ⟨_, rfl⟩
      rw [← ezl18] at w
      refine lv_iinc (v := nI (k + 1)) (lv' := [(1, .int (nI (k + 1))), (0, .ref (aa G g 1)), (2, .int (nI (2)))]) hx hb dX0_settle_74 hl (k := 1) rfl (nI_1 _) (by decide) rfl (fun ls hl => ?_)
      refine lv_goto (tgt := 2) hx hb dX0_settle_77 (by decide) ?_
      exact ih (k + 1) zl18 (by omega) (by omega) (by replace ezl18 := ezl18.symm; subst ezl18; simp only [itn, ← ev, b_X0_settle_2]) (by rw [ezl18, settle_fr]; exact hv) _ _ _ w (lv_sub hl [1, 0] rfl)
set_option maxRecDepth 100000 in
set_option maxHeartbeats 4000000 in
theorem c_X0_settle {l : Launch} {G : GG} {σ : St} {g : Nat} {ρ : Gr} (hg : HG g)  (hn : (ρ 1 0).toNatClampNeg ≤ 8) : MM l G yX0_settle cX0_settle 5 1 21 none [.ref (aa G g 1)] (setG σ g ρ) (Qv G (setG σ g (g_X0_settle ρ))) := by
  refine MM.of (by decide) (Nat.le_of_ble_eq_true rfl) ?_
  intro p e s m below meth c ls X hr hlk w hl
  have hx := X.1.1
  have hb := X.1.2.1
  have hl : lv_has ls 5 [(0, .ref (aa G g 1))] := hl
  refine lv_iconst (v := 0) hx hb dX0_settle_0 (by decide) ?_
  refine lv_istore_n (lv' := [(1, .int 0), (0, .ref (aa G g 1))]) hx hb dX0_settle_1 rfl hl (by decide) rfl (fun ls hl => ?_)
  refine lp_X0_settle_2 hg X  ρ (by assumption) (fun H locs ls w hl => ?_) ((ρ 1 0).toNatClampNeg + 1) 0 _ (Nat.zero_le _) (Nat.lt_succ_of_le (Nat.sub_le _ _)) rfl rfl _ _ _ w (lv_sub hl [1, 0] rfl)
  obtain ⟨zl2, ezl2⟩ : ∃ y : Gr, y = (l_X0_settle_2 ρ) := ⟨_, rfl⟩
  rw [← ezl2] at w
  exact t_v X w hr hlk dX0_settle_80 (by replace ezl2 := ezl2.symm; subst ezl2; simp only [g_X0_settle])

noncomputable def b_X0_nearest_8 (ρ : Gr) (y1 : Int32) (k : Nat) (v : Int32 × Int32) : Int32 × Int32 :=
  if (nI k) = y1 then
    (v.1, v.2)
  else
    if (f_X0_lackOf ρ (nI k)) ≤ v.1 then
      (v.1, v.2)
    else
      let zv39 : Int32 := f_X0_lackOf ρ (nI k)
      let zv42 : Int32 := nI k
      (zv39, zv42)
noncomputable def l_X0_nearest_8 (ρ : Gr) (y1 : Int32) (v0 : Int32 × Int32) : Int32 × Int32 := itn (b_X0_nearest_8 ρ y1) (ρ 1 0).toNatClampNeg v0
noncomputable def f_X0_nearest (ρ : Gr) (x1 : Int32) : Int32 :=
  let zl8 : Int32 × Int32 := (l_X0_nearest_8 ρ x1 (0, (-9)))
  zl8.2
set_option maxRecDepth 100000 in
set_option maxHeartbeats 4000000 in
theorem lp_X0_nearest_8 {l : Launch} {G : GG} {p : Program} {e : Env} {s : State} {m : MethodId} {args : Array Value} {below : List Frame} {meth : Method} {c : Code} {Q : State → Prop} {σ : St} {g : Nat} (hg : HG g) {ρ : Gr} (X : Cx p m c cX0_nearest 5 s args RX0 G) (y1 : Int32) (v0 : Int32 × Int32) 
    (kk : ∀ (H : Heap) (locs : List Loc) (ls : Array Slot), Wh G s σ g ρ H locs → lv_has ls 5 [(0, .ref (aa G g 1)), (1, .int y1), (2, .int ((l_X0_nearest_8 ρ y1 v0).1)), (3, .int ((l_X0_nearest_8 ρ y1 v0).2)), (4, .int (nI ((ρ 1 0).toNatClampNeg)))] → W p l e (rmv 3 55) s m args below meth c H locs 0 0 Q (F0 m 49 ls [])) :
    ∀ (n k : Nat) (v : Int32 × Int32), k ≤ (ρ 1 0).toNatClampNeg → (ρ 1 0).toNatClampNeg - k < n → v = itn (b_X0_nearest_8 ρ y1) k v0 → ∀ (H : Heap) (locs : List Loc) (ls : Array Slot), Wh G s σ g ρ H locs → lv_has ls 5 [(0, .ref (aa G g 1)), (1, .int y1), (2, .int v.1), (3, .int v.2), (4, .int (nI k))] → W p l e (rmv 3 55) s m args below meth c H locs 0 0 Q (F0 m 8 ls []) := by
  have hx := X.1.1
  have hb := X.1.2.1
  intro n
  induction n with
  | zero => intro k v _ h; omega
  | succ n ih =>
    intro k v hkN hn ev H locs ls w hl
    refine lv_iload hx hb dX0_nearest_8 (lv_at hl 4 rfl) ?_
    refine lv_aload_n hx hb dX0_nearest_10 rfl (lv_at hl 0 rfl) ?_
    refine gf0_9 hg X w dX0_nearest_11 ?_
    refine lv_icmp_ge (tgt := 49) hx hb dX0_nearest_14 (by decide) (fun zc14 => ?_) (fun zc14 => ?_)
    · -- 49
      have hkE : k = (ρ 1 0).toNatClampNeg := lp_eq hkN zc14
      have ev2 : l_X0_nearest_8 ρ y1 v0 = v := by unfold l_X0_nearest_8; rw [← hkE]; exact ev.symm
      rw [ev2] at kk
      rw [hkE] at hl
      exact kk _ _ _ w (lv_sub hl [0, 1, 2, 3, 4] rfl)
    · -- 17
      have hk : k < (ρ 1 0).toNatClampNeg := lp_lt hkN zc14
      refine lv_iload hx hb dX0_nearest_17 (lv_at hl 4 rfl) ?_
      refine lv_iload_n hx hb dX0_nearest_19 rfl (lv_at hl 1 rfl) ?_
      refine lv_icmp_eq (tgt := 43) hx hb dX0_nearest_20 (by decide) (fun zc20 => ?_) (fun zc20 => ?_)
      · -- 43
        refine lv_iinc (v := nI (k + 1)) (lv' := [(4, .int (nI (k + 1))), (0, .ref (aa G g 1)), (1, .int y1), (2, .int v.1), (3, .int v.2)]) hx hb dX0_nearest_43 hl (k := 4) rfl (nI_1 _) (by decide) rfl (fun ls hl => ?_)
        refine lv_goto (tgt := 8) hx hb dX0_nearest_46 (by decide) ?_
        exact ih (k + 1) (v.1, v.2) (by omega) (by omega) (by simp only [itn, ← ev, b_X0_nearest_8, if_pos zc20])  _ _ _ w (lv_sub hl [1, 2, 3, 4, 0] rfl)
      · -- 23
        refine lv_aload_n hx hb dX0_nearest_23 rfl (lv_at hl 0 rfl) ?_
        refine lv_iload hx hb dX0_nearest_24 (lv_at hl 4 rfl) ?_
        refine k_i (rr_v (rest := []) X w mX0_lackOf kw519 (c_X0_lackOf hg (nI k)) (hg.in (by decide)) hg.sh rfl ⟨Nat.le_of_ble_eq_true rfl, Nat.le_of_ble_eq_true rfl⟩ rfl hl.1 rfl (Nat.le_of_ble_eq_true rfl) dX0_nearest_26 ⟨Nat.zero_le _, Nat.zero_le _⟩) w (fun H locs w => ?_)
        refine lv_iload_n hx hb dX0_nearest_29 rfl (lv_at hl 2 rfl) ?_
        refine lv_icmp_le (tgt := 43) hx hb dX0_nearest_30 (by decide) (fun zc30 => ?_) (fun zc30 => ?_)
        · -- 43
          refine lv_iinc (v := nI (k + 1)) (lv' := [(4, .int (nI (k + 1))), (0, .ref (aa G g 1)), (1, .int y1), (2, .int v.1), (3, .int v.2)]) hx hb dX0_nearest_43 hl (k := 4) rfl (nI_1 _) (by decide) rfl (fun ls hl => ?_)
          refine lv_goto (tgt := 8) hx hb dX0_nearest_46 (by decide) ?_
          exact ih (k + 1) (v.1, v.2) (by omega) (by omega) (by simp only [itn, ← ev, b_X0_nearest_8, if_neg zc20, if_pos zc30])  _ _ _ w (lv_sub hl [1, 2, 3, 4, 0] rfl)
        · -- 33
          refine lv_aload_n hx hb dX0_nearest_33 rfl (lv_at hl 0 rfl) ?_
          refine lv_iload hx hb dX0_nearest_34 (lv_at hl 4 rfl) ?_
          refine k_i (rr_v (rest := []) X w mX0_lackOf kw519 (c_X0_lackOf hg (nI k)) (hg.in (by decide)) hg.sh rfl ⟨Nat.le_of_ble_eq_true rfl, Nat.le_of_ble_eq_true rfl⟩ rfl hl.1 rfl (Nat.le_of_ble_eq_true rfl) dX0_nearest_36 ⟨Nat.zero_le _, Nat.zero_le _⟩) w (fun H locs w => ?_)
          refine lv_topi (fun zv39 ezv39 => ?_)
          refine lv_istore_n (lv' := [(2, .int zv39), (0, .ref (aa G g 1)), (1, .int y1), (3, .int v.2), (4, .int (nI k))]) hx hb dX0_nearest_39 rfl hl (by decide) rfl (fun ls hl => ?_)
          refine lv_iload hx hb dX0_nearest_40 (lv_at hl 4 rfl) ?_
          refine lv_topi (fun zv42 ezv42 => ?_)
          refine lv_istore_n (lv' := [(3, .int zv42), (2, .int zv39), (0, .ref (aa G g 1)), (1, .int y1), (4, .int (nI k))]) hx hb dX0_nearest_42 rfl hl (by decide) rfl (fun ls hl => ?_)
          refine lv_iinc (v := nI (k + 1)) (lv' := [(4, .int (nI (k + 1))), (3, .int zv42), (2, .int zv39), (0, .ref (aa G g 1)), (1, .int y1)]) hx hb dX0_nearest_43 hl (k := 4) rfl (nI_1 _) (by decide) rfl (fun ls hl => ?_)
          refine lv_goto (tgt := 8) hx hb dX0_nearest_46 (by decide) ?_
          exact ih (k + 1) (zv39, zv42) (by omega) (by omega) (by replace ezv42 := ezv42.symm; subst ezv42; replace ezv39 := ezv39.symm; subst ezv39; simp only [itn, ← ev, b_X0_nearest_8, if_neg zc20, if_neg zc30])  _ _ _ w (lv_sub hl [3, 4, 2, 1, 0] rfl)
set_option maxRecDepth 100000 in
set_option maxHeartbeats 4000000 in
theorem c_X0_nearest {l : Launch} {G : GG} {σ : St} {g : Nat} {ρ : Gr} (hg : HG g)  (x1 : Int32) : MM l G yX0_nearest cX0_nearest 5 3 55 (some .int) [.ref (aa G g 1), .int x1] (setG σ g ρ) (Qi G (f_X0_nearest ρ x1) (setG σ g ρ)) := by
  refine MM.of (by decide) (Nat.le_of_ble_eq_true rfl) ?_
  intro p e s m below meth c ls X hr hlk w hl
  have hx := X.1.1
  have hb := X.1.2.1
  have hl : lv_has ls 5 [(0, .ref (aa G g 1)), (1, .int x1)] := hl
  refine lv_iconst (v := 0) hx hb dX0_nearest_0 (by decide) ?_
  refine lv_istore_n (lv' := [(2, .int 0), (0, .ref (aa G g 1)), (1, .int x1)]) hx hb dX0_nearest_1 rfl hl (by decide) rfl (fun ls hl => ?_)
  refine lv_bipush (v := (-9)) hx hb dX0_nearest_2 (by decide) ?_
  refine lv_istore_n (lv' := [(3, .int (-9)), (2, .int 0), (0, .ref (aa G g 1)), (1, .int x1)]) hx hb dX0_nearest_4 rfl hl (by decide) rfl (fun ls hl => ?_)
  refine lv_iconst (v := 0) hx hb dX0_nearest_5 (by decide) ?_
  refine lv_istore (lv' := [(4, .int 0), (3, .int (-9)), (2, .int 0), (0, .ref (aa G g 1)), (1, .int x1)]) hx hb dX0_nearest_6 hl (by decide) rfl (fun ls hl => ?_)
  refine lp_X0_nearest_8 hg X x1 (0, (-9))  (fun H locs ls w hl => ?_) ((ρ 1 0).toNatClampNeg + 1) 0 _ (Nat.zero_le _) (Nat.lt_succ_of_le (Nat.sub_le _ _)) rfl  _ _ _ w (lv_sub hl [3, 4, 2, 1, 0] rfl)
  obtain ⟨zl8, ezl8⟩ : ∃ y : Int32 × Int32, y = (l_X0_nearest_8 ρ x1 (0, (-9))) := ⟨_, rfl⟩
  rw [← ezl8] at hl
  refine lv_iload_n hx hb dX0_nearest_49 rfl (lv_at hl 3 rfl) ?_
  exact t_i X w hr hlk dX0_nearest_50 (by replace ezl8 := ezl8.symm; subst ezl8; simp only [f_X0_nearest]) rfl

noncomputable def b_X0_fullest_8 (ρ : Gr) (y1 : Int32) (k : Nat) (v : Int32 × Int32) : Int32 × Int32 :=
  if (nI k) = y1 then
    (v.1, v.2)
  else
    if (f_X0_lackOf ρ (nI k)) ≤ (-2) then
      (v.1, v.2)
    else
      if (f_X0_settledIn ρ (nI k)) ≤ v.1 then
        (v.1, v.2)
      else
        let zv50 : Int32 := f_X0_settledIn ρ (nI k)
        let zv53 : Int32 := nI k
        (zv50, zv53)
noncomputable def l_X0_fullest_8 (ρ : Gr) (y1 : Int32) (v0 : Int32 × Int32) : Int32 × Int32 := itn (b_X0_fullest_8 ρ y1) (ρ 1 0).toNatClampNeg v0
noncomputable def f_X0_fullest (ρ : Gr) (x1 : Int32) : Int32 :=
  let zl8 : Int32 × Int32 := (l_X0_fullest_8 ρ x1 ((-1), (-9)))
  zl8.2
set_option maxRecDepth 100000 in
set_option maxHeartbeats 4000000 in
theorem lp_X0_fullest_8 {l : Launch} {G : GG} {p : Program} {e : Env} {s : State} {m : MethodId} {args : Array Value} {below : List Frame} {meth : Method} {c : Code} {Q : State → Prop} {σ : St} {g : Nat} (hg : HG g) {ρ : Gr} (X : Cx p m c cX0_fullest 5 s args RX0 G) (y1 : Int32) (v0 : Int32 × Int32) 
    (kk : ∀ (H : Heap) (locs : List Loc) (ls : Array Slot), Wh G s σ g ρ H locs → lv_has ls 5 [(0, .ref (aa G g 1)), (1, .int y1), (2, .int ((l_X0_fullest_8 ρ y1 v0).1)), (3, .int ((l_X0_fullest_8 ρ y1 v0).2)), (4, .int (nI ((ρ 1 0).toNatClampNeg)))] → W p l e (rmv 3 55) s m args below meth c H locs 0 0 Q (F0 m 60 ls [])) :
    ∀ (n k : Nat) (v : Int32 × Int32), k ≤ (ρ 1 0).toNatClampNeg → (ρ 1 0).toNatClampNeg - k < n → v = itn (b_X0_fullest_8 ρ y1) k v0 → ∀ (H : Heap) (locs : List Loc) (ls : Array Slot), Wh G s σ g ρ H locs → lv_has ls 5 [(0, .ref (aa G g 1)), (1, .int y1), (2, .int v.1), (3, .int v.2), (4, .int (nI k))] → W p l e (rmv 3 55) s m args below meth c H locs 0 0 Q (F0 m 8 ls []) := by
  have hx := X.1.1
  have hb := X.1.2.1
  intro n
  induction n with
  | zero => intro k v _ h; omega
  | succ n ih =>
    intro k v hkN hn ev H locs ls w hl
    refine lv_iload hx hb dX0_fullest_8 (lv_at hl 4 rfl) ?_
    refine lv_aload_n hx hb dX0_fullest_10 rfl (lv_at hl 0 rfl) ?_
    refine gf0_9 hg X w dX0_fullest_11 ?_
    refine lv_icmp_ge (tgt := 60) hx hb dX0_fullest_14 (by decide) (fun zc14 => ?_) (fun zc14 => ?_)
    · -- 60
      have hkE : k = (ρ 1 0).toNatClampNeg := lp_eq hkN zc14
      have ev2 : l_X0_fullest_8 ρ y1 v0 = v := by unfold l_X0_fullest_8; rw [← hkE]; exact ev.symm
      rw [ev2] at kk
      rw [hkE] at hl
      exact kk _ _ _ w (lv_sub hl [0, 1, 2, 3, 4] rfl)
    · -- 17
      have hk : k < (ρ 1 0).toNatClampNeg := lp_lt hkN zc14
      refine lv_iload hx hb dX0_fullest_17 (lv_at hl 4 rfl) ?_
      refine lv_iload_n hx hb dX0_fullest_19 rfl (lv_at hl 1 rfl) ?_
      refine lv_icmp_eq (tgt := 54) hx hb dX0_fullest_20 (by decide) (fun zc20 => ?_) (fun zc20 => ?_)
      · -- 54
        refine lv_iinc (v := nI (k + 1)) (lv' := [(4, .int (nI (k + 1))), (0, .ref (aa G g 1)), (1, .int y1), (2, .int v.1), (3, .int v.2)]) hx hb dX0_fullest_54 hl (k := 4) rfl (nI_1 _) (by decide) rfl (fun ls hl => ?_)
        refine lv_goto (tgt := 8) hx hb dX0_fullest_57 (by decide) ?_
        exact ih (k + 1) (v.1, v.2) (by omega) (by omega) (by simp only [itn, ← ev, b_X0_fullest_8, if_pos zc20])  _ _ _ w (lv_sub hl [1, 2, 3, 4, 0] rfl)
      · -- 23
        refine lv_aload_n hx hb dX0_fullest_23 rfl (lv_at hl 0 rfl) ?_
        refine lv_iload hx hb dX0_fullest_24 (lv_at hl 4 rfl) ?_
        refine k_i (rr_v (rest := []) X w mX0_lackOf kw519 (c_X0_lackOf hg (nI k)) (hg.in (by decide)) hg.sh rfl ⟨Nat.le_of_ble_eq_true rfl, Nat.le_of_ble_eq_true rfl⟩ rfl hl.1 rfl (Nat.le_of_ble_eq_true rfl) dX0_fullest_26 ⟨Nat.zero_le _, Nat.zero_le _⟩) w (fun H locs w => ?_)
        refine lv_bipush (v := (-2)) hx hb dX0_fullest_29 (by decide) ?_
        refine lv_icmp_le (tgt := 54) hx hb dX0_fullest_31 (by decide) (fun zc31 => ?_) (fun zc31 => ?_)
        · -- 54
          refine lv_iinc (v := nI (k + 1)) (lv' := [(4, .int (nI (k + 1))), (0, .ref (aa G g 1)), (1, .int y1), (2, .int v.1), (3, .int v.2)]) hx hb dX0_fullest_54 hl (k := 4) rfl (nI_1 _) (by decide) rfl (fun ls hl => ?_)
          refine lv_goto (tgt := 8) hx hb dX0_fullest_57 (by decide) ?_
          exact ih (k + 1) (v.1, v.2) (by omega) (by omega) (by simp only [itn, ← ev, b_X0_fullest_8, if_neg zc20, if_pos zc31])  _ _ _ w (lv_sub hl [1, 2, 3, 4, 0] rfl)
        · -- 34
          refine lv_aload_n hx hb dX0_fullest_34 rfl (lv_at hl 0 rfl) ?_
          refine lv_iload hx hb dX0_fullest_35 (lv_at hl 4 rfl) ?_
          refine k_i (rr_v (rest := []) X w mX0_settledIn kw476 (c_X0_settledIn hg (nI k)) (hg.in (by decide)) hg.sh rfl ⟨Nat.le_of_ble_eq_true rfl, Nat.le_of_ble_eq_true rfl⟩ rfl hl.1 rfl (Nat.le_of_ble_eq_true rfl) dX0_fullest_37 ⟨Nat.zero_le _, Nat.zero_le _⟩) w (fun H locs w => ?_)
          refine lv_iload_n hx hb dX0_fullest_40 rfl (lv_at hl 2 rfl) ?_
          refine lv_icmp_le (tgt := 54) hx hb dX0_fullest_41 (by decide) (fun zc41 => ?_) (fun zc41 => ?_)
          · -- 54
            refine lv_iinc (v := nI (k + 1)) (lv' := [(4, .int (nI (k + 1))), (0, .ref (aa G g 1)), (1, .int y1), (2, .int v.1), (3, .int v.2)]) hx hb dX0_fullest_54 hl (k := 4) rfl (nI_1 _) (by decide) rfl (fun ls hl => ?_)
            refine lv_goto (tgt := 8) hx hb dX0_fullest_57 (by decide) ?_
            exact ih (k + 1) (v.1, v.2) (by omega) (by omega) (by simp only [itn, ← ev, b_X0_fullest_8, if_neg zc20, if_neg zc31, if_pos zc41])  _ _ _ w (lv_sub hl [1, 2, 3, 4, 0] rfl)
          · -- 44
            refine lv_aload_n hx hb dX0_fullest_44 rfl (lv_at hl 0 rfl) ?_
            refine lv_iload hx hb dX0_fullest_45 (lv_at hl 4 rfl) ?_
            refine k_i (rr_v (rest := []) X w mX0_settledIn kw476 (c_X0_settledIn hg (nI k)) (hg.in (by decide)) hg.sh rfl ⟨Nat.le_of_ble_eq_true rfl, Nat.le_of_ble_eq_true rfl⟩ rfl hl.1 rfl (Nat.le_of_ble_eq_true rfl) dX0_fullest_47 ⟨Nat.zero_le _, Nat.zero_le _⟩) w (fun H locs w => ?_)
            refine lv_topi (fun zv50 ezv50 => ?_)
            refine lv_istore_n (lv' := [(2, .int zv50), (0, .ref (aa G g 1)), (1, .int y1), (3, .int v.2), (4, .int (nI k))]) hx hb dX0_fullest_50 rfl hl (by decide) rfl (fun ls hl => ?_)
            refine lv_iload hx hb dX0_fullest_51 (lv_at hl 4 rfl) ?_
            refine lv_topi (fun zv53 ezv53 => ?_)
            refine lv_istore_n (lv' := [(3, .int zv53), (2, .int zv50), (0, .ref (aa G g 1)), (1, .int y1), (4, .int (nI k))]) hx hb dX0_fullest_53 rfl hl (by decide) rfl (fun ls hl => ?_)
            refine lv_iinc (v := nI (k + 1)) (lv' := [(4, .int (nI (k + 1))), (3, .int zv53), (2, .int zv50), (0, .ref (aa G g 1)), (1, .int y1)]) hx hb dX0_fullest_54 hl (k := 4) rfl (nI_1 _) (by decide) rfl (fun ls hl => ?_)
            refine lv_goto (tgt := 8) hx hb dX0_fullest_57 (by decide) ?_
            exact ih (k + 1) (zv50, zv53) (by omega) (by omega) (by replace ezv53 := ezv53.symm; subst ezv53; replace ezv50 := ezv50.symm; subst ezv50; simp only [itn, ← ev, b_X0_fullest_8, if_neg zc20, if_neg zc31, if_neg zc41])  _ _ _ w (lv_sub hl [3, 4, 2, 1, 0] rfl)
set_option maxRecDepth 100000 in
set_option maxHeartbeats 4000000 in
theorem c_X0_fullest {l : Launch} {G : GG} {σ : St} {g : Nat} {ρ : Gr} (hg : HG g)  (x1 : Int32) : MM l G yX0_fullest cX0_fullest 5 3 55 (some .int) [.ref (aa G g 1), .int x1] (setG σ g ρ) (Qi G (f_X0_fullest ρ x1) (setG σ g ρ)) := by
  refine MM.of (by decide) (Nat.le_of_ble_eq_true rfl) ?_
  intro p e s m below meth c ls X hr hlk w hl
  have hx := X.1.1
  have hb := X.1.2.1
  have hl : lv_has ls 5 [(0, .ref (aa G g 1)), (1, .int x1)] := hl
  refine lv_iconst (v := (-1)) hx hb dX0_fullest_0 (by decide) ?_
  refine lv_istore_n (lv' := [(2, .int (-1)), (0, .ref (aa G g 1)), (1, .int x1)]) hx hb dX0_fullest_1 rfl hl (by decide) rfl (fun ls hl => ?_)
  refine lv_bipush (v := (-9)) hx hb dX0_fullest_2 (by decide) ?_
  refine lv_istore_n (lv' := [(3, .int (-9)), (2, .int (-1)), (0, .ref (aa G g 1)), (1, .int x1)]) hx hb dX0_fullest_4 rfl hl (by decide) rfl (fun ls hl => ?_)
  refine lv_iconst (v := 0) hx hb dX0_fullest_5 (by decide) ?_
  refine lv_istore (lv' := [(4, .int 0), (3, .int (-9)), (2, .int (-1)), (0, .ref (aa G g 1)), (1, .int x1)]) hx hb dX0_fullest_6 hl (by decide) rfl (fun ls hl => ?_)
  refine lp_X0_fullest_8 hg X x1 ((-1), (-9))  (fun H locs ls w hl => ?_) ((ρ 1 0).toNatClampNeg + 1) 0 _ (Nat.zero_le _) (Nat.lt_succ_of_le (Nat.sub_le _ _)) rfl  _ _ _ w (lv_sub hl [3, 4, 2, 1, 0] rfl)
  obtain ⟨zl8, ezl8⟩ : ∃ y : Int32 × Int32, y = (l_X0_fullest_8 ρ x1 ((-1), (-9))) := ⟨_, rfl⟩
  rw [← ezl8] at hl
  refine lv_iload_n hx hb dX0_fullest_60 rfl (lv_at hl 3 rfl) ?_
  exact t_i X w hr hlk dX0_fullest_61 (by replace ezl8 := ezl8.symm; subst ezl8; simp only [f_X0_fullest]) rfl

noncomputable def g_X5_become (ρ : Gr) (τ : Gr)  : Gr :=
  let zs5 : Gr := up ρ 9 0 (τ 9 0)
  let zs20 : Gr := setF zs5 10 (va_cpy (τ 10) (zs5 10) 0 0 (24 : Int32).toNatClampNeg)
  let zs35 : Gr := setF zs20 11 (va_cpy (τ 11) (zs20 11) 0 0 (24 : Int32).toNatClampNeg)
  let zs50 : Gr := setF zs35 12 (va_cpy (τ 12) (zs35 12) 0 0 (24 : Int32).toNatClampNeg)
  let zs65 : Gr := setF zs50 13 (va_cpy (τ 13) (zs50 13) 0 0 (24 : Int32).toNatClampNeg)
  let zs80 : Gr := setF zs65 14 (va_cpy (τ 14) (zs65 14) 0 0 (24 : Int32).toNatClampNeg)
  let zs88 : Gr := up zs80 9 6 (τ 9 6)
  zs88
set_option maxRecDepth 100000 in
set_option maxHeartbeats 4000000 in
theorem c_X5_become {l : Launch} {G : GG} {σ : St} {g : Nat} {ρ : Gr} (hg : HG g) {h : Nat} {τ : Gr} (hh : HG h) (hne : h ≠ g) (hτ : σ h = τ)   : MM l G yX5_become cX5_become 2 1 40 none [.ref (aa G g 9), .ref (aa G h 9)] (setG σ g ρ) (Qv G (setG σ g (g_X5_become ρ τ))) := by
  refine MM.of (by decide) (Nat.le_of_ble_eq_true rfl) ?_
  intro p e s m below meth c ls X hr hlk w hl
  have hx := X.1.1
  have hb := X.1.2.1
  have hl : lv_has ls 2 [(0, .ref (aa G g 9)), (1, .ref (aa G h 9))] := hl
  refine lv_aload_n hx hb dX5_become_0 rfl (lv_at hl 0 rfl) ?_
  refine lv_aload_n hx hb dX5_become_1 rfl (lv_at hl 1 rfl) ?_
  refine gf5_9 hh X (w.oth hne hτ) dX5_become_2 ?_
  refine pf5_9 hg X w dX5_become_5 (fun zs5 H locs ezs5 w => ?_)
  refine lv_aload_n hx hb dX5_become_8 rfl (lv_at hl 1 rfl) ?_
  refine gf5_15 hh X (w.oth hne hτ) dX5_become_9 ?_
  refine lv_iconst (v := 0) hx hb dX5_become_12 (by decide) ?_
  refine lv_aload_n hx hb dX5_become_13 rfl (lv_at hl 0 rfl) ?_
  refine gf5_15 hg X w dX5_become_14 ?_
  refine lv_iconst (v := 0) hx hb dX5_become_17 (by decide) ?_
  refine lv_bipush (v := 24) hx hb dX5_become_18 (by decide) ?_
  change W _ _ _ _ _ _ _ _ _ _ _ _ _ _ _ (F0 m 20 ls _)
  refine r_cp (g0 := h) (f0 := 10) (f := 10) (n0 := 24) (n1 := 24) (src := τ 10) X w hl.1 (hh.in (by decide)) hh.sh (by rw [setG_ne hne, hτ]) (hg.in (by decide)) hg.sh kw297 (by decide) (by decide) (by decide) (Nat.le_of_ble_eq_true rfl) (Nat.le_of_ble_eq_true rfl) dX5_become_20 (fun H locs w => ?_)
  obtain ⟨zs20, ezs20⟩ : ∃ y : Gr, y = setF zs5 10 (va_cpy (τ 10) (zs5 10) 0 0 (24 : Int32).toNatClampNeg) := ⟨_, rfl⟩; rw [← ezs20] at w
  refine lv_aload_n hx hb dX5_become_23 rfl (lv_at hl 1 rfl) ?_
  refine gf5_19 hh X (w.oth hne hτ) dX5_become_24 ?_
  refine lv_iconst (v := 0) hx hb dX5_become_27 (by decide) ?_
  refine lv_aload_n hx hb dX5_become_28 rfl (lv_at hl 0 rfl) ?_
  refine gf5_19 hg X w dX5_become_29 ?_
  refine lv_iconst (v := 0) hx hb dX5_become_32 (by decide) ?_
  refine lv_bipush (v := 24) hx hb dX5_become_33 (by decide) ?_
  refine r_cp (g0 := h) (f0 := 11) (f := 11) (n0 := 24) (n1 := 24) (src := τ 11) X w hl.1 (hh.in (by decide)) hh.sh (by rw [setG_ne hne, hτ]) (hg.in (by decide)) hg.sh kw297 (by decide) (by decide) (by decide) (Nat.le_of_ble_eq_true rfl) (Nat.le_of_ble_eq_true rfl) dX5_become_35 (fun H locs w => ?_)
  obtain ⟨zs35, ezs35⟩ : ∃ y : Gr, y = setF zs20 11 (va_cpy (τ 11) (zs20 11) 0 0 (24 : Int32).toNatClampNeg) := ⟨_, rfl⟩; rw [← ezs35] at w
  refine lv_aload_n hx hb dX5_become_38 rfl (lv_at hl 1 rfl) ?_
  refine gf5_22 hh X (w.oth hne hτ) dX5_become_39 ?_
  refine lv_iconst (v := 0) hx hb dX5_become_42 (by decide) ?_
  change W _ _ _ _ _ _ _ _ _ _ _ _ _ _ _ (F0 m 43 ls _)
  refine lv_aload_n hx hb dX5_become_43 rfl (lv_at hl 0 rfl) ?_
  refine gf5_22 hg X w dX5_become_44 ?_
  refine lv_iconst (v := 0) hx hb dX5_become_47 (by decide) ?_
  refine lv_bipush (v := 24) hx hb dX5_become_48 (by decide) ?_
  refine r_cp (g0 := h) (f0 := 12) (f := 12) (n0 := 24) (n1 := 24) (src := τ 12) X w hl.1 (hh.in (by decide)) hh.sh (by rw [setG_ne hne, hτ]) (hg.in (by decide)) hg.sh kw297 (by decide) (by decide) (by decide) (Nat.le_of_ble_eq_true rfl) (Nat.le_of_ble_eq_true rfl) dX5_become_50 (fun H locs w => ?_)
  obtain ⟨zs50, ezs50⟩ : ∃ y : Gr, y = setF zs35 12 (va_cpy (τ 12) (zs35 12) 0 0 (24 : Int32).toNatClampNeg) := ⟨_, rfl⟩; rw [← ezs50] at w
  refine lv_aload_n hx hb dX5_become_53 rfl (lv_at hl 1 rfl) ?_
  refine gf5_25 hh X (w.oth hne hτ) dX5_become_54 ?_
  refine lv_iconst (v := 0) hx hb dX5_become_57 (by decide) ?_
  refine lv_aload_n hx hb dX5_become_58 rfl (lv_at hl 0 rfl) ?_
  refine gf5_25 hg X w dX5_become_59 ?_
  refine lv_iconst (v := 0) hx hb dX5_become_62 (by decide) ?_
  refine lv_bipush (v := 24) hx hb dX5_become_63 (by decide) ?_
  change W _ _ _ _ _ _ _ _ _ _ _ _ _ _ _ (F0 m 65 ls _)
  refine r_cp (g0 := h) (f0 := 13) (f := 13) (n0 := 24) (n1 := 24) (src := τ 13) X w hl.1 (hh.in (by decide)) hh.sh (by rw [setG_ne hne, hτ]) (hg.in (by decide)) hg.sh kw297 (by decide) (by decide) (by decide) (Nat.le_of_ble_eq_true rfl) (Nat.le_of_ble_eq_true rfl) dX5_become_65 (fun H locs w => ?_)
  obtain ⟨zs65, ezs65⟩ : ∃ y : Gr, y = setF zs50 13 (va_cpy (τ 13) (zs50 13) 0 0 (24 : Int32).toNatClampNeg) := ⟨_, rfl⟩; rw [← ezs65] at w
  refine lv_aload_n hx hb dX5_become_68 rfl (lv_at hl 1 rfl) ?_
  refine gf5_28 hh X (w.oth hne hτ) dX5_become_69 ?_
  refine lv_iconst (v := 0) hx hb dX5_become_72 (by decide) ?_
  refine lv_aload_n hx hb dX5_become_73 rfl (lv_at hl 0 rfl) ?_
  refine gf5_28 hg X w dX5_become_74 ?_
  refine lv_iconst (v := 0) hx hb dX5_become_77 (by decide) ?_
  refine lv_bipush (v := 24) hx hb dX5_become_78 (by decide) ?_
  refine r_cp (g0 := h) (f0 := 14) (f := 14) (n0 := 24) (n1 := 24) (src := τ 14) X w hl.1 (hh.in (by decide)) hh.sh (by rw [setG_ne hne, hτ]) (hg.in (by decide)) hg.sh kw297 (by decide) (by decide) (by decide) (Nat.le_of_ble_eq_true rfl) (Nat.le_of_ble_eq_true rfl) dX5_become_80 (fun H locs w => ?_)
  obtain ⟨zs80, ezs80⟩ : ∃ y : Gr, y = setF zs65 14 (va_cpy (τ 14) (zs65 14) 0 0 (24 : Int32).toNatClampNeg) := ⟨_, rfl⟩; rw [← ezs80] at w
  refine lv_aload_n hx hb dX5_become_83 rfl (lv_at hl 0 rfl) ?_
  refine lv_aload_n hx hb dX5_become_84 rfl (lv_at hl 1 rfl) ?_
  refine gf5_31 hh X (w.oth hne hτ) dX5_become_85 ?_
  change W _ _ _ _ _ _ _ _ _ _ _ _ _ _ _ (F0 m 88 ls _)
  refine pf5_31 hg X w dX5_become_88 (fun zs88 H locs ezs88 w => ?_)
  exact t_v X w hr hlk dX5_become_91 (by replace ezs88 := ezs88.symm; subst ezs88; replace ezs80 := ezs80.symm; subst ezs80; replace ezs65 := ezs65.symm; subst ezs65; replace ezs50 := ezs50.symm; subst ezs50; replace ezs35 := ezs35.symm; subst ezs35; replace ezs20 := ezs20.symm; subst ezs20; replace ezs5 := ezs5.symm; subst ezs5; simp only [g_X5_become])

noncomputable def f_X5_has (ρ : Gr) (x1 : Int32) : Int32 :=
  if x1 < 0 then
    0
  else
    if (ρ 9 0) ≤ x1 then
      0
    else
      if 24 ≤ x1 then
        0
      else
        1
set_option maxRecDepth 100000 in
set_option maxHeartbeats 4000000 in
theorem c_X5_has {l : Launch} {G : GG} {σ : St} {g : Nat} {ρ : Gr} (hg : HG g)  (x1 : Int32) : MM l G yX5_has cX5_has 2 0 0 (some .boolean) [.ref (aa G g 9), .int x1] (setG σ g ρ) (Qi G (f_X5_has ρ x1) (setG σ g ρ)) := by
  refine MM.of (by decide) (Nat.le_of_ble_eq_true rfl) ?_
  intro p e s m below meth c ls X hr hlk w hl
  have hx := X.1.1
  have hb := X.1.2.1
  have hl : lv_has ls 2 [(0, .ref (aa G g 9)), (1, .int x1)] := hl
  refine lv_iload_n hx hb dX5_has_0 rfl (lv_at hl 1 rfl) ?_
  refine lv_if_lt (tgt := 22) hx hb dX5_has_1 (by decide) (fun zc1 => ?_) (fun zc1 => ?_)
  · -- 22
    refine lv_iconst (v := 0) hx hb dX5_has_22 (by decide) ?_
    exact t_z X w hr hlk isB0.n dX5_has_23 (by simp only [f_X5_has, if_pos zc1]) rfl
  · -- 4
    refine lv_iload_n hx hb dX5_has_4 rfl (lv_at hl 1 rfl) ?_
    refine lv_aload_n hx hb dX5_has_5 rfl (lv_at hl 0 rfl) ?_
    refine gf5_9 hg X w dX5_has_6 ?_
    refine lv_icmp_ge (tgt := 22) hx hb dX5_has_9 (by decide) (fun zc9 => ?_) (fun zc9 => ?_)
    · -- 22
      refine lv_iconst (v := 0) hx hb dX5_has_22 (by decide) ?_
      exact t_z X w hr hlk isB0.n dX5_has_23 (by simp only [f_X5_has, if_neg zc1, if_pos zc9]) rfl
    · -- 12
      refine lv_iload_n hx hb dX5_has_12 rfl (lv_at hl 1 rfl) ?_
      refine lv_bipush (v := 24) hx hb dX5_has_13 (by decide) ?_
      refine lv_icmp_ge (tgt := 22) hx hb dX5_has_15 (by decide) (fun zc15 => ?_) (fun zc15 => ?_)
      · -- 22
        refine lv_iconst (v := 0) hx hb dX5_has_22 (by decide) ?_
        exact t_z X w hr hlk isB0.n dX5_has_23 (by simp only [f_X5_has, if_neg zc1, if_neg zc9, if_pos zc15]) rfl
      · -- 18
        refine lv_iconst (v := 1) hx hb dX5_has_18 (by decide) ?_
        refine lv_goto (tgt := 23) hx hb dX5_has_19 (by decide) ?_
        exact t_z X w hr hlk isB1.n dX5_has_23 (by simp only [f_X5_has, if_neg zc1, if_neg zc9, if_neg zc15]) rfl

noncomputable def f_X5_isFull (ρ : Gr)  : Int32 :=
  if (ρ 9 0) < 0 then
    1
  else
    if (ρ 9 0) < 24 then
      0
    else
      1
set_option maxRecDepth 100000 in
set_option maxHeartbeats 4000000 in
theorem c_X5_isFull {l : Launch} {G : GG} {σ : St} {g : Nat} {ρ : Gr} (hg : HG g)   : MM l G yX5_isFull cX5_isFull 1 0 0 (some .boolean) [.ref (aa G g 9)] (setG σ g ρ) (Qi G (f_X5_isFull ρ) (setG σ g ρ)) := by
  refine MM.of (by decide) (Nat.le_of_ble_eq_true rfl) ?_
  intro p e s m below meth c ls X hr hlk w hl
  have hx := X.1.1
  have hb := X.1.2.1
  have hl : lv_has ls 1 [(0, .ref (aa G g 9))] := hl
  refine lv_aload_n hx hb dX5_isFull_0 rfl (lv_at hl 0 rfl) ?_
  refine gf5_9 hg X w dX5_isFull_1 ?_
  refine lv_if_lt (tgt := 16) hx hb dX5_isFull_4 (by decide) (fun zc4 => ?_) (fun zc4 => ?_)
  · -- 16
    refine lv_iconst (v := 1) hx hb dX5_isFull_16 (by decide) ?_
    refine lv_goto (tgt := 21) hx hb dX5_isFull_17 (by decide) ?_
    exact t_z X w hr hlk isB1.n dX5_isFull_21 (by simp only [f_X5_isFull, if_pos zc4]) rfl
  · -- 7
    refine lv_aload_n hx hb dX5_isFull_7 rfl (lv_at hl 0 rfl) ?_
    refine gf5_9 hg X w dX5_isFull_8 ?_
    refine lv_bipush (v := 24) hx hb dX5_isFull_11 (by decide) ?_
    refine lv_icmp_lt (tgt := 20) hx hb dX5_isFull_13 (by decide) (fun zc13 => ?_) (fun zc13 => ?_)
    · -- 20
      refine lv_iconst (v := 0) hx hb dX5_isFull_20 (by decide) ?_
      exact t_z X w hr hlk isB0.n dX5_isFull_21 (by simp only [f_X5_isFull, if_neg zc4, if_pos zc13]) rfl
    · -- 16
      refine lv_iconst (v := 1) hx hb dX5_isFull_16 (by decide) ?_
      refine lv_goto (tgt := 21) hx hb dX5_isFull_17 (by decide) ?_
      exact t_z X w hr hlk isB1.n dX5_isFull_21 (by simp only [f_X5_isFull, if_neg zc4, if_neg zc13]) rfl

theorem fullX5 {ρ : Gr} (h : f_X5_isFull ρ = 0) : vp_in (ρ 9 0) 24 := by
  unfold f_X5_isFull at h
  by_cases h1 : ρ 9 0 < 0
  · rw [if_pos h1] at h; exact absurd h (by decide)
  · by_cases h2 : ρ 9 0 < 24
    · exact vin_l h1 h2 (by decide)
    · rw [if_neg h1, if_neg h2] at h; exact absurd h (by decide)

noncomputable def f_X5_isShut (ρ : Gr) (x1 : Int32) : Int32 :=
  if (((ρ 9 6) >>> (x1 &&& 31)) &&& 1) = 1 then
    1
  else
    0
set_option maxRecDepth 100000 in
set_option maxHeartbeats 4000000 in
theorem c_X5_isShut {l : Launch} {G : GG} {σ : St} {g : Nat} {ρ : Gr} (hg : HG g)  (x1 : Int32) : MM l G yX5_isShut cX5_isShut 2 0 0 (some .boolean) [.ref (aa G g 9), .int x1] (setG σ g ρ) (Qi G (f_X5_isShut ρ x1) (setG σ g ρ)) := by
  refine MM.of (by decide) (Nat.le_of_ble_eq_true rfl) ?_
  intro p e s m below meth c ls X hr hlk w hl
  have hx := X.1.1
  have hb := X.1.2.1
  have hl : lv_has ls 2 [(0, .ref (aa G g 9)), (1, .int x1)] := hl
  refine lv_aload_n hx hb dX5_isShut_0 rfl (lv_at hl 0 rfl) ?_
  refine gf5_31 hg X w dX5_isShut_1 ?_
  refine lv_iload_n hx hb dX5_isShut_4 rfl (lv_at hl 1 rfl) ?_
  refine lv_ishr hx hb dX5_isShut_5 ?_
  refine lv_iconst (v := 1) hx hb dX5_isShut_6 (by decide) ?_
  refine lv_iand hx hb dX5_isShut_7 ?_
  refine lv_iconst (v := 1) hx hb dX5_isShut_8 (by decide) ?_
  refine lv_icmp_ne (tgt := 16) hx hb dX5_isShut_9 (by decide) (fun zc9 => ?_) (fun zc9 => ?_)
  · -- 16
    refine lv_iconst (v := 0) hx hb dX5_isShut_16 (by decide) ?_
    exact t_z X w hr hlk isB0.n dX5_isShut_17 (by simp only [f_X5_isShut, if_neg zc9]) rfl
  · -- 12
    refine lv_iconst (v := 1) hx hb dX5_isShut_12 (by decide) ?_
    refine lv_goto (tgt := 17) hx hb dX5_isShut_13 (by decide) ?_
    exact t_z X w hr hlk isB1.n dX5_isShut_17 (by simp only [f_X5_isShut, if_pos zc9]) rfl

noncomputable def g_X5_turn (ρ : Gr) (x1 : Int32) : Gr :=
  let zs9 : Gr := up ρ 9 6 ((ρ 9 6) ^^^ (1 <<< (x1 &&& 31)))
  zs9
set_option maxRecDepth 100000 in
set_option maxHeartbeats 4000000 in
theorem c_X5_turn {l : Launch} {G : GG} {σ : St} {g : Nat} {ρ : Gr} (hg : HG g)  (x1 : Int32) : MM l G yX5_turn cX5_turn 2 0 0 none [.ref (aa G g 9), .int x1] (setG σ g ρ) (Qv G (setG σ g (g_X5_turn ρ x1))) := by
  refine MM.of (by decide) (Nat.le_of_ble_eq_true rfl) ?_
  intro p e s m below meth c ls X hr hlk w hl
  have hx := X.1.1
  have hb := X.1.2.1
  have hl : lv_has ls 2 [(0, .ref (aa G g 9)), (1, .int x1)] := hl
  refine lv_aload_n hx hb dX5_turn_0 rfl (lv_at hl 0 rfl) ?_
  refine lv_dup hx hb dX5_turn_1 rfl ?_
  refine gf5_31 hg X w dX5_turn_2 ?_
  refine lv_iconst (v := 1) hx hb dX5_turn_5 (by decide) ?_
  refine lv_iload_n hx hb dX5_turn_6 rfl (lv_at hl 1 rfl) ?_
  refine lv_ishl hx hb dX5_turn_7 ?_
  refine lv_ixor hx hb dX5_turn_8 ?_
  refine pf5_31 hg X w dX5_turn_9 (fun zs9 H locs ezs9 w => ?_)
  exact t_v X w hr hlk dX5_turn_12 (by replace ezs9 := ezs9.symm; subst ezs9; simp only [g_X5_turn])

noncomputable def b_X5_together_6 (ρ : Gr) (y1 : Int32) (y2 : Int32) (y3 : Int32) (k : Nat) (v : Int32) : Int32 :=
  if (ρ 10 (nI k).toNatClampNeg) = y1 then
    if (ρ 12 (nI k).toNatClampNeg) = y2 then
      if (ρ 13 (nI k).toNatClampNeg) = y3 then
        let zv65 : Int32 := v + (ρ 14 (nI k).toNatClampNeg)
        zv65
      else
        v
    else
      v
  else
    v
noncomputable def l_X5_together_6 (ρ : Gr) (y1 : Int32) (y2 : Int32) (y3 : Int32) (v0 : Int32) : Int32 := itn (b_X5_together_6 ρ y1 y2 y3) (ρ 9 0).toNatClampNeg v0
noncomputable def f_X5_together (ρ : Gr) (x1 : Int32) (x2 : Int32) (x3 : Int32) : Int32 :=
  let zl6 : Int32 := (l_X5_together_6 ρ x1 x2 x3 0)
  zl6
set_option maxRecDepth 100000 in
set_option maxHeartbeats 4000000 in
theorem lp_X5_together_6 {l : Launch} {G : GG} {p : Program} {e : Env} {s : State} {m : MethodId} {args : Array Value} {below : List Frame} {meth : Method} {c : Code} {Q : State → Prop} {σ : St} {g : Nat} (hg : HG g) {ρ : Gr} (X : Cx p m c cX5_together 6 s args RX5 G) (y1 : Int32) (y2 : Int32) (y3 : Int32) (v0 : Int32) (hw : (ρ 9 0).toNatClampNeg ≤ 24)
    (kk : ∀ (H : Heap) (locs : List Loc) (ls : Array Slot), Wh G s σ g ρ H locs → lv_has ls 6 [(0, .ref (aa G g 9)), (1, .int y1), (2, .int y2), (3, .int y3), (4, .int (l_X5_together_6 ρ y1 y2 y3 v0)), (5, .int (nI ((ρ 9 0).toNatClampNeg)))] → W p l e (rmv 0 0) s m args below meth c H locs 0 0 Q (F0 m 73 ls [])) :
    ∀ (n k : Nat) (v : Int32), k ≤ (ρ 9 0).toNatClampNeg → (ρ 9 0).toNatClampNeg - k < n → v = itn (b_X5_together_6 ρ y1 y2 y3) k v0 → ∀ (H : Heap) (locs : List Loc) (ls : Array Slot), Wh G s σ g ρ H locs → lv_has ls 6 [(0, .ref (aa G g 9)), (1, .int y1), (2, .int y2), (3, .int y3), (4, .int v), (5, .int (nI k))] → W p l e (rmv 0 0) s m args below meth c H locs 0 0 Q (F0 m 6 ls []) := by
  have hx := X.1.1
  have hb := X.1.2.1
  intro n
  induction n with
  | zero => intro k v _ h; omega
  | succ n ih =>
    intro k v hkN hn ev H locs ls w hl
    refine lv_iload hx hb dX5_together_6 (lv_at hl 5 rfl) ?_
    refine lv_aload_n hx hb dX5_together_8 rfl (lv_at hl 0 rfl) ?_
    refine gf5_9 hg X w dX5_together_9 ?_
    refine lv_icmp_ge (tgt := 73) hx hb dX5_together_12 (by decide) (fun zc12 => ?_) (fun zc12 => ?_)
    · -- 73
      have hkE : k = (ρ 9 0).toNatClampNeg := lp_eq hkN zc12
      have ev2 : l_X5_together_6 ρ y1 y2 y3 v0 = v := by unfold l_X5_together_6; rw [← hkE]; exact ev.symm
      rw [ev2] at kk
      rw [hkE] at hl
      exact kk _ _ _ w (lv_sub hl [0, 1, 2, 3, 4, 5] rfl)
    · -- 15
      have hk : k < (ρ 9 0).toNatClampNeg := lp_lt hkN zc12
      refine lv_iload hx hb dX5_together_15 (lv_at hl 5 rfl) ?_
      refine lv_bipush (v := 24) hx hb dX5_together_17 (by decide) ?_
      refine lv_icmp_ge (tgt := 73) hx hb dX5_together_19 (by decide) (fun zc19 => absurd zc19 (kn24 (by omega))) (fun _ => ?_)
      refine lv_aload_n hx hb dX5_together_22 rfl (lv_at hl 0 rfl) ?_
      refine gf5_15 hg X w dX5_together_23 ?_
      refine lv_iload hx hb dX5_together_26 (lv_at hl 5 rfl) ?_
      refine ia (f := 10) (n := 24) X w (hg.in (by decide)) hg.sh (vp_in_nI (by omega) (by decide)) dX5_together_28 ?_
      refine lv_iload_n hx hb dX5_together_29 rfl (lv_at hl 1 rfl) ?_
      refine lv_icmp_ne (tgt := 67) hx hb dX5_together_30 (by decide) (fun zc30 => ?_) (fun zc30 => ?_)
      · -- 67
        refine lv_iinc (v := nI (k + 1)) (lv' := [(5, .int (nI (k + 1))), (0, .ref (aa G g 9)), (1, .int y1), (2, .int y2), (3, .int y3), (4, .int v)]) hx hb dX5_together_67 hl (k := 5) rfl (nI_1 _) (by decide) rfl (fun ls hl => ?_)
        refine lv_goto (tgt := 6) hx hb dX5_together_70 (by decide) ?_
        exact ih (k + 1) v (by omega) (by omega) (by simp only [itn, ← ev, b_X5_together_6, if_neg zc30])  _ _ _ w (lv_sub hl [1, 2, 3, 4, 5, 0] rfl)
      · -- 33
        refine lv_aload_n hx hb dX5_together_33 rfl (lv_at hl 0 rfl) ?_
        refine gf5_22 hg X w dX5_together_34 ?_
        refine lv_iload hx hb dX5_together_37 (lv_at hl 5 rfl) ?_
        refine ia (f := 12) (n := 24) X w (hg.in (by decide)) hg.sh (vp_in_nI (by omega) (by decide)) dX5_together_39 ?_
        refine lv_iload_n hx hb dX5_together_40 rfl (lv_at hl 2 rfl) ?_
        refine lv_icmp_ne (tgt := 67) hx hb dX5_together_41 (by decide) (fun zc41 => ?_) (fun zc41 => ?_)
        · -- 67
          refine lv_iinc (v := nI (k + 1)) (lv' := [(5, .int (nI (k + 1))), (0, .ref (aa G g 9)), (1, .int y1), (2, .int y2), (3, .int y3), (4, .int v)]) hx hb dX5_together_67 hl (k := 5) rfl (nI_1 _) (by decide) rfl (fun ls hl => ?_)
          refine lv_goto (tgt := 6) hx hb dX5_together_70 (by decide) ?_
          exact ih (k + 1) v (by omega) (by omega) (by simp only [itn, ← ev, b_X5_together_6, if_pos zc30, if_neg zc41])  _ _ _ w (lv_sub hl [1, 2, 3, 4, 5, 0] rfl)
        · -- 44
          refine lv_aload_n hx hb dX5_together_44 rfl (lv_at hl 0 rfl) ?_
          refine gf5_25 hg X w dX5_together_45 ?_
          refine lv_iload hx hb dX5_together_48 (lv_at hl 5 rfl) ?_
          refine ia (f := 13) (n := 24) X w (hg.in (by decide)) hg.sh (vp_in_nI (by omega) (by decide)) dX5_together_50 ?_
          refine lv_iload_n hx hb dX5_together_51 rfl (lv_at hl 3 rfl) ?_
          refine lv_icmp_ne (tgt := 67) hx hb dX5_together_52 (by decide) (fun zc52 => ?_) (fun zc52 => ?_)
          · -- 67
            refine lv_iinc (v := nI (k + 1)) (lv' := [(5, .int (nI (k + 1))), (0, .ref (aa G g 9)), (1, .int y1), (2, .int y2), (3, .int y3), (4, .int v)]) hx hb dX5_together_67 hl (k := 5) rfl (nI_1 _) (by decide) rfl (fun ls hl => ?_)
            refine lv_goto (tgt := 6) hx hb dX5_together_70 (by decide) ?_
            exact ih (k + 1) v (by omega) (by omega) (by simp only [itn, ← ev, b_X5_together_6, if_pos zc30, if_pos zc41, if_neg zc52])  _ _ _ w (lv_sub hl [1, 2, 3, 4, 5, 0] rfl)
          · -- 55
            refine lv_iload hx hb dX5_together_55 (lv_at hl 4 rfl) ?_
            refine lv_aload_n hx hb dX5_together_57 rfl (lv_at hl 0 rfl) ?_
            refine gf5_28 hg X w dX5_together_58 ?_
            refine lv_iload hx hb dX5_together_61 (lv_at hl 5 rfl) ?_
            refine ia (f := 14) (n := 24) X w (hg.in (by decide)) hg.sh (vp_in_nI (by omega) (by decide)) dX5_together_63 ?_
            refine lv_iadd hx hb dX5_together_64 ?_
            refine lv_topi (fun zv65 ezv65 => ?_)
            refine lv_istore (lv' := [(4, .int zv65), (0, .ref (aa G g 9)), (1, .int y1), (2, .int y2), (3, .int y3), (5, .int (nI k))]) hx hb dX5_together_65 hl (by decide) rfl (fun ls hl => ?_)
            refine lv_iinc (v := nI (k + 1)) (lv' := [(5, .int (nI (k + 1))), (4, .int zv65), (0, .ref (aa G g 9)), (1, .int y1), (2, .int y2), (3, .int y3)]) hx hb dX5_together_67 hl (k := 5) rfl (nI_1 _) (by decide) rfl (fun ls hl => ?_)
            refine lv_goto (tgt := 6) hx hb dX5_together_70 (by decide) ?_
            exact ih (k + 1) zv65 (by omega) (by omega) (by replace ezv65 := ezv65.symm; subst ezv65; simp only [itn, ← ev, b_X5_together_6, if_pos zc30, if_pos zc41, if_pos zc52])  _ _ _ w (lv_sub hl [2, 3, 4, 5, 1, 0] rfl)
set_option maxRecDepth 100000 in
set_option maxHeartbeats 4000000 in
theorem c_X5_together {l : Launch} {G : GG} {σ : St} {g : Nat} {ρ : Gr} (hg : HG g)  (x1 : Int32) (x2 : Int32) (x3 : Int32) (hw : (ρ 9 0).toNatClampNeg ≤ 24) : MM l G yX5_together cX5_together 6 0 0 (some .int) [.ref (aa G g 9), .int x1, .int x2, .int x3] (setG σ g ρ) (Qi G (f_X5_together ρ x1 x2 x3) (setG σ g ρ)) := by
  refine MM.of (by decide) (Nat.le_of_ble_eq_true rfl) ?_
  intro p e s m below meth c ls X hr hlk w hl
  have hx := X.1.1
  have hb := X.1.2.1
  have hl : lv_has ls 6 [(0, .ref (aa G g 9)), (1, .int x1), (2, .int x2), (3, .int x3)] := hl
  refine lv_iconst (v := 0) hx hb dX5_together_0 (by decide) ?_
  refine lv_istore (lv' := [(4, .int 0), (0, .ref (aa G g 9)), (1, .int x1), (2, .int x2), (3, .int x3)]) hx hb dX5_together_1 hl (by decide) rfl (fun ls hl => ?_)
  refine lv_iconst (v := 0) hx hb dX5_together_3 (by decide) ?_
  refine lv_istore (lv' := [(5, .int 0), (4, .int 0), (0, .ref (aa G g 9)), (1, .int x1), (2, .int x2), (3, .int x3)]) hx hb dX5_together_4 hl (by decide) rfl (fun ls hl => ?_)
  refine lp_X5_together_6 hg X x1 x2 x3 0 (by assumption) (fun H locs ls w hl => ?_) ((ρ 9 0).toNatClampNeg + 1) 0 _ (Nat.zero_le _) (Nat.lt_succ_of_le (Nat.sub_le _ _)) rfl  _ _ _ w (lv_sub hl [2, 3, 4, 5, 1, 0] rfl)
  obtain ⟨zl6, ezl6⟩ : ∃ y : Int32, y = (l_X5_together_6 ρ x1 x2 x3 0) := ⟨_, rfl⟩
  rw [← ezl6] at hl
  refine lv_iload hx hb dX5_together_73 (lv_at hl 4 rfl) ?_
  exact t_i X w hr hlk dX5_together_75 (by replace ezl6 := ezl6.symm; subst ezl6; simp only [f_X5_together]) rfl

noncomputable def f_X5_add (ρ : Gr) (x1 : Int32) (x2 : Int32) (x3 : Int32) (x4 : Int32) (x5 : Int32) : Int32 :=
  if (f_X5_isFull ρ) = 0 then
    let zv14 : Int32 := ρ 9 0
    let zs23 : Gr := up ρ 9 0 ((ρ 9 0) + 1)
    let zs33 : Gr := up zs23 10 zv14.toNatClampNeg x1
    let zs41 : Gr := up zs33 11 zv14.toNatClampNeg x2
    let zs49 : Gr := up zs41 12 zv14.toNatClampNeg x3
    let zs58 : Gr := up zs49 13 zv14.toNatClampNeg x4
    let zs67 : Gr := up zs58 14 zv14.toNatClampNeg x5
    zv14
  else
    (-6)
noncomputable def g_X5_add (ρ : Gr) (x1 : Int32) (x2 : Int32) (x3 : Int32) (x4 : Int32) (x5 : Int32) : Gr :=
  if (f_X5_isFull ρ) = 0 then
    let zv14 : Int32 := ρ 9 0
    let zs23 : Gr := up ρ 9 0 ((ρ 9 0) + 1)
    let zs33 : Gr := up zs23 10 zv14.toNatClampNeg x1
    let zs41 : Gr := up zs33 11 zv14.toNatClampNeg x2
    let zs49 : Gr := up zs41 12 zv14.toNatClampNeg x3
    let zs58 : Gr := up zs49 13 zv14.toNatClampNeg x4
    let zs67 : Gr := up zs58 14 zv14.toNatClampNeg x5
    zs67
  else
    ρ
set_option maxRecDepth 100000 in
set_option maxHeartbeats 4000000 in
theorem c_X5_add {l : Launch} {G : GG} {σ : St} {g : Nat} {ρ : Gr} (hg : HG g)  (x1 : Int32) (x2 : Int32) (x3 : Int32) (x4 : Int32) (x5 : Int32) : MM l G yX5_add cX5_add 7 1 20 (some .int) [.ref (aa G g 9), .int x1, .int x2, .int x3, .int x4, .int x5] (setG σ g ρ) (Qi G (f_X5_add ρ x1 x2 x3 x4 x5) (setG σ g (g_X5_add ρ x1 x2 x3 x4 x5))) := by
  refine MM.of (by decide) (Nat.le_of_ble_eq_true rfl) ?_
  intro p e s m below meth c ls X hr hlk w hl
  have hx := X.1.1
  have hb := X.1.2.1
  have hl : lv_has ls 7 [(0, .ref (aa G g 9)), (1, .int x1), (2, .int x2), (3, .int x3), (4, .int x4), (5, .int x5)] := hl
  refine lv_aload_n hx hb dX5_add_0 rfl (lv_at hl 0 rfl) ?_
  refine k_i (rr_v (rest := []) X w mX5_isFull kw381 (c_X5_isFull hg ) (hg.in (by decide)) hg.sh rfl ⟨Nat.le_of_ble_eq_true rfl, Nat.le_of_ble_eq_true rfl⟩ rfl hl.1 rfl (Nat.le_of_ble_eq_true rfl) dX5_add_1 ⟨Nat.zero_le _, Nat.zero_le _⟩) w (fun H locs w => ?_)
  refine lv_if_eq (tgt := 10) hx hb dX5_add_4 (by decide) (fun zc4 => ?_) (fun zc4 => ?_)
  · -- 10
    refine lv_aload_n hx hb dX5_add_10 rfl (lv_at hl 0 rfl) ?_
    refine gf5_9 hg X w dX5_add_11 ?_
    refine lv_topi (fun zv14 ezv14 => ?_)
    refine lv_istore (lv' := [(6, .int zv14), (0, .ref (aa G g 9)), (1, .int x1), (2, .int x2), (3, .int x3), (4, .int x4), (5, .int x5)]) hx hb dX5_add_14 hl (by decide) rfl (fun ls hl => ?_)
    refine lv_aload_n hx hb dX5_add_16 rfl (lv_at hl 1 rfl) ?_
    refine lv_dup hx hb dX5_add_17 rfl ?_
    refine gf5_9 hg X w dX5_add_18 ?_
    refine lv_iconst (v := 1) hx hb dX5_add_21 (by decide) ?_
    refine lv_iadd hx hb dX5_add_22 ?_
    refine pf5_9 hg X w dX5_add_23 (fun zs23 H locs ezs23 w => ?_)
    refine lv_aload_n hx hb dX5_add_26 rfl (lv_at hl 1 rfl) ?_
    refine gf5_15 hg X w dX5_add_27 ?_
    change W _ _ _ _ _ _ _ _ _ _ _ _ _ _ _ (F0 m 30 ls _)
    refine lv_iload hx hb dX5_add_30 (lv_at hl 0 rfl) ?_
    refine lv_iload_n hx hb dX5_add_32 rfl (lv_at hl 2 rfl) ?_
    refine iS (f := 10) (n := 24) X w (hg.in (by decide)) hg.sh (by rw [ezv14]; exact fullX5 zc4) dX5_add_33 (fun zs33 H locs ezs33 w => ?_)
    refine lv_aload_n hx hb dX5_add_34 rfl (lv_at hl 1 rfl) ?_
    refine gf5_19 hg X w dX5_add_35 ?_
    refine lv_iload hx hb dX5_add_38 (lv_at hl 0 rfl) ?_
    refine lv_iload_n hx hb dX5_add_40 rfl (lv_at hl 3 rfl) ?_
    refine iS (f := 11) (n := 24) X w (hg.in (by decide)) hg.sh (by rw [ezv14]; exact fullX5 zc4) dX5_add_41 (fun zs41 H locs ezs41 w => ?_)
    refine lv_aload_n hx hb dX5_add_42 rfl (lv_at hl 1 rfl) ?_
    refine gf5_22 hg X w dX5_add_43 ?_
    refine lv_iload hx hb dX5_add_46 (lv_at hl 0 rfl) ?_
    refine lv_iload_n hx hb dX5_add_48 rfl (lv_at hl 4 rfl) ?_
    change W _ _ _ _ _ _ _ _ _ _ _ _ _ _ _ (F0 m 49 ls _)
    refine iS (f := 12) (n := 24) X w (hg.in (by decide)) hg.sh (by rw [ezv14]; exact fullX5 zc4) dX5_add_49 (fun zs49 H locs ezs49 w => ?_)
    refine lv_aload_n hx hb dX5_add_50 rfl (lv_at hl 1 rfl) ?_
    refine gf5_25 hg X w dX5_add_51 ?_
    refine lv_iload hx hb dX5_add_54 (lv_at hl 0 rfl) ?_
    refine lv_iload hx hb dX5_add_56 (lv_at hl 5 rfl) ?_
    refine iS (f := 13) (n := 24) X w (hg.in (by decide)) hg.sh (by rw [ezv14]; exact fullX5 zc4) dX5_add_58 (fun zs58 H locs ezs58 w => ?_)
    refine lv_aload_n hx hb dX5_add_59 rfl (lv_at hl 1 rfl) ?_
    refine gf5_28 hg X w dX5_add_60 ?_
    refine lv_iload hx hb dX5_add_63 (lv_at hl 0 rfl) ?_
    refine lv_iload hx hb dX5_add_65 (lv_at hl 6 rfl) ?_
    refine iS (f := 14) (n := 24) X w (hg.in (by decide)) hg.sh (by rw [ezv14]; exact fullX5 zc4) dX5_add_67 (fun zs67 H locs ezs67 w => ?_)
    refine lv_iload hx hb dX5_add_68 (lv_at hl 0 rfl) ?_
    change W _ _ _ _ _ _ _ _ _ _ _ _ _ _ _ (F0 m 70 ls _)
    exact t_i X w hr hlk dX5_add_70 (by replace ezs67 := ezs67.symm; subst ezs67; replace ezs58 := ezs58.symm; subst ezs58; replace ezs49 := ezs49.symm; subst ezs49; replace ezs41 := ezs41.symm; subst ezs41; replace ezs33 := ezs33.symm; subst ezs33; replace ezs23 := ezs23.symm; subst ezs23; replace ezv14 := ezv14.symm; subst ezv14; simp only [f_X5_add, if_pos zc4]) (by replace ezs67 := ezs67.symm; subst ezs67; replace ezs58 := ezs58.symm; subst ezs58; replace ezs49 := ezs49.symm; subst ezs49; replace ezs41 := ezs41.symm; subst ezs41; replace ezs33 := ezs33.symm; subst ezs33; replace ezs23 := ezs23.symm; subst ezs23; replace ezv14 := ezv14.symm; subst ezv14; simp only [g_X5_add, if_pos zc4])
  · -- 7
    refine lv_bipush (v := (-6)) hx hb dX5_add_7 (by decide) ?_
    exact t_i X w hr hlk dX5_add_9 (by simp only [f_X5_add, if_neg zc4]) (by simp only [g_X5_add, if_neg zc4])

noncomputable def g_X4_become (ρ : Gr) (τ : Gr)  : Gr :=
  let zs5 : Gr := up ρ 15 0 (τ 15 0)
  let zs20 : Gr := setF zs5 16 (va_cpy (τ 16) (zs5 16) 0 0 (8 : Int32).toNatClampNeg)
  let zs35 : Gr := setF zs20 17 (va_cpy (τ 17) (zs20 17) 0 0 (8 : Int32).toNatClampNeg)
  let zs50 : Gr := setF zs35 18 (va_cpy (τ 18) (zs35 18) 0 0 (8 : Int32).toNatClampNeg)
  zs50
set_option maxRecDepth 100000 in
set_option maxHeartbeats 4000000 in
theorem c_X4_become {l : Launch} {G : GG} {σ : St} {g : Nat} {ρ : Gr} (hg : HG g) {h : Nat} {τ : Gr} (hh : HG h) (hne : h ≠ g) (hτ : σ h = τ)   : MM l G yX4_become cX4_become 2 1 40 none [.ref (aa G g 15), .ref (aa G h 15)] (setG σ g ρ) (Qv G (setG σ g (g_X4_become ρ τ))) := by
  refine MM.of (by decide) (Nat.le_of_ble_eq_true rfl) ?_
  intro p e s m below meth c ls X hr hlk w hl
  have hx := X.1.1
  have hb := X.1.2.1
  have hl : lv_has ls 2 [(0, .ref (aa G g 15)), (1, .ref (aa G h 15))] := hl
  refine lv_aload_n hx hb dX4_become_0 rfl (lv_at hl 0 rfl) ?_
  refine lv_aload_n hx hb dX4_become_1 rfl (lv_at hl 1 rfl) ?_
  refine gf4_9 hh X (w.oth hne hτ) dX4_become_2 ?_
  refine pf4_9 hg X w dX4_become_5 (fun zs5 H locs ezs5 w => ?_)
  refine lv_aload_n hx hb dX4_become_8 rfl (lv_at hl 1 rfl) ?_
  refine gf4_15 hh X (w.oth hne hτ) dX4_become_9 ?_
  refine lv_iconst (v := 0) hx hb dX4_become_12 (by decide) ?_
  refine lv_aload_n hx hb dX4_become_13 rfl (lv_at hl 0 rfl) ?_
  refine gf4_15 hg X w dX4_become_14 ?_
  refine lv_iconst (v := 0) hx hb dX4_become_17 (by decide) ?_
  refine lv_bipush (v := 8) hx hb dX4_become_18 (by decide) ?_
  change W _ _ _ _ _ _ _ _ _ _ _ _ _ _ _ (F0 m 20 ls _)
  refine r_cp (g0 := h) (f0 := 16) (f := 16) (n0 := 8) (n1 := 8) (src := τ 16) X w hl.1 (hh.in (by decide)) hh.sh (by rw [setG_ne hne, hτ]) (hg.in (by decide)) hg.sh kw302 (by decide) (by decide) (by decide) (Nat.le_of_ble_eq_true rfl) (Nat.le_of_ble_eq_true rfl) dX4_become_20 (fun H locs w => ?_)
  obtain ⟨zs20, ezs20⟩ : ∃ y : Gr, y = setF zs5 16 (va_cpy (τ 16) (zs5 16) 0 0 (8 : Int32).toNatClampNeg) := ⟨_, rfl⟩; rw [← ezs20] at w
  refine lv_aload_n hx hb dX4_become_23 rfl (lv_at hl 1 rfl) ?_
  refine gf4_19 hh X (w.oth hne hτ) dX4_become_24 ?_
  refine lv_iconst (v := 0) hx hb dX4_become_27 (by decide) ?_
  refine lv_aload_n hx hb dX4_become_28 rfl (lv_at hl 0 rfl) ?_
  refine gf4_19 hg X w dX4_become_29 ?_
  refine lv_iconst (v := 0) hx hb dX4_become_32 (by decide) ?_
  refine lv_bipush (v := 8) hx hb dX4_become_33 (by decide) ?_
  refine r_cp (g0 := h) (f0 := 17) (f := 17) (n0 := 8) (n1 := 8) (src := τ 17) X w hl.1 (hh.in (by decide)) hh.sh (by rw [setG_ne hne, hτ]) (hg.in (by decide)) hg.sh kw302 (by decide) (by decide) (by decide) (Nat.le_of_ble_eq_true rfl) (Nat.le_of_ble_eq_true rfl) dX4_become_35 (fun H locs w => ?_)
  obtain ⟨zs35, ezs35⟩ : ∃ y : Gr, y = setF zs20 17 (va_cpy (τ 17) (zs20 17) 0 0 (8 : Int32).toNatClampNeg) := ⟨_, rfl⟩; rw [← ezs35] at w
  refine lv_aload_n hx hb dX4_become_38 rfl (lv_at hl 1 rfl) ?_
  refine gf4_22 hh X (w.oth hne hτ) dX4_become_39 ?_
  refine lv_iconst (v := 0) hx hb dX4_become_42 (by decide) ?_
  change W _ _ _ _ _ _ _ _ _ _ _ _ _ _ _ (F0 m 43 ls _)
  refine lv_aload_n hx hb dX4_become_43 rfl (lv_at hl 0 rfl) ?_
  refine gf4_22 hg X w dX4_become_44 ?_
  refine lv_iconst (v := 0) hx hb dX4_become_47 (by decide) ?_
  refine lv_bipush (v := 8) hx hb dX4_become_48 (by decide) ?_
  refine r_cp (g0 := h) (f0 := 18) (f := 18) (n0 := 8) (n1 := 8) (src := τ 18) X w hl.1 (hh.in (by decide)) hh.sh (by rw [setG_ne hne, hτ]) (hg.in (by decide)) hg.sh kw302 (by decide) (by decide) (by decide) (Nat.le_of_ble_eq_true rfl) (Nat.le_of_ble_eq_true rfl) dX4_become_50 (fun H locs w => ?_)
  obtain ⟨zs50, ezs50⟩ : ∃ y : Gr, y = setF zs35 18 (va_cpy (τ 18) (zs35 18) 0 0 (8 : Int32).toNatClampNeg) := ⟨_, rfl⟩; rw [← ezs50] at w
  exact t_v X w hr hlk dX4_become_53 (by replace ezs50 := ezs50.symm; subst ezs50; replace ezs35 := ezs35.symm; subst ezs35; replace ezs20 := ezs20.symm; subst ezs20; replace ezs5 := ezs5.symm; subst ezs5; simp only [g_X4_become])

noncomputable def f_X4_has (ρ : Gr) (x1 : Int32) : Int32 :=
  if x1 < 0 then
    0
  else
    if (ρ 15 0) ≤ x1 then
      0
    else
      if 8 ≤ x1 then
        0
      else
        1
set_option maxRecDepth 100000 in
set_option maxHeartbeats 4000000 in
theorem c_X4_has {l : Launch} {G : GG} {σ : St} {g : Nat} {ρ : Gr} (hg : HG g)  (x1 : Int32) : MM l G yX4_has cX4_has 2 0 0 (some .boolean) [.ref (aa G g 15), .int x1] (setG σ g ρ) (Qi G (f_X4_has ρ x1) (setG σ g ρ)) := by
  refine MM.of (by decide) (Nat.le_of_ble_eq_true rfl) ?_
  intro p e s m below meth c ls X hr hlk w hl
  have hx := X.1.1
  have hb := X.1.2.1
  have hl : lv_has ls 2 [(0, .ref (aa G g 15)), (1, .int x1)] := hl
  refine lv_iload_n hx hb dX4_has_0 rfl (lv_at hl 1 rfl) ?_
  refine lv_if_lt (tgt := 22) hx hb dX4_has_1 (by decide) (fun zc1 => ?_) (fun zc1 => ?_)
  · -- 22
    refine lv_iconst (v := 0) hx hb dX4_has_22 (by decide) ?_
    exact t_z X w hr hlk isB0.n dX4_has_23 (by simp only [f_X4_has, if_pos zc1]) rfl
  · -- 4
    refine lv_iload_n hx hb dX4_has_4 rfl (lv_at hl 1 rfl) ?_
    refine lv_aload_n hx hb dX4_has_5 rfl (lv_at hl 0 rfl) ?_
    refine gf4_9 hg X w dX4_has_6 ?_
    refine lv_icmp_ge (tgt := 22) hx hb dX4_has_9 (by decide) (fun zc9 => ?_) (fun zc9 => ?_)
    · -- 22
      refine lv_iconst (v := 0) hx hb dX4_has_22 (by decide) ?_
      exact t_z X w hr hlk isB0.n dX4_has_23 (by simp only [f_X4_has, if_neg zc1, if_pos zc9]) rfl
    · -- 12
      refine lv_iload_n hx hb dX4_has_12 rfl (lv_at hl 1 rfl) ?_
      refine lv_bipush (v := 8) hx hb dX4_has_13 (by decide) ?_
      refine lv_icmp_ge (tgt := 22) hx hb dX4_has_15 (by decide) (fun zc15 => ?_) (fun zc15 => ?_)
      · -- 22
        refine lv_iconst (v := 0) hx hb dX4_has_22 (by decide) ?_
        exact t_z X w hr hlk isB0.n dX4_has_23 (by simp only [f_X4_has, if_neg zc1, if_neg zc9, if_pos zc15]) rfl
      · -- 18
        refine lv_iconst (v := 1) hx hb dX4_has_18 (by decide) ?_
        refine lv_goto (tgt := 23) hx hb dX4_has_19 (by decide) ?_
        exact t_z X w hr hlk isB1.n dX4_has_23 (by simp only [f_X4_has, if_neg zc1, if_neg zc9, if_neg zc15]) rfl

theorem has4_in {ρ : Gr} {x : Int32} (h : ¬ f_X4_has ρ x = 0) : vp_in x 8 := by
  unfold f_X4_has at h
  by_cases h1 : x < 0
  · rw [if_pos h1] at h; exact absurd rfl h
  · rw [if_neg h1] at h
    by_cases h2 : ρ 15 0 ≤ x
    · rw [if_pos h2] at h; exact absurd rfl h
    · rw [if_neg h2] at h
      by_cases h3 : 8 ≤ x
      · rw [if_pos h3] at h; exact absurd rfl h
      · exact vin_n h1 h3 (by decide)

noncomputable def f_X4_isFull (ρ : Gr)  : Int32 :=
  if (ρ 15 0) < 0 then
    1
  else
    if (ρ 15 0) < 8 then
      0
    else
      1
set_option maxRecDepth 100000 in
set_option maxHeartbeats 4000000 in
theorem c_X4_isFull {l : Launch} {G : GG} {σ : St} {g : Nat} {ρ : Gr} (hg : HG g)   : MM l G yX4_isFull cX4_isFull 1 0 0 (some .boolean) [.ref (aa G g 15)] (setG σ g ρ) (Qi G (f_X4_isFull ρ) (setG σ g ρ)) := by
  refine MM.of (by decide) (Nat.le_of_ble_eq_true rfl) ?_
  intro p e s m below meth c ls X hr hlk w hl
  have hx := X.1.1
  have hb := X.1.2.1
  have hl : lv_has ls 1 [(0, .ref (aa G g 15))] := hl
  refine lv_aload_n hx hb dX4_isFull_0 rfl (lv_at hl 0 rfl) ?_
  refine gf4_9 hg X w dX4_isFull_1 ?_
  refine lv_if_lt (tgt := 16) hx hb dX4_isFull_4 (by decide) (fun zc4 => ?_) (fun zc4 => ?_)
  · -- 16
    refine lv_iconst (v := 1) hx hb dX4_isFull_16 (by decide) ?_
    refine lv_goto (tgt := 21) hx hb dX4_isFull_17 (by decide) ?_
    exact t_z X w hr hlk isB1.n dX4_isFull_21 (by simp only [f_X4_isFull, if_pos zc4]) rfl
  · -- 7
    refine lv_aload_n hx hb dX4_isFull_7 rfl (lv_at hl 0 rfl) ?_
    refine gf4_9 hg X w dX4_isFull_8 ?_
    refine lv_bipush (v := 8) hx hb dX4_isFull_11 (by decide) ?_
    refine lv_icmp_lt (tgt := 20) hx hb dX4_isFull_13 (by decide) (fun zc13 => ?_) (fun zc13 => ?_)
    · -- 20
      refine lv_iconst (v := 0) hx hb dX4_isFull_20 (by decide) ?_
      exact t_z X w hr hlk isB0.n dX4_isFull_21 (by simp only [f_X4_isFull, if_neg zc4, if_pos zc13]) rfl
    · -- 16
      refine lv_iconst (v := 1) hx hb dX4_isFull_16 (by decide) ?_
      refine lv_goto (tgt := 21) hx hb dX4_isFull_17 (by decide) ?_
      exact t_z X w hr hlk isB1.n dX4_isFull_21 (by simp only [f_X4_isFull, if_neg zc4, if_neg zc13]) rfl

theorem fullX4 {ρ : Gr} (h : f_X4_isFull ρ = 0) : vp_in (ρ 15 0) 8 := by
  unfold f_X4_isFull at h
  by_cases h1 : ρ 15 0 < 0
  · rw [if_pos h1] at h; exact absurd h (by decide)
  · by_cases h2 : ρ 15 0 < 8
    · exact vin_l h1 h2 (by decide)
    · rw [if_neg h1, if_neg h2] at h; exact absurd h (by decide)

noncomputable def f_X4_add (ρ : Gr) (x1 : Int32) (x2 : Int32) (x3 : Int32) : Int32 :=
  if (f_X4_isFull ρ) = 0 then
    let zv14 : Int32 := ρ 15 0
    let zs23 : Gr := up ρ 15 0 ((ρ 15 0) + 1)
    let zs33 : Gr := up zs23 16 zv14.toNatClampNeg x1
    let zs41 : Gr := up zs33 17 zv14.toNatClampNeg x2
    let zs49 : Gr := up zs41 18 zv14.toNatClampNeg x3
    zv14
  else
    (-6)
noncomputable def g_X4_add (ρ : Gr) (x1 : Int32) (x2 : Int32) (x3 : Int32) : Gr :=
  if (f_X4_isFull ρ) = 0 then
    let zv14 : Int32 := ρ 15 0
    let zs23 : Gr := up ρ 15 0 ((ρ 15 0) + 1)
    let zs33 : Gr := up zs23 16 zv14.toNatClampNeg x1
    let zs41 : Gr := up zs33 17 zv14.toNatClampNeg x2
    let zs49 : Gr := up zs41 18 zv14.toNatClampNeg x3
    zs49
  else
    ρ
set_option maxRecDepth 100000 in
set_option maxHeartbeats 4000000 in
theorem c_X4_add {l : Launch} {G : GG} {σ : St} {g : Nat} {ρ : Gr} (hg : HG g)  (x1 : Int32) (x2 : Int32) (x3 : Int32) : MM l G yX4_add cX4_add 5 1 20 (some .int) [.ref (aa G g 15), .int x1, .int x2, .int x3] (setG σ g ρ) (Qi G (f_X4_add ρ x1 x2 x3) (setG σ g (g_X4_add ρ x1 x2 x3))) := by
  refine MM.of (by decide) (Nat.le_of_ble_eq_true rfl) ?_
  intro p e s m below meth c ls X hr hlk w hl
  have hx := X.1.1
  have hb := X.1.2.1
  have hl : lv_has ls 5 [(0, .ref (aa G g 15)), (1, .int x1), (2, .int x2), (3, .int x3)] := hl
  refine lv_aload_n hx hb dX4_add_0 rfl (lv_at hl 0 rfl) ?_
  refine k_i (rr_v (rest := []) X w mX4_isFull kw394 (c_X4_isFull hg ) (hg.in (by decide)) hg.sh rfl ⟨Nat.le_of_ble_eq_true rfl, Nat.le_of_ble_eq_true rfl⟩ rfl hl.1 rfl (Nat.le_of_ble_eq_true rfl) dX4_add_1 ⟨Nat.zero_le _, Nat.zero_le _⟩) w (fun H locs w => ?_)
  refine lv_if_eq (tgt := 10) hx hb dX4_add_4 (by decide) (fun zc4 => ?_) (fun zc4 => ?_)
  · -- 10
    refine lv_aload_n hx hb dX4_add_10 rfl (lv_at hl 0 rfl) ?_
    refine gf4_9 hg X w dX4_add_11 ?_
    refine lv_topi (fun zv14 ezv14 => ?_)
    refine lv_istore (lv' := [(4, .int zv14), (0, .ref (aa G g 15)), (1, .int x1), (2, .int x2), (3, .int x3)]) hx hb dX4_add_14 hl (by decide) rfl (fun ls hl => ?_)
    refine lv_aload_n hx hb dX4_add_16 rfl (lv_at hl 1 rfl) ?_
    refine lv_dup hx hb dX4_add_17 rfl ?_
    refine gf4_9 hg X w dX4_add_18 ?_
    refine lv_iconst (v := 1) hx hb dX4_add_21 (by decide) ?_
    refine lv_iadd hx hb dX4_add_22 ?_
    refine pf4_9 hg X w dX4_add_23 (fun zs23 H locs ezs23 w => ?_)
    refine lv_aload_n hx hb dX4_add_26 rfl (lv_at hl 1 rfl) ?_
    refine gf4_15 hg X w dX4_add_27 ?_
    change W _ _ _ _ _ _ _ _ _ _ _ _ _ _ _ (F0 m 30 ls _)
    refine lv_iload hx hb dX4_add_30 (lv_at hl 0 rfl) ?_
    refine lv_iload_n hx hb dX4_add_32 rfl (lv_at hl 2 rfl) ?_
    refine iS (f := 16) (n := 8) X w (hg.in (by decide)) hg.sh (by rw [ezv14]; exact fullX4 zc4) dX4_add_33 (fun zs33 H locs ezs33 w => ?_)
    refine lv_aload_n hx hb dX4_add_34 rfl (lv_at hl 1 rfl) ?_
    refine gf4_19 hg X w dX4_add_35 ?_
    refine lv_iload hx hb dX4_add_38 (lv_at hl 0 rfl) ?_
    refine lv_iload_n hx hb dX4_add_40 rfl (lv_at hl 3 rfl) ?_
    refine iS (f := 17) (n := 8) X w (hg.in (by decide)) hg.sh (by rw [ezv14]; exact fullX4 zc4) dX4_add_41 (fun zs41 H locs ezs41 w => ?_)
    refine lv_aload_n hx hb dX4_add_42 rfl (lv_at hl 1 rfl) ?_
    refine gf4_22 hg X w dX4_add_43 ?_
    refine lv_iload hx hb dX4_add_46 (lv_at hl 0 rfl) ?_
    refine lv_iload_n hx hb dX4_add_48 rfl (lv_at hl 4 rfl) ?_
    change W _ _ _ _ _ _ _ _ _ _ _ _ _ _ _ (F0 m 49 ls _)
    refine iS (f := 18) (n := 8) X w (hg.in (by decide)) hg.sh (by rw [ezv14]; exact fullX4 zc4) dX4_add_49 (fun zs49 H locs ezs49 w => ?_)
    refine lv_iload hx hb dX4_add_50 (lv_at hl 0 rfl) ?_
    exact t_i X w hr hlk dX4_add_52 (by replace ezs49 := ezs49.symm; subst ezs49; replace ezs41 := ezs41.symm; subst ezs41; replace ezs33 := ezs33.symm; subst ezs33; replace ezs23 := ezs23.symm; subst ezs23; replace ezv14 := ezv14.symm; subst ezv14; simp only [f_X4_add, if_pos zc4]) (by replace ezs49 := ezs49.symm; subst ezs49; replace ezs41 := ezs41.symm; subst ezs41; replace ezs33 := ezs33.symm; subst ezs33; replace ezs23 := ezs23.symm; subst ezs23; replace ezv14 := ezv14.symm; subst ezv14; simp only [g_X4_add, if_pos zc4])
  · -- 7
    refine lv_bipush (v := (-6)) hx hb dX4_add_7 (by decide) ?_
    exact t_i X w hr hlk dX4_add_9 (by simp only [f_X4_add, if_neg zc4]) (by simp only [g_X4_add, if_neg zc4])

noncomputable def g_X2_become (ρ : Gr) (τ : Gr)  : Gr :=
  let zs5 : Gr := up ρ 19 0 (τ 19 0)
  let zs13 : Gr := up zs5 19 1 (τ 19 1)
  let zs21 : Gr := up zs13 19 2 (τ 19 2)
  let zs29 : Gr := up zs21 19 3 (τ 19 3)
  let zs37 : Gr := up zs29 19 4 (τ 19 4)
  zs37
set_option maxRecDepth 100000 in
set_option maxHeartbeats 4000000 in
theorem c_X2_become {l : Launch} {G : GG} {σ : St} {g : Nat} {ρ : Gr} (hg : HG g) {h : Nat} {τ : Gr} (hh : HG h) (hne : h ≠ g) (hτ : σ h = τ)   : MM l G yX2_become cX2_become 2 0 0 none [.ref (aa G g 19), .ref (aa G h 19)] (setG σ g ρ) (Qv G (setG σ g (g_X2_become ρ τ))) := by
  refine MM.of (by decide) (Nat.le_of_ble_eq_true rfl) ?_
  intro p e s m below meth c ls X hr hlk w hl
  have hx := X.1.1
  have hb := X.1.2.1
  have hl : lv_has ls 2 [(0, .ref (aa G g 19)), (1, .ref (aa G h 19))] := hl
  refine lv_aload_n hx hb dX2_become_0 rfl (lv_at hl 0 rfl) ?_
  refine lv_aload_n hx hb dX2_become_1 rfl (lv_at hl 1 rfl) ?_
  refine gf2_9 hh X (w.oth hne hτ) dX2_become_2 ?_
  refine pf2_9 hg X w dX2_become_5 (fun zs5 H locs ezs5 w => ?_)
  refine lv_aload_n hx hb dX2_become_8 rfl (lv_at hl 0 rfl) ?_
  refine lv_aload_n hx hb dX2_become_9 rfl (lv_at hl 1 rfl) ?_
  refine gf2_15 hh X (w.oth hne hτ) dX2_become_10 ?_
  refine pf2_15 hg X w dX2_become_13 (fun zs13 H locs ezs13 w => ?_)
  refine lv_aload_n hx hb dX2_become_16 rfl (lv_at hl 0 rfl) ?_
  refine lv_aload_n hx hb dX2_become_17 rfl (lv_at hl 1 rfl) ?_
  refine gf2_18 hh X (w.oth hne hτ) dX2_become_18 ?_
  change W _ _ _ _ _ _ _ _ _ _ _ _ _ _ _ (F0 m 21 ls _)
  refine pf2_18 hg X w dX2_become_21 (fun zs21 H locs ezs21 w => ?_)
  refine lv_aload_n hx hb dX2_become_24 rfl (lv_at hl 0 rfl) ?_
  refine lv_aload_n hx hb dX2_become_25 rfl (lv_at hl 1 rfl) ?_
  refine gf2_21 hh X (w.oth hne hτ) dX2_become_26 ?_
  refine pf2_21 hg X w dX2_become_29 (fun zs29 H locs ezs29 w => ?_)
  refine lv_aload_n hx hb dX2_become_32 rfl (lv_at hl 0 rfl) ?_
  refine lv_aload_n hx hb dX2_become_33 rfl (lv_at hl 1 rfl) ?_
  refine gf2_24 hh X (w.oth hne hτ) dX2_become_34 ?_
  refine pf2_24 hg X w dX2_become_37 (fun zs37 H locs ezs37 w => ?_)
  exact t_v X w hr hlk dX2_become_40 (by replace ezs37 := ezs37.symm; subst ezs37; replace ezs29 := ezs29.symm; subst ezs29; replace ezs21 := ezs21.symm; subst ezs21; replace ezs13 := ezs13.symm; subst ezs13; replace ezs5 := ezs5.symm; subst ezs5; simp only [g_X2_become])

noncomputable def f_X2_greatest (x0 : Int32) : Int32 :=
  if x0 = 0 then
    999
  else
    if x0 = 2 then
      4
    else
      99
set_option maxRecDepth 100000 in
set_option maxHeartbeats 4000000 in
theorem c_X2_greatest {l : Launch} {G : GG} {σ : St}  (x0 : Int32) : MM l G yX2_greatest cX2_greatest 1 0 0 (some .int) [.int x0] σ (Qi G (f_X2_greatest x0) σ) := by
  refine MM.of (by decide) (Nat.le_of_ble_eq_true rfl) ?_
  intro p e s m below meth c ls X hr hlk w hl
  have hx := X.1.1
  have hb := X.1.2.1
  have hl : lv_has ls 1 [(0, .int x0)] := hl
  refine lv_iload_n hx hb dX2_greatest_0 rfl (lv_at hl 0 rfl) ?_
  by_cases zc1_0 : x0 = 0
  · -- case 0
    refine lv_lookup (off := 27) (tgt := 28) hx hb dX2_greatest_1 (by decide) (by rw [zc1_0]; rfl) (by decide) ?_
    refine lv_sipush (v := 999) hx hb dX2_greatest_28 (by decide) ?_
    exact t_i X w hr hlk dX2_greatest_31 (by simp only [f_X2_greatest, if_pos zc1_0]) rfl
  · -- not 0
    by_cases zc1_2 : x0 = 2
    · -- case 2
      refine lv_lookup (off := 31) (tgt := 32) hx hb dX2_greatest_1 (by decide) (by rw [zc1_2]; rfl) (by decide) ?_
      refine lv_iconst (v := 4) hx hb dX2_greatest_32 (by decide) ?_
      exact t_i X w hr hlk dX2_greatest_33 (by simp only [f_X2_greatest, if_neg zc1_0, if_pos zc1_2]) rfl
    · -- not 2
      refine lv_lookup (off := 33) (tgt := 34) hx hb dX2_greatest_1 (by decide) (by rw [lv_osw zc1_0 (by decide)]; rw [lv_osw zc1_2 (by decide)]; rfl) (by decide) ?_
      refine lv_bipush (v := 99) hx hb dX2_greatest_34 (by decide) ?_
      exact t_i X w hr hlk dX2_greatest_36 (by simp only [f_X2_greatest, if_neg zc1_0, if_neg zc1_2]) rfl

noncomputable def f_X2_change (ρ : Gr) (x1 : Int32) (x2 : Int32) : Int32 :=
  if x1 = 0 then
    let zv36 : Int32 := ρ 19 0
    let zs39 : Gr := up ρ 19 0 x2
    zv36
  else
    if x1 = 1 then
      let zv48 : Int32 := ρ 19 1
      let zs51 : Gr := up ρ 19 1 x2
      zv48
    else
      if x1 = 2 then
        let zv60 : Int32 := ρ 19 2
        let zs63 : Gr := up ρ 19 2 x2
        zv60
      else
        if x1 = 3 then
          let zv72 : Int32 := ρ 19 3
          let zs75 : Gr := up ρ 19 3 x2
          zv72
        else
          let zv84 : Int32 := ρ 19 4
          let zs87 : Gr := up ρ 19 4 x2
          zv84
noncomputable def g_X2_change (ρ : Gr) (x1 : Int32) (x2 : Int32) : Gr :=
  if x1 = 0 then
    let zv36 : Int32 := ρ 19 0
    let zs39 : Gr := up ρ 19 0 x2
    zs39
  else
    if x1 = 1 then
      let zv48 : Int32 := ρ 19 1
      let zs51 : Gr := up ρ 19 1 x2
      zs51
    else
      if x1 = 2 then
        let zv60 : Int32 := ρ 19 2
        let zs63 : Gr := up ρ 19 2 x2
        zs63
      else
        if x1 = 3 then
          let zv72 : Int32 := ρ 19 3
          let zs75 : Gr := up ρ 19 3 x2
          zs75
        else
          let zv84 : Int32 := ρ 19 4
          let zs87 : Gr := up ρ 19 4 x2
          zs87
set_option maxRecDepth 100000 in
set_option maxHeartbeats 4000000 in
theorem c_X2_change {l : Launch} {G : GG} {σ : St} {g : Nat} {ρ : Gr} (hg : HG g)  (x1 : Int32) (x2 : Int32) : MM l G yX2_change cX2_change 4 0 0 (some .int) [.ref (aa G g 19), .int x1, .int x2] (setG σ g ρ) (Qi G (f_X2_change ρ x1 x2) (setG σ g (g_X2_change ρ x1 x2))) := by
  refine MM.of (by decide) (Nat.le_of_ble_eq_true rfl) ?_
  intro p e s m below meth c ls X hr hlk w hl
  have hx := X.1.1
  have hb := X.1.2.1
  have hl : lv_has ls 4 [(0, .ref (aa G g 19)), (1, .int x1), (2, .int x2)] := hl
  refine lv_iload_n hx hb dX2_change_0 rfl (lv_at hl 1 rfl) ?_
  by_cases zc1_0 : x1 = 0
  · -- case 0
    refine lv_tableIn (off := 31) (tgt := 32) hx hb dX2_change_1 (by rw [zc1_0]; decide) (by rw [zc1_0]; decide) (by rw [zc1_0]; rfl) (by decide) ?_
    refine lv_aload_n hx hb dX2_change_32 rfl (lv_at hl 0 rfl) ?_
    refine gf2_9 hg X w dX2_change_33 ?_
    refine lv_topi (fun zv36 ezv36 => ?_)
    refine lv_istore_n (lv' := [(3, .int zv36), (0, .ref (aa G g 19)), (1, .int x1), (2, .int x2)]) hx hb dX2_change_36 rfl hl (by decide) rfl (fun ls hl => ?_)
    refine lv_aload_n hx hb dX2_change_37 rfl (lv_at hl 1 rfl) ?_
    refine lv_iload_n hx hb dX2_change_38 rfl (lv_at hl 3 rfl) ?_
    refine pf2_9 hg X w dX2_change_39 (fun zs39 H locs ezs39 w => ?_)
    refine lv_iload_n hx hb dX2_change_42 rfl (lv_at hl 0 rfl) ?_
    exact t_i X w hr hlk dX2_change_43 (by replace ezs39 := ezs39.symm; subst ezs39; replace ezv36 := ezv36.symm; subst ezv36; simp only [f_X2_change, if_pos zc1_0]) (by replace ezs39 := ezs39.symm; subst ezs39; replace ezv36 := ezv36.symm; subst ezv36; simp only [g_X2_change, if_pos zc1_0])
  · -- not 0
    by_cases zc1_1 : x1 = 1
    · -- case 1
      refine lv_tableIn (off := 43) (tgt := 44) hx hb dX2_change_1 (by rw [zc1_1]; decide) (by rw [zc1_1]; decide) (by rw [zc1_1]; rfl) (by decide) ?_
      refine lv_aload_n hx hb dX2_change_44 rfl (lv_at hl 0 rfl) ?_
      refine gf2_15 hg X w dX2_change_45 ?_
      refine lv_topi (fun zv48 ezv48 => ?_)
      refine lv_istore_n (lv' := [(3, .int zv48), (0, .ref (aa G g 19)), (1, .int x1), (2, .int x2)]) hx hb dX2_change_48 rfl hl (by decide) rfl (fun ls hl => ?_)
      refine lv_aload_n hx hb dX2_change_49 rfl (lv_at hl 1 rfl) ?_
      refine lv_iload_n hx hb dX2_change_50 rfl (lv_at hl 3 rfl) ?_
      refine pf2_15 hg X w dX2_change_51 (fun zs51 H locs ezs51 w => ?_)
      refine lv_iload_n hx hb dX2_change_54 rfl (lv_at hl 0 rfl) ?_
      exact t_i X w hr hlk dX2_change_55 (by replace ezs51 := ezs51.symm; subst ezs51; replace ezv48 := ezv48.symm; subst ezv48; simp only [f_X2_change, if_neg zc1_0, if_pos zc1_1]) (by replace ezs51 := ezs51.symm; subst ezs51; replace ezv48 := ezv48.symm; subst ezv48; simp only [g_X2_change, if_neg zc1_0, if_pos zc1_1])
    · -- not 1
      by_cases zc1_2 : x1 = 2
      · -- case 2
        refine lv_tableIn (off := 55) (tgt := 56) hx hb dX2_change_1 (by rw [zc1_2]; decide) (by rw [zc1_2]; decide) (by rw [zc1_2]; rfl) (by decide) ?_
        refine lv_aload_n hx hb dX2_change_56 rfl (lv_at hl 0 rfl) ?_
        refine gf2_18 hg X w dX2_change_57 ?_
        refine lv_topi (fun zv60 ezv60 => ?_)
        refine lv_istore_n (lv' := [(3, .int zv60), (0, .ref (aa G g 19)), (1, .int x1), (2, .int x2)]) hx hb dX2_change_60 rfl hl (by decide) rfl (fun ls hl => ?_)
        refine lv_aload_n hx hb dX2_change_61 rfl (lv_at hl 1 rfl) ?_
        refine lv_iload_n hx hb dX2_change_62 rfl (lv_at hl 3 rfl) ?_
        refine pf2_18 hg X w dX2_change_63 (fun zs63 H locs ezs63 w => ?_)
        refine lv_iload_n hx hb dX2_change_66 rfl (lv_at hl 0 rfl) ?_
        exact t_i X w hr hlk dX2_change_67 (by replace ezs63 := ezs63.symm; subst ezs63; replace ezv60 := ezv60.symm; subst ezv60; simp only [f_X2_change, if_neg zc1_0, if_neg zc1_1, if_pos zc1_2]) (by replace ezs63 := ezs63.symm; subst ezs63; replace ezv60 := ezv60.symm; subst ezv60; simp only [g_X2_change, if_neg zc1_0, if_neg zc1_1, if_pos zc1_2])
      · -- not 2
        by_cases zc1_3 : x1 = 3
        · -- case 3
          refine lv_tableIn (off := 67) (tgt := 68) hx hb dX2_change_1 (by rw [zc1_3]; decide) (by rw [zc1_3]; decide) (by rw [zc1_3]; rfl) (by decide) ?_
          refine lv_aload_n hx hb dX2_change_68 rfl (lv_at hl 0 rfl) ?_
          refine gf2_21 hg X w dX2_change_69 ?_
          refine lv_topi (fun zv72 ezv72 => ?_)
          refine lv_istore_n (lv' := [(3, .int zv72), (0, .ref (aa G g 19)), (1, .int x1), (2, .int x2)]) hx hb dX2_change_72 rfl hl (by decide) rfl (fun ls hl => ?_)
          refine lv_aload_n hx hb dX2_change_73 rfl (lv_at hl 1 rfl) ?_
          refine lv_iload_n hx hb dX2_change_74 rfl (lv_at hl 3 rfl) ?_
          refine pf2_21 hg X w dX2_change_75 (fun zs75 H locs ezs75 w => ?_)
          refine lv_iload_n hx hb dX2_change_78 rfl (lv_at hl 0 rfl) ?_
          exact t_i X w hr hlk dX2_change_79 (by replace ezs75 := ezs75.symm; subst ezs75; replace ezv72 := ezv72.symm; subst ezv72; simp only [f_X2_change, if_neg zc1_0, if_neg zc1_1, if_neg zc1_2, if_pos zc1_3]) (by replace ezs75 := ezs75.symm; subst ezs75; replace ezv72 := ezv72.symm; subst ezv72; simp only [g_X2_change, if_neg zc1_0, if_neg zc1_1, if_neg zc1_2, if_pos zc1_3])
        · -- not 3
          refine lv_tableOut (tgt := 80) hx hb dX2_change_1 (by have hzc1_0 := lv_neT zc1_0 (a := 0) (by decide); have hzc1_1 := lv_neT zc1_1 (a := 1) (by decide); have hzc1_2 := lv_neT zc1_2 (a := 2) (by decide); have hzc1_3 := lv_neT zc1_3 (a := 3) (by decide); omega) (by decide) ?_
          refine lv_aload_n hx hb dX2_change_80 rfl (lv_at hl 0 rfl) ?_
          refine gf2_24 hg X w dX2_change_81 ?_
          refine lv_topi (fun zv84 ezv84 => ?_)
          refine lv_istore_n (lv' := [(3, .int zv84), (0, .ref (aa G g 19)), (1, .int x1), (2, .int x2)]) hx hb dX2_change_84 rfl hl (by decide) rfl (fun ls hl => ?_)
          refine lv_aload_n hx hb dX2_change_85 rfl (lv_at hl 1 rfl) ?_
          refine lv_iload_n hx hb dX2_change_86 rfl (lv_at hl 3 rfl) ?_
          refine pf2_24 hg X w dX2_change_87 (fun zs87 H locs ezs87 w => ?_)
          refine lv_iload_n hx hb dX2_change_90 rfl (lv_at hl 0 rfl) ?_
          exact t_i X w hr hlk dX2_change_91 (by replace ezs87 := ezs87.symm; subst ezs87; replace ezv84 := ezv84.symm; subst ezv84; simp only [f_X2_change, if_neg zc1_0, if_neg zc1_1, if_neg zc1_2, if_neg zc1_3]) (by replace ezs87 := ezs87.symm; subst ezs87; replace ezv84 := ezv84.symm; subst ezv84; simp only [g_X2_change, if_neg zc1_0, if_neg zc1_1, if_neg zc1_2, if_neg zc1_3])
