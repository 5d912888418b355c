/-! images: all is carried -/
def HJ (J : Nat → Int32) (w : Gr) : Prop := (w 0 54 = 0 ∧ ∀ m, m < 280 → J m = w 52 m) ∨ (¬ w 0 54 = 0 ∧ (∀ f i, rk f i < 280 → f ≠ 14 → J (rk f i) = w f i) ∧ ∀ i, i < 24 → J (113 + 6 * i) = if w 14 i = 0 then 0 else 1)
noncomputable def cst (u : Gr) (f i : Nat) : Gr := up (g_X7_carry u (u f i)) f i (f_X7_carry u (u f i))
noncomputable def cs14 (u : Gr) (i : Nat) : Gr := if u 14 i = 0 then (if f_X7_carry u 0 = 1 then up (g_X7_carry u 0) 14 i 1 else up (g_X7_carry u 0) 14 i 0) else (if f_X7_carry u 1 = 1 then up (g_X7_carry u 1) 14 i 1 else up (g_X7_carry u 1) 14 i 0)
theorem cst_T {J : Nat → Int32} {w : Gr} (H : HJ J w) {n f i : Nat} (hr : rk f i = n) (hn : n < 280) (hf : f ≠ 14) : cst (TJ J w n) f i = TJ J w (n + 1) := by
  unfold cst
  rw [TJ_at J w hr hn]
  have k := carry_T (J := J) (w := w) (x := w f i) hn (H.elim (fun h => Or.inl ⟨h.1, h.2 n hn⟩) (fun h => Or.inr ⟨h.1, by rw [← h.2.1 f i (by omega) hf, hr]⟩)) hr
  have e := uimg_rk J (f := f) (i := i) (by omega) hf
  rw [hr] at e
  rw [k.1, ← e]
  exact k.2
theorem cs14_T {J : Nat → Int32} {w : Gr} (H : HJ J w) {n i : Nat} (hi : i < 24) (hn : n = 113 + 6 * i) : cs14 (TJ J w n) i = TJ J w (n + 1) := by
  have hr : rk 14 i = n := by
    show (if i < 24 then 113 + 6 * i else 1000) = n
    rw [if_pos hi]; exact hn.symm
  have hx : ∀ x : Int32, (x = if w 14 i = 0 then 0 else 1) → (if f_X7_carry (TJ J w n) x = 1 then up (g_X7_carry (TJ J w n) x) 14 i 1 else up (g_X7_carry (TJ J w n) x) 14 i 0) = TJ J w (n + 1) := by
    intro x hx
    have k := carry_T (J := J) (w := w) (x := x) (n := n) (by omega) (H.elim (fun h => Or.inl ⟨h.1, h.2 n (by omega)⟩) (fun h => Or.inr ⟨h.1, by rw [hx, hn, h.2.2 i hi]⟩)) hr
    have e : uimg J 14 i = if J n = 1 then 1 else 0 := by rw [hn]; rfl
    rw [k.1, ← k.2, e]
    by_cases q : J n = 1
    · rw [if_pos q, if_pos q]
    · rw [if_neg q, if_neg q]
  unfold cs14
  rw [TJ_at J w hr (by omega)]
  by_cases z : w 14 i = 0
  · rw [if_pos z]; exact hx 0 (by rw [if_pos z])
  · rw [if_neg z]; exact hx 1 (by rw [if_neg z])
theorem c151 (k : Nat) (v : Gr) (hk : k < 8) : b_X7_carryAll_151 k v = cst (cst (cst (cst (cst (cst (cst (cst v 1 k) 2 k) 3 k) 4 k) 5 k) 16 k) 17 k) 18 k := by
  unfold b_X7_carryAll_151
  rw [nI_clamp (show k < 2 ^ 31 by omega)]
  extract_lets +onlyGivenNames a1 b1 a2 b2 a3 b3 a4 b4 a5 b5 a6 b6 a7 b7 a8 b8
  have e1 : b1 = cst v 1 k := rfl
  have e2 : b2 = cst b1 2 k := rfl
  have e3 : b3 = cst b2 3 k := rfl
  have e4 : b4 = cst b3 4 k := rfl
  have e5 : b5 = cst b4 5 k := rfl
  have e6 : b6 = cst b5 16 k := rfl
  have e7 : b7 = cst b6 17 k := rfl
  have e8 : b8 = cst b7 18 k := rfl
  rw [e8, e7, e6, e5, e4, e3, e2, e1]
theorem t151 {J : Nat → Int32} {w : Gr} (H : HJ J w) {k : Nat} (hk : k < 8) : b_X7_carryAll_151 k (TJ J w (12 + 8 * k)) = TJ J w (12 + 8 * (k + 1)) := by
  rw [c151 k _ hk, cst_T H (f := 1) (n := 12 + 8 * k) (i := k) (by show (if k < 8 then 12 + 8 * k else 1000) = _; rw [if_pos hk]) (by omega) (by decide), cst_T H (f := 2) (n := 12 + 8 * k + 1) (i := k) (by show (if k < 8 then 13 + 8 * k else 1000) = _; rw [if_pos hk]; omega) (by omega) (by decide), cst_T H (f := 3) (n := 12 + 8 * k + 2) (i := k) (by show (if k < 8 then 14 + 8 * k else 1000) = _; rw [if_pos hk]; omega) (by omega) (by decide), cst_T H (f := 4) (n := 12 + 8 * k + 3) (i := k) (by show (if k < 8 then 15 + 8 * k else 1000) = _; rw [if_pos hk]; omega) (by omega) (by decide), cst_T H (f := 5) (n := 12 + 8 * k + 4) (i := k) (by show (if k < 8 then 16 + 8 * k else 1000) = _; rw [if_pos hk]; omega) (by omega) (by decide), cst_T H (f := 16) (n := 12 + 8 * k + 5) (i := k) (by show (if k < 8 then 17 + 8 * k else 1000) = _; rw [if_pos hk]; omega) (by omega) (by decide), cst_T H (f := 17) (n := 12 + 8 * k + 6) (i := k) (by show (if k < 8 then 18 + 8 * k else 1000) = _; rw [if_pos hk]; omega) (by omega) (by decide), cst_T H (f := 18) (n := 12 + 8 * k + 7) (i := k) (by show (if k < 8 then 19 + 8 * k else 1000) = _; rw [if_pos hk]; omega) (by omega) (by decide)]
  exact congrArg (TJ J w) (by omega)
theorem c293 (k : Nat) (v : Gr) (hk : k < 16) : b_X7_carryAll_293 k v = cst (cst v 6 k) 7 k := by
  unfold b_X7_carryAll_293
  rw [nI_clamp (show k < 2 ^ 31 by omega)]
  rfl
theorem t293 {J : Nat → Int32} {w : Gr} (H : HJ J w) {k : Nat} (hk : k < 16) : b_X7_carryAll_293 k (TJ J w (76 + 2 * k)) = TJ J w (76 + 2 * (k + 1)) := by
  rw [c293 k _ hk, cst_T H (f := 6) (n := 76 + 2 * k) (i := k) (by show (if k < 16 then 76 + 2 * k else 1000) = _; rw [if_pos hk]) (by omega) (by decide), cst_T H (f := 7) (n := 76 + 2 * k + 1) (i := k) (by show (if k < 16 then 77 + 2 * k else 1000) = _; rw [if_pos hk]; omega) (by omega) (by decide)]
  exact congrArg (TJ J w) (by omega)
theorem c339 (k : Nat) (v : Gr) (hk : k < 24) : b_X7_carryAll_339 k v = cs14 (cst (cst (cst (cst (cst v 9 k) 10 k) 11 k) 12 k) 13 k) k := by
  unfold b_X7_carryAll_339
  rw [nI_clamp (show k < 2 ^ 31 by omega)]
  extract_lets +onlyGivenNames a1 b1 a2 b2 a3 b3 a4 b4 a5 b5
  have e1 : b1 = cst v 9 k := rfl
  have e2 : b2 = cst b1 10 k := rfl
  have e3 : b3 = cst b2 11 k := rfl
  have e4 : b4 = cst b3 12 k := rfl
  have e5 : b5 = cst b4 13 k := rfl
  rw [← e1, ← e2, ← e3, ← e4, ← e5]
  rfl
theorem t339 {J : Nat → Int32} {w : Gr} (H : HJ J w) {k : Nat} (hk : k < 24) : b_X7_carryAll_339 k (TJ J w (108 + 6 * k)) = TJ J w (108 + 6 * (k + 1)) := by
  rw [c339 k _ hk, cst_T H (f := 9) (n := 108 + 6 * k) (i := k) (by show (if k < 24 then 108 + 6 * k else 1000) = _; rw [if_pos hk]) (by omega) (by decide), cst_T H (f := 10) (n := 108 + 6 * k + 1) (i := k) (by show (if k < 24 then 109 + 6 * k else 1000) = _; rw [if_pos hk]; omega) (by omega) (by decide), cst_T H (f := 11) (n := 108 + 6 * k + 2) (i := k) (by show (if k < 24 then 110 + 6 * k else 1000) = _; rw [if_pos hk]; omega) (by omega) (by decide), cst_T H (f := 12) (n := 108 + 6 * k + 3) (i := k) (by show (if k < 24 then 111 + 6 * k else 1000) = _; rw [if_pos hk]; omega) (by omega) (by decide), cst_T H (f := 13) (n := 108 + 6 * k + 4) (i := k) (by show (if k < 24 then 112 + 6 * k else 1000) = _; rw [if_pos hk]; omega) (by omega) (by decide), cs14_T H (n := 108 + 6 * k + 5) hk (by omega)]
  exact congrArg (TJ J w) (by omega)
theorem t466 {J : Nat → Int32} {w : Gr} (H : HJ J w) {k : Nat} (hk : k < 28) : b_X7_carryAll_466 k (TJ J w (252 + k)) = TJ J w (252 + (k + 1)) := by
  have e : b_X7_carryAll_466 k (TJ J w (252 + k)) = cst (TJ J w (252 + k)) 19 k := by
    unfold b_X7_carryAll_466
    rw [nI_clamp (show k < 2 ^ 31 by omega)]
    rfl
  rw [e, cst_T H (f := 19) (n := 252 + k) (i := k) (by show (if k < 28 then 252 + k else 1000) = _; rw [if_pos hk]) (by omega) (by decide)]
  rfl
theorem itn_T {J : Nat → Int32} {w : Gr} {f : Nat → Gr → Gr} {a b N : Nat} (h : ∀ k, k < N → f k (TJ J w (a + b * k)) = TJ J w (a + b * (k + 1))) : ∀ k, k ≤ N → itn f k (TJ J w a) = TJ J w (a + b * k)
  | 0, _ => rfl
  | k + 1, hk => by
    show f k (itn f k (TJ J w a)) = _
    rw [itn_T h k (by omega), h k (by omega)]
theorem carryAll_T {J : Nat → Int32} {w : Gr} (H : HJ J w) : g_X7_carryAll w = TJ J w 280 := by
  unfold g_X7_carryAll
  extract_lets +onlyGivenNames z0 a1 b1 a2 b2 a3 b3 a4 b4 a5 b5 a6 b6 a7 b7 a8 b8 a9 b9 a10 b10 a11 b11 a12 b12 l1 l2 l3 l4
  have e0 : z0 = TJ J w 0 := (TJ_0 J w).symm
  have e1 : b1 = TJ J w 1 := by
    have : b1 = cst z0 0 0 := rfl
    rw [this, e0, cst_T H (f := 0) (n := 0) (i := 0) rfl (by decide) (by decide)]
  have e2 : b2 = TJ J w 2 := by
    have : b2 = cst b1 0 8 := rfl
    rw [this, e1, cst_T H (f := 0) (n := 1) (i := 8) rfl (by decide) (by decide)]
  have e3 : b3 = TJ J w 3 := by
    have : b3 = cst b2 0 15 := rfl
    rw [this, e2, cst_T H (f := 0) (n := 2) (i := 15) rfl (by decide) (by decide)]
  have e4 : b4 = TJ J w 4 := by
    have : b4 = cst b3 0 20 := rfl
    rw [this, e3, cst_T H (f := 0) (n := 3) (i := 20) rfl (by decide) (by decide)]
  have e5 : b5 = TJ J w 5 := by
    have : b5 = cst b4 0 21 := rfl
    rw [this, e4, cst_T H (f := 0) (n := 4) (i := 21) rfl (by decide) (by decide)]
  have e6 : b6 = TJ J w 6 := by
    have : b6 = cst b5 0 22 := rfl
    rw [this, e5, cst_T H (f := 0) (n := 5) (i := 22) rfl (by decide) (by decide)]
  have e7 : b7 = TJ J w 7 := by
    have : b7 = cst b6 0 23 := rfl
    rw [this, e6, cst_T H (f := 0) (n := 6) (i := 23) rfl (by decide) (by decide)]
  have e8 : b8 = TJ J w 8 := by
    have : b8 = cst b7 0 24 := rfl
    rw [this, e7, cst_T H (f := 0) (n := 7) (i := 24) rfl (by decide) (by decide)]
  have e9 : b9 = TJ J w 9 := by
    have : b9 = cst b8 0 25 := rfl
    rw [this, e8, cst_T H (f := 0) (n := 8) (i := 25) rfl (by decide) (by decide)]
  have e10 : b10 = TJ J w 10 := by
    have : b10 = cst b9 0 26 := rfl
    rw [this, e9, cst_T H (f := 0) (n := 9) (i := 26) rfl (by decide) (by decide)]
  have e11 : b11 = TJ J w 11 := by
    have : b11 = cst b10 0 27 := rfl
    rw [this, e10, cst_T H (f := 0) (n := 10) (i := 27) rfl (by decide) (by decide)]
  have e12 : b12 = TJ J w 12 := by
    have : b12 = cst b11 0 28 := rfl
    rw [this, e11, cst_T H (f := 0) (n := 11) (i := 28) rfl (by decide) (by decide)]
  have f1 : l1 = TJ J w 76 := by
    have : l1 = itn b_X7_carryAll_151 (nn 8) b12 := rfl
    rw [this, e12, nn_eq]
    exact itn_T (a := 12) (b := 8) (N := 8) (fun k hk => t151 H hk) 8 (Nat.le_refl _)
  have f2 : l2 = TJ J w 108 := by
    have : l2 = itn b_X7_carryAll_293 (nn 16) l1 := rfl
    rw [this, f1, nn_eq]
    exact itn_T (a := 76) (b := 2) (N := 16) (fun k hk => t293 H hk) 16 (Nat.le_refl _)
  have f3 : l3 = TJ J w 252 := by
    have : l3 = itn b_X7_carryAll_339 (nn 24) l2 := rfl
    rw [this, f2, nn_eq]
    exact itn_T (a := 108) (b := 6) (N := 24) (fun k hk => t339 H hk) 24 (Nat.le_refl _)
  have f4 : l4 = TJ J w 280 := by
    have : l4 = itn b_X7_carryAll_466 (nn 28) l3 := rfl
    rw [this, f3, nn_eq]
    exact itn_T (a := 252) (b := 1) (N := 28) (fun k hk => by rw [Nat.one_mul, Nat.one_mul]; exact t466 H hk) 28 (Nat.le_refl _)
  exact f4
