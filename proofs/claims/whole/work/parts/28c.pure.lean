/-! bits that say which ways are shut -/
theorem sm32 : ∀ k, k < 24 → ((nI k &&& 31).toBitVec.smod 32).toNat = k := by decide +kernel
theorem one_bit : ∀ i, i < 24 → ∀ k, k < 24 → ((1 : Int32) <<< (nI i &&& 31)).toBitVec.getLsbD k = decide (k = i) := by decide +kernel
theorem and1 (x : Int32) : (x &&& 1 = 1) ↔ x.toBitVec.getLsbD 0 = true := by
  rw [pk_and x (m := 1) 1 (by decide), BitVec.getLsbD, Nat.testBit_zero, decide_eq_true_eq]
  have h := Nat.mod_lt x.toBitVec.toNat (show 0 < 2 by decide)
  constructor
  · intro q
    exact nIinj (b := 1) (by omega) (by decide) q
  · intro q; rw [show x.toBitVec.toNat % 2 ^ 1 = 1 from q]; rfl
theorem shr0 {a : Int32} {k : Nat} (hk : k < 24) : (a >>> (nI k &&& 31)).toBitVec.getLsbD 0 = a.toBitVec.getLsbD k := by
  rw [Int32.toBitVec_shiftRight, BitVec.sshiftRight_eq', sm32 k hk, BitVec.getLsbD_sshiftRight]
  simp only [Nat.add_zero]
  rw [if_pos (by omega)]
  simp
theorem sb_iff {a : Int32} {k : Nat} (hk : k < 24) : ((a >>> (nI k &&& 31)) &&& 1 = 1) ↔ a.toBitVec.getLsbD k = true := by
  rw [and1, shr0 hk]
theorem shut_bit (v : Gr) {k : Nat} (hk : k < 24) : f_X5_isShut v (nI k) = if (v 9 6).toBitVec.getLsbD k = true then 1 else 0 := by
  unfold f_X5_isShut
  by_cases h : (v 9 6).toBitVec.getLsbD k = true
  · rw [if_pos h, if_pos ((sb_iff hk).mpr h)]
  · rw [if_neg h, if_neg (fun q => h ((sb_iff hk).mp q))]
theorem shut_turn (v : Gr) {i k : Nat} (hi : i < 24) (hk : k < 24) : f_X5_isShut (g_X5_turn v (nI i)) (nI k) = if k = i then (if f_X5_isShut v (nI k) = 0 then 1 else 0) else f_X5_isShut v (nI k) := by
  rw [shut_bit _ hk, shut_bit _ hk]
  unfold g_X5_turn
  rw [up0, if_pos rfl, Int32.toBitVec_xor, BitVec.getLsbD_xor, one_bit i hi k hk]
  by_cases e : k = i
  · rw [if_pos e]
    cases (v 9 6).toBitVec.getLsbD k
    · simp [e]
    · simp [e]
  · rw [if_neg e]
    cases (v 9 6).toBitVec.getLsbD k
    · simp [e]
    · simp [e]
theorem shut01 (v : Gr) (x : Int32) : f_X5_isShut v x = 0 ∨ f_X5_isShut v x = 1 := by
  unfold f_X5_isShut
  split
  · exact Or.inr rfl
  · exact Or.inl rfl
/-! changes of one thing on both sides -/
theorem SIM.dred {n nw nr B M : Nat} {v u v' u' : Gr} (S : SIM n nw nr B M v u) (e19 : ∀ f, f ≠ 19 → v' f = v f) (e0 : ∀ f, f ≠ 0 → u' f = u f) (es : ∀ j, j < 24 ∨ 28 < j → u' 0 j = u 0 j) (D : DIv n v') (r : u' 0 25 = v' 19 1 ∧ u' 0 26 = v' 19 2 ∧ u' 0 27 = v' 19 3 ∧ u' 0 28 = v' 19 4) : SIM n nw nr B M v' u' := by
  obtain ⟨I, R, T, N, Z, hb⟩ := S
  obtain ⟨hh, ⟨x1, x2, x3⟩, C, W, P, V, _, m, SB⟩ := I
  obtain ⟨⟨q1, q2, q3⟩, c2, c3, c4, _, c6, c7⟩ := R
  refine ⟨⟨hh, ?_, ?_, ?_, ?_, ?_, D, ?_, ?_⟩, ⟨?_, ?_, ?_, ?_, r, ?_, ?_⟩, ?_, ?_, ?_, ?_⟩
  · rw [e19 1 (by decide), e19 9 (by decide), e19 15 (by decide)]; exact ⟨x1, x2, x3⟩
  · unfold CIv; rw [e19 2 (by decide), e19 3 (by decide), e19 4 (by decide), e19 5 (by decide), e19 6 (by decide)]; exact C
  · unfold WIv; rw [e19 10 (by decide), e19 11 (by decide), e19 12 (by decide), e19 13 (by decide), e19 14 (by decide)]; exact W
  · unfold PIv pw; rw [e19 10 (by decide), e19 12 (by decide), e19 13 (by decide), e19 14 (by decide)]; exact P
  · unfold VIv; rw [e19 16 (by decide), e19 17 (by decide), e19 18 (by decide)]; exact V
  · rw [e19 0 (by decide)]; exact m
  · unfold SBv f_X5_isShut; rw [e19 9 (by decide)]; exact SB
  · rw [es 0 (by decide), es 8 (by decide), es 15 (by decide)]; exact ⟨q1, q2, q3⟩
  · rw [e19 2 (by decide), e19 3 (by decide), e19 4 (by decide), e19 5 (by decide), e19 6 (by decide), e0 1 (by decide), e0 2 (by decide), e0 3 (by decide), e0 4 (by decide), e0 5 (by decide)]; exact c2
  · unfold f_X5_isShut; rw [e19 9 (by decide), e19 10 (by decide), e19 11 (by decide), e19 12 (by decide), e19 13 (by decide), e19 14 (by decide), e0 9 (by decide), e0 10 (by decide), e0 11 (by decide), e0 12 (by decide), e0 13 (by decide), e0 14 (by decide)]; exact c3
  · rw [e19 16 (by decide), e19 17 (by decide), e19 18 (by decide), e0 16 (by decide), e0 17 (by decide), e0 18 (by decide), es 34 (by decide)]; exact c4
  · rw [es 20 (by decide), e19 0 (by decide)]; exact c6
  · rw [e0 19 (by decide), e19 0 (by decide)]; exact c7
  · unfold TR; rw [e0 6 (by decide), e0 7 (by decide), e19 7 (by decide), e19 8 (by decide)]; exact T
  · unfold NR; rw [es 21 (by decide), es 22 (by decide), es 23 (by decide), e19 0 (by decide)]; exact N
  · exact Z.same (e19 7 (by decide)) (e19 8 (by decide))
  · rw [e19 0 (by decide)]; exact hb
/-- a way is shut or opened -/
theorem SIM.turn {n nw nr B M i : Nat} {v u : Gr} (S : SIM n nw nr B M v u) (hi : i < nw) : SIM n nw nr B M (g_X5_turn v (nI i)) (up u 14 i (if f_X5_isShut v (nI i) = 0 then 1 else 0)) := by
  obtain ⟨I, R, T, N, Z, hb⟩ := S
  obtain ⟨⟨hn, hw, hr⟩, hx, C, W, P, V, D, m, SB⟩ := I
  obtain ⟨q, c2, c3, c4, c5, c6, c7⟩ := R
  refine ⟨⟨⟨hn, hw, hr⟩, hx, C, W, P, V, D, m, fun k h1 h2 => ?_⟩, ⟨q, c2, fun k hk => ?_, c4, c5, c6, c7⟩, T, N, Z, hb⟩
  · rw [shut_turn v (by omega) h2, if_neg (by omega)]; exact SB k h1 h2
  · obtain ⟨a9, a10, a11, a12, a13, a14⟩ := c3 k hk
    refine ⟨a9, a10, a11, a12, a13, ?_⟩
    rw [shut_turn v (by omega) (by omega), up0]
    by_cases e : k = i
    · rw [if_pos e, if_pos e, e]
    · rw [if_neg e, if_neg e]; exact a14
/-- a value of a cell: settles, stirs, price, wanted -/
theorem SIM.val {n nw nr B M c : Nat} {v u v' u' : Gr} {x : Int32} (S : SIM n nw nr B M v u) (hc : c < n) {f : Nat} (hf : f = 3 ∨ f = 4 ∨ f = 5 ∨ f = 6) (ev : v' = up v f c x) (eu : u' = up u (f - 1) c x) (hx : rg x 0 (if f = 4 ∨ f = 5 then 100 else 99)) : SIM n nw nr B M v' u' := by
  subst ev eu
  obtain ⟨I, R, T, N, Z, hb⟩ := S
  obtain ⟨⟨hn, hw, hr⟩, hx', C, W, P, V, D, m, SB⟩ := I
  obtain ⟨q, c2, c3, c4, c5, c6, c7⟩ := R
  have ne : ∀ g, (g < 3 ∨ 6 < g) → up v f c x g = v g := fun g hg => up_ne (by omega)
  have nu : ∀ g, (g < 2 ∨ 5 < g) → up u (f - 1) c x g = u g := fun g hg => up_ne (by omega)
  refine ⟨⟨⟨hn, hw, hr⟩, ?_, fun i hi => ?_, ?_, ?_, ?_, ?_, ?_, ?_⟩, ⟨?_, fun i hi => ?_, ?_, ?_, ?_, ?_, ?_⟩, ?_, ?_, ?_, ?_⟩
  · rw [ne 1 (by decide), ne 9 (by decide), ne 15 (by decide)]; exact hx'
  · obtain ⟨h2, h3, h4, h5, h6⟩ := C i hi
    rw [ne 2 (by decide)]
    rcases hf with rfl | rfl | rfl | rfl
    · refine ⟨h2, ?_, h4, h5, h6⟩
      rw [up0]; by_cases e : i = c
      · rw [if_pos e]; exact hx
      · rw [if_neg e]; exact h3
    · refine ⟨h2, h3, ?_, h5, h6⟩
      rw [up0]; by_cases e : i = c
      · rw [if_pos e]; exact hx
      · rw [if_neg e]; exact h4
    · refine ⟨h2, h3, h4, ?_, h6⟩
      rw [up0]; by_cases e : i = c
      · rw [if_pos e]; exact hx
      · rw [if_neg e]; exact h5
    · refine ⟨h2, h3, h4, h5, ?_⟩
      rw [up0]; by_cases e : i = c
      · rw [if_pos e]; exact hx
      · rw [if_neg e]; exact h6
  · unfold WIv; rw [ne 10 (by decide), ne 11 (by decide), ne 12 (by decide), ne 13 (by decide), ne 14 (by decide)]; exact W
  · unfold PIv pw; rw [ne 10 (by decide), ne 12 (by decide), ne 13 (by decide), ne 14 (by decide)]; exact P
  · unfold VIv; rw [ne 16 (by decide), ne 17 (by decide), ne 18 (by decide)]; exact V
  · unfold DIv; rw [ne 19 (by decide)]; exact D
  · rw [ne 0 (by decide)]; exact m
  · unfold SBv f_X5_isShut; rw [ne 9 (by decide)]; exact SB
  · rw [nu 0 (by decide)]; exact q
  · obtain ⟨h2, h3, h4, h5, h6⟩ := c2 i hi
    rw [ne 2 (by decide), nu 1 (by decide)]
    rcases hf with rfl | rfl | rfl | rfl
    · refine ⟨h2, ?_, h4, h5, h6⟩
      show up u 2 c x 2 i = _
      rw [up0, up0, h3]
    · refine ⟨h2, h3, ?_, h5, h6⟩
      show up u 3 c x 3 i = _
      rw [up0, up0, h4]
    · refine ⟨h2, h3, h4, ?_, h6⟩
      show up u 4 c x 4 i = _
      rw [up0, up0, h5]
    · refine ⟨h2, h3, h4, h5, ?_⟩
      show up u 5 c x 5 i = _
      rw [up0, up0, h6]
  · unfold f_X5_isShut; rw [ne 9 (by decide), ne 10 (by decide), ne 11 (by decide), ne 12 (by decide), ne 13 (by decide), ne 14 (by decide), nu 9 (by decide), nu 10 (by decide), nu 11 (by decide), nu 12 (by decide), nu 13 (by decide), nu 14 (by decide)]; exact c3
  · rw [ne 16 (by decide), ne 17 (by decide), ne 18 (by decide), nu 16 (by decide), nu 17 (by decide), nu 18 (by decide), nu 0 (by decide)]; exact c4
  · rw [nu 0 (by decide), ne 19 (by decide)]; exact c5
  · rw [nu 0 (by decide), ne 0 (by decide)]; exact c6
  · rw [nu 19 (by decide), ne 0 (by decide)]; exact c7
  · exact T.same (ne 7 (by decide)) (ne 8 (by decide)) (nu 6 (by decide)) (nu 7 (by decide))
  · unfold NR; rw [nu 0 (by decide), ne 0 (by decide)]; exact N
  · exact Z.same (ne 7 (by decide)) (ne 8 (by decide))
  · rw [ne 0 (by decide)]; exact hb
/-- tons alone -/
theorem SIM.tons {n nw nr B M M' : Nat} {v u v' u' : Gr} (S : SIM n nw nr B M v u) (ev : ∀ f, f ≠ 7 → f ≠ 8 → v' f = v f) (eu : ∀ f, f ≠ 6 → f ≠ 7 → u' f = u f) (T' : TR n v' u') (Z' : TZ n M' v') : SIM n nw nr B M' v' u' := by
  obtain ⟨I, R, T, N, Z, hb⟩ := S
  have fr : Fr v v' := ⟨fun f h0 h7 h8 _ => ev f h7 h8, fun j _ => by rw [ev 0 (by decide) (by decide)]⟩
  have fm : Tt u u' := ⟨fun f h0 h6 h7 _ => eu f h6 h7, fun j _ _ => by rw [eu 0 (by decide) (by decide)]⟩
  refine ⟨I.fr fr, R.fr fr fm, T', ?_, Z', ?_⟩
  · unfold NR; rw [ev 0 (by decide) (by decide), eu 0 (by decide) (by decide)]; exact N
  · rw [ev 0 (by decide) (by decide)]; exact hb
/-- the moon -/
theorem SIM.moon {n nw nr B M : Nat} {v u v' u' : Gr} {len bits : Int32} (S : SIM n nw nr B M v u) (ev : v' = up (up v 0 4 len) 0 5 bits) (hl : rg len 1 28) (eu : ∀ f, f ≠ 0 → f ≠ 19 → u' f = u f) (es : ∀ j, j ≠ 20 → u' 0 j = u 0 j) (e20 : u' 0 20 = len) (e19 : ∀ t, t < 28 → nI t < len → u' 19 t = (bits >>> (nI t &&& 31)) &&& 1) : SIM n nw nr B M v' u' := by
  subst ev
  obtain ⟨I, R, T, N, Z, hb⟩ := S
  obtain ⟨hh, hx, C, W, P, V, D, m, SB⟩ := I
  obtain ⟨q, c2, c3, c4, c5, c6, c7⟩ := R
  refine ⟨⟨hh, hx, C, W, P, V, D, hl, SB⟩, ⟨?_, ?_, ?_, ?_, ?_, e20, e19⟩, ?_, ?_, Z.same rfl rfl, hb⟩
  · rw [es 0 (by decide), es 8 (by decide), es 15 (by decide)]; exact q
  · rw [eu 1 (by decide) (by decide), eu 2 (by decide) (by decide), eu 3 (by decide) (by decide), eu 4 (by decide) (by decide), eu 5 (by decide) (by decide)]; exact c2
  · rw [eu 9 (by decide) (by decide), eu 10 (by decide) (by decide), eu 11 (by decide) (by decide), eu 12 (by decide) (by decide), eu 13 (by decide) (by decide), eu 14 (by decide) (by decide)]; exact c3
  · rw [eu 16 (by decide) (by decide), eu 17 (by decide) (by decide), eu 18 (by decide) (by decide), es 34 (by decide)]; exact c4
  · rw [es 25 (by decide), es 26 (by decide), es 27 (by decide), es 28 (by decide)]; exact c5
  · unfold TR; rw [eu 6 (by decide) (by decide), eu 7 (by decide) (by decide)]; exact T
  · unfold NR; rw [es 21 (by decide), es 22 (by decide), es 23 (by decide)]; exact N
