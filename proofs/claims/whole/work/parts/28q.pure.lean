/-! feeding -/
theorem sm64 : ∀ k, k < 8 → (((8 * nI k).toInt64 &&& 63).toBitVec.smod 64).toNat = 8 * k := by decide +kernel
theorem um64 : ∀ k, k < 8 → (((8 * nI k).toInt64.toUInt64 &&& Int64.toUInt64 63).toBitVec % 64).toNat = 8 * k := by decide +kernel
theorem b255 : ∀ i, i < 32 → (255 : Int32).toBitVec.getLsbD i = decide (i < 8) := by decide +kernel
theorem l255 : ∀ i, i < 64 → (255 : Int64).toBitVec.getLsbD i = decide (i < 8) := by decide +kernel
theorem byte_eq (y : Int64) {k : Nat} (hk : k < 8) : (((y.toUInt64 >>> ((8 * (nI k)).toInt64.toUInt64 &&& Int64.toUInt64 63)).toInt64).toInt32) &&& 255 = ((y >>> ((8 * (nI k)).toInt64 &&& 63)) &&& 255).toInt32 := by
  rw [← Int32.toBitVec_inj]
  apply BitVec.eq_of_getLsbD_eq
  intro i hi
  rw [Int32.toBitVec_and, BitVec.getLsbD_and, b255 i hi, Int64.toBitVec_toInt32, BitVec.getLsbD_signExtend, Int64.toBitVec_toInt32, BitVec.getLsbD_signExtend, if_pos (by omega), if_pos (by omega), Int64.toBitVec_and, BitVec.getLsbD_and, l255 i (by omega)]
  by_cases h8 : i < 8
  · have e1 : (y.toUInt64 >>> ((8 * (nI k)).toInt64.toUInt64 &&& Int64.toUInt64 63)).toInt64.toBitVec.getLsbD i = y.toBitVec.getLsbD (8 * k + i) := by
      show (y.toUInt64 >>> ((8 * (nI k)).toInt64.toUInt64 &&& Int64.toUInt64 63)).toBitVec.getLsbD i = _
      rw [UInt64.toBitVec_shiftRight, BitVec.ushiftRight_eq', um64 k hk, BitVec.getLsbD_ushiftRight]
      rfl
    have e2 : (y >>> ((8 * (nI k)).toInt64 &&& 63)).toBitVec.getLsbD i = y.toBitVec.getLsbD (8 * k + i) := by
      rw [Int64.toBitVec_shiftRight, BitVec.sshiftRight_eq', sm64 k hk, BitVec.getLsbD_sshiftRight]
      rw [if_pos (by omega)]
      simp only [show ¬ 64 ≤ i by omega, decide_false, Bool.not_false, Bool.true_and]
    rw [e1, e2, Bool.and_assoc]
  · simp [h8, hi]
def FP (σ : St) (w : Gr) (e k : Nat) (τ : St) (u : Gr) : Prop := (∀ f, f ≠ 0 → τ f = σ f) ∧ (∀ f, f ≠ 1 → f ≠ 2 → τ 0 f = σ 0 f) ∧ (∀ f, f ≠ 0 → f ≠ 29 → u f = w f) ∧ (∀ j, j ≠ 30 → u 0 j = w 0 j) ∧ τ 0 1 0 = nI (e + k) ∧ u 0 30 = nI (e + k) ∧ ∀ i, i < e + k → u 29 i = τ 0 2 i
theorem feed_step {σ τ : St} {w u : Gr} {e k : Nat} {y1 : Int32} {y2 : Int64} (he : e + k < 96) (hk : k < 8) (q : FP σ w e k τ u) : FP σ w e (k + 1) (b_X6_feed_42 y1 y2 k τ) (b_X7_feed_39 y1 y2 k u) := by
  obtain ⟨q1, q2, q3, q4, q5, q6, q7⟩ := q
  have d6 : b_X6_feed_42 y1 y2 k τ = setG τ 0 (up (up (τ 0) 2 (e + k) (((y2 >>> ((8 * (nI k)).toInt64 &&& 63)) &&& 255).toInt32)) 1 0 (nI (e + (k + 1)))) := by
    unfold b_X6_feed_42 g_X1_append
    dsimp only
    rw [q5, if_neg (nI_pos (by omega)), if_neg (fun z => by have := (nI_leI (a := 96) (by decide) (by omega)).mp z; omega), nI_clamp (by omega), up_ne (by decide), q5, byte_eq y2 hk, nI_1]
    rfl
  have d7 : b_X7_feed_39 y1 y2 k u = up (up u 29 (e + k) (((y2 >>> ((8 * (nI k)).toInt64 &&& 63)) &&& 255).toInt32)) 0 30 (nI (e + (k + 1))) := by
    unfold b_X7_feed_39
    dsimp only
    rw [up_ne (show (0 : Nat) ≠ 29 by decide), q6, nI_clamp (by omega), nI_1]
    rfl
  rw [d6, d7]
  generalize ((y2 >>> ((8 * (nI k)).toInt64 &&& 63)) &&& 255).toInt32 = b
  refine ⟨fun f hf => ?_, fun f h1 h2 => ?_, fun f h0 h29 => ?_, fun j hj => ?_, ?_, ?_, fun i hi => ?_⟩
  · rw [setG_ne hf]; exact q1 f hf
  · rw [setG_same, up_ne h1, up_ne h2]; exact q2 f h1 h2
  · rw [up_ne h0, up_ne h29]; exact q3 f h0 h29
  · rw [s0 j hj, up_ne (by decide)]; exact q4 j hj
  · rw [setG_same, up0, if_pos rfl]
  · rw [s1]
  · rw [setG_same, up_ne (show (29 : Nat) ≠ 0 by decide), up_ne (show (2 : Nat) ≠ 1 by decide), up0, up0]
    by_cases z : i = e + k
    · rw [if_pos z, if_pos z]
    · rw [if_neg z, if_neg z]; exact q7 i (by omega)
theorem ok_feed {j : Nat} {σ : St} (h : IV j σ) (x : Int32) (y : Int64) : OK j σ (f_X6_feed σ x y) (g_X6_feed σ x y) (f_X7_feed (σ 4) x y) (g_X7_feed (σ 4) x y) := by
  obtain ⟨⟨n, nw, nr, S, c1, c2⟩, ⟨e, he, t1, t2, t3⟩, ⟨r, hr, er, er', hrow⟩, ff, ii⟩ := id h
  unfold f_X6_feed g_X6_feed f_X7_feed g_X7_feed
  dsimp only
  by_cases h1 : 1 ≤ x
  · simp only [if_pos h1]
    by_cases h2 : 8 < x
    · simp only [if_pos h2]; exact OK.ref h r6
    · simp only [if_neg h2]
      obtain ⟨m, hm1, hm2, rfl⟩ := rg_of (a := 1) rfl (hi := 8) (b := 8) rfl (by decide) (by decide) h1 h2
      have ht : σ 4 0 30 = σ 0 1 0 := t2.trans t1.symm
      rw [ht]
      by_cases h3 : σ 0 1 0 + nI m ≤ 96
      · simp only [if_pos h3]
        have h96 : e + m ≤ 96 := by
          rw [t1, nI_add] at h3
          exact (nI_leI (b := 96) (by omega) (by decide)).mp h3
        have k := itn_2 (f := b_X6_feed_42 (nI m) y) (g := b_X7_feed_39 (nI m) y) (N := m) (FP σ (σ 4) e) (fun k a b hk q => feed_step (by omega) (by omega) q) m σ (σ 4) (Nat.le_refl _) ⟨fun _ _ => rfl, fun _ _ _ => rfl, fun _ _ _ => rfl, fun _ _ => rfl, t1, t2, t3⟩
        have e6 : l_X6_feed_42 (nI m) y σ = itn (b_X6_feed_42 (nI m) y) m σ := by unfold l_X6_feed_42; rw [nI_clamp (by omega)]
        have e7 : l_X7_feed_39 (nI m) y (σ 4) = itn (b_X7_feed_39 (nI m) y) m (σ 4) := by unfold l_X7_feed_39; rw [nI_clamp (by omega)]
        rw [e6, e7]
        generalize itn (b_X6_feed_42 (nI m) y) m σ = τ at *
        generalize itn (b_X7_feed_39 (nI m) y) m (σ 4) = u at *
        obtain ⟨q1, q2, q3, q4, q5, q6, q7⟩ := k
        refine OK.of (q1 4 (by decide)) (q5.trans q6.symm) ?_
        rw [q1 1 (by decide), q1 3 (by decide)]
        refine ⟨?_, ⟨e + m, h96, q5, q6, q7⟩, ⟨r, hr, ?_, ?_, fun i hi => ?_⟩, fun i hi => ?_, ?_⟩
        · obtain ⟨n, nw, nr, S, c1, c2⟩ := h.1.mono (Nat.le_succ j)
          exact ⟨n, nw, nr, S.am ⟨fun j hj => q4 j (by omega), q4 34 (by decide), fun f i _ hf => by rw [q3 f (by omega) (by omega)], fun f i _ hf => by rw [q3 f (by omega) (by omega)], fun f i _ hf => by rw [q3 f (by omega) (by omega)], fun i _ => by rw [q3 19 (by decide) (by decide)]⟩, (q4 24 (by decide)).trans c1, (q4 34 (by decide)).trans c2⟩
        · rw [q2 0 (by decide) (by decide)]; exact er
        · rw [q4 32 (by decide)]; exact er'
        · rw [q2 3 (by decide) (by decide), q3 31 (by decide) (by decide)]; exact hrow i hi
        · rw [q2 4 (by decide) (by decide), q3 33 (by decide) (by decide)]; exact ff i hi
        · have i' := ii.mono (Nat.le_succ j)
          unfold IMG at i' ⊢
          rw [q2 0 (by decide) (by decide), q4 51 (by decide), q3 52 (by decide) (by decide)]; exact i'
      · simp only [if_neg h3]; exact OK.ref h r6
  · simp only [if_neg h1]; exact OK.ref h r4
