/-! the least cap -/
theorem cap_cmp : ∀ k, k ≤ 20 → ((950 < nI (50 * k)) ↔ k = 20) ∧ ((1000 ≤ nI (50 * k)) ↔ k = 20) := by decide +kernel
theorem leastCap_go {n nw nr B M N : Nat} {σ : St} (S : SIM n nw nr B M (σ 1) (σ 4)) (h1 : 1 ≤ n) (hB : B + 200 < 2 ^ 30) (hM : M + 1598400 < 2 ^ 30) (hN : N ≤ 200) (y6 y7 : Int32) : ∀ (m k : Nat) (τ : St) (w : Gr), k + m = 20 → (∀ f, f ≠ 2 → τ f = σ f) → Sv (σ 4) (up w 0 24 (σ 4 0 24)) →
    (if (wl (b_X6_leastCap_18 (nI N) y6) (m + 1) k τ).1 = 69 then (-9) else (wl (b_X6_leastCap_18 (nI N) y6) (m + 1) k τ).2.1) = (wl (b_X7_leastCap_29 (nI N) y7) (m + 1) k ((-9), w)).2.2.1 ∧
    (∀ f, f ≠ 2 → (wl (b_X6_leastCap_18 (nI N) y6) (m + 1) k τ).2.2 f = σ f) ∧ Sv (σ 4) (up (wl (b_X7_leastCap_29 (nI N) y7) (m + 1) k ((-9), w)).2.2.2 0 24 (σ 4 0 24)) := by
  intro m
  induction m with
  | zero =>
    intro k τ w hk hτ hw
    have hk : k = 20 := by omega
    obtain ⟨e1, e2⟩ := cap_cmp k (by omega)
    have d6 : b_X6_leastCap_18 (nI N) y6 k τ = (false, 69, 0, τ) := by unfold b_X6_leastCap_18; rw [if_pos (e1.mpr hk)]
    have d7 : b_X7_leastCap_29 (nI N) y7 k ((-9), w) = (false, 69, 0, (-9), w) := by unfold b_X7_leastCap_29; rw [if_pos (e2.mpr hk)]
    rw [wl_out d6, wl_out d7, if_pos rfl]
    exact ⟨rfl, hτ, hw⟩
  | succ m ih =>
    intro k τ w hk hτ hw
    obtain ⟨e1, e2⟩ := cap_cmp k (by omega)
    have hs := hw.shift (nI (50 * k))
    have A := become_AG (τ 2) (σ 1)
    have S2 := (((S.ag A).d24 (x := nI (50 * k)) ⟨50 * k, Nat.zero_le _, by omega, rfl⟩)).sv hs
    obtain ⟨r1, r2⟩ := holds_sim S2 (by rw [s1, t1]) h1 hB hM hN
    have kf : ∀ g, ∀ f, f ≠ 2 → setG τ 2 g f = σ f := fun g f hf => by rw [setG_ne hf]; exact hτ f hf
    have kk : Sv (σ 4) (up (g_X7_holdsFor (up w 0 24 (nI (50 * k))) (nI N)) 0 24 (σ 4 0 24)) := (hs.trans (holdsFor_Sv _ _)).back
    have d6 : b_X6_leastCap_18 (nI N) y6 k τ = if f_X3_firstLack (up (g_X3_become (τ 2) (σ 1)) 19 0 (nI (50 * k))) (nI N) (-1) = -9 then (false, 62, nI (50 * k), setG τ 2 (g_X3_firstLack (up (g_X3_become (τ 2) (σ 1)) 19 0 (nI (50 * k))) (nI N) (-1))) else (true, 0, 0, setG τ 2 (g_X3_firstLack (up (g_X3_become (τ 2) (σ 1)) 19 0 (nI (50 * k))) (nI N) (-1))) := by
      unfold b_X6_leastCap_18
      simp only [setG_same, setG_setG]
      rw [if_neg (fun q => by have := e1.mp q; omega), hτ 1 (by decide)]
    have d7 : b_X7_leastCap_29 (nI N) y7 k ((-9), w) = if 0 ≤ f_X3_firstLack (up (g_X3_become (τ 2) (σ 1)) 19 0 (nI (50 * k))) (nI N) (-1) then (true, 0, 0, ((-9), g_X7_holdsFor (up w 0 24 (nI (50 * k))) (nI N))) else (true, 0, 0, (nI (50 * k), g_X7_holdsFor (up w 0 24 (nI (50 * k))) (nI N))) := by
      unfold b_X7_leastCap_29
      dsimp only
      rw [if_neg (fun q => by have := e2.mp q; omega), if_neg (by decide), r1]
    rcases r2 with r2 | ⟨c, hc, r2⟩
    · rw [r2] at d6 d7
      rw [if_pos rfl] at d6
      rw [if_neg (by decide)] at d7
      have d8 : b_X7_leastCap_29 (nI N) y7 (k + 1) (nI (50 * k), g_X7_holdsFor (up w 0 24 (nI (50 * k))) (nI N)) = (false, 69, 0, (nI (50 * k), g_X7_holdsFor (up w 0 24 (nI (50 * k))) (nI N))) := by
        unfold b_X7_leastCap_29
        dsimp only
        rw [if_pos (show (0 : Int32) ≤ nI (50 * k) from Int32.not_lt.mp (nI_pos (by omega)))]
        split <;> rfl
      rw [wl_out d6, wl_go d7, wl_out d8, if_neg (show ¬ (62 : Nat) = 69 by decide)]
      exact ⟨rfl, kf _, kk⟩
    · rw [r2] at d6 d7
      rw [if_neg (show ¬ nI c = -9 from fun q => by have := nI_pos (n := c) (by omega); rw [q] at this; exact this (by decide))] at d6
      rw [if_pos (show (0 : Int32) ≤ nI c from Int32.not_lt.mp (nI_pos (by omega)))] at d7
      rw [wl_go d6, wl_go d7]
      exact ih (k + 1) _ _ (by omega) (kf _) kk
theorem ok_leastCap {j : Nat} {σ : St} (h : IV j σ) (hj : j < 512) (x : Int32) : OK j σ (f_X6_leastCap σ x) (g_X6_leastCap σ x) (f_X7_leastCap (σ 4) x) (g_X7_leastCap (σ 4) x) := by
  obtain ⟨n, nw, nr, S, c1, c2⟩ := h.1
  obtain ⟨j1, j2, j3⟩ := j30 hj
  unfold f_X6_leastCap g_X6_leastCap f_X7_leastCap g_X7_leastCap
  dsimp only
  rw [why_eq S.1.2.1.1 S.2.1.1.1]
  rcases why_cases (σ 4) x with ⟨hr, h0⟩ | ⟨h0, ⟨N, hN1, hN2, rfl⟩, hz⟩
  · simp only [if_neg h0]; exact OK.ref h hr
  · simp only [if_pos h0]
    generalize f_X7_wrongTides (σ 4) (nI N) = y6
    obtain ⟨q1, q2, q3⟩ := leastCap_go S (n1 S.2.1.1.1 hz) j1 j2 hN2 y6 (σ 4 0 24) 20 0 σ (σ 4) rfl (fun _ _ => rfl) (by rw [up_self]; exact Sv.rf)
    unfold l_X6_leastCap_18 l_X7_leastCap_29
    rw [nn_eq]
    exact OK.mind h q1 (q2 0 (by decide)) (q2 1 (by decide)) (q2 3 (by decide)) (q2 4 (by decide)) q3
