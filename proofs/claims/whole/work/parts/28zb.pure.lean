theorem neg_p : ∀ p, p ≤ 96 → ((-1000 : Int32) - nI p < 0 ∧ (-2000 : Int32) - nI p < 0) := by decide +kernel
/-- behind a text -/
theorem OK.coast {α : Type} {j : Nat} {σ g6 : St} {a b : α} {g7 : Gr} (h : IV j σ) (e4 : g6 4 = σ 4) (e : a = b) (e3 : g6 3 = σ 3) (e0 : ∀ f, f ≠ 1 → g6 0 f = σ 0 f) (e10 : g6 0 1 0 = 0) (S : SIMc j (g6 1) g7) (k30 : g7 0 30 = 0) (k31 : g7 31 = σ 4 31) (k33 : g7 33 = σ 4 33) (k52 : g7 52 = σ 4 52) (k32 : g7 0 32 = σ 4 0 32) (k51 : g7 0 51 = σ 4 0 51) : OK j σ a g6 b g7 := by
  obtain ⟨_, _, r, f, i⟩ := h
  refine OK.of e4 e ?_
  rw [e3]
  refine ⟨S.mono (Nat.le_succ j), ⟨0, by decide, e10, k30, fun i hi => absurd hi (Nat.not_lt_zero _)⟩, ?_, ?_, ?_⟩
  · unfold RW; rw [e0 0 (by decide), e0 3 (by decide), k32, k31]; exact r
  · unfold RF; rw [e0 4 (by decide), k33]; exact f
  · have i' := i.mono (Nat.le_succ j)
    unfold IMG at i' ⊢
    rw [e0 0 (by decide), k51, k52]; exact i'
theorem ok_coast {j : Nat} {σ : St} (h : IV j σ) : OK j σ (f_X6_coast σ) (g_X6_coast σ) (f_X7_coast (σ 4)) (g_X7_coast (σ 4)) := by
  obtain ⟨⟨n, nw, nr, S, c1, c2⟩, ⟨e, he, t1, t2, t3⟩, _, _, _⟩ := id h
  have A := become_AG (σ 2) (σ 1)
  unfold f_X6_coast g_X6_coast f_X7_coast g_X7_coast f_X1_readInto g_X1_readInto
  dsimp only
  -- the class before its passes
  have z0 : ∀ f, f ≠ 0 → setG (setG σ 2 (g_X3_become (σ 2) (σ 1))) 0 (up (setG σ 2 (g_X3_become (σ 2) (σ 1)) 0) 1 2 0) f = setG σ 2 (g_X3_become (σ 2) (σ 1)) f := fun f hf => setG_ne hf
  have z00 : setG (setG σ 2 (g_X3_become (σ 2) (σ 1))) 0 (up (setG σ 2 (g_X3_become (σ 2) (σ 1)) 0) 1 2 0) 0 = up (σ 0) 1 2 0 := by rw [setG_same, setG_ne (by decide)]
  generalize setG (setG σ 2 (g_X3_become (σ 2) (σ 1))) 0 (up (setG σ 2 (g_X3_become (σ 2) (σ 1)) 0) 1 2 0) = τ at *
  have τ2 : τ 2 = g_X3_become (σ 2) (σ 1) := by rw [z0 2 (by decide), setG_same]
  have τo : ∀ f, f ≠ 0 → f ≠ 2 → τ f = σ f := fun f h0 h2 => by rw [z0 f h0, setG_ne h2]
  have τ0 : ∀ f, f ≠ 1 → τ 0 f = σ 0 f := fun f hf => by rw [z00, up_ne hf]
  have C0 : CX (σ 4 29) e (τ 0) 0 := ⟨fun i hi => by rw [τ0 2 (by decide)]; exact (t3 i hi).symm, by rw [z00, up0, if_neg (by decide)]; exact t1, he, Nat.zero_le _, by rw [z00, up0, if_pos rfl]; rfl⟩
  clear z0 z00
  -- the reference before its passes
  have w29 : ∀ f, f ≠ 0 → up (up (up (up (up (σ 4) 0 43 0) 0 44 (σ 4 0 30)) 0 30 0) 0 45 0) 0 46 0 f = σ 4 f := fun f hf => by rw [up_ne hf, up_ne hf, up_ne hf, up_ne hf, up_ne hf]
  have w46 : up (up (up (up (up (σ 4) 0 43 0) 0 44 (σ 4 0 30)) 0 30 0) 0 45 0) 0 46 0 0 46 = 0 := s1
  have w45 : up (up (up (up (up (σ 4) 0 43 0) 0 44 (σ 4 0 30)) 0 30 0) 0 45 0) 0 46 0 0 45 = 0 := by rw [s0 45 (by decide), s1]
  have w30 : up (up (up (up (up (σ 4) 0 43 0) 0 44 (σ 4 0 30)) 0 30 0) 0 45 0) 0 46 0 0 30 = 0 := by rw [s0 30 (by decide), s0 30 (by decide), s1]
  have w44 : up (up (up (up (up (σ 4) 0 43 0) 0 44 (σ 4 0 30)) 0 30 0) 0 45 0) 0 46 0 0 44 = nI e := by rw [s0 44 (by decide), s0 44 (by decide), s0 44 (by decide), s1, t2]
  have w43 : up (up (up (up (up (σ 4) 0 43 0) 0 44 (σ 4 0 30)) 0 30 0) 0 45 0) 0 46 0 0 43 = 0 := by rw [s0 43 (by decide), s0 43 (by decide), s0 43 (by decide), s0 43 (by decide), s1]
  have ws : ∀ i, i ≠ 43 → i ≠ 44 → i ≠ 30 → i ≠ 45 → i ≠ 46 → up (up (up (up (up (σ 4) 0 43 0) 0 44 (σ 4 0 30)) 0 30 0) 0 45 0) 0 46 0 0 i = σ 4 0 i := fun i h1 h2 h3 h4 h5 => by rw [s0 i h5, s0 i h4, s0 i h3, s0 i h2, s0 i h1]
  generalize up (up (up (up (up (σ 4) 0 43 0) 0 44 (σ 4 0 30)) 0 30 0) 0 45 0) 0 46 0 = w0 at *
  have R0 : RI w0 (σ 4 29) e 0 w0 := RI.start ⟨w29 29 (by decide), w44, he, Nat.zero_le _, w43, w45⟩ w46
  obtain ⟨τ', v', p1, kt, p10, p2⟩ := pass1 48 0 τ w0 rfl R0 w45 (Or.inl rfl) C0
  have q9 : ∀ v : Gr, Q9 w0 v → (∀ f, f ≠ 0 → f ≠ 47 → f ≠ 48 → f ≠ 49 → v f = σ 4 f) ∧ (∀ i, i ≠ 43 → i ≠ 44 → i ≠ 30 → i ≠ 45 → i ≠ 46 → v 0 i = σ 4 0 i) ∧ v 0 30 = 0 := fun v q => ⟨fun f h0 h1 h2 h3 => (q.1 f h0 h1 h2 h3).trans (w29 f h0), fun i h1 h2 h3 h4 h5 => (q.2 i h1 h4 h5).trans (ws i h1 h2 h3 h4 h5), (q.2 30 (by decide) (by decide) (by decide)).trans w30⟩
  have l28 : l_X7_coast_28 w0 = (60, 0, v') := by unfold l_X7_coast_28; rw [nn_eq]; exact p1
  have l7 : ∀ x, wl b_X1_readInto_7 (48 + 49) 0 (nI 0, τ) = x → l_X1_readInto_7 (0, τ) = x := fun x q => by unfold l_X1_readInto_7; rw [nn_eq]; exact q
  have τ'o : ∀ f, f ≠ 0 → f ≠ 2 → τ' f = σ f := fun f h0 h2 => (kt.1 f h0).trans (τo f h0 h2)
  have τ'0 : ∀ f, f ≠ 1 → τ' 0 f = σ 0 f := fun f hf => (kt.2 f hf).trans (τ0 f hf)
  have τ'2 : τ' 2 = g_X3_become (σ 2) (σ 1) := (kt.1 2 (by decide)).trans τ2
  rw [l28]
  rcases p2 with ⟨K, p3, RK, p45⟩ | ⟨p, cc, hp, p3, p45, p43, pq⟩
  · obtain ⟨x29, x43, xrv⟩ := RK.good p45
    obtain ⟨qf, qs, q30⟩ := q9 v' RK.1
    have hK := RK.2.2.1
    rw [l7 _ p3]
    simp only [if_pos p45, if_true]
    obtain ⟨o50, oc⟩ := co100 (v' 0 0) (v' 0 8) (v' 0 15) (v' 0 20) v'
    have e130 : ∀ v, v 0 46 = nI K → l_X7_coast_130 (v' 0 0) (v' 0 8) (v' 0 15) (v' 0 20) v = wl (b_X7_coast_130 (v' 0 0) (v' 0 8) (v' 0 15) (v' 0 20)) (K + 1) 0 v := fun v hv => by unfold l_X7_coast_130; rw [nn_eq, hv, nI_clamp (by omega)]
    have e50 : ∀ v, l_X1_readInto_50 (nI K) v = wl (b_X1_readInto_50 (nI K)) (K + 1) 0 v := fun v => by unfold l_X1_readInto_50; rw [nn_eq, nI_clamp (by omega)]
    generalize l_X7_coast_100 (v' 0 0) (v' 0 8) (v' 0 15) (v' 0 20) v' = w1 at *
    have w1s : ∀ i, i ≠ 43 → i ≠ 44 → i ≠ 30 → i ≠ 45 → i ≠ 46 → w1 0 i = σ 4 0 i := fun i h1 h2 h3 h4 h5 => by rw [oc 0 (by decide)]; exact qs i h1 h2 h3 h4 h5
    have w1f : ∀ f, f ≠ 0 → f ≠ 47 → f ≠ 48 → f ≠ 49 → f ≠ 50 → w1 f = σ 4 f := fun f h0 h1 h2 h3 h5 => (oc f h5).trans (qf f h0 h1 h2 h3)
    have h46 : w1 0 46 = nI K := by rw [oc 0 (by decide)]; exact RK.2.1
    have w130 : w1 0 30 = 0 := by rw [oc 0 (by decide)]; exact q30
    have am : AM w1 (σ 4) := ⟨fun i hi => w1s i (by omega) (by omega) (by omega) (by omega) (by omega), w1s 34 (by decide) (by decide) (by decide) (by decide) (by decide), fun f i _ hf => by rw [w1f f (by omega) (by omega) (by omega) (by omega) (by omega)], fun f i _ hf => by rw [w1f f (by omega) (by omega) (by omega) (by omega) (by omega)], fun f i _ hf => by rw [w1f f (by omega) (by omega) (by omega) (by omega) (by omega)], fun i _ => by rw [w1f 19 (by decide) (by decide) (by decide) (by decide) (by decide)]⟩
    have S1 : SIM n nw nr (200 * j) (1598400 * j) (σ 1) w1 := S.am am
    have rv1 : RV (σ 4 29) e K w1 := by unfold RV; rw [oc 47 (by decide), oc 48 (by decide), oc 49 (by decide)]; exact xrv
    -- the class before its second pass
    have y0 : ∀ f, f ≠ 0 → setG τ' 0 (up (τ' 0) 1 2 0) f = τ' f := fun f hf => setG_ne hf
    have y00 : setG τ' 0 (up (τ' 0) 1 2 0) 0 = up (τ' 0) 1 2 0 := setG_same
    generalize setG τ' 0 (up (τ' 0) 1 2 0) = τ1 at *
    have C1 : CX (σ 4 29) e (τ1 0) (pos (hb (σ 4 29) e) 0) := ⟨fun i hi => by rw [y00, up_ne (by decide), τ'0 2 (by decide)]; exact (t3 i hi).symm, by rw [y00, up0, if_neg (by decide)]; exact p10, he, Nat.zero_le _, by rw [y00, up0, if_pos rfl]; rfl⟩
    have y2 : τ1 2 = g_X3_become (σ 2) (σ 1) := (y0 2 (by decide)).trans τ'2
    obtain ⟨τ2', u', ku, u10, out⟩ := pass2 (n := n) (nw := nw) (nr := nr) (B := 200 * j) (M := 1598400 * j) (w1 := w1) (τ0 := τ1) (y1 := v' 0 0) (y2 := v' 0 8) (y3 := v' 0 15) (y4 := v' 0 20) hK rv1 h46 ((w1s 34 (by decide) (by decide) (by decide) (by decide) (by decide)).trans c2) K 0 τ1 w1 (by omega) C1 ⟨fun _ _ _ => rfl, fun _ _ => rfl⟩ ⟨n, nw, nr, Nat.le_refl _, Nat.le_refl _, Nat.le_refl _, by rw [y2]; exact S1.ag A⟩ rfl OLD.rf
    have fo : ∀ f, f ≠ 0 → f ≠ 2 → τ2' f = σ f := fun f h0 h2 => (ku.1 f h0 h2).trans ((y0 f h0).trans (τ'o f h0 h2))
    have f0 : ∀ f, f ≠ 1 → τ2' 0 f = σ 0 f := fun f hf => by rw [ku.2 f hf, y00, up_ne hf]; exact τ'0 f hf
    rw [e130 w1 h46, e50 τ1]
    rcases out with ⟨r6, r7, ⟨m1, m2, m3, S2⟩, c19, o⟩ | ⟨p, hp, r6, r7, R2⟩
    · rw [r6, r7]
      simp only [if_true, if_neg (show ¬ (nI K : Int32) < 0 from nI_pos (by omega))]
      have o5 := o.2.2.2.2.1
      have o6 := o.2.2.2.2.2
      refine OK.coast h ?_ ?_ ?_ (fun f hf => ?_) ?_ ?_ ?_ ?_ ?_ ?_ ?_ ?_
      · rw [setG_ne (by decide), setG_ne (by decide)]; exact fo 4 (by decide) (by decide)
      · rw [o6 46 (by decide), h46]
      · rw [setG_ne (by decide), setG_ne (by decide)]; exact fo 3 (by decide) (by decide)
      · rw [setG_ne (by decide), setG_same, up_ne hf]; exact f0 f hf
      · rw [setG_ne (by decide), setG_same, up0, if_pos rfl]
      · rw [setG_same, setG_ne (by decide), setG_ne (by decide)]
        have A2 := become_AG (τ2' 1) (τ2' 2)
        refine ⟨m1, m2, m3, S2.ag A2, ?_, ?_⟩
        · rw [A2.2.1 0 (by decide), c19, y2, A.2.1 0 (by decide), o6 24 (by decide), w1s 24 (by decide) (by decide) (by decide) (by decide) (by decide)]; exact c1
        · rw [o6 34 (by decide), w1s 34 (by decide) (by decide) (by decide) (by decide) (by decide)]; exact c2
      · rw [o6 30 (by decide)]; exact w130
      · rw [o5 31 (by decide)]; exact w1f 31 (by decide) (by decide) (by decide) (by decide) (by decide)
      · rw [o5 33 (by decide)]; exact w1f 33 (by decide) (by decide) (by decide) (by decide) (by decide)
      · rw [o5 52 (by decide)]; exact w1f 52 (by decide) (by decide) (by decide) (by decide) (by decide)
      · rw [o6 32 (by decide)]; exact w1s 32 (by decide) (by decide) (by decide) (by decide) (by decide)
      · rw [o6 51 (by decide)]; exact w1s 51 (by decide) (by decide) (by decide) (by decide) (by decide)
    · rw [r6, r7]
      simp only [if_neg (show ¬ (82 : Nat) = 89 by decide), if_neg (show ¬ (210 : Nat) = 217 by decide), if_pos (neg_p p hp).2, if_true]
      obtain ⟨o, e0, e8, e15, e20, e19⟩ := R2
      have o5 := o.2.2.2.2.1
      have o6 := o.2.2.2.2.2
      have hv : ∀ i, v' 0 i = w1 0 i := fun i => by rw [oc 0 (by decide)]
      have S2 : SIM n nw nr (200 * j) (1598400 * j) (σ 1) u' := S1.am3 o (e0.trans (hv 0)) (e8.trans (hv 8)) (e15.trans (hv 15)) (e20.trans (hv 20)) (fun i hi => by rw [e19 i hi, o50 i hi, oc 19 (by decide)])
      refine OK.coast h ?_ rfl ?_ (fun f hf => ?_) ?_ ?_ ?_ ?_ ?_ ?_ ?_ ?_
      · rw [setG_ne (by decide)]; exact fo 4 (by decide) (by decide)
      · rw [setG_ne (by decide)]; exact fo 3 (by decide) (by decide)
      · rw [setG_same, up_ne hf]; exact f0 f hf
      · rw [setG_same, up0, if_pos rfl]
      · rw [setG_ne (by decide), fo 1 (by decide) (by decide)]
        refine ⟨n, nw, nr, S2, ?_, ?_⟩
        · rw [o6 24 (by decide), w1s 24 (by decide) (by decide) (by decide) (by decide) (by decide)]; exact c1
        · rw [o6 34 (by decide), w1s 34 (by decide) (by decide) (by decide) (by decide) (by decide)]; exact c2
      · rw [o6 30 (by decide)]; exact w130
      · rw [o5 31 (by decide)]; exact w1f 31 (by decide) (by decide) (by decide) (by decide) (by decide)
      · rw [o5 33 (by decide)]; exact w1f 33 (by decide) (by decide) (by decide) (by decide) (by decide)
      · rw [o5 52 (by decide)]; exact w1f 52 (by decide) (by decide) (by decide) (by decide) (by decide)
      · rw [o6 32 (by decide)]; exact w1s 32 (by decide) (by decide) (by decide) (by decide) (by decide)
      · rw [o6 51 (by decide)]; exact w1s 51 (by decide) (by decide) (by decide) (by decide) (by decide)
  · obtain ⟨qf, qs, q30⟩ := q9 v' pq
    rw [l7 _ p3]
    simp only [if_neg p45, if_neg (show ¬ (22 : Nat) = 43 by decide), if_pos (neg_p p hp).1, if_true]
    refine OK.coast h ?_ ?_ ?_ (fun f hf => ?_) ?_ ?_ q30 ?_ ?_ ?_ ?_ ?_
    · rw [setG_ne (by decide)]; exact τ'o 4 (by decide) (by decide)
    · rw [p43]
    · rw [setG_ne (by decide)]; exact τ'o 3 (by decide) (by decide)
    · rw [setG_same, up_ne hf]; exact τ'0 f hf
    · rw [setG_same, up0, if_pos rfl]
    · rw [setG_ne (by decide), τ'o 1 (by decide) (by decide)]
      refine ⟨n, nw, nr, S.am ⟨fun i hi => qs i (by omega) (by omega) (by omega) (by omega) (by omega), qs 34 (by decide) (by decide) (by decide) (by decide) (by decide), fun f i _ hf => by rw [qf f (by omega) (by omega) (by omega) (by omega)], fun f i _ hf => by rw [qf f (by omega) (by omega) (by omega) (by omega)], fun f i _ hf => by rw [qf f (by omega) (by omega) (by omega) (by omega)], fun i _ => by rw [qf 19 (by decide) (by decide) (by decide) (by decide)]⟩, ?_, ?_⟩
      · rw [qs 24 (by decide) (by decide) (by decide) (by decide) (by decide)]; exact c1
      · rw [qs 34 (by decide) (by decide) (by decide) (by decide) (by decide)]; exact c2
    · exact qf 31 (by decide) (by decide) (by decide) (by decide)
    · exact qf 33 (by decide) (by decide) (by decide) (by decide)
    · exact qf 52 (by decide) (by decide) (by decide) (by decide)
    · exact qs 32 (by decide) (by decide) (by decide) (by decide) (by decide)
    · exact qs 51 (by decide) (by decide) (by decide) (by decide) (by decide)
