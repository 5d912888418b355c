theorem rk8 : ∀ f, f < 20 → ∀ i, i < 8 → ((1 ≤ f ∧ f ≤ 5) ∨ (16 ≤ f ∧ f ≤ 18) → rk f i < 280) := by decide +kernel
theorem rk16 : ∀ f, f < 20 → ∀ i, i < 16 → (6 ≤ f ∧ f ≤ 7 → rk f i < 280) := by decide +kernel
theorem rk24 : ∀ f, f < 20 → ∀ i, i < 24 → (9 ≤ f ∧ f ≤ 14 → rk f i < 280) := by decide +kernel
theorem rk28 : ∀ i, i < 28 → rk 19 i < 280 := by decide +kernel
theorem SIM.am2 {n nw nr B M : Nat} {v a b : Gr} (S : SIM n nw nr B M v b) (h : ∀ f i, rk f i < 280 → f ≠ 14 → a f i = b f i) (h34 : a 0 34 = b 0 34) (h14 : ∀ i, i < nw → a 14 i = b 14 i) : SIM n nw nr B M v a := by
  obtain ⟨I, R, T, N, Z, hb⟩ := S
  obtain ⟨hn, hw, hr⟩ := I.1
  have a3 : ∀ f i, i < 8 → (1 ≤ f ∧ f ≤ 5) ∨ (16 ≤ f ∧ f ≤ 18) → a f i = b f i := fun f i hi hf => h f i (rk8 f (by omega) i hi hf) (by omega)
  have a4 : ∀ f i, i < 16 → 6 ≤ f ∧ f ≤ 7 → a f i = b f i := fun f i hi hf => h f i (rk16 f (by omega) i hi hf) (by omega)
  have a5 : ∀ f i, i < 24 → 9 ≤ f ∧ f ≤ 13 → a f i = b f i := fun f i hi hf => h f i (rk24 f (by omega) i hi (by omega)) (by omega)
  have a1 : ∀ i, rk 0 i < 280 → a 0 i = b 0 i := fun i hi => h 0 i hi (by decide)
  refine ⟨I, ?_, fun i s hi hs => ?_, ?_, Z, hb⟩
  · obtain ⟨⟨x1, x2, x3⟩, r2, r3, r4, ⟨y1, y2, y3, y4⟩, r6, r7⟩ := R
    refine ⟨⟨(a1 0 (by decide)).trans x1, (a1 8 (by decide)).trans x2, (a1 15 (by decide)).trans x3⟩, fun i hi => ?_, fun i hi => ?_, fun i hi => ?_, ⟨(a1 25 (by decide)).trans y1, (a1 26 (by decide)).trans y2, (a1 27 (by decide)).trans y3, (a1 28 (by decide)).trans y4⟩, (a1 20 (by decide)).trans r6, fun t ht hlt => (h 19 t (rk28 t ht) (by decide)).trans (r7 t ht hlt)⟩
    · rw [a3 1 i (by omega) (by decide), a3 2 i (by omega) (by decide), a3 3 i (by omega) (by decide), a3 4 i (by omega) (by decide), a3 5 i (by omega) (by decide)]; exact r2 i hi
    · rw [a5 9 i (by omega) (by decide), a5 10 i (by omega) (by decide), a5 11 i (by omega) (by decide), a5 12 i (by omega) (by decide), a5 13 i (by omega) (by decide), h14 i hi]; exact r3 i hi
    · rw [a3 16 i (by omega) (by decide), a3 17 i (by omega) (by decide), a3 18 i (by omega) (by decide), h34]; exact r4 i hi
  · rw [a4 6 _ (by omega) (by decide), a4 7 _ (by omega) (by decide)]; exact T i s hi hs
  · unfold NR; rw [a1 21 (by decide), a1 22 (by decide), a1 23 (by decide)]; exact N
theorem TJ_in (J : Nat → Int32) (w : Gr) {f i : Nat} (h : rk f i < 280) : TJ J w 280 f i = uimg J f i := by
  rw [TJ_o J w (fun q => by rw [q.1, q.2] at h; exact absurd h (by decide)) (fun q => by rw [q] at h; have : rk 52 i = 1000 := rfl; omega), if_pos h]
theorem TJ_out (J : Nat → Int32) (w : Gr) {f i : Nat} (h : rk f i = 1000) (h53 : ¬ (f = 0 ∧ i = 53)) (h52 : f ≠ 52) : TJ J w 280 f i = w f i := by
  rw [TJ_o J w h53 h52, if_neg (by omega)]
/-- what the image holds -/
noncomputable def Jm (w : Gr) (m : Nat) : Int32 := if (ps m).1 = 14 then (if w 14 (ps m).2 = 0 then 0 else 1) else w (ps m).1 (ps m).2
theorem Jm_rk (w : Gr) {f i : Nat} (h : rk f i < 280) (hf : f ≠ 14) : Jm w (rk f i) = w f i := by
  unfold Jm; rw [ps_rk h, if_neg hf]
theorem rk14 {i : Nat} (h : i < 24) : rk 14 i = 113 + 6 * i := by
  show (if i < 24 then 113 + 6 * i else 1000) = _
  rw [if_pos h]
theorem Jm_14 (w : Gr) {i : Nat} (h : i < 24) : Jm w (113 + 6 * i) = if w 14 i = 0 then 0 else 1 := by
  rw [← rk14 h]
  unfold Jm; rw [ps_rk (by rw [rk14 h]; omega), if_pos rfl]
theorem nrm_shut {v : Gr} {x w : Int32} (h : w = f_X5_isShut v x) : (if (if w = 0 then (0 : Int32) else 1) = 1 then (1 : Int32) else 0) = w := by
  rcases shut01 v x with e | e
  · rw [h, e]; decide
  · rw [h, e]; decide
theorem ok_image {j : Nat} {σ : St} (h : IV j σ) : OK j σ (f_X6_image σ) (g_X6_image σ) (f_X7_image (σ 4)) (g_X7_image (σ 4)) := by
  obtain ⟨⟨n, nw, nr, S, c1, c2⟩, ⟨e, he, t1, t2, t3⟩, ⟨r, hr, er, er', hrow⟩, ff, ii⟩ := id h
  have hw := S.1.1.2.1
  have A := become_AG (σ 3) (σ 1)
  unfold f_X6_image g_X6_image f_X7_image g_X7_image
  dsimp only
  have k54 : up (up (σ 4) 0 51 1) 0 54 1 0 54 = 1 := s1
  have kin : ∀ f i, rk f i < 280 → up (up (σ 4) 0 51 1) 0 54 1 f i = σ 4 f i := by
    intro f i q
    by_cases h0 : f = 0
    · subst h0
      rw [s0 i (fun z => by rw [z] at q; exact absurd q (by decide)), s0 i (fun z => by rw [z] at q; exact absurd q (by decide))]
    · rw [up_ne h0, up_ne h0]
  have k0 : ∀ i, i ≠ 51 → i ≠ 54 → up (up (σ 4) 0 51 1) 0 54 1 0 i = σ 4 0 i := fun i a b => by rw [s0 i b, s0 i a]
  have kc : ∀ f, f ≠ 0 → up (up (σ 4) 0 51 1) 0 54 1 f = σ 4 f := fun f hf => by rw [up_ne hf, up_ne hf]
  have k51 : up (up (σ 4) 0 51 1) 0 54 1 0 51 = 1 := by rw [s0 51 (by decide), s1]
  generalize up (up (σ 4) 0 51 1) 0 54 1 = w at *
  have H : HJ (Jm w) w := Or.inr ⟨by rw [k54]; decide, fun f i q hf => Jm_rk w q hf, fun i hi => Jm_14 w hi⟩
  rw [carryAll_T H]
  have gin : ∀ f i, rk f i < 280 → f ≠ 14 → TJ (Jm w) w 280 f i = σ 4 f i := fun f i q hf => by
    rw [TJ_in _ _ q, uimg_rk _ q hf, Jm_rk w q hf, kin f i q]
  have g14 : ∀ i, i < nw → TJ (Jm w) w 280 14 i = σ 4 14 i := fun i hi => by
    rw [TJ_in _ _ (rk24 14 (by decide) i (by omega) (by decide))]
    show (if Jm w (113 + 6 * i) = 1 then (1 : Int32) else 0) = σ 4 14 i
    rw [Jm_14 w (by omega), kc 14 (by decide)]
    exact nrm_shut (S.2.1.2.2.1 i hi).2.2.2.2.2
  have gout : ∀ f i, rk f i = 1000 → ¬ (f = 0 ∧ i = 53) → f ≠ 52 → TJ (Jm w) w 280 f i = w f i := fun f i a b c => TJ_out _ _ a b c
  have g52 : ∀ i, i < 280 → TJ (Jm w) w 280 52 i = Jm w i := fun i hi => by rw [TJ_52, if_pos hi]
  generalize TJ (Jm w) w 280 = g at *
  have gf : ∀ f, (∀ i, rk f i = 1000) → f ≠ 0 → f ≠ 52 → g f = σ 4 f := fun f a b c => by
    funext i; rw [gout f i (a i) (fun q => b q.1) c, kc f b]
  have gs : ∀ i, rk 0 i = 1000 → i ≠ 51 → i ≠ 53 → i ≠ 54 → g 0 i = σ 4 0 i := fun i a b c d => by
    rw [gout 0 i a (fun q => c q.2) (by decide), k0 i b d]
  have iin : ∀ f i, rk f i < 280 → f ≠ 14 → uimg (g 52) f i = σ 4 f i := fun f i q hf => by
    rw [uimg_rk _ q hf, g52 _ q, Jm_rk w q hf, kin f i q]
  have S1 : SIM n nw nr (200 * j) (1598400 * j) (σ 1) g := S.am2 gin (gs 34 rfl (by decide) (by decide) (by decide)) g14
  have S3 : SIM n nw nr (200 * j) (1598400 * j) (g_X3_become (σ 3) (σ 1)) (uimg (g 52)) := by
    refine (S.ag A).am2 iin c2.symm (fun i hi => ?_)
    show (if g 52 (113 + 6 * i) = 1 then (1 : Int32) else 0) = σ 4 14 i
    rw [g52 _ (by omega), Jm_14 w (by omega), kc 14 (by decide)]
    exact nrm_shut (S.2.1.2.2.1 i hi).2.2.2.2.2
  refine OK.of ?_ ?_ ?_
  · rw [setG_ne (by decide), setG_ne (by decide)]
  · rw [setG_ne (by decide), setG_same, gin 0 0 (by decide) (by decide), S.2.1.1.1]
    exact A.1.1.trans S.1.2.1.1
  · rw [setG_same, setG_ne (show (0 : Nat) ≠ 3 by decide), setG_ne (show (1 : Nat) ≠ 0 by decide), setG_ne (show (1 : Nat) ≠ 3 by decide), setG_ne (show (3 : Nat) ≠ 0 by decide), setG_same]
    have q1 : SIMc j (σ 1) g := ⟨n, nw, nr, S1, (gin 0 24 (by decide) (by decide)).trans c1, (gs 34 rfl (by decide) (by decide) (by decide)).trans c2⟩
    have q3 : SIMc j (g_X3_become (σ 3) (σ 1)) (uimg (g 52)) := ⟨n, nw, nr, S3, ((iin 0 24 (by decide) (by decide)).trans c1).trans (A.2.1 0 (by decide)).symm, rfl⟩
    refine ⟨q1.mono (Nat.le_succ j), ⟨e, he, t1, ?_, ?_⟩, ⟨r, hr, ?_, ?_, ?_⟩, ?_, Or.inr ⟨s1, ?_, q3.mono (Nat.le_succ j)⟩⟩
    · rw [gs 30 rfl (by decide) (by decide) (by decide)]; exact t2
    · rw [gf 29 (fun _ => rfl) (by decide) (by decide)]; exact t3
    · rw [s0 6 (by decide)]; exact er
    · rw [gs 32 rfl (by decide) (by decide) (by decide)]; exact er'
    · rw [gf 31 (fun _ => rfl) (by decide) (by decide)]; exact hrow
    · unfold RF; rw [gf 33 (fun _ => rfl) (by decide) (by decide)]; exact ff
    · rw [gout 0 51 rfl (by decide) (by decide), k51]
theorem ok_restore {j : Nat} {σ : St} (h : IV j σ) : OK j σ (f_X6_restore σ) (g_X6_restore σ) (f_X7_restore (σ 4)) (g_X7_restore (σ 4)) := by
  obtain ⟨_, ⟨e, he, t1, t2, t3⟩, ⟨r, hr, er, er', hrow⟩, ff, ii⟩ := id h
  obtain ⟨_, _, _, _, _, c34⟩ := h.1
  unfold f_X6_restore g_X6_restore f_X7_restore g_X7_restore
  dsimp only
  rcases ii with ⟨a, b⟩ | ⟨a, b, c⟩
  · simp only [if_pos a, if_pos b]; exact OK.ref h r3
  · simp only [if_neg (show ¬ σ 0 0 3 = 0 by rw [a]; decide), if_neg (show ¬ σ 4 0 51 = 0 by rw [b]; decide)]
    obtain ⟨n, nw, nr, S, c1, c2⟩ := id c
    have hw := S.1.1.2.1
    have A := become_AG (σ 1) (σ 3)
    have H : HJ (σ 4 52) (up (σ 4) 0 54 0) := Or.inl ⟨s1, fun m _ => by rw [up_ne (by decide)]⟩
    rw [carryAll_T H]
    have gin : ∀ f i, rk f i < 280 → TJ (σ 4 52) (up (σ 4) 0 54 0) 280 f i = uimg (σ 4 52) f i := fun f i q => TJ_in _ _ q
    have g52 : TJ (σ 4 52) (up (σ 4) 0 54 0) 280 52 = σ 4 52 := by
      funext i
      rw [TJ_52, up_ne (by decide)]
      split <;> rfl
    have gf : ∀ f, (∀ i, rk f i = 1000) → f ≠ 0 → f ≠ 52 → TJ (σ 4 52) (up (σ 4) 0 54 0) 280 f = σ 4 f := fun f a b c => by
      funext i; rw [TJ_out _ _ (a i) (fun q => b q.1) c, up_ne b]
    have gs : ∀ i, rk 0 i = 1000 → i ≠ 53 → i ≠ 54 → TJ (σ 4 52) (up (σ 4) 0 54 0) 280 0 i = σ 4 0 i := fun i a c d => by
      rw [TJ_out _ _ a (fun q => c q.2) (by decide), s0 i d]
    generalize TJ (σ 4 52) (up (σ 4) 0 54 0) 280 = g at *
    have S1 : SIM n nw nr (200 * j) (1598400 * j) (g_X3_become (σ 1) (σ 3)) g := by
      refine (S.ag A).am2 (fun f i q _ => gin f i q) (((gs 34 rfl (by decide) (by decide)).trans c34).trans c2.symm) (fun i hi => gin 14 i (rk24 14 (by decide) i (by omega) (by decide)))
    refine OK.of (setG_ne (by decide)) ?_ ?_
    · rw [setG_same, gin 0 0 (by decide)]
      exact (A.1.1.trans S.1.2.1.1).trans S.2.1.1.1.symm
    · rw [setG_same, setG_ne (show (0 : Nat) ≠ 1 by decide), setG_ne (show (3 : Nat) ≠ 1 by decide)]
      have q1 : SIMc j (g_X3_become (σ 1) (σ 3)) g := ⟨n, nw, nr, S1, ((gin 0 24 (by decide)).trans c1).trans (A.2.1 0 (by decide)).symm, (gs 34 rfl (by decide) (by decide)).trans c34⟩
      exact IVc.sim h (Nat.le_succ j) (q1.mono (Nat.le_succ j)) ⟨gf 29 (fun _ => rfl) (by decide) (by decide), gf 31 (fun _ => rfl) (by decide) (by decide), gf 33 (fun _ => rfl) (by decide) (by decide), g52, gs 30 rfl (by decide) (by decide), gs 32 rfl (by decide) (by decide), gs 51 rfl (by decide) (by decide)⟩
