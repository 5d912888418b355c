theorem ok_bestPlan {j : Nat} {σ : St} (h : IV j σ) (hj : j < 512) (x : Int32) : OK j σ (f_X6_bestPlan σ x) (g_X6_bestPlan σ x) (f_X7_bestPlan (σ 4) x) (g_X7_bestPlan (σ 4) x) := by
  obtain ⟨n, nw, nr, S, c1, c2⟩ := h.1
  obtain ⟨j1, j2, j3⟩ := j30 hj
  unfold f_X6_bestPlan g_X6_bestPlan f_X7_bestPlan g_X7_bestPlan
  dsimp only
  rw [why_eq S.1.2.1.1 S.2.1.1.1]
  rcases why_cases (σ 4) x with ⟨hr, h0⟩ | ⟨h0, ⟨N, hN1, hN2, rfl⟩, hz⟩
  · simp only [if_neg h0]; exact OK.ref h hr
  · simp only [if_pos h0]
    have hn1 := n1 S.2.1.1.1 hz
    generalize f_X7_wrongTides (σ 4) (nI N) = y6
    have k := itn_2 (f := b_X6_bestPlan_27 (nI N) y6) (g := b_X7_bestPlan_31 (nI N) (σ 4 0 26)) (N := 5)
      (fun k (a : Int64 × Int32 × St) (b : Int32 × Int64 × Gr) => BS a.1 a.2.1 b.1 b.2.1 ∧ (1 ≤ k → BT a.1 a.2.1 b.1 b.2.1) ∧ (∀ f, f ≠ 2 → a.2.2 f = σ f) ∧ Sv (σ 4) (up b.2.2 0 26 (σ 4 0 26)))
      (fun k a b hk q => by
        obtain ⟨q1, q2, q3, q4⟩ := q
        have S2 := ((S.ag (become_AG (a.2.2 2) (σ 1)))).d26 (x := nI k) ⟨k, Nat.zero_le _, by omega, rfl⟩
        have r := bcand (m := k) q4 q3 S2 (by rw [t0 0 (by decide), s0 24 (by decide)]; exact c1.trans ((become_AG (a.2.2 2) (σ 1)).2.1 0 (by decide)).symm) hn1 j1 j2 hN2 (by omega) q1 (b_X6_bestPlan_27 (nI N) y6 k a) (b_X7_bestPlan_31 (nI N) (σ 4 0 26) k b)
          (by unfold b_X6_bestPlan_27; dsimp only; simp only [setG_same, setG_setG]; rw [q3 1 (by decide)]) (by unfold b_X7_bestPlan_31; rfl)
        exact ⟨Or.inr r.1, fun _ => r.1, r.2.1, r.2.2⟩)
      5 (4000000000000000000, (-9), σ) ((-1), 0, σ 4) (Nat.le_refl _) ⟨Or.inl ⟨rfl, rfl⟩, fun q => absurd q (by decide), fun _ _ => rfl, by rw [up_self]; exact Sv.rf⟩
    unfold l_X6_bestPlan_27 l_X7_bestPlan_31
    rw [nn_eq]
    obtain ⟨_, q2, q3, q4⟩ := k
    obtain ⟨c, C, _, e6, e7, _⟩ := q2 (by decide)
    exact OK.mind h (e6.trans e7.symm) (q3 0 (by decide)) (q3 1 (by decide)) (q3 3 (by decide)) (q3 4 (by decide)) q4
theorem ok_bestDrop {j : Nat} {σ : St} (h : IV j σ) (hj : j < 512) (x : Int32) : OK j σ (f_X6_bestDrop σ x) (g_X6_bestDrop σ x) (f_X7_bestDrop (σ 4) x) (g_X7_bestDrop (σ 4) x) := by
  obtain ⟨n, nw, nr, S, c1, c2⟩ := h.1
  obtain ⟨j1, j2, j3⟩ := j30 hj
  unfold f_X6_bestDrop g_X6_bestDrop f_X7_bestDrop g_X7_bestDrop
  dsimp only
  rw [why_eq S.1.2.1.1 S.2.1.1.1]
  rcases why_cases (σ 4) x with ⟨hr, h0⟩ | ⟨h0, ⟨N, hN1, hN2, rfl⟩, hz⟩
  · simp only [if_neg h0]; exact OK.ref h hr
  · simp only [if_pos h0]
    have hn1 := n1 S.2.1.1.1 hz
    have hn := S.1.1.1
    generalize f_X7_wrongTides (σ 4) (nI N) = y6
    have k := itn_2 (f := b_X6_bestDrop_27 (nI N) y6) (g := b_X7_bestDrop_31 (nI N) (σ 4 0 25)) (N := 9)
      (fun k (a : Int64 × Int32 × St) (b : Int32 × Int64 × Gr) => BS a.1 a.2.1 b.1 b.2.1 ∧ (1 ≤ k → BT a.1 a.2.1 b.1 b.2.1) ∧ (∀ f, f ≠ 2 → a.2.2 f = σ f) ∧ Sv (σ 4) (up b.2.2 0 25 (σ 4 0 25)))
      (fun k a b hk q => by
        obtain ⟨q1, q2, q3, q4⟩ := q
        have cand : (nI k = 8 ∨ ∃ c, c < n ∧ nI k = nI c) → (b_X6_bestDrop_27 (nI N) y6 k a = if 0 ≤ lg_cmp (f_X3_runCosts (up (g_X3_become (a.2.2 2) (σ 1)) 19 1 (nI k)) (nI N) a.1) a.1 then (a.1, a.2.1, setG a.2.2 2 (g_X3_runCosts (up (g_X3_become (a.2.2 2) (σ 1)) 19 1 (nI k)) (nI N) a.1)) else (f_X3_runCosts (up (g_X3_become (a.2.2 2) (σ 1)) 19 1 (nI k)) (nI N) a.1, nI k, setG a.2.2 2 (g_X3_runCosts (up (g_X3_become (a.2.2 2) (σ 1)) 19 1 (nI k)) (nI N) a.1)))
            → (b_X7_bestDrop_31 (nI N) (σ 4 0 25) k b = if b.1 < 0 then (nI k, f_X7_costOf (up b.2.2 0 25 (nI k)) (nI N), g_X7_costOf (up b.2.2 0 25 (nI k)) (nI N)) else if 0 ≤ lg_cmp (f_X7_costOf (up b.2.2 0 25 (nI k)) (nI N)) b.2.1 then (b.1, b.2.1, g_X7_costOf (up b.2.2 0 25 (nI k)) (nI N)) else (nI k, f_X7_costOf (up b.2.2 0 25 (nI k)) (nI N), g_X7_costOf (up b.2.2 0 25 (nI k)) (nI N)))
            → BS (b_X6_bestDrop_27 (nI N) y6 k a).1 (b_X6_bestDrop_27 (nI N) y6 k a).2.1 (b_X7_bestDrop_31 (nI N) (σ 4 0 25) k b).1 (b_X7_bestDrop_31 (nI N) (σ 4 0 25) k b).2.1 ∧ (1 ≤ k + 1 → BT (b_X6_bestDrop_27 (nI N) y6 k a).1 (b_X6_bestDrop_27 (nI N) y6 k a).2.1 (b_X7_bestDrop_31 (nI N) (σ 4 0 25) k b).1 (b_X7_bestDrop_31 (nI N) (σ 4 0 25) k b).2.1) ∧ (∀ f, f ≠ 2 → (b_X6_bestDrop_27 (nI N) y6 k a).2.2 f = σ f) ∧ Sv (σ 4) (up (b_X7_bestDrop_31 (nI N) (σ 4 0 25) k b).2.2 0 25 (σ 4 0 25)) := fun hx d6 d7 => by
          have S2 := ((S.ag (become_AG (a.2.2 2) (σ 1)))).d25 hx
          have r := bcand (m := k) q4 q3 S2 (by rw [t0 0 (by decide), s0 24 (by decide)]; exact c1.trans ((become_AG (a.2.2 2) (σ 1)).2.1 0 (by decide)).symm) hn1 j1 j2 hN2 (by omega) q1 _ _ d6 d7
          exact ⟨Or.inr r.1, fun _ => r.1, r.2.1, r.2.2⟩
        by_cases e8 : nI k = 8
        · refine cand (Or.inl e8) ?_ ?_
          · unfold b_X6_bestDrop_27; dsimp only; simp only [if_pos e8, setG_same, setG_setG]; rw [q3 1 (by decide)]
          · unfold b_X7_bestDrop_31; rw [if_pos e8]
        · have hh : f_X7_isCell b.2.2 (nI k) = f_X0_has (σ 1) (nI k) := cell_eq hn S.1.2.1.1 (by have := q4.sl 0 (by decide); rw [s0 0 (by decide)] at this; exact this.trans S.2.1.1.1) _
          by_cases e9 : f_X0_has (σ 1) (nI k) = 0
          · have d6 : b_X6_bestDrop_27 (nI N) y6 k a = a := by unfold b_X6_bestDrop_27; rw [if_neg e8, q3 1 (by decide), if_pos e9]
            have d7 : b_X7_bestDrop_31 (nI N) (σ 4 0 25) k b = b := by unfold b_X7_bestDrop_31; rw [if_neg e8, hh, if_pos e9]
            rw [d6, d7]
            refine ⟨q1, fun _ => q2 ?_, q3, q4⟩
            rcases Nat.eq_zero_or_pos k with rfl | hp
            · exact absurd (hasc hn S.1.2.1.1 (c := 0) (by omega)) (by rw [e9]; decide)
            · exact hp
          · refine cand (Or.inr ((has_iff hn S.1.2.1.1).mp e9)) ?_ ?_
            · unfold b_X6_bestDrop_27; dsimp only; simp only [if_neg e8, setG_same, setG_setG]; rw [q3 1 (by decide), if_neg e9]
            · unfold b_X7_bestDrop_31; rw [if_neg e8, hh, if_neg e9])
      9 (4000000000000000000, (-9), σ) ((-1), 0, σ 4) (Nat.le_refl _) ⟨Or.inl ⟨rfl, rfl⟩, fun q => absurd q (by decide), fun _ _ => rfl, by rw [up_self]; exact Sv.rf⟩
    unfold l_X6_bestDrop_27 l_X7_bestDrop_31
    rw [nn_eq]
    obtain ⟨_, q2, q3, q4⟩ := k
    obtain ⟨c, C, _, e6, e7, _⟩ := q2 (by decide)
    exact OK.mind h (e6.trans e7.symm) (q3 0 (by decide)) (q3 1 (by decide)) (q3 3 (by decide)) (q3 4 (by decide)) q4
/-! the wall -/
theorem Sv.back14 {w u w' : Gr} {i : Nat} {x y : Int32} (a : Sv w u) (e : u 14 i = x) (k : Sv (up u 14 i y) w') : Sv w (up w' 14 i x) := by
  refine a.trans ⟨fun f h0 h6 h7 h35 h38 h39 => ?_, fun q hq => ?_, fun q h36 h37 h40 h41 h42 => ?_⟩
  · have t := k.1 f h0 h6 h7 h35 h38 h39
    by_cases e14 : f = 14
    · subst e14
      funext q
      rw [up0, t, up0]
      by_cases eq : q = i
      · rw [if_pos eq, eq, e]
      · rw [if_neg eq, if_neg eq]
    · rw [up_ne e14, t, up_ne e14]
  · exact k.2.1 q hq
  · exact k.2.2 q h36 h37 h40 h41 h42
theorem ok_wall {j : Nat} {σ : St} (h : IV j σ) (hj : j < 512) (x : Int32) : OK j σ (f_X6_wall σ x) (g_X6_wall σ x) (f_X7_wall (σ 4) x) (g_X7_wall (σ 4) x) := by
  obtain ⟨n, nw, nr, S, c1, c2⟩ := h.1
  obtain ⟨j1, j2, j3⟩ := j30 hj
  unfold f_X6_wall g_X6_wall f_X7_wall g_X7_wall
  dsimp only
  rw [why_eq S.1.2.1.1 S.2.1.1.1]
  rcases why_cases (σ 4) x with ⟨hr, h0⟩ | ⟨h0, ⟨N, hN1, hN2, rfl⟩, hz⟩
  · simp only [if_neg h0]; exact OK.ref h hr
  · simp only [if_pos h0]
    have hn1 := n1 S.2.1.1.1 hz
    have hw := S.1.1.2.1
    generalize f_X7_wrongTides (σ 4) (nI N) = y6
    obtain ⟨C0, hC0, f1, f2⟩ := costs (S.ag (become_AG (σ 2) (σ 1))) (c1.trans ((become_AG (σ 2) (σ 1)).2.1 0 (by decide)).symm) hn1 j1 j2 hN2
    obtain ⟨D0, f3, hD0, hDC0⟩ := f2 4000000000000000000 (by decide)
    have ed : D0 = C0 := by omega
    rw [ed] at f3
    have ks := costOf_Sv (σ 4) (nI N)
    simp only [setG_same, setG_setG]
    rw [e18, f3, f1]
    generalize g_X3_runCosts (g_X3_become (σ 2) (σ 1)) (nI N) (lN 4000000000000000000) = v1
    generalize g_X7_costOf (σ 4) (nI N) = w1 at *
    have k := itn_2 (f := b_X6_wall_46 (nI N) y6) (g := b_X7_wall_31 (nI N)) (N := nw)
      (fun k (a : Int64 × Int32 × St) (b : Int64 × Int32 × Gr) => (∃ C, C ≤ 35861400 ∧ a.1 = lN C ∧ b.1 = lN C) ∧ a.2.1 = b.2.1 ∧ (∀ f, f ≠ 2 → a.2.2 f = σ f) ∧ Sv (σ 4) b.2.2)
      (fun k a b hk q => by
        obtain ⟨⟨C1, hC1, g1, g2⟩, q2, q3, q4⟩ := q
        have S1 := S.sv q4
        have hs : b.2.2 14 k = f_X5_isShut (σ 1) (nI k) := (S1.2.1.2.2.1 k hk).2.2.2.2.2
        unfold b_X6_wall_46 b_X7_wall_31
        simp only [setG_same, setG_setG]
        rw [q3 1 (by decide), nI_clamp (by omega), hs, g1, g2]
        by_cases e : f_X5_isShut (σ 1) (nI k) = 0
        · rw [if_pos e, if_pos e]
          have A := become_AG (a.2.2 2) (σ 1)
          have S2 := (S1.ag A).turn hk
          rw [A.shut, if_pos e] at S2
          have hcap : up b.2.2 14 k 1 0 24 = g_X5_turn (g_X3_become (a.2.2 2) (σ 1)) (nI k) 19 0 := by
            have t : g_X5_turn (g_X3_become (a.2.2 2) (σ 1)) (nI k) 19 0 = g_X3_become (a.2.2 2) (σ 1) 19 0 := by
              generalize g_X3_become (a.2.2 2) (σ 1) = z
              unfold g_X5_turn; rfl
            rw [t, A.2.1 0 (by decide), up_ne (by decide), q4.sl 24 (by decide)]; exact c1
          obtain ⟨C, hC, e1, e2, e3⟩ := cmps S2 hcap hn1 j1 j2 hN2 (E := C1) (by omega)
          have e4 : 0 ≤ lg_cmp (f_X7_costOf (up b.2.2 14 k 1) (nI N)) (lN C1) ↔ C1 ≤ C := by rw [e1, lg_cmp_ge, pk_lLE (by omega) (by omega)]
          have kk : Sv (σ 4) (up (g_X7_costOf (up b.2.2 14 k 1) (nI N)) 14 k 0) := q4.back14 (hs.trans e) (costOf_Sv _ _)
          have kf : ∀ g, ∀ f, f ≠ 2 → setG a.2.2 2 g f = σ f := fun g f hf => by rw [setG_ne hf]; exact q3 f hf
          by_cases l : C1 ≤ C
          · rw [if_pos (e2.mpr l), if_pos (e4.mpr l)]
            exact ⟨⟨C1, hC1, rfl, rfl⟩, q2, kf _, kk⟩
          · rw [if_neg (fun z => l (e2.mp z)), if_neg (fun z => l (e4.mp z))]
            exact ⟨⟨C, hC, e3 l, e1⟩, rfl, kf _, kk⟩
        · rw [if_neg e, if_neg e]
          exact ⟨⟨C1, hC1, rfl, rfl⟩, q2, q3, q4⟩)
      nw (lN C0, (-9), setG σ 2 v1) (lN C0, (-9), w1) (Nat.le_refl _) ⟨⟨C0, hC0, rfl, rfl⟩, rfl, fun f hf => setG_ne hf, ks⟩
    unfold l_X6_wall_46 l_X7_wall_31
    have hb6 : (setG σ 2 v1 1 9 0).toNatClampNeg = nw := by rw [setG_ne (by decide), S.1.2.1.2.1, nI_clamp (by omega)]
    have hb7 : (w1 0 8).toNatClampNeg = nw := by rw [ks.sl 8 (by decide), S.2.1.1.2.1, nI_clamp (by omega)]
    obtain ⟨_, q2, q3, q4⟩ := k
    dsimp only
    rw [hb6, hb7]
    exact OK.mind h q2 (q3 0 (by decide)) (q3 1 (by decide)) (q3 3 (by decide)) (q3 4 (by decide)) q4
