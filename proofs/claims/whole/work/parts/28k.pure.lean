/-! the share of a river -/
theorem SIM.dry {n nw nr B M r : Nat} {v u : Gr} (S : SIM n nw nr B M v u) (h34 : u 0 34 = -1) (hr : r < nr) : SIM n nw nr B M (up v 18 r 0) (up u 0 34 (nI r)) := by
  obtain ⟨I, R, T, N, Z, hb⟩ := S
  obtain ⟨⟨hn, hw, hnr⟩, hx, C, W, P, V, D, m, SB⟩ := I
  obtain ⟨⟨q1, q2, q3⟩, c2, c3, c4, ⟨c5a, c5b, c5c, c5d⟩, c6, c7⟩ := R
  refine ⟨⟨⟨hn, hw, hnr⟩, hx, C, W, P, fun i hi => ?_, D, m, SB⟩, ⟨⟨(s0 0 (by decide)).trans q1, (s0 8 (by decide)).trans q2, (s0 15 (by decide)).trans q3⟩, c2, c3, fun i hi => ?_, ⟨(s0 25 (by decide)).trans c5a, (s0 26 (by decide)).trans c5b, (s0 27 (by decide)).trans c5c, (s0 28 (by decide)).trans c5d⟩, (s0 20 (by decide)).trans c6, c7⟩, T, ⟨(s0 21 (by decide)).trans N.1, (s0 22 (by decide)).trans N.2.1, (s0 23 (by decide)).trans N.2.2⟩, Z, hb⟩
  · have := V i hi
    rw [up_ne (show (16 : Nat) ≠ 18 by decide), up_ne (show (17 : Nat) ≠ 18 by decide), up0]
    by_cases e : i = r
    · rw [if_pos e]; exact ⟨this.1, this.2.1, 0, by decide, by decide, rfl⟩
    · rw [if_neg e]; exact this
  · obtain ⟨a1, a2, a3⟩ := c4 i hi
    refine ⟨a1, a2, ?_⟩
    rw [up_ne (show (18 : Nat) ≠ 0 by decide), s1, up0]
    rw [h34, if_neg (show ¬ nI i = -1 from fun q => by have := nI_pos (n := i) (by omega); rw [q] at this; exact this (by decide))] at a3
    by_cases e : i = r
    · rw [if_pos (by rw [e]), if_pos e]
    · rw [if_neg (fun q => e (nIinj (by omega) (by omega) q)), if_neg e]; exact a3
theorem settled_sum {n nw nr : Nat} {v u : Gr} (I : IC n nw nr v) (R : RC n nw nr v u) (T : TR n v u) (y1 y2 : Int32) : l_X7_settledAfter_36 u y1 y2 0 = f_X0_settledInAll v := by
  have hn := I.1.1
  have hb : (v 1 0).toNatClampNeg = n := by rw [I.2.1.1, nI_clamp (by omega)]
  have hb' : (u 0 0).toNatClampNeg = n := by rw [R.1.1, nI_clamp (by omega)]
  have k := itn_2 (f := b_X7_settledAfter_36 u y1 y2) (g := b_X0_settledInAll_4 v) (N := n) (fun _ a b => a = b) (fun k a b hk e => by
    subst e
    unfold b_X7_settledAfter_36 b_X0_settledInAll_4
    dsimp only
    rw [sett_eq hn T hk]) n 0 0 (Nat.le_refl _) rfl
  unfold l_X7_settledAfter_36 f_X0_settledInAll l_X0_settledInAll_4
  rw [hb, hb']; exact k
theorem settled_sim {n nw nr B M N : Nat} {v u : Gr} {x2 : Int32} (S : SIM n nw nr B M v (up (g_X7_save u) 0 34 x2)) (hcap : up (g_X7_save u) 0 34 x2 0 24 = v 19 0) (h1 : 1 ≤ n) (hB : B + 200 < 2 ^ 30) (hM : M + 1598400 < 2 ^ 30) (hN : N ≤ 200) : f_X7_settledAfter u (nI N) x2 = f_X0_settledInAll (VP (-1) N v) := by
  obtain ⟨⟨I, R, T, _⟩, _, _⟩ := run_plan S hcap h1 hB hM N hN
  have e7 : l_X7_settledAfter_11 (nI N) x2 (up (g_X7_save u) 0 34 x2) = UP N (up (g_X7_save u) 0 34 x2) := by unfold l_X7_settledAfter_11; rw [nI_clamp (by omega)]; rfl
  unfold f_X7_settledAfter
  dsimp only
  rw [e7]
  generalize UP N (up (g_X7_save u) 0 34 x2) = z at *
  have R' : (up z 0 34 (-1)) 0 0 = nI n := (s0 0 (by decide)).trans R.1.1
  have hb' : (up z 0 34 (-1) 0 0).toNatClampNeg = (z 0 0).toNatClampNeg := by rw [R', R.1.1]
  have e : l_X7_settledAfter_36 (up z 0 34 (-1)) (nI N) x2 0 = l_X7_settledAfter_36 z (nI N) x2 0 := by
    unfold l_X7_settledAfter_36
    rw [hb']
    rfl
  rw [e]
  exact settled_sum I R T _ _
theorem ok_share {j : Nat} {σ : St} (h : IV j σ) (hj : j < 512) (x1 x2 : Int32) : OK j σ (f_X6_share σ x1 x2) (g_X6_share σ x1 x2) (f_X7_share (σ 4) x1 x2) (g_X7_share (σ 4) x1 x2) := by
  obtain ⟨n, nw, nr, S, c1, c2⟩ := h.1
  have I := S.1
  have R := S.2.1
  have hnr := I.1.2.2
  obtain ⟨j1, j2, j3⟩ := j30 hj
  unfold f_X6_share g_X6_share f_X7_share g_X7_share
  dsimp only
  rw [river_eq hnr I.2.1.2.2 R.1.2.2]
  by_cases h1 : f_X4_has (σ 1) x1 = 0
  · simp only [if_pos h1]; exact (OK.ref h r1).map (fun z => -1000000000 + z)
  · simp only [if_neg h1]
    by_cases h5 : 1 ≤ x2
    · simp only [if_pos h5]
      by_cases h7 : x2 ≤ 200
      · simp only [if_pos h7]
        obtain ⟨r, hr, rfl⟩ := (hasV_iff hnr I.2.1.2.2).mp h1
        obtain ⟨N, hN1, hN2, rfl⟩ := rg_of (a := 1) rfl (hi := 200) (b := 200) rfl (by decide) (by decide) h5 (Int32.not_lt.mpr h7)
        have hn1 : 1 ≤ n := by
          obtain ⟨⟨c, hc, _⟩, _⟩ := I.2.2.2.2.2.1 r hr
          omega
        have kv := settledAfter_Sv c2 (nI N) (-1)
        have S1 := (S.ag (become_AG (σ 2) (σ 1))).am (save_AM (σ 4))
        have d1 : up (g_X7_save (σ 4)) 0 34 (-1) = g_X7_save (σ 4) := by
          have : g_X7_save (σ 4) 0 34 = -1 := (save_s (σ 4) 34 (by decide)).trans c2
          conv => rhs; rw [← up_self (g_X7_save (σ 4)) 0 34, this]
        have k1 := settled_sim (u := σ 4) (x2 := -1) (N := N) (v := g_X3_become (σ 2) (σ 1)) (by rw [d1]; exact S1) (by rw [d1]; exact (save_s (σ 4) 24 (by decide)).trans c1) hn1 j1 j2 hN2
        generalize g_X7_settledAfter (σ 4) (nI N) (-1) = w1 at *
        have c2' : w1 0 34 = -1 := (kv.sl 34 (by decide)).trans c2
        have c1' : w1 0 24 = σ 1 19 0 := (kv.sl 24 (by decide)).trans c1
        rw [k1]
        simp only [setG_same, setG_setG, setG_ne (show (1 : Nat) ≠ 2 by decide), goOn_VP _ _ hN2]
        generalize VP (-1) N (g_X3_become (σ 2) (σ 1)) = v1
        have S2 := (((S.am kv.am).ag (become_AG v1 (σ 1))).am (save_AM w1)).dry ((save_s w1 34 (by decide)).trans c2') hr
        have k2 := settled_sim (u := w1) (x2 := nI r) (N := N) S2 ((s0 24 (by decide)).trans ((save_s w1 24 (by decide)).trans c1')) hn1 j1 j2 hN2
        rw [k2, nI_clamp (by omega)]
        refine OK.mind h rfl ?_ ?_ ?_ ?_ (kv.trans (settledAfter_Sv c2' _ _))
        · rw [setG_ne (by decide)]
        · rw [setG_ne (by decide)]
        · rw [setG_ne (by decide)]
        · rw [setG_ne (by decide)]
      · simp only [if_neg h7]; exact (OK.ref h r6).map (fun z => -1000000000 + z)
    · simp only [if_neg h5]; exact (OK.ref h r4).map (fun z => -1000000000 + z)
