/-! runs -/
theorem why_eq {n : Nat} {σ : St} {x : Int32} (h1 : σ 1 1 0 = nI n) (h4 : σ 4 0 0 = nI n) : f_X6_whyNoRun σ x = f_X7_wrongTides (σ 4) x := by
  unfold f_X6_whyNoRun f_X7_wrongTides
  rw [h1, h4]
theorem why_cases (w : Gr) (x : Int32) : (RN (f_X7_wrongTides w x) ∧ ¬ 0 ≤ f_X7_wrongTides w x) ∨ (0 ≤ f_X7_wrongTides w x ∧ (∃ N, 1 ≤ N ∧ N ≤ 200 ∧ x = nI N) ∧ ¬ w 0 0 = 0) := by
  unfold f_X7_wrongTides
  by_cases h1 : 1 ≤ x
  · rw [if_pos h1]
    by_cases h2 : x ≤ 200
    · rw [if_pos h2]
      by_cases h3 : w 0 0 = 0
      · rw [if_pos h3]; exact Or.inl ⟨r3, by decide⟩
      · rw [if_neg h3]
        obtain ⟨m, q1, q2, e⟩ := rg_of (a := 1) rfl (hi := 200) (b := 200) rfl (by decide) (by decide) h1 (Int32.not_lt.mpr h2)
        exact Or.inr ⟨by decide, ⟨m, q1, q2, e⟩, h3⟩
    · rw [if_neg h2]; exact Or.inl ⟨r6, by decide⟩
  · rw [if_neg h1]; exact Or.inl ⟨r4, by decide⟩
theorem Sv.wk {w w' : Gr} (k : Sv w w') : WK w w' := by
  have c : ∀ f, f ≠ 0 ∧ f ≠ 6 ∧ f ≠ 7 ∧ f ≠ 35 ∧ f ≠ 38 ∧ f ≠ 39 → w' f = w f := fun f q => k.1 f q.1 q.2.1 q.2.2.1 q.2.2.2.1 q.2.2.2.2.1 q.2.2.2.2.2
  have s : ∀ j, j ≠ 36 ∧ j ≠ 37 ∧ j ≠ 40 ∧ j ≠ 41 ∧ j ≠ 42 → w' 0 j = w 0 j := fun j q => k.2.2 j q.1 q.2.1 q.2.2.1 q.2.2.2.1 q.2.2.2.2
  exact ⟨c 29 (by decide), c 31 (by decide), c 33 (by decide), c 52 (by decide), s 30 (by decide), s 32 (by decide), s 51 (by decide)⟩
theorem Sv.sl {w w' : Gr} (k : Sv w w') (j : Nat) (q : j ≠ 36 ∧ j ≠ 37 ∧ j ≠ 40 ∧ j ≠ 41 ∧ j ≠ 42) : w' 0 j = w 0 j := k.2.2 j q.1 q.2.1 q.2.2.1 q.2.2.2.1 q.2.2.2.2
theorem Tt.wk {w w' : Gr} (k : Tt w w') : WK w w' := by
  have c : ∀ f, f ≠ 0 ∧ f ≠ 6 ∧ f ≠ 7 ∧ f ≠ 35 → w' f = w f := fun f q => k.1 f q.1 q.2.1 q.2.2.1 q.2.2.2
  have s : ∀ j, j ≠ 21 ∧ j ≠ 22 ∧ j ≠ 23 ∧ j ≠ 36 ∧ j ≠ 37 → w' 0 j = w 0 j := fun j q => k.2 j q.1 (ex0_n q.2)
  exact ⟨c 29 (by decide), c 31 (by decide), c 33 (by decide), c 52 (by decide), s 30 (by decide), s 32 (by decide), s 51 (by decide)⟩
theorem SIMc.sv {j j' : Nat} {v w w' : Gr} (h : SIMc j v w) (hj : j ≤ j') (k : Sv w w') : SIMc j' v w' := by
  obtain ⟨n, nw, nr, S, c1, c2⟩ := h.mono hj
  exact ⟨n, nw, nr, S.am k.am, (k.sl 24 (by decide)).trans c1, (k.sl 34 (by decide)).trans c2⟩
/-- thoughts alone -/
theorem OK.mind {α : Type} {j : Nat} {σ g6 : St} {a b : α} {g7 : Gr} (h : IV j σ) (e : a = b) (e0 : g6 0 = σ 0) (e1 : g6 1 = σ 1) (e3 : g6 3 = σ 3) (e4 : g6 4 = σ 4) (k : Sv (σ 4) g7) : OK j σ a g6 b g7 := by
  refine OK.of e4 e ?_
  rw [e0, e1, e3]
  exact IVc.sim h (Nat.le_succ j) (h.1.sv (Nat.le_succ j) k) k.wk
theorem UP_Tt (w : Gr) : ∀ k, Tt w (UP k w)
  | 0 => Tt.rf
  | k + 1 => (UP_Tt w k).trans (passTide_Tt _)
theorem ok_go {j : Nat} {σ : St} (h : IV j σ) (hj : j < 512) (x : Int32) : OK j σ (f_X6_go σ x) (g_X6_go σ x) (f_X7_go (σ 4) x) (g_X7_go (σ 4) x) := by
  obtain ⟨n, nw, nr, S, c1, c2⟩ := h.1
  obtain ⟨j1, j2, j3⟩ := j30 hj
  unfold f_X6_go g_X6_go f_X7_go g_X7_go
  dsimp only
  rw [why_eq S.1.2.1.1 S.2.1.1.1]
  rcases why_cases (σ 4) x with ⟨hr, h0⟩ | ⟨h0, ⟨N, hN1, hN2, rfl⟩, hz⟩
  · simp only [if_neg h0]; exact OK.ref h hr
  · simp only [if_pos h0]
    have e6 : g_X3_goOn (σ 1) (nI N) (-1) = VP (-1) N (σ 1) := by unfold g_X3_goOn l_X3_goOn_2; rw [nI_clamp (by omega)]; rfl
    have e7 : l_X7_go_20 (nI N) (σ 4) = UP N (σ 4) := by unfold l_X7_go_20; rw [nI_clamp (by omega)]; rfl
    rw [e6, e7, setG_same]
    obtain ⟨S', c', _⟩ := run_plan S c1 (n1 S.2.1.1.1 hz) j1 j2 N hN2
    have hm : 7992 * N ≤ 7992 * 200 := Nat.mul_le_mul_left _ hN2
    refine OK.now h S'.2.2.2.1.1.symm ⟨n, nw, nr, S'.mono (by omega) (by omega), c', ?_⟩ (UP_Tt _ _).wk
    rw [(UP_Tt (σ 4) N).2 34 (by decide) (ex0_n (by decide))]; exact c2
theorem e18 : (4000000000000000000 : Int64) = lN 4000000000000000000 := rfl
theorem ok_cost {j : Nat} {σ : St} (h : IV j σ) (hj : j < 512) (x : Int32) : OK j σ (f_X6_cost σ x) (g_X6_cost σ x) (f_X7_cost (σ 4) x) (g_X7_cost (σ 4) x) := by
  obtain ⟨n, nw, nr, S, c1, c2⟩ := h.1
  obtain ⟨j1, j2, j3⟩ := j30 hj
  unfold f_X6_cost g_X6_cost f_X7_cost g_X7_cost
  dsimp only
  rw [why_eq S.1.2.1.1 S.2.1.1.1]
  rcases why_cases (σ 4) x with ⟨hr, h0⟩ | ⟨h0, ⟨N, hN1, hN2, rfl⟩, hz⟩
  · simp only [if_neg h0]; exact (OK.ref h hr).map (fun z => -4000000000000000000 + z.toInt64)
  · simp only [if_pos h0]
    rw [setG_same]
    have S2 := S.ag (become_AG (σ 2) (σ 1))
    obtain ⟨C, hC, e1, e2⟩ := costs S2 c1 (n1 S.2.1.1.1 hz) j1 j2 hN2
    obtain ⟨D, e3, hD, hDC⟩ := e2 4000000000000000000 (by decide)
    have : D = C := by omega
    refine OK.mind h ?_ ?_ ?_ ?_ ?_ (costOf_Sv _ _)
    · rw [e18, e3, e1, this]
    · rw [setG_ne (by decide), setG_ne (by decide)]
    · rw [setG_ne (by decide), setG_ne (by decide)]
    · rw [setG_ne (by decide), setG_ne (by decide)]
    · rw [setG_ne (by decide), setG_ne (by decide)]
theorem ok_holds {j : Nat} {σ : St} (h : IV j σ) (hj : j < 512) (x : Int32) : OK j σ (f_X6_holds σ x) (g_X6_holds σ x) (f_X7_holds (σ 4) x) (g_X7_holds (σ 4) x) := by
  obtain ⟨n, nw, nr, S, c1, c2⟩ := h.1
  obtain ⟨j1, j2, j3⟩ := j30 hj
  unfold f_X6_holds g_X6_holds f_X7_holds g_X7_holds
  dsimp only
  rw [why_eq S.1.2.1.1 S.2.1.1.1]
  rcases why_cases (σ 4) x with ⟨hr, h0⟩ | ⟨h0, ⟨N, hN1, hN2, rfl⟩, hz⟩
  · simp only [if_neg h0]; exact OK.ref h hr
  · simp only [if_pos h0]
    rw [setG_same]
    have S2 := S.ag (become_AG (σ 2) (σ 1))
    refine OK.mind h (holds_sim S2 c1 (n1 S.2.1.1.1 hz) j1 j2 hN2).1.symm ?_ ?_ ?_ ?_ (holdsFor_Sv _ _)
    · rw [setG_ne (by decide), setG_ne (by decide)]
    · rw [setG_ne (by decide), setG_ne (by decide)]
    · rw [setG_ne (by decide), setG_ne (by decide)]
    · rw [setG_ne (by decide), setG_ne (by decide)]
/-- a number is set back behind thoughts -/
theorem Sv.back {w w' : Gr} {i : Nat} {x : Int32} (k : Sv (up w 0 i x) w') : Sv w (up w' 0 i (w 0 i)) := by
  refine ⟨fun f h0 h6 h7 h35 h38 h39 => ?_, fun q hq => ?_, fun q h36 h37 h40 h41 h42 => ?_⟩
  · rw [up_ne h0, k.1 f h0 h6 h7 h35 h38 h39, up_ne h0]
  · rw [up_ne (by decide), up_ne (by decide)]
    have := k.2.1 q hq
    rw [up_ne (by decide), up_ne (by decide)] at this
    exact this
  · rw [up0]
    by_cases e : q = i
    · rw [if_pos e, e]
    · rw [if_neg e, k.2.2 q h36 h37 h40 h41 h42, up0, if_neg e]
theorem SIM.cap {n nw nr B M : Nat} {v u : Gr} {x : Int32} (S : SIM n nw nr B M v u) : SIM n nw nr B M v (up u 0 24 x) :=
  S.dred (fun _ _ => rfl) (fun f hf => up_ne hf) (fun j hj => s0 j (by omega)) S.1.2.2.2.2.2.2.1 ⟨(s0 25 (by decide)).trans S.2.1.2.2.2.2.1.1, (s0 26 (by decide)).trans S.2.1.2.2.2.2.1.2.1, (s0 27 (by decide)).trans S.2.1.2.2.2.2.1.2.2.1, (s0 28 (by decide)).trans S.2.1.2.2.2.2.1.2.2.2⟩
theorem ok_alone {j : Nat} {σ : St} (h : IV j σ) (hj : j < 512) (x : Int32) : OK j σ (f_X6_alone σ x) (g_X6_alone σ x) (f_X7_alone (σ 4) x) (g_X7_alone (σ 4) x) := by
  obtain ⟨n, nw, nr, S, c1, c2⟩ := h.1
  obtain ⟨j1, j2, j3⟩ := j30 hj
  unfold f_X6_alone g_X6_alone f_X7_alone g_X7_alone
  dsimp only
  rw [why_eq S.1.2.1.1 S.2.1.1.1]
  rcases why_cases (σ 4) x with ⟨hr, h0⟩ | ⟨h0, ⟨N, hN1, hN2, rfl⟩, hz⟩
  · simp only [if_neg h0]; exact OK.ref h hr
  · simp only [if_pos h0]
    rw [setG_same]
    have S2 := (S.ag (become_AG (σ 2) (σ 1))).cap (x := 0)
    refine OK.mind h (alone_sim S2 s1 (n1 S.2.1.1.1 hz) j1 j2 hN2).symm ?_ ?_ ?_ ?_ (holdsFor_Sv _ _).back
    · rw [setG_ne (by decide), setG_ne (by decide)]
    · rw [setG_ne (by decide), setG_ne (by decide)]
    · rw [setG_ne (by decide), setG_ne (by decide)]
    · rw [setG_ne (by decide), setG_ne (by decide)]
/-! what is back -/
noncomputable def UF (k : Nat) (u : Gr) : Gr := itn (fun _ s => up (g_X7_flow s) 0 21 (g_X7_flow s 0 21 + 1)) k u
theorem UF_s (k : Nat) (u : Gr) : UF (k + 1) u = up (g_X7_flow (UF k u)) 0 21 (g_X7_flow (UF k u) 0 21 + 1) := rfl
theorem run_flow {n nw nr B M : Nat} {v u : Gr} (S : SIM n nw nr B M v u) (hB : B + 200 < 2 ^ 30) (hM : M + 1598400 < 2 ^ 30) : ∀ k, k ≤ 200 → SIM n nw nr (B + k) (M + 7992 * k) (VP 9 k v) (UF k u)
  | 0, _ => S
  | k + 1, hk => by
    have S' := run_flow S hB hM k (by omega)
    have t := tide_none S' (by omega) (by omega) (flow_Fm (UF k u)).tt (fun j _ => ⟨rfl, rfl⟩) rfl rfl rfl
    rw [VP_s, UF_s]
    exact t.mono (by omega) (by omega)
theorem tons_sim {n nw nr s : Nat} {v u : Gr} (I : IC n nw nr v) (R : RC n nw nr v u) (T : TR n v u) (hs : s < 2) (y1 set y3 y5 : Int32) : l_X7_tonsAfter_54 u y1 (nI s) y3 set y5 0 = f_X0_tonsInSet v set (nI s) := by
  have hn := I.1.1
  have hb : (v 1 0).toNatClampNeg = n := by rw [I.2.1.1, nI_clamp (by omega)]
  have hb' : (u 0 0).toNatClampNeg = n := by rw [R.1.1, nI_clamp (by omega)]
  have k := itn_2 (f := b_X7_tonsAfter_54 u y1 (nI s) y3 set y5) (g := b_X0_tonsInSet_5 v set (nI s)) (N := n) (fun _ a b => a = b) (fun k a b hk e => by
    subst e
    unfold b_X7_tonsAfter_54 b_X0_tonsInSet_5
    dsimp only
    rw [hp_c (by omega) hs, ix2c (by omega) hs, (T k s hk hs).1, (T k s hk hs).2, if_neg (stuff_iff.mpr ⟨s, hs, rfl⟩), Int32.add_zero]) n 0 0 (Nat.le_refl _) rfl
  unfold l_X7_tonsAfter_54 f_X0_tonsInSet l_X0_tonsInSet_5
  rw [hb, hb']; exact k
/-- one side of it -/
theorem after_sim {n nw nr B M c s t N : Nat} {v u : Gr} (S : SIM n nw nr B M v u) (hc : c < n) (hs : s < 2) (ht : t ≤ 9999) (hB : B + 200 < 2 ^ 30) (hM : M + 9999 + 1598400 < 2 ^ 30) (hN : N ≤ 200) (set : Int32) : f_X7_tonsAfter u (nI c) (nI s) (nI t) set (nI N) = f_X0_tonsInSet (VP 9 N (up v 7 (8 * s + c) (v 7 (8 * s + c) + nI t))) set (nI s) := by
  have hn := S.1.1.1
  have T := S.2.2.1
  have Z := S.2.2.2.2.1
  obtain ⟨p, ep, hp, ep'⟩ := Z.n7 (h := 8 * s + c) (by omega)
  have hle := Z.le (h := 8 * s + c) (by omega)
  have S1 := S.am (save_AM u)
  have T1 := S1.2.2.1
  have e6 : g_X7_save u 6 (2 * c + s) = v 7 (8 * s + c) := (T1 c s hc hs).1
  have S2 : SIM n nw nr B (M + 9999) (up v 7 (8 * s + c) (v 7 (8 * s + c) + nI t)) (up (g_X7_save u) 6 (2 * c + s) (v 7 (8 * s + c) + nI t)) := by
    refine S1.tons (fun f h7 h8 => up_ne (by omega)) (fun f h7 h8 => up_ne (by omega)) (T1.u7 hn hc hs _) ?_
    rw [ep, nI_add]
    exact Z.setL (a := p + t) hc hn hs up_same (up_ne (by decide)) (by omega) (by omega)
  have S3 := run_flow S2 hB hM N hN
  unfold f_X7_tonsAfter
  dsimp only
  rw [ix2c (by omega) hs, e6]
  have e7 : l_X7_tonsAfter_21 (nI c) (nI s) (nI t) set (nI N) (up (g_X7_save u) 6 (2 * c + s) (v 7 (8 * s + c) + nI t)) = UF N (up (g_X7_save u) 6 (2 * c + s) (v 7 (8 * s + c) + nI t)) := by unfold l_X7_tonsAfter_21; rw [nI_clamp (by omega)]; rfl
  rw [e7]
  exact tons_sim S3.1 S3.2.1 S3.2.2.1 hs _ _ _ _
theorem pow_n : ∀ n, n ≤ 8 → (1 : Int32) <<< (nI n &&& 31) = nI (2 ^ n) := by decide +kernel
theorem hasAll_eq {n : Nat} {v u : Gr} (hn : n ≤ 8) (hv : v 1 0 = nI n) (hu : u 0 0 = nI n) (x : Int32) : f_X7_in x.toInt64 0 (((1 <<< ((u 0 0) &&& 31)) - 1).toInt64) = f_X0_hasAll v x := by
  have hp : 2 ^ n ≤ 256 := by
    have : n = 0 ∨ n = 1 ∨ n = 2 ∨ n = 3 ∨ n = 4 ∨ n = 5 ∨ n = 6 ∨ n = 7 ∨ n = 8 := by omega
    rcases this with rfl | rfl | rfl | rfl | rfl | rfl | rfl | rfl | rfl <;> decide
  rw [hu, pow_n n hn]
  refine b01 (in01 _ _ _) ?_ ((upto_iff (n := 2 ^ n) rfl (by omega)).trans ?_)
  · unfold f_X0_hasAll
    repeat' split
    all_goals first | exact Or.inl rfl | exact Or.inr rfl
  · unfold f_X0_hasAll
    rw [hv, pow_n n hn]
    constructor
    · rintro ⟨c, hc, rfl⟩
      rw [if_neg (nI_pos (by omega)), if_neg (fun q => by have := (nI_leI (by omega) (by omega)).mp q; omega)]; decide
    · intro h
      by_cases h1 : x < 0
      · rw [if_pos h1] at h; exact absurd rfl h
      · obtain ⟨c, hc, rfl⟩ := nI_of h1
        rw [if_neg h1] at h
        by_cases h2 : nI (2 ^ n) ≤ nI c
        · rw [if_pos h2] at h; exact absurd rfl h
        · refine ⟨c, ?_, rfl⟩
          by_cases q : c < 2 ^ n
          · exact q
          · exact absurd ((nI_leI (by omega) hc).mpr (by omega)) h2
theorem goOn_VP {N : Nat} (v : Gr) (x : Int32) (hN : N ≤ 200) : g_X3_goOn v (nI N) x = VP x N v := by unfold g_X3_goOn l_X3_goOn_2; rw [nI_clamp (by omega)]; rfl
theorem after_sim0 {n nw nr B M c s N : Nat} {v u : Gr} (S : SIM n nw nr B M v u) (hc : c < n) (hs : s < 2) (hB : B + 200 < 2 ^ 30) (hM : M + 9999 + 1598400 < 2 ^ 30) (hN : N ≤ 200) (set : Int32) : f_X7_tonsAfter u (nI c) (nI s) 0 set (nI N) = f_X0_tonsInSet (VP 9 N v) set (nI s) := by
  have k := after_sim (t := 0) S hc hs (Nat.zero_le _) hB hM hN set
  rw [show (nI 0 : Int32) = 0 from rfl, Int32.add_zero, up_self] at k
  exact k
theorem drop_up {n c s : Nat} {v : Gr} {t : Int32} (hn : n ≤ 8) (hv : v 1 0 = nI n) (hc : c < n) (hs : s < 2) : g_X3_drop v (nI c) (nI s) t = up v 7 (8 * s + c) (v 7 (8 * s + c) + t) := by
  unfold g_X3_drop
  rw [if_neg (by rw [hasc hn hv hc]; decide), hp_c (by omega) hs]
theorem j4_of {b : Nat} (h : b + 1608399 < 2 ^ 30) : b + 9999 + 1598400 < 2 ^ 30 := by
  rw [Nat.add_assoc]; exact Nat.lt_of_le_of_lt (Nat.add_le_add_left (by decide : 9999 + 1598400 ≤ 1608399) b) h
theorem ok_back {j : Nat} {σ : St} (h : IV j σ) (hj : j < 512) (x1 x2 x3 x4 x5 : Int32) : OK j σ (f_X6_back σ x1 x2 x3 x4 x5) (g_X6_back σ x1 x2 x3 x4 x5) (f_X7_back (σ 4) x1 x2 x3 x4 x5) (g_X7_back (σ 4) x1 x2 x3 x4 x5) := by
  obtain ⟨n, nw, nr, S, c1, c2⟩ := h.1
  have I := S.1
  have R := S.2.1
  have hn := I.1.1
  obtain ⟨j1, j2, j3⟩ := j30 hj
  have j4 := j4_of j3
  unfold f_X6_back g_X6_back f_X7_back g_X7_back
  dsimp only
  rw [cell_eq hn I.2.1.1 R.1.1, stuff_eq, hasAll_eq hn I.2.1.1 R.1.1]
  by_cases h1 : f_X0_has (σ 1) x1 = 0
  · simp only [if_pos h1]; exact (OK.ref h r1).map (fun z => -1000000000 + z)
  · simp only [if_neg h1]
    by_cases h2 : f_X6_isStuff x2 = 0
    · simp only [if_pos h2]; exact (OK.ref h r1).map (fun z => -1000000000 + z)
    · simp only [if_neg h2]
      by_cases h3 : f_X0_hasAll (σ 1) x4 = 0
      · simp only [if_pos h3]; exact (OK.ref h r1).map (fun z => -1000000000 + z)
      · simp only [if_neg h3]
        by_cases h4 : x3 < 1
        · simp only [if_pos h4]; exact (OK.ref h r4).map (fun z => -1000000000 + z)
        · simp only [if_neg h4]
          by_cases h5 : 1 ≤ x5
          · simp only [if_pos h5]
            by_cases h6 : 9999 < x3
            · simp only [if_pos h6]; exact (OK.ref h r6).map (fun z => -1000000000 + z)
            · simp only [if_neg h6]
              by_cases h7 : x5 ≤ 200
              · simp only [if_pos h7]
                obtain ⟨c, hc, rfl⟩ := (has_iff hn I.2.1.1).mp h1
                obtain ⟨s, hs, rfl⟩ := stuff_iff.mp h2
                obtain ⟨t, ht1, ht2, rfl⟩ := rg_of (a := 1) rfl (hi := 9999) (b := 9999) rfl (by decide) (by decide) (Int32.not_lt.mp h4) h6
                obtain ⟨N, hN1, hN2, rfl⟩ := rg_of (a := 1) rfl (hi := 200) (b := 200) rfl (by decide) (by decide) h5 (Int32.not_lt.mpr h7)
                have kv := tonsAfter_Sv (σ 4) (nI c) (nI s) (nI t) x4 (nI N)
                have ka := after_sim (S.ag (become_AG (VP 9 N (g_X3_become (σ 2) (σ 1))) (σ 1))) hc hs ht2 j1 j4 hN2 x4
                have kb := after_sim0 ((S.ag (become_AG (σ 2) (σ 1))).am kv.am) hc hs j1 j4 hN2 x4
                rw [ka, kb]
                simp only [setG_same, setG_setG, setG_ne (show (1 : Nat) ≠ 2 by decide), goOn_VP _ _ hN2]
                have hv := (become_AG (VP 9 N (g_X3_become (σ 2) (σ 1))) (σ 1)).1.1.trans I.2.1.1
                rw [drop_up hn hv hc hs]
                refine OK.mind h rfl ?_ ?_ ?_ ?_ (kv.trans (tonsAfter_Sv _ _ _ _ _ _))
                · rw [setG_ne (by decide)]
                · rw [setG_ne (by decide)]
                · rw [setG_ne (by decide)]
                · rw [setG_ne (by decide)]
              · simp only [if_neg h7]; exact (OK.ref h r6).map (fun z => -1000000000 + z)
          · simp only [if_neg h5]; exact (OK.ref h r4).map (fun z => -1000000000 + z)
