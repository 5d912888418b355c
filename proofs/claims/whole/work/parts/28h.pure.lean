theorem in_0 {x : Int32} {hi : Int32} (h : ¬ f_X7_in x.toInt64 (0 : Int32).toInt64 hi.toInt64 = 0) {b : Nat} (hb : hi = nI b) (hb' : b < 2 ^ 31) : ∃ m, m ≤ b ∧ x = nI m := by
  obtain ⟨h1, h2⟩ := in_ii.mp h
  obtain ⟨m, _, h3, e⟩ := rg_of (a := 0) rfl hb hb' (Nat.zero_le _) h1 (Int32.not_lt.mpr h2)
  exact ⟨m, h3, e⟩
theorem set_leaf {j n nw nr c f : Nat} {σ : St} {y : Int32} {G : Gr} (h : IV j σ) (S : SIM n nw nr (200 * j) (1598400 * j) (σ 1) (σ 4)) (c1 : σ 4 0 24 = σ 1 19 0) (c2 : σ 4 0 34 = -1) (hc : c < n) (hf : f = 3 ∨ f = 4 ∨ f = 5 ∨ f = 6) (hy : rg y 0 (if f = 4 ∨ f = 5 then 100 else 99)) (eG : G = up (σ 4) (f - 1) c y) : OK j σ (σ 1 f c) (setG σ 1 (up (σ 1) f c y)) (σ 4 (f - 1) c) G := by
  subst eG
  have R := S.2.1.2.1 c hc
  refine OK.now h ?_ ⟨n, nw, nr, S.up1.val hc hf rfl rfl hy, ?_, ?_⟩ (WK.of (fun g hg => up_ne (by omega)) (fun j hj => congrFun (up_ne (by omega)) j))
  · rcases hf with rfl | rfl | rfl | rfl
    · exact R.2.1.symm
    · exact R.2.2.1.symm
    · exact R.2.2.2.1.symm
    · exact R.2.2.2.2.symm
  · rw [up_ne (by omega), up_ne (by omega)]; exact c1
  · rw [up_ne (by omega)]; exact c2
theorem ok_set {j : Nat} {σ : St} (h : IV j σ) (a x y : Int32) : OK j σ (f_X6_set σ a x y) (g_X6_set σ a x y) (f_X7_set (σ 4) a x y) (g_X7_set (σ 4) a x y) := by
  obtain ⟨n, nw, nr, S, c1, c2⟩ := h.1
  have I := S.1
  have R := S.2.1
  have hn := I.1.1
  unfold f_X6_set g_X6_set f_X7_set g_X7_set
  dsimp only
  rw [cell_eq hn I.2.1.1 R.1.1]
  by_cases h1 : f_X0_has (σ 1) a = 0
  · simp only [if_pos h1]; exact OK.ref h r1
  · simp only [if_neg h1]
    obtain ⟨c, hc, rfl⟩ := (has_iff hn I.2.1.1).mp h1
    rw [nI_clamp (by omega)]
    by_cases h2 : f_X7_in x.toInt64 0 3 = 0
    · have h2' : ¬ (0 ≤ x ∧ x ≤ 3) := fun q => (in_ii (x := x) (a := 0) (b := 3)).mpr q h2
      simp only [if_pos h2]
      by_cases q : x < 0
      · simp only [if_pos q]; exact OK.ref h r2
      · have q2 : ¬ x ≤ 3 := fun z => h2' ⟨Int32.not_lt.mp q, z⟩
        simp only [if_neg q, if_neg q2]; exact OK.ref h r2
    · obtain ⟨m, hm, e⟩ := in_0 (hi := 3) (b := 3) h2 rfl (by decide)
      simp only [if_neg h2]
      have h4 : m = 0 ∨ m = 1 ∨ m = 2 ∨ m = 3 := by omega
      by_cases h3 : 0 ≤ y
      · simp only [if_pos h3]
        rcases h4 with rfl | rfl | rfl | rfl
        · have e : x = 0 := e
          subst e
          have ev : f_X0_valuesOf (σ 1) 0 = 4 := rfl
          simp only [if_neg (show ¬ (0 : Int32) < 0 by decide), if_pos (show (0 : Int32) ≤ 3 by decide), if_neg (show ¬ (1 : Int32) < 0 by decide), if_neg (show ¬ (2 : Int32) ≤ 0 by decide), if_pos (show (0 : Int32) = 0 by decide), if_neg (show ¬ (0 : Int32) = 1 by decide), if_neg (show ¬ (0 : Int32) = 2 by decide), if_neg (show ¬ (0 : Int32) = 3 by decide), ev, up_self]
          by_cases h5 : y ≤ 100
          · simp only [if_pos h5]
            obtain ⟨p, _, hp, rfl⟩ := rg_of (a := 0) rfl (hi := 100) (b := 100) rfl (by decide) (by decide) h3 (Int32.not_lt.mpr h5)
            exact set_leaf (f := 4) h S c1 c2 hc (by decide) ⟨p, by omega, hp, rfl⟩ rfl
          · simp only [if_neg h5]; exact OK.ref h r6
        · have e : x = 1 := e
          subst e
          have ev : f_X0_valuesOf (σ 1) 1 = 5 := rfl
          simp only [if_neg (show ¬ (1 : Int32) < 0 by decide), if_pos (show (1 : Int32) ≤ 3 by decide), if_neg (show ¬ (1 : Int32) < 1 by decide), if_neg (show ¬ (2 : Int32) ≤ 1 by decide), if_neg (show ¬ (1 : Int32) = 0 by decide), if_pos (show (1 : Int32) = 1 by decide), if_neg (show ¬ (1 : Int32) = 2 by decide), if_neg (show ¬ (1 : Int32) = 3 by decide), ev, up_self]
          by_cases h5 : y ≤ 100
          · simp only [if_pos h5]
            obtain ⟨p, _, hp, rfl⟩ := rg_of (a := 0) rfl (hi := 100) (b := 100) rfl (by decide) (by decide) h3 (Int32.not_lt.mpr h5)
            exact set_leaf (f := 5) h S c1 c2 hc (by decide) ⟨p, by omega, hp, rfl⟩ rfl
          · simp only [if_neg h5]; exact OK.ref h r6
        · have e : x = 2 := e
          subst e
          have ev : f_X0_valuesOf (σ 1) 2 = 6 := rfl
          simp only [if_neg (show ¬ (2 : Int32) < 0 by decide), if_pos (show (2 : Int32) ≤ 3 by decide), if_pos (show (1 : Int32) < 2 by decide), if_pos (show (2 : Int32) ≤ 2 by decide), if_neg (show ¬ (2 : Int32) = 0 by decide), if_neg (show ¬ (2 : Int32) = 1 by decide), if_pos (show (2 : Int32) = 2 by decide), if_neg (show ¬ (2 : Int32) = 3 by decide), ev, up_self]
          by_cases h5 : y ≤ 99
          · simp only [if_pos h5]
            obtain ⟨p, _, hp, rfl⟩ := rg_of (a := 0) rfl (hi := 99) (b := 99) rfl (by decide) (by decide) h3 (Int32.not_lt.mpr h5)
            exact set_leaf (f := 6) h S c1 c2 hc (by decide) ⟨p, by omega, hp, rfl⟩ rfl
          · simp only [if_neg h5]; exact OK.ref h r6
        · have e : x = 3 := e
          subst e
          have ev : f_X0_valuesOf (σ 1) 3 = 3 := rfl
          simp only [if_neg (show ¬ (3 : Int32) < 0 by decide), if_pos (show (3 : Int32) ≤ 3 by decide), if_pos (show (1 : Int32) < 3 by decide), if_pos (show (2 : Int32) ≤ 3 by decide), if_neg (show ¬ (3 : Int32) = 0 by decide), if_neg (show ¬ (3 : Int32) = 1 by decide), if_neg (show ¬ (3 : Int32) = 2 by decide), if_pos (show (3 : Int32) = 3 by decide), ev, up_self]
          by_cases h5 : y ≤ 99
          · simp only [if_pos h5]
            obtain ⟨p, _, hp, rfl⟩ := rg_of (a := 0) rfl (hi := 99) (b := 99) rfl (by decide) (by decide) h3 (Int32.not_lt.mpr h5)
            exact set_leaf (f := 3) h S c1 c2 hc (by decide) ⟨p, by omega, hp, rfl⟩ rfl
          · simp only [if_neg h5]; exact OK.ref h r6
      · simp only [if_neg h3]
        have q : ¬ x < 0 := by rw [e]; exact nI_pos (by omega)
        have q2 : x ≤ 3 := by rw [e]; exact (nI_leI (b := 3) (by omega) (by decide)).mpr hm
        simp only [if_neg q, if_pos q2]; exact OK.ref h r4
theorem dr_leaf {j n nw nr i : Nat} {σ : St} {y : Int32} {G : Gr} (h : IV j σ) (S : SIM n nw nr (200 * j) (1598400 * j) (σ 1) (σ 4)) (c1 : σ 4 0 24 = σ 1 19 0) (c2 : σ 4 0 34 = -1) (hi : i < 5) (D : DIv n (up (σ 1) 19 i y)) (eG : G = up (σ 4) 0 (24 + i) y) : OK j σ (σ 1 19 i) (setG σ 1 (up (σ 1) 19 i y)) (σ 4 0 (24 + i)) G := by
  subst eG
  obtain ⟨r25, r26, r27, r28⟩ := S.2.1.2.2.2.2.1
  have key : ∀ k, k < 5 → σ 4 0 (24 + k) = σ 1 19 k := fun k hk => by
    have : k = 0 ∨ k = 1 ∨ k = 2 ∨ k = 3 ∨ k = 4 := by omega
    rcases this with rfl | rfl | rfl | rfl | rfl
    · exact c1
    · exact r25
    · exact r26
    · exact r27
    · exact r28
  have key2 : ∀ k, k < 5 → up (σ 4) 0 (24 + i) y 0 (24 + k) = up (σ 1) 19 i y 19 k := fun k hk => by
    rw [up0, up0, key k hk]
    by_cases e : k = i
    · rw [if_pos e, if_pos (by omega)]
    · rw [if_neg e, if_neg (by omega)]
  refine OK.now h (key i hi).symm ⟨n, nw, nr, S.up1.dred (fun f hf => up_ne hf) (fun f hf => up_ne hf) (fun j hj => s0 j (by omega)) D ⟨key2 1 (by decide), key2 2 (by decide), key2 3 (by decide), key2 4 (by decide)⟩, key2 0 (by decide), ?_⟩ (WK.of (fun f hf => up_ne (by omega)) (fun j hj => s0 j (by omega)))
  rw [s0 34 (by omega)]; exact c2
theorem ok_dredger {j : Nat} {σ : St} (h : IV j σ) (x y : Int32) : OK j σ (f_X6_dredger σ x y) (g_X6_dredger σ x y) (f_X7_dredger (σ 4) x y) (g_X7_dredger (σ 4) x y) := by
  obtain ⟨n, nw, nr, S, c1, c2⟩ := h.1
  have I := S.1
  have R := S.2.1
  have hn := I.1.1
  obtain ⟨d0, d1, d2, d3, d4⟩ := I.2.2.2.2.2.2.1
  unfold f_X6_dredger g_X6_dredger f_X7_dredger g_X7_dredger
  dsimp only
  rw [cell_eq hn I.2.1.1 R.1.1]
  by_cases h2 : f_X7_in x.toInt64 0 4 = 0
  · have h2' : ¬ (0 ≤ x ∧ x ≤ 4) := fun q => (in_ii (x := x) (a := 0) (b := 4)).mpr q h2
    simp only [if_pos h2]
    by_cases q : x < 0
    · simp only [if_pos q]; exact OK.ref h r2
    · have q2 : ¬ x ≤ 4 := fun z => h2' ⟨Int32.not_lt.mp q, z⟩
      simp only [if_neg q, if_neg q2]; exact OK.ref h r2
  · obtain ⟨m, hm, e⟩ := in_0 (hi := 4) (b := 4) h2 rfl (by decide)
    simp only [if_neg h2]
    have h4 : m = 0 ∨ m = 1 ∨ m = 2 ∨ m = 3 ∨ m = 4 := by omega
    rcases h4 with rfl | rfl | rfl | rfl | rfl
    · have e : x = 0 := e
      subst e
      have ef : f_X2_change (σ 1) 0 y = σ 1 19 0 := rfl
      have eg : g_X2_change (σ 1) 0 y = up (σ 1) 19 0 y := rfl
      have egr : f_X2_greatest 0 = 999 := rfl
      simp only [if_neg (show ¬ (0 : Int32) < 0 by decide), if_pos (show (0 : Int32) ≤ 4 by decide), if_pos (show (0 : Int32) = 0 by decide), if_neg (show ¬ (0 : Int32) = 1 by decide), if_neg (show ¬ (0 : Int32) = 2 by decide), if_neg (show ¬ (0 : Int32) = 3 by decide), if_neg (show ¬ (0 : Int32) = 4 by decide), ef, eg, egr, up_self]
      by_cases h3 : 0 ≤ y
      · simp only [if_pos h3]
        by_cases h5 : y ≤ 999
        · have h5' : ¬ 999 < y := Int32.not_lt.mpr h5
          simp only [if_pos h5, if_neg h5']
          obtain ⟨p, _, hp, rfl⟩ := rg_of (a := 0) rfl (hi := 999) (b := 999) rfl (by decide) (by decide) h3 h5'
          exact dr_leaf (i := 0) h S c1 c2 (by decide) ⟨⟨p, by omega, hp, rfl⟩, d1, d2, d3, d4⟩ rfl
        · have h5' : 999 < y := Int32.not_le.mp h5
          simp only [if_neg h5, if_pos h5']; exact OK.ref h r6
      · simp only [if_neg h3]; exact OK.ref h r4
    · have e : x = 1 := e
      subst e
      have ef : f_X2_change (σ 1) 1 y = σ 1 19 1 := rfl
      have eg : g_X2_change (σ 1) 1 y = up (σ 1) 19 1 y := rfl
      simp only [if_neg (show ¬ (1 : Int32) < 0 by decide), if_pos (show (1 : Int32) ≤ 4 by decide), if_neg (show ¬ (1 : Int32) = 0 by decide), if_pos (show (1 : Int32) = 1 by decide), if_neg (show ¬ (1 : Int32) = 2 by decide), if_neg (show ¬ (1 : Int32) = 3 by decide), if_neg (show ¬ (1 : Int32) = 4 by decide), ef, eg, up_self]
      by_cases q : f_X0_has (σ 1) y = 0
      · simp only [if_pos q]
        by_cases q8 : y = 8
        · simp only [if_pos q8]
          exact dr_leaf (i := 1) h S c1 c2 (by decide) ⟨d0, Or.inl q8, d2, d3, d4⟩ rfl
        · simp only [if_neg q8]; exact OK.ref h r1
      · simp only [if_neg q]
        obtain ⟨c, hc, ec⟩ := (has_iff hn I.2.1.1).mp q
        have q8 : ¬ y = 8 := fun z => q (by rw [z]; exact has8 hn I.2.1.1)
        have q0 : 0 ≤ y := by rw [ec]; exact nI_pos' (by omega)
        simp only [if_neg q8, if_pos q0]
        exact dr_leaf (i := 1) h S c1 c2 (by decide) ⟨d0, Or.inr ⟨c, hc, ec⟩, d2, d3, d4⟩ rfl
    · have e : x = 2 := e
      subst e
      have ef : f_X2_change (σ 1) 2 y = σ 1 19 2 := rfl
      have eg : g_X2_change (σ 1) 2 y = up (σ 1) 19 2 y := rfl
      have egr : f_X2_greatest 2 = 4 := rfl
      simp only [if_neg (show ¬ (2 : Int32) < 0 by decide), if_pos (show (2 : Int32) ≤ 4 by decide), if_neg (show ¬ (2 : Int32) = 0 by decide), if_neg (show ¬ (2 : Int32) = 1 by decide), if_pos (show (2 : Int32) = 2 by decide), if_neg (show ¬ (2 : Int32) = 3 by decide), if_neg (show ¬ (2 : Int32) = 4 by decide), ef, eg, egr, up_self]
      by_cases h3 : 0 ≤ y
      · simp only [if_pos h3]
        by_cases h5 : y ≤ 4
        · have h5' : ¬ 4 < y := Int32.not_lt.mpr h5
          simp only [if_pos h5, if_neg h5']
          obtain ⟨p, _, hp, rfl⟩ := rg_of (a := 0) rfl (hi := 4) (b := 4) rfl (by decide) (by decide) h3 h5'
          exact dr_leaf (i := 2) h S c1 c2 (by decide) ⟨d0, d1, ⟨p, by omega, hp, rfl⟩, d3, d4⟩ rfl
        · have h5' : 4 < y := Int32.not_le.mp h5
          simp only [if_neg h5, if_pos h5']; exact OK.ref h r6
      · simp only [if_neg h3]; exact OK.ref h r4
    · have e : x = 3 := e
      subst e
      have ef : f_X2_change (σ 1) 3 y = σ 1 19 3 := rfl
      have eg : g_X2_change (σ 1) 3 y = up (σ 1) 19 3 y := rfl
      simp only [if_neg (show ¬ (3 : Int32) < 0 by decide), if_pos (show (3 : Int32) ≤ 4 by decide), if_neg (show ¬ (3 : Int32) = 0 by decide), if_neg (show ¬ (3 : Int32) = 1 by decide), if_neg (show ¬ (3 : Int32) = 2 by decide), if_pos (show (3 : Int32) = 3 by decide), if_neg (show ¬ (3 : Int32) = 4 by decide), ef, eg, up_self]
      by_cases q : f_X0_has (σ 1) y = 0
      · simp only [if_pos q]; exact OK.ref h r1
      · simp only [if_neg q]
        obtain ⟨c, hc, ec⟩ := (has_iff hn I.2.1.1).mp q
        have q0 : 0 ≤ y := by rw [ec]; exact nI_pos' (by omega)
        simp only [if_pos q0]
        exact dr_leaf (i := 3) h S c1 c2 (by decide) ⟨d0, d1, d2, Or.inr ⟨c, hc, ec⟩, d4⟩ rfl
    · have e : x = 4 := e
      subst e
      have ef : f_X2_change (σ 1) 4 y = σ 1 19 4 := rfl
      have eg : g_X2_change (σ 1) 4 y = up (σ 1) 19 4 y := rfl
      have egr : f_X2_greatest 4 = 99 := rfl
      simp only [if_neg (show ¬ (4 : Int32) < 0 by decide), if_pos (show (4 : Int32) ≤ 4 by decide), if_neg (show ¬ (4 : Int32) = 0 by decide), if_neg (show ¬ (4 : Int32) = 1 by decide), if_neg (show ¬ (4 : Int32) = 2 by decide), if_neg (show ¬ (4 : Int32) = 3 by decide), if_pos (show (4 : Int32) = 4 by decide), ef, eg, egr, up_self]
      by_cases h3 : 0 ≤ y
      · simp only [if_pos h3]
        by_cases h5 : y ≤ 99
        · have h5' : ¬ 99 < y := Int32.not_lt.mpr h5
          simp only [if_pos h5, if_neg h5']
          obtain ⟨p, _, hp, rfl⟩ := rg_of (a := 0) rfl (hi := 99) (b := 99) rfl (by decide) (by decide) h3 h5'
          exact dr_leaf (i := 4) h S c1 c2 (by decide) ⟨d0, d1, d2, d3, ⟨p, by omega, hp, rfl⟩⟩ rfl
        · have h5' : 99 < y := Int32.not_le.mp h5
          simp only [if_neg h5, if_pos h5']; exact OK.ref h r6
      · simp only [if_neg h3]; exact OK.ref h r4
