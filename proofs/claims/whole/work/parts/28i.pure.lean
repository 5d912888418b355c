theorem put_n {a : Nat} {y : Int32} (ha : a < 2 ^ 30) (h1 : -9999 ≤ y) (h2 : y ≤ 9999) : ∃ b, b ≤ a + 9999 ∧ (if 0 < nI a + y then nI a + y else 0) = nI b ∧ (nI a + y ≤ 1000000 ↔ nI b ≤ 1000000) := by
  have a1 := Int32.le_iff_toInt_le.mp h1
  have a2 := Int32.le_iff_toInt_le.mp h2
  have z1 : (-9999 : Int32).toInt = -9999 := by decide
  have z2 : (9999 : Int32).toInt = 9999 := by decide
  have z0 : (0 : Int32).toInt = 0 := by decide
  have e : (nI a + y).toInt = a + y.toInt := by
    rw [Int32.toInt_add, nI_toInt (by omega), Int.bmod_eq_of_le (by omega) (by omega)]
  by_cases q : 0 < nI a + y
  · have q1 := Int32.lt_iff_toInt_lt.mp q
    obtain ⟨b, hb, eb⟩ := nI_of (x := nI a + y) (fun z => absurd (Int32.lt_iff_toInt_lt.mp z) (by omega))
    have e2 : (nI a + y).toInt = (b : Int) := by rw [eb, nI_toInt hb]
    refine ⟨b, by omega, by rw [if_pos q, eb], by rw [eb]⟩
  · refine ⟨0, by omega, by rw [if_neg q]; rfl, ?_⟩
    have q1 := Int32.not_lt.mp q
    constructor
    · intro _; decide
    · intro _
      have := Int32.le_iff_toInt_le.mp q1
      rw [Int32.le_iff_toInt_le]
      have z3 : (1000000 : Int32).toInt = 1000000 := by decide
      omega
theorem ok_put {j : Nat} {σ : St} (h : IV j σ) (hj : j < 512) (a b x y : Int32) : OK j σ (f_X6_put σ a b x y) (g_X6_put σ a b x y) (f_X7_put (σ 4) a b x y) (g_X7_put (σ 4) a b x y) := by
  obtain ⟨n, nw, nr, S, c1, c2⟩ := h.1
  have I := S.1
  have R := S.2.1
  have T := S.2.2.1
  have Z := S.2.2.2.2.1
  have hn := I.1.1
  obtain ⟨j1, j2, j3⟩ := j30 hj
  unfold f_X6_put g_X6_put f_X7_put g_X7_put
  dsimp only
  rw [cell_eq hn I.2.1.1 R.1.1, stuff_eq]
  by_cases h1 : f_X0_has (σ 1) a = 0
  · simp only [if_pos h1]; exact OK.ref h r1
  · simp only [if_neg h1]
    by_cases h2 : f_X6_isStuff b = 0
    · simp only [if_pos h2]; exact OK.ref h r1
    · simp only [if_neg h2]
      obtain ⟨c, hc, rfl⟩ := (has_iff hn I.2.1.1).mp h1
      obtain ⟨s, hs, rfl⟩ := stuff_iff.mp h2
      rw [hp_c (by omega) hs, ix2c (by omega) hs]
      by_cases h3 : -9999 ≤ y
      · simp only [if_pos h3]
        by_cases h4 : y ≤ 9999
        · have h4' : ¬ 9999 < y := Int32.not_lt.mpr h4
          simp only [if_pos h4, if_neg h4']
          have hle := Z.le (h := 8 * s + c) (by omega)
          by_cases h5 : x = 0
          · simp only [if_pos h5]
            have eh : f_X0_heapsOf (σ 1) x = 8 := by unfold f_X0_heapsOf; rw [if_pos h5]
            obtain ⟨p, ep, hp, ep'⟩ := Z.n8 (h := 8 * s + c) (by omega)
            rw [eh, (T c s hc hs).2, ep]
            obtain ⟨q, hq, eq, hq2⟩ := put_n (a := p) (y := y) (by omega) h3 h4
            rw [eq]
            have em : (if 0 ≤ nI p + y then nI p + y else 0) = nI q := by rw [max0]; exact eq
            by_cases h6 : nI p + y ≤ 1000000
            · simp only [if_pos h6, if_pos (hq2.mp h6)]
              have key : (if 0 ≤ nI p + y then nI p + y else 0) = nI q ∧ (if 0 ≤ nI p + y then up (up (σ 4) 6 (2 * c + s) (σ 4 6 (2 * c + s))) 7 (2 * c + s) (nI p + y) else up (up (σ 4) 6 (2 * c + s) (σ 4 6 (2 * c + s))) 7 (2 * c + s) 0) = up (σ 4) 7 (2 * c + s) (nI q) := by
                by_cases z : 0 ≤ nI p + y
                · rw [if_pos z] at em
                  rw [if_pos z, if_pos z, em]; exact ⟨rfl, by simp only [up_self]⟩
                · rw [if_neg z] at em
                  rw [if_neg z, if_neg z, em]; exact ⟨rfl, by simp only [up_self]⟩
              rw [key.1, key.2]
              refine OK.now h rfl ⟨n, nw, nr, S.up1.tons (v' := up (σ 1) 8 (8 * s + c) (nI q)) (u' := up (σ 4) 7 (2 * c + s) (nI q)) (fun f h7 h8 => up_ne (by omega)) (fun f h7 h8 => up_ne (by omega)) (T.u8 hn hc hs _) (Z.setS (b := q) hc hn hs (up_ne (by decide)) up_same (by omega) (by rw [ep']; omega)), ?_, ?_⟩ (WK.of (fun f hf => up_ne (by omega)) (fun j hj => congrFun (up_ne (by decide)) j))
              · rw [up_ne (by decide), up_ne (by decide)]; exact c1
              · rw [up_ne (by decide)]; exact c2
            · simp only [if_neg h6, if_neg (fun z => h6 (hq2.mpr z))]; exact OK.ref h r6
          · simp only [if_neg h5]
            have eh : f_X0_heapsOf (σ 1) x = 7 := by unfold f_X0_heapsOf; rw [if_neg h5]
            obtain ⟨p, ep, hp, ep'⟩ := Z.n7 (h := 8 * s + c) (by omega)
            rw [eh, (T c s hc hs).1, ep]
            obtain ⟨q, hq, eq, hq2⟩ := put_n (a := p) (y := y) (by omega) h3 h4
            rw [eq]
            have em : (if 0 ≤ nI p + y then nI p + y else 0) = nI q := by rw [max0]; exact eq
            by_cases h6 : nI p + y ≤ 1000000
            · simp only [if_pos h6, if_pos (hq2.mp h6)]
              have key : (if 0 ≤ nI p + y then nI p + y else 0) = nI q ∧ (if 0 ≤ nI p + y then up (up (σ 4) 6 (2 * c + s) (nI p + y)) 7 (2 * c + s) (up (σ 4) 6 (2 * c + s) (nI p + y) 7 (2 * c + s)) else up (up (σ 4) 6 (2 * c + s) 0) 7 (2 * c + s) (up (σ 4) 6 (2 * c + s) 0 7 (2 * c + s))) = up (σ 4) 6 (2 * c + s) (nI q) := by
                by_cases z : 0 ≤ nI p + y
                · rw [if_pos z] at em
                  rw [if_pos z, if_pos z, em]; exact ⟨rfl, by simp only [up_self]⟩
                · rw [if_neg z] at em
                  rw [if_neg z, if_neg z, em]; exact ⟨rfl, by simp only [up_self]⟩
              rw [key.1, key.2]
              refine OK.now h rfl ⟨n, nw, nr, S.up1.tons (v' := up (σ 1) 7 (8 * s + c) (nI q)) (u' := up (σ 4) 6 (2 * c + s) (nI q)) (fun f h7 h8 => up_ne (by omega)) (fun f h7 h8 => up_ne (by omega)) (T.u7 hn hc hs _) (Z.setL (a := q) hc hn hs up_same (up_ne (by decide)) (by omega) (by rw [ep']; omega)), ?_, ?_⟩ (WK.of (fun f hf => up_ne (by omega)) (fun j hj => congrFun (up_ne (by decide)) j))
              · rw [up_ne (by decide), up_ne (by decide)]; exact c1
              · rw [up_ne (by decide)]; exact c2
            · simp only [if_neg h6, if_neg (fun z => h6 (hq2.mpr z))]; exact OK.ref h r6
        · have h4' : 9999 < y := Int32.not_le.mp h4
          simp only [if_neg h4, if_pos h4', ite_self]; exact OK.ref h r6
      · simp only [if_neg h3]; exact OK.ref h r4
theorem bit255 : ∀ k, k < 8 → ((255 : Int32) >>> (nI k &&& 31)) &&& 1 = 1 := by decide +kernel
/-- all tons: cell by cell against place by place -/
theorem all_sim {n nw nr : Nat} {v u : Gr} (I : IC n nw nr v) (R : RC n nw nr v u) (T : TR n v u) (y : Int32) : l_X7_count_80 u y 0 = f_X0_tonsInAll v := by
  have hn := I.1.1
  have hb : (v 1 0).toNatClampNeg = n := by rw [I.2.1.1, nI_clamp (by omega)]
  have hb' : (2 * u 0 0).toNatClampNeg = 2 * n := by rw [R.1.1, show (2 : Int32) = nI 2 from rfl, pk_mul, nI_clamp (by omega)]
  have key : ∀ m, m ≤ n → itn (b_X7_count_80 u y) (2 * m) 0 = itn (b_X0_tonsInSet_5 v 255 0) m 0 + itn (b_X0_tonsInSet_5 v 255 1) m 0 := by
    intro m
    induction m with
    | zero => intro _; rfl
    | succ m ih =>
      intro hm
      have e0 : itn (b_X0_tonsInSet_5 v 255 0) (m + 1) 0 = itn (b_X0_tonsInSet_5 v 255 0) m 0 + (v 7 (8 * 0 + m) + v 8 (8 * 0 + m)) := by
        show b_X0_tonsInSet_5 v 255 0 m _ = _
        unfold b_X0_tonsInSet_5
        dsimp only
        rw [if_pos (bit255 m (by omega)), if_neg (by decide), show (f_X6_heapOf (nI m) 0).toNatClampNeg = 8 * 0 + m from hp_c (s := 0) (by omega) (by decide)]
      have e1 : itn (b_X0_tonsInSet_5 v 255 1) (m + 1) 0 = itn (b_X0_tonsInSet_5 v 255 1) m 0 + (v 7 (8 * 1 + m) + v 8 (8 * 1 + m)) := by
        show b_X0_tonsInSet_5 v 255 1 m _ = _
        unfold b_X0_tonsInSet_5
        dsimp only
        rw [if_pos (bit255 m (by omega)), if_neg (by decide), show (f_X6_heapOf (nI m) 1).toNatClampNeg = 8 * 1 + m from hp_c (s := 1) (by omega) (by decide)]
      have e2 : itn (b_X7_count_80 u y) (2 * (m + 1)) 0 = itn (b_X7_count_80 u y) (2 * m) 0 + (v 7 (8 * 0 + m) + v 8 (8 * 0 + m)) + (v 7 (8 * 1 + m) + v 8 (8 * 1 + m)) := by
        show b_X7_count_80 u y (2 * m + 1) (b_X7_count_80 u y (2 * m) _) = _
        have eb : ∀ k x, k < 2 ^ 31 → b_X7_count_80 u y k x = x + (u 6 k + u 7 k) := fun k x hk => by unfold b_X7_count_80; rw [nI_clamp hk]
        rw [eb _ _ (by omega), eb _ _ (by omega)]
        have t0 := T m 0 (by omega) (by decide)
        have t1 := T m 1 (by omega) (by decide)
        rw [Nat.add_zero] at t0
        rw [t0.1, t0.2, t1.1, t1.2]
        rfl
      rw [e0, e1, e2, ih (by omega)]
      generalize itn (b_X0_tonsInSet_5 v 255 0) m 0 = A
      generalize itn (b_X0_tonsInSet_5 v 255 1) m 0 = B
      generalize v 7 (8 * 0 + m) + v 8 (8 * 0 + m) = P
      generalize v 7 (8 * 1 + m) + v 8 (8 * 1 + m) = Q
      rw [Int32.add_assoc A B P, Int32.add_comm B P, ← Int32.add_assoc A P B, Int32.add_assoc (A + P) B Q]
  unfold l_X7_count_80 f_X0_tonsInAll f_X0_tonsInSet l_X0_tonsInSet_5
  rw [hb, hb']
  exact key n (Nat.le_refl _)
theorem ok_count {j : Nat} {σ : St} (h : IV j σ) (x : Int32) : OK j σ (f_X6_count σ x) σ (f_X7_count (σ 4) x) (σ 4) := by
  obtain ⟨n, nw, nr, S, c1, c2⟩ := h.1
  have I := S.1
  have R := S.2.1
  have T := S.2.2.1
  have N := S.2.2.2.1
  obtain ⟨e, he, t1, t2, _⟩ := h.2.1
  obtain ⟨r, hr, w1, w2, _⟩ := h.2.2.1
  have F := h.2.2.2.1
  refine OK.stay h ?_
  unfold f_X6_count f_X7_count
  dsimp only
  by_cases q0 : x = 0
  · subst q0
    simp only [if_pos (show (0 : Int32) < 11 by decide), if_pos (show (0 : Int32) = 0 by decide)]
    exact I.2.1.1.trans R.1.1.symm
  by_cases q1 : x = 1
  · subst q1
    simp only [if_pos (show (1 : Int32) < 11 by decide), if_neg (show ¬ (1 : Int32) = 0 by decide), if_pos (show (1 : Int32) = 1 by decide)]
    exact I.2.1.2.1.trans R.1.2.1.symm
  by_cases q2 : x = 2
  · subst q2
    simp only [if_pos (show (2 : Int32) < 11 by decide), if_neg (show ¬ (2 : Int32) = 0 by decide), if_neg (show ¬ (2 : Int32) = 1 by decide), if_pos (show (2 : Int32) = 2 by decide)]
    exact I.2.1.2.2.trans R.1.2.2.symm
  by_cases q3 : x = 3
  · subst q3
    simp only [if_pos (show (3 : Int32) < 11 by decide), if_neg (show ¬ (3 : Int32) = 0 by decide), if_neg (show ¬ (3 : Int32) = 1 by decide), if_neg (show ¬ (3 : Int32) = 2 by decide), if_pos (show (3 : Int32) = 3 by decide)]
    exact N.1.symm
  by_cases q4 : x = 4
  · subst q4
    simp only [if_pos (show (4 : Int32) < 11 by decide), if_neg (show ¬ (4 : Int32) = 0 by decide), if_neg (show ¬ (4 : Int32) = 1 by decide), if_neg (show ¬ (4 : Int32) = 2 by decide), if_neg (show ¬ (4 : Int32) = 3 by decide), if_pos (show (4 : Int32) = 4 by decide)]
    exact (all_sim I R T 4).symm
  by_cases q5 : x = 5
  · subst q5
    simp only [if_pos (show (5 : Int32) < 11 by decide), if_neg (show ¬ (5 : Int32) = 0 by decide), if_neg (show ¬ (5 : Int32) = 1 by decide), if_neg (show ¬ (5 : Int32) = 2 by decide), if_neg (show ¬ (5 : Int32) = 3 by decide), if_neg (show ¬ (5 : Int32) = 4 by decide), if_pos (show (5 : Int32) = 5 by decide)]
    exact N.2.1.symm
  by_cases q6 : x = 6
  · subst q6
    simp only [if_pos (show (6 : Int32) < 11 by decide), if_neg (show ¬ (6 : Int32) = 0 by decide), if_neg (show ¬ (6 : Int32) = 1 by decide), if_neg (show ¬ (6 : Int32) = 2 by decide), if_neg (show ¬ (6 : Int32) = 3 by decide), if_neg (show ¬ (6 : Int32) = 4 by decide), if_neg (show ¬ (6 : Int32) = 5 by decide), if_pos (show (6 : Int32) = 6 by decide)]
    exact N.2.2.symm
  by_cases q7 : x = 7
  · subst q7
    simp only [if_pos (show (7 : Int32) < 11 by decide), if_neg (show ¬ (7 : Int32) = 0 by decide), if_neg (show ¬ (7 : Int32) = 1 by decide), if_neg (show ¬ (7 : Int32) = 2 by decide), if_neg (show ¬ (7 : Int32) = 3 by decide), if_neg (show ¬ (7 : Int32) = 4 by decide), if_neg (show ¬ (7 : Int32) = 5 by decide), if_neg (show ¬ (7 : Int32) = 6 by decide), if_pos (show (7 : Int32) = 7 by decide)]
    exact t1.trans t2.symm
  by_cases q8 : x = 8
  · subst q8
    simp only [if_pos (show (8 : Int32) < 11 by decide), if_neg (show ¬ (8 : Int32) = 0 by decide), if_neg (show ¬ (8 : Int32) = 1 by decide), if_neg (show ¬ (8 : Int32) = 2 by decide), if_neg (show ¬ (8 : Int32) = 3 by decide), if_neg (show ¬ (8 : Int32) = 4 by decide), if_neg (show ¬ (8 : Int32) = 5 by decide), if_neg (show ¬ (8 : Int32) = 6 by decide), if_neg (show ¬ (8 : Int32) = 7 by decide), if_pos (show (8 : Int32) = 8 by decide)]
    exact w1.trans w2.symm
  by_cases q9 : x = 9
  · subst q9
    simp only [if_pos (show (9 : Int32) < 11 by decide), if_neg (show ¬ (9 : Int32) = 0 by decide), if_neg (show ¬ (9 : Int32) = 1 by decide), if_neg (show ¬ (9 : Int32) = 2 by decide), if_neg (show ¬ (9 : Int32) = 3 by decide), if_neg (show ¬ (9 : Int32) = 4 by decide), if_neg (show ¬ (9 : Int32) = 5 by decide), if_neg (show ¬ (9 : Int32) = 6 by decide), if_neg (show ¬ (9 : Int32) = 7 by decide), if_neg (show ¬ (9 : Int32) = 8 by decide), if_pos (show (9 : Int32) = 9 by decide)]
    exact R.2.2.2.2.2.1.symm
  simp only [if_neg q0, if_neg q1, if_neg q2, if_neg q3, if_neg q4, if_neg q5, if_neg q6, if_neg q7, if_neg q8, if_neg q9]
  by_cases h1 : x < 11
  · rw [if_pos h1]
    by_cases h2 : f_X7_in x.toInt64 11 16 = 0
    · rw [if_pos h2]
    · exact absurd h1 (Int32.not_lt.mpr ((in_ii (x := x) (a := 11) (b := 16)).mp h2).1)
  · rw [if_neg h1]
    by_cases h3 : 16 < x
    · rw [if_pos h3]
      by_cases h2 : f_X7_in x.toInt64 11 16 = 0
      · rw [if_pos h2]
      · exact absurd h3 (Int32.not_lt.mpr ((in_ii (x := x) (a := 11) (b := 16)).mp h2).2)
    · rw [if_neg h3]
      have h2 : ¬ f_X7_in x.toInt64 11 16 = 0 := (in_ii (x := x) (a := 11) (b := 16)).mpr ⟨Int32.not_lt.mp h1, Int32.not_lt.mp h3⟩
      rw [if_neg h2]
      obtain ⟨m, hm, em⟩ := vp_in_of (cnt7 h2) (by decide)
      rw [em, nI_clamp (by omega)]
      exact (F m hm).symm
