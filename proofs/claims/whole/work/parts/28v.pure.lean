theorem KS.le {S T : List Nat} {a b : Gr} (h : KS S a b) (q : ∀ j, j ∈ S → j ∈ T) : KS T a b := ⟨h.1, fun j hj => h.2 j (fun z => hj (q j z))⟩
theorem bc_out {k : Nat} {v : Int32 × Int32 × Gr} (h : 3 ≤ nI k ∨ ¬ v.2.1 = 0 ∨ f_X1_digitIsHere v.2.2 = 0) : b_X1_readNumber_15 k v = (false, 70, 0, v) := by
  unfold b_X1_readNumber_15
  by_cases h1 : 3 ≤ nI k
  · rw [if_pos h1]
  · rw [if_neg h1]
    by_cases h2 : v.2.1 = 0
    · rw [if_pos h2, if_pos ((h.resolve_left h1).resolve_left (fun q => q h2))]
    · rw [if_neg h2]
theorem bc_go {t : Nat → Int32} {e a k : Nat} {x : Int32} {r : Gr} (h1 : ¬ 3 ≤ nI k) (h : CX t e r a) (d : dg (hb t e a) = true) : b_X1_readNumber_15 k (x, 0, r) = (true, 0, 0, (x * 10 + hb t e a - 48, (if x * 10 + hb t e a - 48 = 0 then 1 else 0), up r 1 2 (r 1 2 + 1))) := by
  have e1 : f_X1_digitIsHere r = 1 := by rw [h.dig, if_pos d]
  unfold b_X1_readNumber_15
  dsimp only
  rw [if_neg h1, if_pos rfl, if_neg (by rw [e1]; decide), h.val (dg_out d)]
  by_cases z : x * 10 + hb t e a - 48 = 0
  · rw [if_pos z, if_pos z]
  · rw [if_neg z, if_neg z]
theorem cs_num {t : Nat → Int32} {e a : Nat} {ρ : Gr} (h : CX t e ρ a) :
    ((rnum (hb t e) a).1 = true → f_X1_readNumber ρ = 1 ∧ CX t e (g_X1_readNumber ρ) (rnum (hb t e) a).2.1 ∧ KS [2, 9, 8] ρ (g_X1_readNumber ρ) ∧ g_X1_readNumber ρ 1 8 = (rnum (hb t e) a).2.2 ∧ g_X1_readNumber ρ 1 9 = ρ 1 8) ∧ (¬ (rnum (hb t e) a).1 = true → f_X1_readNumber ρ = 0 ∧ g_X1_readNumber ρ = ρ ∧ (rnum (hb t e) a).2.1 = a) := by
  by_cases d : dg (hb t e a) = true
  · have e1 : f_X1_digitIsHere ρ = 1 := by rw [h.dig, if_pos d]
    have fin : ∀ (x y : Int32) (z : Gr) (a' : Nat), l_X1_readNumber_15 (0, 0, ρ) = (70, 0, (x, y, z)) → CX t e z a' → KS [2] ρ z → rnum (hb t e) a = (true, a', x) → ((rnum (hb t e) a).1 = true → f_X1_readNumber ρ = 1 ∧ CX t e (g_X1_readNumber ρ) (rnum (hb t e) a).2.1 ∧ KS [2, 9, 8] ρ (g_X1_readNumber ρ) ∧ g_X1_readNumber ρ 1 8 = (rnum (hb t e) a).2.2 ∧ g_X1_readNumber ρ 1 9 = ρ 1 8) ∧ (¬ (rnum (hb t e) a).1 = true → f_X1_readNumber ρ = 0 ∧ g_X1_readNumber ρ = ρ ∧ (rnum (hb t e) a).2.1 = a) := by
      intro x y z a' hl hz kz hr
      have ef : f_X1_readNumber ρ = 1 := by unfold f_X1_readNumber; rw [if_neg (by rw [e1]; decide)]
      have eg : g_X1_readNumber ρ = up (up z 1 9 (ρ 1 8)) 1 8 x := by
        unfold g_X1_readNumber
        rw [if_neg (by rw [e1]; decide), hl]
        dsimp only
        rw [kz.2 8 (by decide)]
      rw [ef, eg, hr]
      refine ⟨fun _ => ⟨rfl, ?_, (kz.trans KS.u).trans KS.u, ?_, ?_⟩, fun q => absurd rfl q⟩
      · refine hz.ks ((KS.u (j := 9)).trans (KS.u (j := 8))) (by decide) hz.2.2.2.1 ?_
        rw [up0, if_neg (by decide), up0, if_neg (by decide)]; exact hz.2.2.2.2
      · rw [up0, if_pos rfl]
      · rw [up0, if_neg (by decide), up0, if_pos rfl]
    have l4 : ∀ v0, l_X1_readNumber_15 v0 = wl b_X1_readNumber_15 4 0 v0 := fun v0 => by unfold l_X1_readNumber_15; rw [nn_eq]
    have k0 : ¬ (3 : Int32) ≤ nI 0 := by decide
    have k1 : ¬ (3 : Int32) ≤ nI 1 := by decide
    have k2 : ¬ (3 : Int32) ≤ nI 2 := by decide
    have k3 : (3 : Int32) ≤ nI 3 := by decide
    have g1 := bc_go (x := 0) k0 h d
    have h1 := h.inc (dg_out d)
    have m1 : KS [2] ρ (up ρ 1 2 (ρ 1 2 + 1)) := KS.u
    obtain ⟨i, hi, ei, ei'⟩ := dg_nn d
    have v1 : (0 : Int32) * 10 + hb t e a - 48 = hb t e a - 48 := by rw [Int32.zero_mul, Int32.zero_add]
    rw [v1] at g1
    generalize up ρ 1 2 (ρ 1 2 + 1) = z1 at *
    by_cases hz : hb t e a - 48 = 0
    · refine fin 0 1 z1 (a + 1) ?_ h1 m1 ?_
      · rw [l4, wl_go g1, if_pos hz, hz]
        exact wl_out (bc_out (Or.inr (Or.inl (show ¬ (1 : Int32) = 0 by decide))))
      · unfold rnum; rw [if_pos d, if_pos hz]
    · rw [if_neg hz] at g1
      by_cases d2 : dg (hb t e (a + 1)) = true
      · have g2 := bc_go (x := hb t e a - 48) k1 h1 d2
        have h2 := h1.inc (dg_out d2)
        have m2 : KS [2] ρ (up z1 1 2 (z1 1 2 + 1)) := (m1.trans KS.u).le (by decide)
        obtain ⟨i2, hi2, ej, ej'⟩ := dg_nn d2
        have v2 : (hb t e a - 48) * 10 + hb t e (a + 1) - 48 = 10 * (hb t e a - 48) + hb t e (a + 1) - 48 := by rw [Int32.mul_comm]
        have nz : ¬ 10 * (hb t e a - 48) + hb t e (a + 1) - 48 = 0 := by
          rw [ei', ej, n10]
          intro q
          have := nIinj (b := 0) (by omega) (by decide) q
          have hi0 : i = 0 := by omega
          exact hz (by rw [ei', hi0]; rfl)
        rw [v2, if_neg nz] at g2
        generalize up z1 1 2 (z1 1 2 + 1) = z2 at *
        by_cases d3 : dg (hb t e (a + 2)) = true
        · have g3 := bc_go (x := 10 * (hb t e a - 48) + hb t e (a + 1) - 48) k2 h2 d3
          have h3 := h2.inc (dg_out d3)
          have m3 : KS [2] ρ (up z2 1 2 (z2 1 2 + 1)) := (m2.trans KS.u).le (by decide)
          rw [Int32.mul_comm (10 * (hb t e a - 48) + hb t e (a + 1) - 48) 10] at g3
          generalize up z2 1 2 (z2 1 2 + 1) = z3 at *
          refine fin (10 * (10 * (hb t e a - 48) + hb t e (a + 1) - 48) + hb t e (a + 2) - 48) (if 10 * (10 * (hb t e a - 48) + hb t e (a + 1) - 48) + hb t e (a + 2) - 48 = 0 then 1 else 0) z3 (a + 3) ?_ h3 m3 ?_
          · rw [l4, wl_go g1, wl_go g2, wl_go g3]
            exact wl_out (bc_out (Or.inl k3))
          · unfold rnum; rw [if_pos d, if_neg hz, if_pos d2, if_pos d3]
        · refine fin (10 * (hb t e a - 48) + hb t e (a + 1) - 48) 0 z2 (a + 2) ?_ h2 m2 ?_
          · rw [l4, wl_go g1, wl_go g2]
            exact wl_out (bc_out (Or.inr (Or.inr (by show f_X1_digitIsHere z2 = 0; rw [h2.dig, if_neg d3]))))
          · unfold rnum; rw [if_pos d, if_neg hz, if_pos d2, if_neg d3]
      · refine fin (hb t e a - 48) 0 z1 (a + 1) ?_ h1 m1 ?_
        · rw [l4, wl_go g1]
          exact wl_out (bc_out (Or.inr (Or.inr (by show f_X1_digitIsHere z1 = 0; rw [h1.dig, if_neg d2]))))
        · unfold rnum; rw [if_pos d, if_neg hz, if_neg d2]
  · have e0 : f_X1_digitIsHere ρ = 0 := by rw [h.dig, if_neg d]
    have er : rnum (hb t e) a = (false, a, 0) := by unfold rnum; rw [if_neg d]
    rw [er]
    refine ⟨fun q => absurd q Bool.false_ne_true, fun _ => ?_⟩
    unfold f_X1_readNumber g_X1_readNumber
    rw [if_pos e0, if_pos e0]
    exact ⟨rfl, rfl, rfl⟩
/-- one of two signs, as the class asks for it -/
theorem cs_of {t : Nat → Int32} {e a m : Nat} {ρ : Gr} {c d : Int32} (h : CX t e ρ a) (hm0 : m ≠ 0) (hm2 : m ≠ 2) (hc : ¬ c = -1) (hc9 : ¬ c = -9) (hd : ¬ d = -1) (hd9 : ¬ d = -9) :
    let f := if f_X1_byteHere ρ = d then (if up ρ 1 m 1 1 m = 1 then f_X1_readSign (up ρ 1 m 1) d else f_X1_readSign (up ρ 1 m 1) c) else (if up ρ 1 m 0 1 m = 1 then f_X1_readSign (up ρ 1 m 0) d else f_X1_readSign (up ρ 1 m 0) c)
    let g := if f_X1_byteHere ρ = d then (if up ρ 1 m 1 1 m = 1 then g_X1_readSign (up ρ 1 m 1) d else g_X1_readSign (up ρ 1 m 1) c) else (if up ρ 1 m 0 1 m = 1 then g_X1_readSign (up ρ 1 m 0) d else g_X1_readSign (up ρ 1 m 0) c)
    ((rof (hb t e) a c d).1 = true → f = 1 ∧ CX t e g (rof (hb t e) a c d).2.1 ∧ KS [m, 2] ρ g ∧ g 1 m = (rof (hb t e) a c d).2.2) ∧ (¬ (rof (hb t e) a c d).1 = true → f = 0 ∧ CX t e g a ∧ KS [m, 2] ρ g ∧ (rof (hb t e) a c d).2.1 = a) := by
  intro f g
  have pu : ∀ x, CX t e (up ρ 1 m x) a := fun x => h.ks (KS.u (j := m)) (by rw [List.mem_singleton]; exact fun q => hm0 q.symm) h.2.2.2.1 (by rw [up0, if_neg (fun q => hm2 q.symm)]; exact h.2.2.2.2)
  have ku : ∀ x, KS [m] ρ (up ρ 1 m x) := fun x => KS.u
  have vu : ∀ x, up ρ 1 m x 1 m = x := fun x => by rw [up0, if_pos rfl]
  unfold rof
  by_cases q1 : hb t e a = d
  · have ef : f = f_X1_readSign (up ρ 1 m 1) d := by show (if _ then _ else _) = _; rw [if_pos ((h.is hd hd9).mpr q1), if_pos (vu 1)]
    have eg : g = g_X1_readSign (up ρ 1 m 1) d := by show (if _ then _ else _) = _; rw [if_pos ((h.is hd hd9).mpr q1), if_pos (vu 1)]
    obtain ⟨s1', s2, s3⟩ := (cs_sign (pu 1) hd hd9).1 q1
    rw [ef, eg, if_pos q1]
    refine ⟨fun _ => ⟨s1', s2, (ku 1).trans s3, ?_⟩, fun q => absurd rfl q⟩
    rw [s3.2 m (by rw [List.mem_singleton]; exact hm2)]; exact vu 1
  · have ef : f = f_X1_readSign (up ρ 1 m 0) c := by show (if _ then _ else _) = _; rw [if_neg (fun z => q1 ((h.is hd hd9).mp z)), if_neg (by rw [vu 0]; decide)]
    have eg : g = g_X1_readSign (up ρ 1 m 0) c := by show (if _ then _ else _) = _; rw [if_neg (fun z => q1 ((h.is hd hd9).mp z)), if_neg (by rw [vu 0]; decide)]
    rw [ef, eg, if_neg q1]
    by_cases q2 : hb t e a = c
    · obtain ⟨s1', s2, s3⟩ := (cs_sign (pu 0) hc hc9).1 q2
      rw [if_pos q2]
      refine ⟨fun _ => ⟨s1', s2, (ku 0).trans s3, ?_⟩, fun q => absurd rfl q⟩
      rw [s3.2 m (by rw [List.mem_singleton]; exact hm2)]; exact vu 0
    · obtain ⟨s1', s2⟩ := (cs_sign (pu 0) hc hc9).2 q2
      rw [if_neg q2, s2]
      exact ⟨fun q => absurd q Bool.false_ne_true, fun _ => ⟨s1', pu 0, (ku 0).le (fun j hj => by rw [List.mem_singleton] at hj; rw [hj]; exact List.mem_cons_self), rfl⟩⟩
theorem cs_kind {t : Nat → Int32} {e a : Nat} {ρ : Gr} (h : CX t e ρ a) :
    ((rof (hb t e) a 115 110).1 = true → f_X1_readKind ρ = 1 ∧ CX t e (g_X1_readKind ρ) (rof (hb t e) a 115 110).2.1 ∧ KS [6, 2] ρ (g_X1_readKind ρ) ∧ g_X1_readKind ρ 1 6 = (rof (hb t e) a 115 110).2.2) ∧ (¬ (rof (hb t e) a 115 110).1 = true → f_X1_readKind ρ = 0 ∧ CX t e (g_X1_readKind ρ) a ∧ KS [6, 2] ρ (g_X1_readKind ρ) ∧ (rof (hb t e) a 115 110).2.1 = a) :=
  cs_of (m := 6) h (by decide) (by decide) (by decide) (by decide) (by decide) (by decide)
theorem cs_stuff {t : Nat → Int32} {e a : Nat} {ρ : Gr} (h : CX t e ρ a) :
    ((rof (hb t e) a 83 77).1 = true → f_X1_readStuff ρ = 1 ∧ CX t e (g_X1_readStuff ρ) (rof (hb t e) a 83 77).2.1 ∧ KS [7, 2] ρ (g_X1_readStuff ρ) ∧ g_X1_readStuff ρ 1 7 = (rof (hb t e) a 83 77).2.2) ∧ (¬ (rof (hb t e) a 83 77).1 = true → f_X1_readStuff ρ = 0 ∧ CX t e (g_X1_readStuff ρ) a ∧ KS [7, 2] ρ (g_X1_readStuff ρ) ∧ (rof (hb t e) a 83 77).2.1 = a) :=
  cs_of (m := 7) h (by decide) (by decide) (by decide) (by decide) (by decide) (by decide)
