/-! the class reads a moon and a statement -/
theorem bm_spec {t : Nat → Int32} {e a k : Nat} {v : Gr} (hk : k < 28) (h : CX t e v (a + k)) :
    ((hb t e (a + k) = 115 ∨ hb t e (a + k) = 110) → ∃ v', b_X1_readMoon_12 k v = (true, 0, 0, v') ∧ CX t e v' (a + (k + 1)) ∧ KS [2, 6, 10, 11] v v' ∧ v' 1 10 = v 1 10 + 1 ∧ v' 1 11 = v 1 11 ||| ((if hb t e (a + k) = 110 then (1 : Int32) else 0) <<< (nI k &&& 31))) ∧
    (¬ (hb t e (a + k) = 115 ∨ hb t e (a + k) = 110) → ∃ v', b_X1_readMoon_12 k v = (false, 56, 0, v') ∧ CX t e v' (a + k) ∧ KS [2, 6, 10, 11] v v' ∧ v' 1 10 = v 1 10 ∧ v' 1 11 = v 1 11) := by
  have h28 : ¬ 28 ≤ nI k := fun q => by have := (nI_leI (a := 28) (by decide) (by omega)).mp q; omega
  have K := cs_kind h
  refine ⟨fun q => ?_, fun q => ?_⟩
  · obtain ⟨f1, c1, k1, v1⟩ := K.1 (sn_rof.mpr q)
    obtain ⟨p1, p2⟩ := rof_v (sn_rof.mpr q)
    rw [p1] at c1
    rw [p2] at v1
    refine ⟨up (up (g_X1_readKind v) 1 11 ((g_X1_readKind v 1 11) ||| ((g_X1_readKind v 1 6) <<< ((nI k) &&& 31)))) 1 10 ((up (g_X1_readKind v) 1 11 ((g_X1_readKind v 1 11) ||| ((g_X1_readKind v 1 6) <<< ((nI k) &&& 31)))) 1 10 + 1), ?_, ?_, ?_, ?_, ?_⟩
    · unfold b_X1_readMoon_12
      rw [if_neg h28]
      dsimp only
      rw [if_neg (by rw [f1]; decide)]
    · refine c1.ks ((KS.u (j := 11)).trans (KS.u (j := 10))) (by decide) c1.2.2.2.1 ?_
      rw [up0, if_neg (by decide), up0, if_neg (by decide)]; exact c1.2.2.2.2
    · exact ((k1.trans KS.u).trans KS.u).le (by decide)
    · rw [up0, if_pos rfl, up0, if_neg (by decide), k1.2 10 (by decide)]
    · rw [up0, if_neg (by decide), up0, if_pos rfl, k1.2 11 (by decide), v1]
  · obtain ⟨f1, c1, k1, v1⟩ := K.2 (fun z => q (sn_rof.mp z))
    refine ⟨g_X1_readKind v, ?_, c1, k1.le (by decide), k1.2 10 (by decide), k1.2 11 (by decide)⟩
    unfold b_X1_readMoon_12
    rw [if_neg h28]
    dsimp only
    rw [if_pos f1]
theorem cm_run {t : Nat → Int32} {e a : Nat} : ∀ (m k : Nat) (v : Gr), k + m = 28 → CX t e v (a + k) → v 1 10 = nI k → v 1 11 = mbt (hb t e) a k →
    ∃ v', wl b_X1_readMoon_12 (m + 1) k v = (56, 0, v') ∧ CX t e v' (a + mcn (hb t e) a m k) ∧ KS [2, 6, 10, 11] v v' ∧ v' 1 10 = nI (mcn (hb t e) a m k) ∧ v' 1 11 = mbt (hb t e) a (mcn (hb t e) a m k) := by
  intro m
  induction m with
  | zero =>
    intro k v hk h h10 h11
    have hk : k = 28 := by omega
    subst hk
    refine ⟨v, ?_, h, KS.rfl', h10, h11⟩
    exact wl_out (by unfold b_X1_readMoon_12; rw [if_pos (by decide)])
  | succ m ih =>
    intro k v hk h h10 h11
    have B := bm_spec (k := k) (by omega) h
    by_cases q : hb t e (a + k) = 115 ∨ hb t e (a + k) = 110
    · obtain ⟨v1, g1, c1, k1, p1, p2⟩ := B.1 q
      have em : mcn (hb t e) a (m + 1) k = mcn (hb t e) a m (k + 1) := if_pos q
      obtain ⟨v2, g2, c2, k2, p3, p4⟩ := ih (k + 1) v1 (by omega) c1 (by rw [p1, h10, nI_1]) (by rw [p2, h11]; rfl)
      rw [em]
      exact ⟨v2, by rw [wl_go g1]; exact g2, c2, (k1.trans k2).le (by decide), p3, p4⟩
    · obtain ⟨v1, g1, c1, k1, p1, p2⟩ := B.2 q
      have em : mcn (hb t e) a (m + 1) k = k := if_neg q
      rw [em]
      exact ⟨v1, wl_out g1, c1, k1, p1.trans h10, p2.trans h11⟩
theorem cs_moon {t : Nat → Int32} {e a : Nat} {ρ : Gr} (h : CX t e ρ a) :
    CX t e (g_X1_readMoon ρ) (a + mcn (hb t e) a 28 0) ∧ KS [2, 6, 10, 11] ρ (g_X1_readMoon ρ) ∧ g_X1_readMoon ρ 1 10 = nI (mcn (hb t e) a 28 0) ∧ g_X1_readMoon ρ 1 11 = mbt (hb t e) a (mcn (hb t e) a 28 0) ∧ (f_X1_readMoon ρ = 0 ↔ mcn (hb t e) a 28 0 = 0) := by
  have k0 : KS [10, 11] ρ (up (up ρ 1 10 0) 1 11 0) := KS.u.trans KS.u
  have c0 : CX t e (up (up ρ 1 10 0) 1 11 0) (a + 0) := h.ks k0 (by decide) h.2.2.2.1 ((k0.2 2 (by decide)).trans h.2.2.2.2)
  obtain ⟨v', g, c, k, p1, p2⟩ := cm_run 28 0 _ rfl c0 (by rw [up0, if_neg (by decide), up0, if_pos rfl]; rfl) (by rw [up0, if_pos rfl]; rfl)
  have eg : g_X1_readMoon ρ = v' := by
    unfold g_X1_readMoon l_X1_readMoon_12
    dsimp only
    rw [nn_eq, g]
  have ef : f_X1_readMoon ρ = if v' 1 10 ≤ 0 then 0 else 1 := by
    unfold f_X1_readMoon l_X1_readMoon_12
    dsimp only
    rw [nn_eq, g]
  rw [eg]
  refine ⟨c, (k0.trans k).le (by decide), p1, p2, ?_⟩
  have hm := mcn_ge (hb t e) a 28 0
  rw [ef, p1]
  by_cases z : mcn (hb t e) a 28 0 = 0
  · rw [z]; exact ⟨fun _ => rfl, fun _ => by decide⟩
  · rw [if_neg (nI_nle (by omega) (by omega))]
    exact ⟨fun q => absurd q (by decide), fun q => absurd q z⟩
def SSv (l : Int32) (g : Gr) (n : Int32 × Int32 × Int32 × Int32 × Int32) : Prop := g 1 3 = l ∧ (l = 99 → g 1 9 = n.1 ∧ g 1 8 = n.2.1) ∧ (l = 119 → g 1 5 = n.1 ∧ g 1 4 = n.2.1 ∧ g 1 6 = n.2.2.1 ∧ g 1 7 = n.2.2.2.1 ∧ g 1 8 = n.2.2.2.2) ∧ (l = 114 → g 1 4 = n.1 ∧ g 1 7 = n.2.1 ∧ g 1 8 = n.2.2.1) ∧ (l = 109 → g 1 11 = n.1 ∧ g 1 10 = n.2.1)
/-- behind a statement, in the class -/
def SS (t : Nat → Int32) (e a : Nat) (ρ : Gr) (p : S5) (f : Int32) (g : Gr) : Prop := (p.1 = true → f = 1 ∧ SSv (hb t e a) g p.2.2) ∧ (¬ p.1 = true → f = 0) ∧ CX t e g p.2.1 ∧ ∀ f, f ≠ 1 → g f = ρ f
theorem SS.no {S : List Nat} {t : Nat → Int32} {e a c : Nat} {ρ g : Gr} {p : S5} (hp : p = nofit c) (h : CX t e g c) (k : KS S ρ g) : SS t e a ρ p 0 g := by
  subst hp
  exact ⟨fun q => absurd q Bool.false_ne_true, fun _ => rfl, h, k.1⟩
theorem SS.end {S : List Nat} {t : Nat → Int32} {e a c : Nat} {ρ g : Gr} {p : S5} {n : Int32 × Int32 × Int32 × Int32 × Int32} (hp : p = rend (hb t e) c n) (h : CX t e g c) (k : KS S ρ g) (hv : ∀ g', KS [2] g g' → SSv (hb t e a) g' n) : SS t e a ρ p (if f_X1_readSign g 59 = 0 then 0 else 1) (g_X1_readSign g 59) := by
  subst hp
  have K := cs_sign (x := 59) h (by decide) (by decide)
  unfold rend
  by_cases q : hb t e c = 59
  · obtain ⟨k1, k2, k3⟩ := K.1 q
    rw [if_pos q, if_neg (by rw [k1]; decide)]
    exact ⟨fun _ => ⟨rfl, hv _ k3⟩, fun z => absurd rfl z, k2, (k.trans k3).1⟩
  · obtain ⟨k1, k2⟩ := K.2 q
    rw [if_neg q, if_pos k1, k2]
    exact ⟨fun z => absurd z Bool.false_ne_true, fun _ => rfl, h, k.1⟩
