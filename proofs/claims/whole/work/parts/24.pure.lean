theorem sett_v {c : Nat} (v : Gr) (hc : c < 8) : f_X0_settledIn v (nI c) = v 8 c + v 8 (8 + c) := by
  unfold f_X0_settledIn
  rw [if_neg (nI_pos (by omega)), if_pos (show nI c < 8 from nI_lt (b := 8) hc (by decide)), nI_clamp (by omega), show (8 : Int32) = nI 8 from rfl, nI_add, nI_clamp (by omega)]
theorem sett_eq {n c : Nat} {v u : Gr} (hn : n ≤ 8) (h : TR n v u) (hc : c < n) : f_X7_settledIn u (nI c) = f_X0_settledIn v (nI c) := by
  rw [sett_v v (by omega)]
  unfold f_X7_settledIn
  rw [show (2 * nI c).toNatClampNeg = 2 * c + 0 by rw [show (2 : Int32) = nI 2 from rfl, pk_mul, nI_clamp (by omega)]; rfl, show (2 * nI c + 1).toNatClampNeg = 2 * c + 1 from ix2c (s := 1) (by omega) (by decide), (h c 0 hc (by decide)).2, (h c 1 hc (by decide)).2]
  rw [show 8 * 0 + c = c by omega]
theorem max0 (z : Int32) : (if 0 ≤ z then z else 0) = if 0 < z then z else 0 := by
  by_cases h : 0 < z
  · rw [if_pos h, if_pos (Int32.le_of_lt h)]
  · rw [if_neg h]
    by_cases h2 : 0 ≤ z
    · rw [if_pos h2]; exact Int32.le_antisymm (Int32.not_lt.mp h) h2
    · rw [if_neg h2]
theorem depth_eq {n nw nr c : Nat} {v u : Gr} (I : IC n nw nr v) (R : RC n nw nr v u) (h : TR n v u) (hc : c < n) : f_X7_depthOf u (nI c) = f_X0_depthOf v (nI c) := by
  have hn := I.1.1
  unfold f_X7_depthOf f_X0_depthOf f_X6_depthAbove
  dsimp only
  rw [if_neg (nI_pos (by omega)), if_pos (show nI c < 8 from nI_lt (b := 8) (by omega) (by decide)), sett_eq hn h hc, nI_clamp (by omega), (R.2.1 c hc).1, max0]
theorem lackv {c : Nat} (v : Gr) (hc : c < 8) : f_X0_lackOf v (nI c) = v 3 c - f_X0_depthOf v (nI c) := by
  unfold f_X0_lackOf f_X0_depthOf
  rw [if_neg (nI_pos (by omega)), if_pos (show nI c < 8 from nI_lt (b := 8) (by omega) (by decide)), if_neg (nI_pos (by omega)), if_pos (show nI c < 8 from nI_lt (b := 8) (by omega) (by decide)), nI_clamp (by omega)]
theorem lack_eq {n nw nr c : Nat} {v u : Gr} (I : IC n nw nr v) (R : RC n nw nr v u) (h : TR n v u) (hc : c < n) : f_X7_lacksOf u (nI c) = f_X0_lackOf v (nI c) := by
  have hn := I.1.1
  rw [lackv v (by omega)]
  unfold f_X7_lacksOf
  rw [depth_eq I R h hc, nI_clamp (by omega), (R.2.1 c hc).2.1]
/-- the cell that lacks most -/
def NP (n : Nat) (v : Gr) (d : Int32) (k : Nat) (b : Int32) (p : Int32 × Int32) : Prop := p.2 = b ∧ ((b = -9 ∧ p.1 = 0) ∨ (∃ c, c < n ∧ b = nI c ∧ ¬ b = d ∧ p.1 = f_X0_lackOf v (nI c) ∧ 0 < p.1))
theorem near_sim {n nw nr : Nat} {v u : Gr} (I : IC n nw nr v) (R : RC n nw nr v u) (h : TR n v u) : f_X7_lackingMost u = f_X0_nearest v (v 19 1) ∧ (f_X0_nearest v (v 19 1) = -9 ∨ ∃ c, c < n ∧ f_X0_nearest v (v 19 1) = nI c ∧ ¬ f_X0_nearest v (v 19 1) = v 19 1) := by
  have hn := I.1.1
  have hb : (v 1 0).toNatClampNeg = n := by rw [I.2.1.1, nI_clamp (by omega)]
  have hb' : (u 0 0).toNatClampNeg = n := by rw [R.1.1, nI_clamp (by omega)]
  have k := itn_2 (f := b_X7_lackingMost_5 u) (g := b_X0_nearest_8 v (v 19 1)) (N := n) (NP n v (v 19 1)) (fun k b p hk hp => by
    obtain ⟨p1, p2⟩ := p
    obtain ⟨e2, hp⟩ := hp
    dsimp only at e2 hp
    subst e2
    have eL := lack_eq I R h hk
    unfold b_X7_lackingMost_5 b_X0_nearest_8 NP
    dsimp only
    rw [eL, R.2.2.2.2.1.1]
    generalize hL : f_X0_lackOf v (nI k) = L at eL ⊢
    have new : 0 < L → ¬ nI k = v 19 1 → (L, nI k).2 = nI k ∧ ((nI k = -9 ∧ (L, nI k).1 = 0) ∨ (∃ c, c < n ∧ nI k = nI c ∧ ¬ nI k = v 19 1 ∧ (L, nI k).1 = f_X0_lackOf v (nI c) ∧ 0 < (L, nI k).1)) := fun h1 h2 => ⟨rfl, Or.inr ⟨k, hk, rfl, h2, hL.symm, h1⟩⟩
    have old : (p1, p2).2 = p2 ∧ ((p2 = -9 ∧ (p1, p2).1 = 0) ∨ (∃ c, c < n ∧ p2 = nI c ∧ ¬ p2 = v 19 1 ∧ (p1, p2).1 = f_X0_lackOf v (nI c) ∧ 0 < (p1, p2).1)) := ⟨rfl, hp⟩
    by_cases hd : nI k = v 19 1
    · rw [if_pos hd, if_pos hd, ite_self, ite_self, ite_self]
      exact old
    · rw [if_neg hd, if_neg hd]
      rcases hp with ⟨e, z⟩ | ⟨c, hc, e, hne, el, hpos⟩
      · rw [if_pos (show p2 < 0 by rw [e]; decide), z]
        by_cases h0 : L ≤ 0
        · rw [if_pos h0, if_pos h0]; rw [z] at old; exact old
        · rw [if_neg h0, if_neg h0]; exact new (Int32.not_le.mp h0) hd
      · rw [if_neg (show ¬ p2 < 0 by rw [e]; exact nI_pos (by omega))]
        have e3 : f_X7_lacksOf u p2 = p1 := by rw [e, lack_eq I R h hc]; exact el.symm
        rw [e3]
        by_cases h0 : L ≤ p1
        · rw [if_pos h0, if_pos h0, ite_self]; exact old
        · have h1 : p1 < L := Int32.not_le.mp h0
          have h2 : 0 < L := Int32.lt_trans hpos h1
          rw [if_neg h0, if_neg h0, if_neg (Int32.not_le.mpr h2)]
          exact new h2 hd) n (-9) (0, -9) (Nat.le_refl _) ⟨rfl, Or.inl ⟨rfl, rfl⟩⟩
  have e1 : f_X7_lackingMost u = itn (b_X7_lackingMost_5 u) n (-9) := by unfold f_X7_lackingMost l_X7_lackingMost_5; rw [hb']
  have e2 : f_X0_nearest v (v 19 1) = (itn (b_X0_nearest_8 v (v 19 1)) n (0, -9)).2 := by unfold f_X0_nearest l_X0_nearest_8; rw [hb]
  obtain ⟨k1, k2⟩ := k
  rw [e1, e2, k1]
  refine ⟨rfl, ?_⟩
  rcases k2 with ⟨e, _⟩ | ⟨c, hc, e, hne, _⟩
  · exact Or.inl e
  · exact Or.inr ⟨c, hc, e, hne⟩
/-- the cell with most settled -/
def NF (n : Nat) (v : Gr) (d : Int32) (k : Nat) (b : Int32) (p : Int32 × Int32) : Prop := p.2 = b ∧ ((b = -9 ∧ p.1 = -1) ∨ (∃ c, c < n ∧ b = nI c ∧ ¬ b = d ∧ p.1 = f_X0_settledIn v (nI c)))
theorem sett_nn {n M c : Nat} {v : Gr} (t : TZ n M v) (hM : M < 2 ^ 30) (hc : c < 8) : ¬ f_X0_settledIn v (nI c) ≤ -1 := by
  obtain ⟨a, ea, ha, ea'⟩ := t.n8 (h := c) (by omega)
  obtain ⟨b, eb, hb, eb'⟩ := t.n8 (h := 8 + c) (by omega)
  have h1 := t.le (h := c) (by omega)
  have h2 := t.le (h := 8 + c) (by omega)
  rw [sett_v v hc, ea, eb, nI_add]
  intro q
  have := Int32.le_iff_toInt_le.mp q
  rw [nI_toInt (by omega)] at this
  have z : (-1 : Int32).toInt = -1 := by decide
  omega
theorem full_sim {n nw nr M : Nat} {v u : Gr} (I : IC n nw nr v) (R : RC n nw nr v u) (h : TR n v u) (t : TZ n M v) (hM : M < 2 ^ 30) : f_X7_deepest u = f_X0_fullest v (v 19 1) ∧ (f_X0_fullest v (v 19 1) = -9 ∨ ∃ c, c < n ∧ f_X0_fullest v (v 19 1) = nI c ∧ ¬ f_X0_fullest v (v 19 1) = v 19 1) := by
  have hn := I.1.1
  have hb : (v 1 0).toNatClampNeg = n := by rw [I.2.1.1, nI_clamp (by omega)]
  have hb' : (u 0 0).toNatClampNeg = n := by rw [R.1.1, nI_clamp (by omega)]
  have k := itn_2 (f := b_X7_deepest_5 u) (g := b_X0_fullest_8 v (v 19 1)) (N := n) (NF n v (v 19 1)) (fun k b p hk hp => by
    obtain ⟨p1, p2⟩ := p
    obtain ⟨e2, hp⟩ := hp
    dsimp only at e2 hp
    subst e2
    have eL := lack_eq I R h hk
    have eS := sett_eq hn h hk
    have hS := sett_nn t hM (show k < 8 by omega)
    unfold b_X7_deepest_5 b_X0_fullest_8 NF
    dsimp only
    rw [eL, eS, R.2.2.2.2.1.1]
    generalize f_X0_lackOf v (nI k) = L at eL ⊢
    generalize hSS : f_X0_settledIn v (nI k) = S at eS hS ⊢
    have new : ¬ nI k = v 19 1 → (S, nI k).2 = nI k ∧ ((nI k = -9 ∧ (S, nI k).1 = -1) ∨ (∃ c, c < n ∧ nI k = nI c ∧ ¬ nI k = v 19 1 ∧ (S, nI k).1 = f_X0_settledIn v (nI c))) := fun h2 => ⟨rfl, Or.inr ⟨k, hk, rfl, h2, hSS.symm⟩⟩
    have old : (p1, p2).2 = p2 ∧ ((p2 = -9 ∧ (p1, p2).1 = -1) ∨ (∃ c, c < n ∧ p2 = nI c ∧ ¬ p2 = v 19 1 ∧ (p1, p2).1 = f_X0_settledIn v (nI c))) := ⟨rfl, hp⟩
    by_cases hd : nI k = v 19 1
    · rw [if_pos hd, if_pos hd, ite_self, ite_self, ite_self]
      exact old
    · rw [if_neg hd, if_neg hd]
      by_cases h0 : L ≤ -2
      · rw [if_pos h0, if_pos h0]; exact old
      · rw [if_neg h0, if_neg h0]
        rcases hp with ⟨e, z⟩ | ⟨c, hc, e, hne, el⟩
        · rw [if_pos (show p2 < 0 by rw [e]; decide), z, if_neg hS]; exact new hd
        · rw [if_neg (show ¬ p2 < 0 by rw [e]; exact nI_pos (by omega))]
          have e3 : f_X7_settledIn u p2 = p1 := by rw [e, sett_eq hn h hc]; exact el.symm
          rw [e3]
          by_cases h1 : S ≤ p1
          · rw [if_pos h1, if_pos h1]; exact old
          · rw [if_neg h1, if_neg h1]; exact new hd) n (-9) (-1, -9) (Nat.le_refl _) ⟨rfl, Or.inl ⟨rfl, rfl⟩⟩
  have e1 : f_X7_deepest u = itn (b_X7_deepest_5 u) n (-9) := by unfold f_X7_deepest l_X7_deepest_5; rw [hb']
  have e2 : f_X0_fullest v (v 19 1) = (itn (b_X0_fullest_8 v (v 19 1)) n (-1, -9)).2 := by unfold f_X0_fullest l_X0_fullest_8; rw [hb]
  obtain ⟨k1, k2⟩ := k
  rw [e1, e2, k1]
  refine ⟨rfl, ?_⟩
  rcases k2 with ⟨e, _⟩ | ⟨c, hc, e, hne, _⟩
  · exact Or.inl e
  · exact Or.inr ⟨c, hc, e, hne⟩
/-- the plan's cell: the reference says none where the class says the place of the drop -/
def PL (n : Nat) (d a b : Int32) : Prop := a = (if b = d then -9 else b) ∧ (b = -9 ∨ ∃ c, c < n ∧ b = nI c)
theorem PL.of {n : Nat} {d a b : Int32} (hd : ¬ d = -9) (e : a = b) (h : b = -9 ∨ ∃ c, c < n ∧ b = nI c ∧ ¬ b = d) : PL n d a b := by
  rcases h with h | ⟨c, hc, e1, e2⟩
  · exact ⟨by rw [e, h, if_neg (fun q => hd q.symm)], Or.inl h⟩
  · exact ⟨by rw [e, if_neg e2], Or.inr ⟨c, hc, e1⟩⟩
theorem n9_ne {n c : Nat} (hc : c < n) (hn : n ≤ 8) : ¬ (nI c : Int32) = -9 := fun q => by
  have h := congrArg Int32.toInt q
  rw [nI_toInt (by omega)] at h
  have z : (-9 : Int32).toInt = -9 := by decide
  omega
theorem drop_ne {n : Nat} {v : Gr} (D : DIv n v) (hn : n ≤ 8) : ¬ v 19 1 = -9 := by
  rcases D.2.1 with e | ⟨c, hc, e⟩
  · rw [e]; decide
  · rw [e]; exact n9_ne hc hn
theorem told_lt {n : Nat} {v : Gr} (D : DIv n v) (h1 : 1 ≤ n) : ∃ c, c < n ∧ v 19 3 = nI c := by
  rcases D.2.2.2.1 with e | h
  · exact ⟨0, by omega, e⟩
  · exact h
theorem plan_sim {n nw nr M : Nat} {v u : Gr} {kind : Int32} (I : IC n nw nr v) (R : RC n nw nr v u) (h : TR n v u) (t : TZ n M v) (hM : M < 2 ^ 30) (h1 : 1 ≤ n) (hk : kind = 0 ∨ kind = 1) : PL n (v 19 1) (f_X7_chosen u kind) (f_X3_plannedCell v kind) := by
  have hn := I.1.1
  have D := I.2.2.2.2.2.2.1
  obtain ⟨r25, r26, r27, _⟩ := R.2.2.2.2.1
  obtain ⟨a1, a2⟩ := near_sim I R h
  obtain ⟨b1, b2⟩ := full_sim I R h t hM
  have hd := drop_ne D hn
  obtain ⟨c, hc, ec⟩ := told_lt D h1
  have none : PL n (v 19 1) (-9) (-9) := PL.of hd rfl (Or.inl rfl)
  have near : PL n (v 19 1) (f_X7_lackingMost u) (f_X0_nearest v (v 19 1)) := PL.of hd a1 a2
  have full : PL n (v 19 1) (f_X7_deepest u) (f_X0_fullest v (v 19 1)) := PL.of hd b1 b2
  unfold f_X7_chosen f_X3_plannedCell
  dsimp only
  rw [r25, r26, r27]
  have k01 : kind = 1 ↔ ¬ kind = 0 := by
    rcases hk with e | e <;> (rw [e]; decide)
  by_cases ht : v 19 3 = v 19 1
  · have told : PL n (v 19 1) (-9) (v 19 3) := ⟨by rw [if_pos ht], Or.inr ⟨c, hc, ec⟩⟩
    rw [if_pos ht]
    by_cases p0 : v 19 2 = 0
    · rw [if_pos p0, if_pos p0]; exact near
    · rw [if_neg p0, if_neg p0]
      by_cases p1 : v 19 2 = 1
      · rw [if_pos p1, if_pos p1]
        by_cases q : kind = 1
        · rw [if_pos q, if_pos q]; exact near
        · rw [if_neg q, if_neg q]; exact none
      · rw [if_neg p1, if_neg p1]
        by_cases p2 : v 19 2 = 2
        · rw [if_pos p2, if_pos p2]; exact told
        · rw [if_neg p2, if_neg p2]
          by_cases p3 : v 19 2 = 3
          · rw [if_pos p3, if_pos p3]; exact full
          · rw [if_neg p3, if_neg p3]
            by_cases q : kind = 1
            · rw [if_pos q, if_neg (k01.mp q)]; exact near
            · rw [if_neg q, if_pos (Decidable.not_not.mp (mt k01.mpr q))]; exact told
  · have told : PL n (v 19 1) (v 19 3) (v 19 3) := ⟨by rw [if_neg ht], Or.inr ⟨c, hc, ec⟩⟩
    rw [if_neg ht]
    by_cases p0 : v 19 2 = 0
    · rw [if_pos p0, if_pos p0]; exact near
    · rw [if_neg p0, if_neg p0]
      by_cases p1 : v 19 2 = 1
      · rw [if_pos p1, if_pos p1]
        by_cases q : kind = 1
        · rw [if_pos q, if_pos q]; exact near
        · rw [if_neg q, if_neg q]; exact none
      · rw [if_neg p1, if_neg p1]
        by_cases p2 : v 19 2 = 2
        · rw [if_pos p2, if_pos p2]; exact told
        · rw [if_neg p2, if_neg p2]
          by_cases p3 : v 19 2 = 3
          · rw [if_pos p3, if_pos p3]; exact full
          · rw [if_neg p3, if_neg p3]
            by_cases q : kind = 1
            · rw [if_pos q, if_neg (k01.mp q)]; exact near
            · rw [if_neg q, if_pos (Decidable.not_not.mp (mt k01.mpr q))]; exact told
