/-! what a statement gives -/
/-- the old ones are as they were -/
def OLD (n nw nr : Nat) (w u : Gr) : Prop := (∀ f i, i < n → 1 ≤ f ∧ f ≤ 5 → u f i = w f i) ∧ (∀ f i, i < 2 * n → 6 ≤ f ∧ f ≤ 7 → u f i = w f i) ∧ (∀ f i, i < nw → 9 ≤ f ∧ f ≤ 14 → u f i = w f i) ∧ (∀ f i, i < nr → 16 ≤ f ∧ f ≤ 18 → u f i = w f i) ∧ (∀ f, 20 ≤ f → u f = w f) ∧ ∀ j, 20 < j → u 0 j = w 0 j
theorem OLD.rf {n nw nr : Nat} {w : Gr} : OLD n nw nr w w := ⟨fun _ _ _ _ => rfl, fun _ _ _ _ => rfl, fun _ _ _ _ => rfl, fun _ _ _ _ => rfl, fun _ _ => rfl, fun _ _ => rfl⟩
theorem OLD.trans {n nw nr n' nw' nr' : Nat} {a b c : Gr} (h : OLD n nw nr a b) (k : OLD n' nw' nr' b c) (hn : n ≤ n') (hw : nw ≤ nw') (hr : nr ≤ nr') : OLD n nw nr a c :=
  ⟨fun f i hi hf => (k.1 f i (by omega) hf).trans (h.1 f i hi hf), fun f i hi hf => (k.2.1 f i (by omega) hf).trans (h.2.1 f i hi hf), fun f i hi hf => (k.2.2.1 f i (by omega) hf).trans (h.2.2.1 f i hi hf), fun f i hi hf => (k.2.2.2.1 f i (by omega) hf).trans (h.2.2.2.1 f i hi hf), fun f hf => (k.2.2.2.2.1 f hf).trans (h.2.2.2.2.1 f hf), fun j hj => (k.2.2.2.2.2 j hj).trans (h.2.2.2.2.2 j hj)⟩
theorem addc_old {u : Gr} {n nw nr : Nat} (a b : Int32) (hn : n < 8) (hu : u 0 0 = nI n) : OLD n nw nr u (g_X7_addCell u a b) := by
  obtain ⟨⟨z0, zs⟩, e1, e2, e3, e4, e5, e6, e7, zf⟩ := addc (u := u) a b hn hu
  refine ⟨fun f i hi hf => ?_, fun f i hi hf => ?_, fun f i hi hf => ?_, fun f i hi hf => ?_, fun f hf => zf f (by omega), fun j hj => zs j (by omega)⟩
  · have : f = 1 ∨ f = 2 ∨ f = 3 ∨ f = 4 ∨ f = 5 := by omega
    rcases this with rfl | rfl | rfl | rfl | rfl
    · rw [e1, pk_un (by omega)]
    · rw [e2, pk_un (by omega)]
    · rw [e3, pk_un (by omega)]
    · rw [e4, pk_un (by omega)]
    · rw [e5, pk_un (by omega)]
  · have : f = 6 ∨ f = 7 := by omega
    rcases this with rfl | rfl
    · rw [e6, pk_un (by omega), pk_un (by omega)]
    · rw [e7, pk_un (by omega), pk_un (by omega)]
  · rw [zf f (by omega)]
  · rw [zf f (by omega)]
theorem addw_old {u : Gr} {n nw nr : Nat} (a b c d e : Int32) (hn : nw < 24) (hu : u 0 8 = nI nw) : OLD n nw nr u (g_X7_addWay u a b c d e) := by
  obtain ⟨⟨z0, zs⟩, e9, e10, e11, e12, e13, e14, zf⟩ := addw (u := u) a b c d e hn hu
  refine ⟨fun f i hi hf => by rw [zf f (by omega) (by omega)], fun f i hi hf => by rw [zf f (by omega) (by omega)], fun f i hi hf => ?_, fun f i hi hf => by rw [zf f (by omega) (by omega)], fun f hf => zf f (by omega) (by omega), fun j hj => zs j (by omega)⟩
  have : f = 9 ∨ f = 10 ∨ f = 11 ∨ f = 12 ∨ f = 13 ∨ f = 14 := by omega
  rcases this with rfl | rfl | rfl | rfl | rfl | rfl
  · rw [e9, pk_un (by omega)]
  · rw [e10, pk_un (by omega)]
  · rw [e11, pk_un (by omega)]
  · rw [e12, pk_un (by omega)]
  · rw [e13, pk_un (by omega)]
  · rw [e14, pk_un (by omega)]
theorem addr_old {u : Gr} {n nw nr : Nat} (a b c : Int32) (hn : nr < 8) (hu : u 0 15 = nI nr) : OLD n nw nr u (g_X7_addRiver u a b c) := by
  obtain ⟨⟨z0, zs⟩, e16, e17, e18, zf⟩ := addr (u := u) a b c hn hu
  refine ⟨fun f i hi hf => by rw [zf f (by omega) (by omega)], fun f i hi hf => by rw [zf f (by omega) (by omega)], fun f i hi hf => by rw [zf f (by omega) (by omega)], fun f i hi hf => ?_, fun f hf => zf f (by omega) (by omega), fun j hj => zs j (by omega)⟩
  have : f = 16 ∨ f = 17 ∨ f = 18 := by omega
  rcases this with rfl | rfl | rfl
  · rw [e16, pk_un (by omega)]
  · rw [e17, pk_un (by omega)]
  · rw [e18, pk_un (by omega)]
/-- the class's half and the reference's, held together -/
def GV (n nw nr B M : Nat) (τ : St) (u : Gr) (f6 : Int32) (g6 : St) (f7 : Int32) (g7 : Gr) : Prop :=
  (f6 = 0 ∧ f7 = 0 ∧ g7 = u ∧ ∀ f, f ≠ 2 → g6 f = τ f) ∨ (¬ f6 = 0 ∧ ¬ f7 = 0 ∧ (∀ f, f ≠ 2 → g6 f = τ f) ∧ OLD n nw nr u g7 ∧ ∃ n' nw' nr', n ≤ n' ∧ nw ≤ nw' ∧ nr ≤ nr' ∧ SIM n' nw' nr' B M (g6 2) g7 ∧ g6 2 19 0 = τ 2 19 0)
theorem in_lo {x : Int32} {a b : Int32} (h : f_X7_in x.toInt64 a.toInt64 b.toInt64 = 0) : x < a ∨ b < x := by
  by_cases q : x < a
  · exact Or.inl q
  · by_cases z : b < x
    · exact Or.inr z
    · exact absurd h (in_ii.mpr ⟨Int32.not_lt.mp q, Int32.not_lt.mp z⟩)
theorem give_c {n nw nr B M k : Nat} {τ : St} {u : Gr} (S : SIM n nw nr B M (τ 2) u) (hk : k ≤ 47) (l6 : τ 0 1 3 = 99) (l7 : u 48 k = 99) (e9 : u 49 (5 * k) = τ 0 1 9) (e8 : u 49 (5 * k + 1) = τ 0 1 8) : GV n nw nr B M τ u (f_X1_giveTo τ) (g_X1_giveTo τ) (f_X7_comes u (nI k)) (g_X7_comes u (nI k)) := by
  have I := S.1
  have R := S.2.1
  obtain ⟨ef, eg⟩ := add_v I R (τ 0 1 9) (τ 0 1 8)
  have i0 := i50 (x := nI k) rfl hk
  have i1 := i5s (x := nI k) rfl hk 1 (by decide)
  rw [show (nI 1 : Int32) = 1 from rfl] at i1
  unfold f_X1_giveTo g_X1_giveTo f_X7_comes g_X7_comes
  dsimp only
  rw [nI_clamp (by omega), i0, i1, if_pos l6, if_pos l6, if_pos l7, if_pos l7, e9, e8, ef, eg]
  generalize τ 0 1 9 = x
  generalize τ 0 1 8 = y
  have bad : ∀ z : Int32, z < 0 → GV n nw nr B M τ u (if z < 0 then 0 else 1) (setG τ 2 (τ 2)) 0 u := fun z hz => by
    rw [if_pos hz]; exact Or.inl ⟨rfl, rfl, rfl, fun f hf => setG_ne hf⟩
  by_cases h1 : x < 1
  · have z : f_X7_in x.toInt64 1 99 = 0 := Decidable.byContradiction (fun q => by have := (in_ii (x := x) (a := 1) (b := 99)).mp q; exact absurd this.1 (Int32.not_le.mpr h1))
    simp only [if_pos h1, if_pos z]; exact bad _ (by decide)
  · simp only [if_neg h1]
    by_cases h3 : 99 < x
    · have z : f_X7_in x.toInt64 1 99 = 0 := Decidable.byContradiction (fun q => by have := (in_ii (x := x) (a := 1) (b := 99)).mp q; exact absurd h3 (Int32.not_lt.mpr this.2))
      simp only [if_pos z, if_pos h3]
      by_cases h2 : 0 ≤ y
      · simp only [if_pos h2]; exact bad _ (by decide)
      · simp only [if_neg h2]; exact bad _ (by decide)
    · have z : ¬ f_X7_in x.toInt64 1 99 = 0 := (in_ii (x := x) (a := 1) (b := 99)).mpr ⟨Int32.not_lt.mp h1, Int32.not_lt.mp h3⟩
      simp only [if_neg z, if_neg h3]
      by_cases h2 : 0 ≤ y
      · simp only [if_pos h2]
        by_cases h4 : 99 < y
        · have z : f_X7_in y.toInt64 0 99 = 0 := Decidable.byContradiction (fun q => by have := (in_ii (x := y) (a := 0) (b := 99)).mp q; exact absurd h4 (Int32.not_lt.mpr this.2))
          simp only [if_pos z, if_pos h4]; exact bad _ (by decide)
        · have z : ¬ f_X7_in y.toInt64 0 99 = 0 := (in_ii (x := y) (a := 0) (b := 99)).mpr ⟨h2, Int32.not_lt.mp h4⟩
          simp only [if_neg z, if_neg h4]
          by_cases h5 : u 0 0 = 8
          · simp only [if_pos h5]; exact bad _ (by decide)
          · simp only [if_neg h5]
            have hn8 : n < 8 := by
              have := I.1.1
              by_cases q : n = 8
              · exact absurd (by rw [R.1.1, q]; rfl) h5
              · omega
            have S' := S.cell hn8 (rg_of (a := 1) rfl (hi := 99) rfl (by decide) (by decide) (Int32.not_lt.mp h1) h3) (rg_of (a := 0) rfl (hi := 99) rfl (by decide) (by decide) h2 h4)
            rw [if_neg (nI_pos (by omega))]
            refine Or.inr ⟨by decide, by decide, fun f hf => setG_ne hf, addc_old x y hn8 R.1.1, n + 1, nw, nr, by omega, Nat.le_refl _, Nat.le_refl _, ?_, ?_⟩
            · rw [setG_same]; exact S'
            · rw [setG_same]; rfl
      · have z : f_X7_in y.toInt64 0 99 = 0 := Decidable.byContradiction (fun q => by have := (in_ii (x := y) (a := 0) (b := 99)).mp q; exact h2 this.1)
        simp only [if_pos z, if_neg h2]; exact bad _ (by decide)
theorem give_r {n nw nr B M k : Nat} {τ : St} {u : Gr} (S : SIM n nw nr B M (τ 2) u) (c2 : u 0 34 = -1) (hk : k ≤ 47) (l6 : τ 0 1 3 = 114) (l7 : u 48 k = 114) (e4 : u 49 (5 * k) = τ 0 1 4) (e7 : u 49 (5 * k + 1) = τ 0 1 7) (e8 : u 49 (5 * k + 2) = τ 0 1 8) (hs : rg (τ 0 1 7) 0 1) : GV n nw nr B M τ u (f_X1_giveTo τ) (g_X1_giveTo τ) (f_X7_comes u (nI k)) (g_X7_comes u (nI k)) := by
  have I := S.1
  have R := S.2.1
  obtain ⟨ef, eg⟩ := addRiver_v I R (τ 0 1 4) (τ 0 1 7) (τ 0 1 8)
  have i0 := i50 (x := nI k) rfl hk
  have i1 := i5s (x := nI k) rfl hk 1 (by decide)
  have i2 := i5s (x := nI k) rfl hk 2 (by decide)
  rw [show (nI 1 : Int32) = 1 from rfl] at i1
  rw [show (nI 2 : Int32) = 2 from rfl] at i2
  have a99 : ¬ τ 0 1 3 = 99 := by rw [l6]; decide
  have b99 : ¬ u 48 k = 99 := by rw [l7]; decide
  unfold f_X1_giveTo g_X1_giveTo f_X7_comes g_X7_comes
  dsimp only
  rw [nI_clamp (by omega), i0, i1, i2, if_neg a99, if_neg a99, if_pos l6, if_pos l6, if_neg b99, if_neg b99, if_pos l7, if_pos l7, e4, e7, e8, ef, eg]
  generalize τ 0 1 4 = x at *
  generalize τ 0 1 7 = y at *
  generalize τ 0 1 8 = c at *
  have bad : ∀ z : Int32, z < 0 → GV n nw nr B M τ u (if z < 0 then 0 else 1) (setG τ 2 (τ 2)) 0 u := fun z hz => by
    rw [if_pos hz]; exact Or.inl ⟨rfl, rfl, rfl, fun f hf => setG_ne hf⟩
  obtain ⟨s, _, hs1, rfl⟩ := hs
  have hst : ¬ f_X6_isStuff (nI s) = 0 := stuff_iff.mpr ⟨s, by omega, rfl⟩
  by_cases h1 : f_X7_isCell u x = 0
  · simp only [if_pos h1]; exact bad _ (by decide)
  · simp only [if_neg h1, if_neg hst]
    by_cases h3 : 1 ≤ c
    · simp only [if_pos h3]
      by_cases h4 : 999 < c
      · have z : f_X7_in c.toInt64 1 999 = 0 := Decidable.byContradiction (fun q => by have := (in_ii (x := c) (a := 1) (b := 999)).mp q; exact absurd h4 (Int32.not_lt.mpr this.2))
        simp only [if_pos h4, if_pos z]; exact bad _ (by decide)
      · have z : ¬ f_X7_in c.toInt64 1 999 = 0 := (in_ii (x := c) (a := 1) (b := 999)).mpr ⟨h3, Int32.not_lt.mp h4⟩
        simp only [if_neg h4, if_neg z]
        by_cases h5 : u 0 15 = 8
        · simp only [if_pos h5]; exact bad _ (by decide)
        · simp only [if_neg h5]
          have hr8 : nr < 8 := by
            have := I.1.2.2
            by_cases q : nr = 8
            · exact absurd (by rw [R.1.2.2, q]; rfl) h5
            · omega
          rw [cell_eq I.1.1 I.2.1.1 R.1.1] at h1
          have hc : rg c 0 999 := by
            obtain ⟨q, q1, q2, e⟩ := rg_of (a := 1) rfl (hi := 999) (b := 999) rfl (by decide) (by decide) h3 h4
            exact ⟨q, by omega, q2, e⟩
          have S' := S.river c2 hr8 ((has_iff I.1.1 I.2.1.1).mp h1) ⟨s, by omega, by omega, rfl⟩ hc
          rw [if_neg (nI_pos (by omega))]
          refine Or.inr ⟨by decide, by decide, fun f hf => setG_ne hf, addr_old x (nI s) c hr8 R.1.2.2, n, nw, nr + 1, Nat.le_refl _, Nat.le_refl _, by omega, ?_, ?_⟩
          · rw [setG_same]; exact S'
          · rw [setG_same]; rfl
    · have z : f_X7_in c.toInt64 1 999 = 0 := Decidable.byContradiction (fun q => by have := (in_ii (x := c) (a := 1) (b := 999)).mp q; exact h3 this.1)
      simp only [if_neg h3, if_pos z]; exact bad _ (by decide)
theorem isKind_rg {c : Int32} (h : rg c 0 1) : ¬ f_X6_isKind c = 0 := by
  obtain ⟨s, _, hs, rfl⟩ := h
  have : s = 0 ∨ s = 1 := by omega
  rcases this with rfl | rfl <;> decide
theorem give_w {n nw nr B M k : Nat} {τ : St} {u : Gr} (S : SIM n nw nr B M (τ 2) u) (hk : k ≤ 47) (l6 : τ 0 1 3 = 119) (l7 : u 48 k = 119) (e5 : u 49 (5 * k) = τ 0 1 5) (e4 : u 49 (5 * k + 1) = τ 0 1 4) (e6 : u 49 (5 * k + 2) = τ 0 1 6) (e7 : u 49 (5 * k + 3) = τ 0 1 7) (e8 : u 49 (5 * k + 4) = τ 0 1 8) (hc : rg (τ 0 1 6) 0 1) (hs : rg (τ 0 1 7) 0 1) : GV n nw nr B M τ u (f_X1_giveTo τ) (g_X1_giveTo τ) (f_X7_comes u (nI k)) (g_X7_comes u (nI k)) := by
  have I := S.1
  have R := S.2.1
  obtain ⟨ef, eg⟩ := addWay_v I R (τ 0 1 5) (τ 0 1 4) (τ 0 1 6) (τ 0 1 7) (τ 0 1 8)
  have i0 := i50 (x := nI k) rfl hk
  have i1 := i5s (x := nI k) rfl hk 1 (by decide)
  have i2 := i5s (x := nI k) rfl hk 2 (by decide)
  have i3 := i5s (x := nI k) rfl hk 3 (by decide)
  have i4 := i5s (x := nI k) rfl hk 4 (by decide)
  rw [show (nI 1 : Int32) = 1 from rfl] at i1
  rw [show (nI 2 : Int32) = 2 from rfl] at i2
  rw [show (nI 3 : Int32) = 3 from rfl] at i3
  rw [show (nI 4 : Int32) = 4 from rfl] at i4
  have a99 : ¬ τ 0 1 3 = 99 := by rw [l6]; decide
  have b99 : ¬ u 48 k = 99 := by rw [l7]; decide
  have a114 : ¬ τ 0 1 3 = 114 := by rw [l6]; decide
  have b114 : ¬ u 48 k = 114 := by rw [l7]; decide
  unfold f_X1_giveTo g_X1_giveTo f_X7_comes g_X7_comes
  dsimp only
  rw [nI_clamp (by omega), i0, i1, i2, i3, i4, if_neg a99, if_neg a99, if_neg a114, if_neg a114, if_pos l6, if_pos l6, if_neg b99, if_neg b99, if_neg b114, if_neg b114, if_pos l7, if_pos l7, e5, e4, e6, e7, e8, ef, eg]
  generalize τ 0 1 5 = a at *
  generalize τ 0 1 4 = b at *
  generalize τ 0 1 6 = c at *
  generalize τ 0 1 7 = d at *
  generalize τ 0 1 8 = e at *
  have bad : ∀ z : Int32, z < 0 → GV n nw nr B M τ u (if z < 0 then 0 else 1) (setG τ 2 (τ 2)) 0 u := fun z hz => by
    rw [if_pos hz]; exact Or.inl ⟨rfl, rfl, rfl, fun f hf => setG_ne hf⟩
  have hst : ¬ f_X6_isStuff d = 0 := by
    obtain ⟨s, _, hs1, rfl⟩ := hs
    exact stuff_iff.mpr ⟨s, by omega, rfl⟩
  have hkd := isKind_rg hc
  by_cases h1 : f_X7_areEnds u a b = 0
  · simp only [if_pos h1]; exact bad _ (by decide)
  · simp only [if_neg h1, if_neg hst, if_neg hkd]
    by_cases h3 : 1 ≤ e
    · simp only [if_pos h3]
      by_cases h4 : 100 < e
      · have z : f_X7_in e.toInt64 1 100 = 0 := Decidable.byContradiction (fun q => by have := (in_ii (x := e) (a := 1) (b := 100)).mp q; exact absurd h4 (Int32.not_lt.mpr this.2))
        simp only [if_pos h4, if_pos z]; exact bad _ (by decide)
      · have z : ¬ f_X7_in e.toInt64 1 100 = 0 := (in_ii (x := e) (a := 1) (b := 100)).mpr ⟨h3, Int32.not_lt.mp h4⟩
        simp only [if_neg h4, if_neg z]
        by_cases h5 : u 0 8 = 24
        · simp only [if_pos h5]; exact bad _ (by decide)
        · simp only [if_neg h5]
          by_cases h6 : f_X7_partsFrom u a c d + e ≤ 100
          · simp only [if_pos h6]
            have hw24 : nw < 24 := by
              have := I.1.2.1
              by_cases q : nw = 24
              · exact absurd (by rw [R.1.2.1, q]; rfl) h5
              · omega
            obtain ⟨m, hm1, hm2, rfl⟩ := rg_of (a := 1) rfl (hi := 100) (b := 100) rfl (by decide) (by decide) h3 h4
            have hP := I.2.2.2.2.1 a c d
            rw [parts_n I R, nI_add] at h6
            have hp := (nI_leI (b := 100) (by omega) (by decide)).mp h6
            obtain ⟨ha, hb⟩ := ends_iff I.1.1 I.2.1.1 R.1.1 h1
            have S' := S.way hw24 ha hb hc hs ⟨hm1, hm2⟩ hp
            rw [if_neg (nI_pos (by omega))]
            refine Or.inr ⟨by decide, by decide, fun f hf => setG_ne hf, addw_old a b c d (nI m) hw24 R.1.2.1, n, nw + 1, nr, Nat.le_refl _, by omega, Nat.le_refl _, ?_, ?_⟩
            · rw [setG_same]; exact S'
            · rw [setG_same]; rfl
          · simp only [if_neg h6]; exact bad _ (by decide)
    · have z : f_X7_in e.toInt64 1 100 = 0 := Decidable.byContradiction (fun q => by have := (in_ii (x := e) (a := 1) (b := 100)).mp q; exact h3 this.1)
      simp only [if_neg h3, if_pos z]; exact bad _ (by decide)
theorem give_m {n nw nr B M k m : Nat} {τ : St} {u : Gr} (S : SIM n nw nr B M (τ 2) u) (hk : k ≤ 47) (l6 : τ 0 1 3 = 109) (l7 : u 48 k = 109) (e11 : u 49 (5 * k) = τ 0 1 11) (e10 : u 49 (5 * k + 1) = τ 0 1 10) (hm : τ 0 1 10 = nI m) (hm1 : 1 ≤ m) (hm2 : m ≤ 28) : GV n nw nr B M τ u (f_X1_giveTo τ) (g_X1_giveTo τ) (f_X7_comes u (nI k)) (g_X7_comes u (nI k)) := by
  have i0 := i50 (x := nI k) rfl hk
  have i1 := i5s (x := nI k) rfl hk 1 (by decide)
  rw [show (nI 1 : Int32) = 1 from rfl] at i1
  have a99 : ¬ τ 0 1 3 = 99 := by rw [l6]; decide
  have b99 : ¬ u 48 k = 99 := by rw [l7]; decide
  have a114 : ¬ τ 0 1 3 = 114 := by rw [l6]; decide
  have b114 : ¬ u 48 k = 114 := by rw [l7]; decide
  have a119 : ¬ τ 0 1 3 = 119 := by rw [l6]; decide
  have b119 : ¬ u 48 k = 119 := by rw [l7]; decide
  unfold f_X1_giveTo g_X1_giveTo f_X7_comes g_X7_comes
  dsimp only
  rw [nI_clamp (by omega), i0, i1, if_neg a99, if_neg a99, if_neg a114, if_neg a114, if_neg a119, if_neg a119, if_neg b99, if_neg b99, if_neg b114, if_neg b114, if_neg b119, if_neg b119, e11, e10, hm]
  generalize u 49 (5 * nI k + 2).toNatClampNeg = y5
  obtain ⟨k1, k2⟩ := moonL (f := b_X7_comes_255 (nI k) (5 * nI k) (τ 0 1 11) (nI m) y5) (bits := τ 0 1 11) (fun k v hk => by unfold b_X7_comes_255; rw [nI_clamp (by omega)]) (up u 0 20 (nI m)) m hm2
  have e : l_X7_comes_255 (nI k) (5 * nI k) (τ 0 1 11) (nI m) y5 (up u 0 20 (nI m)) = itn (b_X7_comes_255 (nI k) (5 * nI k) (τ 0 1 11) (nI m) y5) m (up u 0 20 (nI m)) := by unfold l_X7_comes_255; rw [nI_clamp (by omega)]
  rw [e]
  generalize itn (b_X7_comes_255 (nI k) (5 * nI k) (τ 0 1 11) (nI m) y5) m (up u 0 20 (nI m)) = g7 at *
  have c : ∀ f, f ≠ 0 → f ≠ 19 → g7 f = u f := fun f h0 h19 => (k2 f h19).trans (up_ne h0)
  refine Or.inr ⟨by decide, by decide, fun f hf => setG_ne hf, ⟨fun f i hi hf => by rw [c f (by omega) (by omega)], fun f i hi hf => by rw [c f (by omega) (by omega)], fun f i hi hf => by rw [c f (by omega) (by omega)], fun f i hi hf => by rw [c f (by omega) (by omega)], fun f hf => c f (by omega) (by omega), fun j hj => by rw [k2 0 (by decide), s0 j (by omega)]⟩, n, nw, nr, Nat.le_refl _, Nat.le_refl _, Nat.le_refl _, ?_, ?_⟩
  · rw [setG_same]
    exact S.moon (len := nI m) (bits := τ 0 1 11) rfl ⟨m, hm1, hm2, rfl⟩ c (fun j hj => by rw [k2 0 (by decide), s0 j hj]) (by rw [k2 0 (by decide), s1]) (fun t ht hlt => k1 t ((nI_ltI (by omega) (by omega)).mp hlt))
  · rw [setG_same]; rfl
