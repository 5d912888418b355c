/-- a way, as the class decides -/
theorem addWay_v {n nw nr : Nat} {v u : Gr} (I : IC n nw nr v) (R : RC n nw nr v u) (a b c d e : Int32) :
    f_X3_addWay v a b c d e = (if f_X7_areEnds u a b = 0 then -1 else if f_X6_isKind c = 0 then -1 else if f_X6_isStuff d = 0 then -1 else if 1 ≤ e then (if 100 < e then -6 else if u 0 8 = 24 then -6 else if f_X7_partsFrom u a c d + e ≤ 100 then nI nw else -3) else -4) ∧
    g_X3_addWay v a b c d e = (if f_X7_areEnds u a b = 0 then v else if f_X6_isKind c = 0 then v else if f_X6_isStuff d = 0 then v else if 1 ≤ e then (if 100 < e then v else if u 0 8 = 24 then v else if f_X7_partsFrom u a c d + e ≤ 100 then AW v nw a b c d e else v) else v) := by
  have hn := I.1.1
  have hw := I.1.2.1
  have x1 := I.2.1.1
  have x2 := I.2.1.2.1
  have eP : f_X5_together v a c d = f_X7_partsFrom u a c d := by rw [together_n I, parts_n I R]
  have eF := fullW I R
  have hk : (v 9 0).toNatClampNeg = nw := by rw [x2, nI_clamp (by omega)]
  have key : (if f_X6_isKind c = 0 then (-1 : Int32) else if f_X6_isStuff d = 0 then -1 else if 1 ≤ e then (if 100 < e then -6 else if f_X5_isFull v = 0 then (if f_X5_together v a c d + e ≤ 100 then f_X5_add v a b c d e else -3) else -6) else -4) = (if f_X6_isKind c = 0 then -1 else if f_X6_isStuff d = 0 then -1 else if 1 ≤ e then (if 100 < e then -6 else if u 0 8 = 24 then -6 else if f_X7_partsFrom u a c d + e ≤ 100 then nI nw else -3) else -4) ∧ (if f_X6_isKind c = 0 then v else if f_X6_isStuff d = 0 then v else if 1 ≤ e then (if 100 < e then v else if f_X5_isFull v = 0 then (if f_X5_together v a c d + e ≤ 100 then g_X5_add v a b c d e else v) else v) else v) = (if f_X6_isKind c = 0 then v else if f_X6_isStuff d = 0 then v else if 1 ≤ e then (if 100 < e then v else if u 0 8 = 24 then v else if f_X7_partsFrom u a c d + e ≤ 100 then AW v nw a b c d e else v) else v) := by
    rw [eP]
    by_cases q : u 0 8 = 24
    · have : ¬ f_X5_isFull v = 0 := by rw [eF, if_pos q]; decide
      rw [if_neg this, if_pos q, if_neg this, if_pos q]
      exact ⟨rfl, rfl⟩
    · have h0 : f_X5_isFull v = 0 := by rw [eF, if_neg q]
      have ef : f_X5_add v a b c d e = nI nw := by unfold f_X5_add; rw [if_pos h0]; exact x2
      have eg : g_X5_add v a b c d e = AW v nw a b c d e := by
        unfold g_X5_add AW
        rw [if_pos h0]
        dsimp only
        rw [hk, x2, nI_1]
      rw [if_pos h0, if_neg q, if_pos h0, if_neg q, ef, eg]
      exact ⟨rfl, rfl⟩
  unfold f_X3_addWay g_X3_addWay f_X7_areEnds
  dsimp only
  rw [cell_eq hn x1 R.1.1, cell_eq hn x1 R.1.1]
  by_cases h1 : f_X0_has v a = 0
  · rw [if_pos h1, if_pos h1, if_pos h1, if_pos rfl, if_pos rfl]; exact ⟨rfl, rfl⟩
  · rw [if_neg h1, if_neg h1, if_neg h1]
    by_cases h2 : f_X0_has v b = 0
    · rw [if_pos h2, if_pos h2, if_pos h2]
      by_cases h8 : b = 8
      · rw [if_pos h8, if_pos h8, if_pos h8]
        by_cases hab : a = b
        · rw [if_pos hab, if_pos hab, if_pos hab, if_pos rfl, if_pos rfl]; exact ⟨rfl, rfl⟩
        · rw [if_neg hab, if_neg hab, if_neg hab, if_neg (show ¬ (1 : Int32) = 0 by decide), if_neg (show ¬ (1 : Int32) = 0 by decide)]; exact key
      · rw [if_neg h8, if_neg h8, if_neg h8, if_pos rfl, if_pos rfl]; exact ⟨rfl, rfl⟩
    · have h8 : ¬ b = 8 := fun q => h2 (by rw [q]; exact has8 hn x1)
      rw [if_neg h2, if_neg h2, if_neg h8, if_neg h2]
      by_cases hab : a = b
      · rw [if_pos hab, if_pos hab, if_pos hab, if_pos rfl, if_pos rfl]; exact ⟨rfl, rfl⟩
      · rw [if_neg hab, if_neg hab, if_neg hab, if_neg (show ¬ (1 : Int32) = 0 by decide), if_neg (show ¬ (1 : Int32) = 0 by decide)]; exact key
theorem addRiver_v {n nw nr : Nat} {v u : Gr} (I : IC n nw nr v) (R : RC n nw nr v u) (a b c : Int32) :
    f_X3_addRiver v a b c = (if f_X7_isCell u a = 0 then -1 else if f_X6_isStuff b = 0 then -1 else if 1 ≤ c then (if 999 < c then -6 else if u 0 15 = 8 then -6 else nI nr) else -4) ∧
    g_X3_addRiver v a b c = (if f_X7_isCell u a = 0 then v else if f_X6_isStuff b = 0 then v else if 1 ≤ c then (if 999 < c then v else if u 0 15 = 8 then v else AR v nr a b c) else v) := by
  have hn := I.1.1
  have hr := I.1.2.2
  have x1 := I.2.1.1
  have x3 := I.2.1.2.2
  have eF := fullV I R
  have hk : (v 15 0).toNatClampNeg = nr := by rw [x3, nI_clamp (by omega)]
  unfold f_X3_addRiver g_X3_addRiver
  dsimp only
  rw [cell_eq hn x1 R.1.1]
  by_cases q : u 0 15 = 8
  · have : ¬ f_X4_isFull v = 0 := by rw [eF, if_pos q]; decide
    rw [if_neg this, if_pos q, if_neg this, if_pos q]
    exact ⟨rfl, rfl⟩
  · have h0 : f_X4_isFull v = 0 := by rw [eF, if_neg q]
    have ef : f_X4_add v a b c = nI nr := by unfold f_X4_add; rw [if_pos h0]; exact x3
    have eg : g_X4_add v a b c = AR v nr a b c := by
      unfold g_X4_add AR
      rw [if_pos h0]
      dsimp only
      rw [hk, x3, nI_1]
    rw [if_pos h0, if_neg q, if_pos h0, if_neg q, ef, eg]
    exact ⟨rfl, rfl⟩
theorem add_v {n nw nr : Nat} {v u : Gr} (I : IC n nw nr v) (R : RC n nw nr v u) (a b : Int32) :
    f_X0_add v a b = (if a < 1 then -4 else if 0 ≤ b then (if 99 < a then -6 else if 99 < b then -6 else if u 0 0 = 8 then -6 else nI n) else -4) ∧
    g_X0_add v a b = (if a < 1 then v else if 0 ≤ b then (if 99 < a then v else if 99 < b then v else if u 0 0 = 8 then v else AC v n a b) else v) := by
  have hn := I.1.1
  have x1 := I.2.1.1
  have hk : (v 1 0).toNatClampNeg = n := by rw [x1, nI_clamp (by omega)]
  unfold f_X0_add g_X0_add AC
  dsimp only
  rw [hk, x1, R.1.1, nI_1, if_neg (nI_pos (by omega)), if_neg (nI_pos (by omega))]
  by_cases q : n = 8
  · subst q
    rw [if_neg (show ¬ nI 8 < 8 by decide), if_neg (show ¬ nI 8 < 8 by decide), if_pos (show nI 8 = 8 from rfl), if_pos (show nI 8 = 8 from rfl)]
    exact ⟨rfl, rfl⟩
  · rw [if_pos (show nI n < 8 from nI_lt (b := 8) (by omega) (by decide)), if_pos (show nI n < 8 from nI_lt (b := 8) (by omega) (by decide)), if_neg (show ¬ nI n = 8 from fun z => q (nIinj (b := 8) (by omega) (by decide) z)), if_neg (show ¬ nI n = 8 from fun z => q (nIinj (b := 8) (by omega) (by decide) z))]
    exact ⟨rfl, rfl⟩
theorem rg_of {x lo hi : Int32} {a b : Nat} (ha : lo = nI a) (hb : hi = nI b) (hb' : b < 2 ^ 31) (hab : a ≤ b) (h1 : lo ≤ x) (h2 : ¬ hi < x) : rg x a b := by
  subst ha hb
  have h0 : ¬ x < 0 := fun q => by
    have a1 := Int32.le_iff_toInt_le.mp h1
    have a2 := Int32.lt_iff_toInt_lt.mp q
    rw [nI_toInt (by omega)] at a1
    have z0 : (0 : Int32).toInt = 0 := by decide
    omega
  obtain ⟨j, hj, rfl⟩ := nI_of h0
  have a1 := (nI_leI (by omega) hj).mp h1
  have a2 : ¬ b < j := fun q => h2 ((nI_ltI hb' hj).mpr q)
  exact ⟨j, a1, by omega, rfl⟩
theorem refb_neg {x : Int32} (hx : RN x) (s : Gr) : f_X6_refuseIfBelow0 s x = f_X6_refuse s x ∧ g_X6_refuseIfBelow0 s x = g_X6_refuse s x := by
  have : ¬ 0 ≤ x := by rcases hx with rfl | rfl | rfl | rfl | rfl <;> decide
  unfold f_X6_refuseIfBelow0 g_X6_refuseIfBelow0
  rw [if_neg this, if_neg this]; exact ⟨rfl, rfl⟩
theorem refb_pos {x : Int32} (hx : 0 ≤ x) (s : Gr) : f_X6_refuseIfBelow0 s x = x ∧ g_X6_refuseIfBelow0 s x = s := by
  unfold f_X6_refuseIfBelow0 g_X6_refuseIfBelow0
  rw [if_pos hx, if_pos hx]; exact ⟨rfl, rfl⟩
/-- the class added nothing: a refusal -/
theorem OK.refb {j : Nat} {σ : St} {x : Int32} (h : IV j σ) (hx : RN x) : OK j σ (f_X6_refuseIfBelow0 (setG σ 1 (σ 1) 0) x) (setG (setG σ 1 (σ 1)) 0 (g_X6_refuseIfBelow0 (setG σ 1 (σ 1) 0) x)) (f_X7_refuse (σ 4) x) (g_X7_refuse (σ 4) x) := by
  rw [setG_self, (refb_neg hx _).1, (refb_neg hx _).2]
  exact OK.ref h hx
/-- or something -/
theorem OK.addb {j : Nat} {σ : St} {x y : Int32} {ρ g7 : Gr} (h : IV j σ) (hx : 0 ≤ x) (e : x = y) (S : SIMc (j + 1) ρ g7) (k : WK (σ 4) g7) : OK j σ (f_X6_refuseIfBelow0 (setG σ 1 ρ 0) x) (setG (setG σ 1 ρ) 0 (g_X6_refuseIfBelow0 (setG σ 1 ρ 0) x)) y g7 := by
  rw [(refb_pos hx _).1, (refb_pos hx _).2]
  refine OK.of ?_ e ?_
  · rw [setG_ne (by decide), setG_ne (by decide)]
  · rw [setG_same, setG_ne (show (1 : Nat) ≠ 0 by decide), setG_same, setG_ne (show (3 : Nat) ≠ 0 by decide), setG_ne (show (3 : Nat) ≠ 1 by decide), setG_ne (show (0 : Nat) ≠ 1 by decide)]
    exact IVc.sim h (Nat.le_succ j) S k
theorem WK.of {w w' : Gr} (h : ∀ f, 28 < f → w' f = w f) (hs : ∀ j, 28 < j → w' 0 j = w 0 j) : WK w w' := ⟨h 29 (by decide), h 31 (by decide), h 33 (by decide), h 52 (by decide), hs 30 (by decide), hs 32 (by decide), hs 51 (by decide)⟩
theorem ok_cell {j : Nat} {σ : St} (h : IV j σ) (a b : Int32) : OK j σ (f_X6_cell σ a b) (g_X6_cell σ a b) (f_X7_cell (σ 4) a b) (g_X7_cell (σ 4) a b) := by
  obtain ⟨n, nw, nr, S, c1, c2⟩ := h.1
  have I := S.1
  have R := S.2.1
  obtain ⟨ef, eg⟩ := add_v I R a b
  unfold f_X6_cell g_X6_cell f_X7_cell g_X7_cell
  dsimp only
  rw [ef, eg]
  by_cases h1 : a < 1
  · simp only [if_pos h1]; exact OK.refb h r4
  · simp only [if_neg h1]
    by_cases h2 : 0 ≤ b
    · simp only [if_pos h2]
      by_cases h3 : 99 < a
      · simp only [if_pos h3]; exact OK.refb h r6
      · simp only [if_neg h3]
        by_cases h4 : 99 < b
        · simp only [if_pos h4]; exact OK.refb h r6
        · simp only [if_neg h4]
          by_cases h5 : σ 4 0 0 = 8
          · simp only [if_pos h5]; exact OK.refb h r6
          · simp only [if_neg h5]
            have hn8 : n < 8 := by
              have := I.1.1
              by_cases q : n = 8
              · exact absurd (by rw [R.1.1, q]; rfl) h5
              · omega
            have S' := (S.mono (Nat.mul_le_mul_left 200 (Nat.le_succ j)) (Nat.mul_le_mul_left 1598400 (Nat.le_succ j))).cell hn8 (rg_of (a := 1) rfl (hi := 99) rfl (by decide) (by decide) (Int32.not_lt.mp h1) h3) (rg_of (a := 0) rfl (hi := 99) rfl (by decide) (by decide) h2 h4)
            obtain ⟨⟨z0, zs⟩, _, _, _, _, _, _, _, zf⟩ := addc (u := σ 4) a b hn8 R.1.1
            refine OK.addb h (nI_pos' (by omega)) ?_ ⟨n + 1, nw, nr, S', ?_, ?_⟩ (WK.of (fun f hf => zf f (by omega)) (fun j hj => zs j (by omega)))
            · rw [z0, nI_pred]
            · rw [zs 24 (by decide)]; exact c1
            · rw [zs 34 (by decide)]; exact c2
    · simp only [if_neg h2]; exact OK.refb h r4
theorem ok_river {j : Nat} {σ : St} (h : IV j σ) (a b c : Int32) : OK j σ (f_X6_river σ a b c) (g_X6_river σ a b c) (f_X7_river (σ 4) a b c) (g_X7_river (σ 4) a b c) := by
  obtain ⟨n, nw, nr, S, c1, c2⟩ := h.1
  have I := S.1
  have R := S.2.1
  obtain ⟨ef, eg⟩ := addRiver_v I R a b c
  unfold f_X6_river g_X6_river f_X7_river g_X7_river
  dsimp only
  rw [ef, eg, stuff_eq]
  by_cases h1 : f_X7_isCell (σ 4) a = 0
  · simp only [if_pos h1]; exact OK.refb h r1
  · simp only [if_neg h1]
    by_cases h2 : f_X6_isStuff b = 0
    · simp only [if_pos h2]; exact OK.refb h r1
    · simp only [if_neg h2]
      by_cases h3 : 1 ≤ c
      · simp only [if_pos h3]
        by_cases h4 : 999 < c
        · simp only [if_pos h4]; exact OK.refb h r6
        · simp only [if_neg h4]
          by_cases h5 : σ 4 0 15 = 8
          · simp only [if_pos h5]; exact OK.refb h r6
          · simp only [if_neg h5]
            have hr8 : nr < 8 := by
              have := I.1.2.2
              by_cases q : nr = 8
              · exact absurd (by rw [R.1.2.2, q]; rfl) h5
              · omega
            rw [cell_eq I.1.1 I.2.1.1 R.1.1] at h1
            obtain ⟨s, hs, rfl⟩ := stuff_iff.mp h2
            have hc : rg c 0 999 := by
              obtain ⟨q, q1, q2, e⟩ := rg_of (a := 1) rfl (hi := 999) (b := 999) rfl (by decide) (by decide) h3 h4
              exact ⟨q, by omega, q2, e⟩
            have S' := (S.mono (Nat.mul_le_mul_left 200 (Nat.le_succ j)) (Nat.mul_le_mul_left 1598400 (Nat.le_succ j))).river c2 hr8 ((has_iff I.1.1 I.2.1.1).mp h1) ⟨s, by omega, by omega, rfl⟩ hc
            obtain ⟨⟨z0, zs⟩, _, _, _, zf⟩ := addr (u := σ 4) a (nI s) c hr8 R.1.2.2
            refine OK.addb h (nI_pos' (by omega)) ?_ ⟨n, nw, nr + 1, S', ?_, ?_⟩ (WK.of (fun f hf => zf f (by omega) (by omega)) (fun j hj => zs j (by omega)))
            · rw [z0, nI_pred]
            · rw [zs 24 (by decide)]; exact c1
            · rw [zs 34 (by decide)]; exact c2
      · simp only [if_neg h3]; exact OK.refb h r4
