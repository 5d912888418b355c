theorem tdT (x : Int32) {d : Int32} {k : Int} (hd : d.toInt = k) (hk : 2 ≤ k) : (x / d).toInt = x.toInt.tdiv k := by
  rw [Int32.toInt_div, hd]
  have h1 := Int32.le_toInt x
  have h2 := Int32.toInt_lt x
  have h3 : -2 ^ 31 ≤ x.toInt.tdiv k ∧ x.toInt.tdiv k < 2 ^ 31 := by
    by_cases q : 0 ≤ x.toInt
    · rw [Int.tdiv_eq_ediv_of_nonneg q]
      have a1 := Int.ediv_nonneg q (show 0 ≤ k by omega)
      have a2 := Int.ediv_le_self k q
      omega
    · have e : x.toInt.tdiv k = -((-x.toInt) / k) := by
        rw [← Int.tdiv_eq_ediv_of_nonneg (show 0 ≤ -x.toInt by omega), Int.neg_tdiv, Int.neg_neg]
      rw [e]
      have a1 := Int.ediv_nonneg (show 0 ≤ -x.toInt by omega) (show 0 ≤ k by omega)
      have a2 := Int.ediv_le_self k (show 0 ≤ -x.toInt by omega)
      omega
  rw [Int.bmod_eq_of_le (by omega) (by omega)]
theorem told_neg {x : Int32} (hx : x < 0) (h0 : x - x / 10 * 10 = 0) (hs : ¬ f_X6_isStuff (x / 10 - x / 10 / 10 * 10) = 0) (hk : ¬ f_X6_isKind (x / 100) = 0) : False := by
  have hx' := Int32.lt_iff_toInt_lt.mp hx
  have z0 : (0 : Int32).toInt = 0 := by decide
  have b1 := Int32.le_toInt x
  have eK := tdT x (d := 100) (k := 100) (by decide) (by decide)
  have e10 := tdT x (d := 10) (k := 10) (by decide) (by decide)
  have e := congrArg Int32.toInt h0
  rw [Int32.toInt_sub, Int32.toInt_mul, e10] at e
  have k1 : x.toInt.tdiv 10 = -((-x.toInt) / 10) := by
    rw [← Int.tdiv_eq_ediv_of_nonneg (show 0 ≤ -x.toInt by omega), Int.neg_tdiv, Int.neg_neg]
  have k2 : x.toInt.tdiv 100 = -((-x.toInt) / 100) := by
    rw [← Int.tdiv_eq_ediv_of_nonneg (show 0 ≤ -x.toInt by omega), Int.neg_tdiv, Int.neg_neg]
  have z10 : (10 : Int32).toInt = 10 := by decide
  rw [z10, Int.bmod_eq_of_le (m := 2 ^ 32) (n := x.toInt.tdiv 10 * 10) (by omega) (by omega), Int.bmod_eq_of_le (by omega) (by omega), z0] at e
  have hkk : x.toInt.tdiv 100 = 0 ∨ x.toInt.tdiv 100 = 1 := by
    obtain ⟨s, hs', es⟩ := stuff_iff.mp hk
    have := congrArg Int32.toInt es
    rw [eK, nI_toInt (by omega)] at this
    omega
  obtain ⟨s, hs', es⟩ := stuff_iff.mp hs
  have f := congrArg Int32.toInt es
  have e100 := tdT (x / 10) (d := 10) (k := 10) (by decide) (by decide)
  rw [e10] at e100
  have k3 : (x.toInt.tdiv 10).tdiv 10 = -((-(x.toInt.tdiv 10)) / 10) := by
    rw [← Int.tdiv_eq_ediv_of_nonneg (show 0 ≤ -(x.toInt.tdiv 10) by omega), Int.neg_tdiv, Int.neg_neg]
  rw [Int32.toInt_sub, Int32.toInt_mul, e100, e10, z10, nI_toInt (by omega), Int.bmod_eq_of_le (m := 2 ^ 32) (n := (x.toInt.tdiv 10).tdiv 10 * 10) (by omega) (by omega), Int.bmod_eq_of_le (by omega) (by omega)] at f
  omega
theorem told_pos {m : Nat} (hm : m < 2 ^ 31) : (nI m - nI m / 10 * 10 = nI (m % 10)) ∧ nI m / 100 = nI (m / 100) ∧ (nI m / 10 - nI m / 10 / 10 * 10 = nI (m / 10 % 10)) := by
  refine ⟨pk_rem (d := 10) hm (by decide) (by decide), pk_div (d := 100) hm (by decide) (by decide), ?_⟩
  have e : nI m / 10 = nI (m / 10) := pk_div (d := 10) hm (by decide) (by decide)
  rw [e]; exact pk_rem (d := 10) (by omega) (by decide) (by decide)
/-- what a way's kind and stuff are told by -/
theorem told_iff (x : Int32) : (x - x / 10 * 10 = 0 ∧ ¬ f_X6_isKind (x / 100) = 0 ∧ ¬ f_X6_isStuff (x / 10 - x / 10 / 10 * 10) = 0) ↔ (x = 0 ∨ x = 10 ∨ x = 100 ∨ x = 110) := by
  constructor
  · rintro ⟨h0, hk, hs⟩
    by_cases hx : x < 0
    · exact absurd (told_neg hx h0 hs hk) id
    · obtain ⟨m, hm, rfl⟩ := nI_of hx
      obtain ⟨e1, e2, e3⟩ := told_pos hm
      rw [e1] at h0
      rw [e2] at hk
      rw [e3] at hs
      obtain ⟨k, hk', ek⟩ := stuff_iff.mp hk
      obtain ⟨s, hs', es⟩ := stuff_iff.mp hs
      have q0 := nIinj (b := 0) (by omega) (by decide) h0
      have q1 := nIinj (by omega) (by omega) ek
      have q2 := nIinj (by omega) (by omega) es
      have : m = 0 ∨ m = 10 ∨ m = 100 ∨ m = 110 := by omega
      rcases this with rfl | rfl | rfl | rfl
      · exact Or.inl rfl
      · exact Or.inr (Or.inl rfl)
      · exact Or.inr (Or.inr (Or.inl rfl))
      · exact Or.inr (Or.inr (Or.inr rfl))
  · intro h
    rcases h with rfl | rfl | rfl | rfl <;> decide
theorem kind_rg {x : Int32} (h : ¬ f_X6_isKind x = 0) : rg x 0 1 := by
  obtain ⟨s, hs, e⟩ := stuff_iff.mp h
  exact ⟨s, by omega, by omega, e⟩
theorem ends_iff {n : Nat} {v u : Gr} {a b : Int32} (hn : n ≤ 8) (hv : v 1 0 = nI n) (hw : u 0 0 = nI n) (h : ¬ f_X7_areEnds u a b = 0) : (∃ x, x < n ∧ a = nI x) ∧ (b = 8 ∨ ∃ x, x < n ∧ b = nI x) := by
  unfold f_X7_areEnds at h
  rw [cell_eq hn hv hw, cell_eq hn hv hw] at h
  by_cases h1 : f_X0_has v a = 0
  · rw [if_pos h1] at h; exact absurd rfl h
  · rw [if_neg h1] at h
    refine ⟨(has_iff hn hv).mp h1, ?_⟩
    by_cases h2 : b = 8
    · exact Or.inl h2
    · rw [if_neg h2] at h
      by_cases h3 : f_X0_has v b = 0
      · rw [if_pos h3] at h; exact absurd rfl h
      · exact Or.inr ((has_iff hn hv).mp h3)
theorem ok_way {j : Nat} {σ : St} (h : IV j σ) (a b x e : Int32) : OK j σ (f_X6_way σ a b x e) (g_X6_way σ a b x e) (f_X7_way (σ 4) a b x e) (g_X7_way (σ 4) a b x e) := by
  obtain ⟨n, nw, nr, S, c1, c2⟩ := h.1
  have I := S.1
  have R := S.2.1
  obtain ⟨ef, eg⟩ := addWay_v I R a b (x / 100) (x / 10 - x / 10 / 10 * 10) e
  have T7 : ∀ (P : Int32) (G : Gr), (x = 0 ∨ x = 10 ∨ x = 100 ∨ x = 110) → f_X7_way (σ 4) a b x e = (if f_X7_areEnds (σ 4) a b = 0 then f_X7_refuse (σ 4) (-1) else if 1 ≤ e then (if 100 < e then f_X7_refuse (σ 4) (-6) else if σ 4 0 8 = 24 then f_X7_refuse (σ 4) (-6) else if f_X7_partsFrom (σ 4) a (x / 100) (x / 10 - x / 10 / 10 * 10) + e ≤ 100 then g_X7_addWay (σ 4) a b (x / 100) (x / 10 - x / 10 / 10 * 10) e 0 8 - 1 else f_X7_refuse (σ 4) (-3)) else f_X7_refuse (σ 4) (-4)) ∧ g_X7_way (σ 4) a b x e = (if f_X7_areEnds (σ 4) a b = 0 then g_X7_refuse (σ 4) (-1) else if 1 ≤ e then (if 100 < e then g_X7_refuse (σ 4) (-6) else if σ 4 0 8 = 24 then g_X7_refuse (σ 4) (-6) else if f_X7_partsFrom (σ 4) a (x / 100) (x / 10 - x / 10 / 10 * 10) + e ≤ 100 then g_X7_addWay (σ 4) a b (x / 100) (x / 10 - x / 10 / 10 * 10) e else g_X7_refuse (σ 4) (-3)) else g_X7_refuse (σ 4) (-4)) := by
    intro _ _ hx
    unfold f_X7_way g_X7_way
    dsimp only
    by_cases q0 : x = 0
    · rw [if_pos q0, if_pos q0]; exact ⟨rfl, rfl⟩
    · rw [if_neg q0, if_neg q0]
      by_cases q1 : x = 10
      · rw [if_pos q1, if_pos q1]; exact ⟨rfl, rfl⟩
      · rw [if_neg q1, if_neg q1]
        by_cases q2 : x = 100
        · rw [if_pos q2, if_pos q2]; exact ⟨rfl, rfl⟩
        · rw [if_neg q2, if_neg q2, if_pos (((hx.resolve_left q0).resolve_left q1).resolve_left q2), if_pos (((hx.resolve_left q0).resolve_left q1).resolve_left q2)]; exact ⟨rfl, rfl⟩
  have N7 : ¬ (x = 0 ∨ x = 10 ∨ x = 100 ∨ x = 110) → f_X7_way (σ 4) a b x e = f_X7_refuse (σ 4) (-1) ∧ g_X7_way (σ 4) a b x e = g_X7_refuse (σ 4) (-1) := by
    intro hx
    unfold f_X7_way g_X7_way
    dsimp only
    rw [if_neg (fun q => hx (Or.inl q)), if_neg (fun q => hx (Or.inl q)), if_neg (fun q => hx (Or.inr (Or.inl q))), if_neg (fun q => hx (Or.inr (Or.inl q))), if_neg (fun q => hx (Or.inr (Or.inr (Or.inl q)))), if_neg (fun q => hx (Or.inr (Or.inr (Or.inl q)))), if_neg (fun q => hx (Or.inr (Or.inr (Or.inr q)))), if_neg (fun q => hx (Or.inr (Or.inr (Or.inr q)))), ite_self, ite_self]
    exact ⟨rfl, rfl⟩
  unfold f_X6_way g_X6_way
  dsimp only
  by_cases h0 : x - x / 10 * 10 = 0
  · rw [if_pos h0, if_pos h0, ef, eg]
    by_cases hx : x = 0 ∨ x = 10 ∨ x = 100 ∨ x = 110
    · obtain ⟨_, hk, hs⟩ := (told_iff x).mpr hx
      rw [(T7 0 (σ 4) hx).1, (T7 0 (σ 4) hx).2]
      by_cases h1 : f_X7_areEnds (σ 4) a b = 0
      · simp only [if_pos h1]; exact OK.refb h r1
      · simp only [if_neg h1, if_neg hk, if_neg hs]
        by_cases h3 : 1 ≤ e
        · simp only [if_pos h3]
          by_cases h4 : 100 < e
          · simp only [if_pos h4]; exact OK.refb h r6
          · simp only [if_neg h4]
            by_cases h5 : σ 4 0 8 = 24
            · simp only [if_pos h5]; exact OK.refb h r6
            · simp only [if_neg h5]
              by_cases h6 : f_X7_partsFrom (σ 4) a (x / 100) (x / 10 - x / 10 / 10 * 10) + e ≤ 100
              · simp only [if_pos h6]
                have hw24 : nw < 24 := by
                  have := I.1.2.1
                  by_cases q : nw = 24
                  · exact absurd (by rw [R.1.2.1, q]; rfl) h5
                  · omega
                obtain ⟨m, hm1, hm2, rfl⟩ := rg_of (a := 1) rfl (hi := 100) (b := 100) rfl (by decide) (by decide) h3 h4
                have hP := I.2.2.2.2.1 a (x / 100) (x / 10 - x / 10 / 10 * 10)
                rw [parts_n I R, nI_add] at h6
                have hp := (nI_leI (b := 100) (by omega) (by decide)).mp h6
                obtain ⟨ha, hb⟩ := ends_iff I.1.1 I.2.1.1 R.1.1 h1
                have S' := (S.mono (Nat.mul_le_mul_left 200 (Nat.le_succ j)) (Nat.mul_le_mul_left 1598400 (Nat.le_succ j))).way hw24 ha hb (kind_rg hk) (kind_rg hs) ⟨hm1, hm2⟩ hp
                obtain ⟨⟨z0, zs⟩, _, _, _, _, _, _, zf⟩ := addw (u := σ 4) a b (x / 100) (x / 10 - x / 10 / 10 * 10) (nI m) hw24 R.1.2.1
                refine OK.addb h (nI_pos' (by omega)) ?_ ⟨n, nw + 1, nr, S', ?_, ?_⟩ (WK.of (fun f hf => zf f (by omega) (by omega)) (fun j hj => zs j (by omega)))
                · rw [z0, nI_pred]
                · rw [zs 24 (by decide)]; exact c1
                · rw [zs 34 (by decide)]; exact c2
              · simp only [if_neg h6]; exact OK.refb h r3
        · simp only [if_neg h3]; exact OK.refb h r4
    · rw [(N7 hx).1, (N7 hx).2]
      have hn : (if f_X7_areEnds (σ 4) a b = 0 then (-1 : Int32) else if f_X6_isKind (x / 100) = 0 then -1 else if f_X6_isStuff (x / 10 - x / 10 / 10 * 10) = 0 then -1 else if 1 ≤ e then (if 100 < e then -6 else if σ 4 0 8 = 24 then -6 else if f_X7_partsFrom (σ 4) a (x / 100) (x / 10 - x / 10 / 10 * 10) + e ≤ 100 then nI nw else -3) else -4) = -1 ∧ (if f_X7_areEnds (σ 4) a b = 0 then σ 1 else if f_X6_isKind (x / 100) = 0 then σ 1 else if f_X6_isStuff (x / 10 - x / 10 / 10 * 10) = 0 then σ 1 else if 1 ≤ e then (if 100 < e then σ 1 else if σ 4 0 8 = 24 then σ 1 else if f_X7_partsFrom (σ 4) a (x / 100) (x / 10 - x / 10 / 10 * 10) + e ≤ 100 then AW (σ 1) nw a b (x / 100) (x / 10 - x / 10 / 10 * 10) e else σ 1) else σ 1) = σ 1 := by
        by_cases q1 : f_X7_areEnds (σ 4) a b = 0
        · rw [if_pos q1, if_pos q1]; exact ⟨rfl, rfl⟩
        · rw [if_neg q1, if_neg q1]
          by_cases q2 : f_X6_isKind (x / 100) = 0
          · rw [if_pos q2, if_pos q2]; exact ⟨rfl, rfl⟩
          · rw [if_neg q2, if_neg q2]
            by_cases q3 : f_X6_isStuff (x / 10 - x / 10 / 10 * 10) = 0
            · rw [if_pos q3, if_pos q3]; exact ⟨rfl, rfl⟩
            · exact absurd ((told_iff x).mp ⟨h0, q2, q3⟩) hx
      rw [hn.1, hn.2]; exact OK.refb h r1
  · rw [if_neg h0, if_neg h0]
    have hx : ¬ (x = 0 ∨ x = 10 ∨ x = 100 ∨ x = 110) := fun q => h0 ((told_iff x).mpr q).1
    rw [(N7 hx).1, (N7 hx).2]
    exact OK.ref h r1
