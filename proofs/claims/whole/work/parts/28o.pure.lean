/-! judging a row -/
theorem Sv.of32 {ρ v : Gr} (h : Tt (g_X7_save ρ) v) : Sv (up ρ 0 32 0) (g_X7_putBack (up v 0 32 0)) := by
  refine ⟨fun f h0 h6 h7 h35 h38 h39 => ?_, fun i hi => ?_, fun j h36 h37 h40 h41 h42 => ?_⟩
  · rw [putBack_c _ f ⟨h0, h6, h7⟩, up_ne h0, up_ne h0, h.1 f h0 h6 h7 h35, save_c ρ f ⟨h0, h38, h39⟩]
  · obtain ⟨a, b⟩ := putBack_t (up v 0 32 0) i hi
    obtain ⟨c, d⟩ := save_t ρ i hi
    rw [a, b, up_ne (by decide), up_ne (by decide), up_ne (by decide), up_ne (by decide), h.1 38 (by decide) (by decide) (by decide) (by decide), h.1 39 (by decide) (by decide) (by decide) (by decide), c, d]
    exact ⟨rfl, rfl⟩
  · obtain ⟨a, b, c⟩ := putBack_21 (up v 0 32 0)
    obtain ⟨a', b', c'⟩ := save_40 ρ
    by_cases e : j = 21
    · subst e; rw [a, s0 40 (by decide), s0 21 (by decide), h.2 40 (by decide) (by unfold ex0; omega), a']
    · by_cases e : j = 22
      · subst e; rw [b, s0 41 (by decide), s0 22 (by decide), h.2 41 (by decide) (by unfold ex0; omega), b']
      · by_cases e : j = 23
        · subst e; rw [c, s0 42 (by decide), s0 23 (by decide), h.2 42 (by decide) (by unfold ex0; omega), c']
        · rw [putBack_s _ j ⟨by omega, by omega, by omega⟩]
          by_cases e : j = 32
          · subst e; rw [s1, s1]
          · rw [s0 j e, s0 j e, h.2 j (by omega) (by unfold ex0; omega), save_s ρ j ⟨h40, h41, h42⟩]
def RCK (n r : Nat) (σ : St) (w : Gr) (y1 : Int32) (m k : Nat) : Prop :=
    ((wl (b_X6_rowIsOfCells_2 σ) (m + 1) k ()).1 = 54 ∧ wl (b_X7_judge_21 y1) (m + 1) k w = (65, 0, w) ∧ ∀ i, k ≤ i → i < r → σ 0 3 i = 9 ∨ ∃ c, c < n ∧ σ 0 3 i = nI c) ∨ ((wl (b_X6_rowIsOfCells_2 σ) (m + 1) k ()).1 = 47 ∧ wl (b_X7_judge_21 y1) (m + 1) k w = (58, f_X7_refuse w (-1), g_X7_refuse w (-1)))
theorem row_chk {n r : Nat} {σ : St} {w : Gr} {y1 : Int32} (hn : n ≤ 8) (hv : σ 1 1 0 = nI n) (hw : w 0 0 = nI n) (hr : r ≤ 28) (er : σ 0 0 6 = nI r) (er' : w 0 32 = nI r) (hrow : ∀ i, i < r → w 31 i = σ 0 3 i ∧ rg (σ 0 3 i) 0 9) : ∀ (m k : Nat), k + m = r →
    RCK n r σ w y1 m k := by
  intro m
  induction m with
  | zero =>
    intro k hk
    have hk : k = r := by omega
    subst hk
    have d6 : b_X6_rowIsOfCells_2 σ k () = (false, 54, 0, ()) := by unfold b_X6_rowIsOfCells_2; rw [er, if_pos (Int32.le_refl _)]
    have d7 : b_X7_judge_21 y1 k w = (false, 65, 0, w) := by unfold b_X7_judge_21; rw [er', if_pos (Int32.le_refl _)]
    unfold RCK
    rw [wl_out d6, wl_out d7]
    exact Or.inl ⟨rfl, rfl, fun i h1 h2 => by omega⟩
  | succ m ih =>
    intro k hk
    have hl : ¬ nI r ≤ nI k := fun q => by have := (nI_leI (by omega) (by omega)).mp q; omega
    have hcell : f_X7_isCell w (σ 0 3 k) = f_X0_has (σ 1) (σ 0 3 k) := cell_eq hn hv hw _
    have e7 : w 31 k = σ 0 3 k := (hrow k (by omega)).1
    have g6 : b_X6_rowIsOfCells_2 σ k () = if σ 0 3 k = 9 then (true, 0, 0, ()) else if f_X0_has (σ 1) (σ 0 3 k) = 0 then (false, 47, 0, ()) else (true, 0, 0, ()) := by
      unfold b_X6_rowIsOfCells_2; rw [er, if_neg hl, nI_clamp (by omega)]
    have g7 : b_X7_judge_21 y1 k w = if σ 0 3 k = 9 then (true, 0, 0, w) else if f_X0_has (σ 1) (σ 0 3 k) = 0 then (false, 58, f_X7_refuse w (-1), g_X7_refuse w (-1)) else (true, 0, 0, w) := by
      unfold b_X7_judge_21; rw [er', if_neg hl, nI_clamp (by omega), e7, hcell]
    have go : (σ 0 3 k = 9 ∨ ∃ c, c < n ∧ σ 0 3 k = nI c) → b_X6_rowIsOfCells_2 σ k () = (true, 0, 0, ()) → b_X7_judge_21 y1 k w = (true, 0, 0, w) → RCK n r σ w y1 (m + 1) k := fun hx d6 d7 => by
      have := ih (k + 1) (by omega)
      unfold RCK at this ⊢
      rw [← wl_go d6, ← wl_go d7] at this
      rcases this with ⟨a1, a2, a3⟩ | a
      · exact Or.inl ⟨a1, a2, fun i h1 h2 => by
          by_cases e : i = k
          · rw [e]; exact hx
          · exact a3 i (by omega) h2⟩
      · exact Or.inr a
    by_cases h9 : σ 0 3 k = 9
    · rw [if_pos h9] at g6 g7
      exact go (Or.inl h9) g6 g7
    · rw [if_neg h9] at g6 g7
      by_cases h0 : f_X0_has (σ 1) (σ 0 3 k) = 0
      · rw [if_pos h0] at g6 g7
        unfold RCK
        rw [wl_out g6, wl_out g7]
        exact Or.inr ⟨rfl, rfl⟩
      · rw [if_neg h0] at g6 g7
        exact go (Or.inr ((has_iff hn hv).mp h0)) g6 g7
/-- one judged tide -/
theorem judge_tide {n nw nr B M : Nat} {v u : Gr} {x a : Int32} (S : SIM n nw nr B M v u) (hcap : u 0 24 = v 19 0) (hB : B < 2 ^ 30) (hM : M + 7992 < 2 ^ 30) (hx : (x = 9 ∧ a = -9) ∨ ∃ c, c < n ∧ x = nI c ∧ a = nI c) :
    SIM n nw nr (B + 1) (M + 7992) (g_X3_goBy v x) (up (g_X7_take (g_X7_flow u) a) 0 21 (g_X7_take (g_X7_flow u) a 0 21 + 1)) ∧ (up (g_X7_take (g_X7_flow u) a) 0 21 (g_X7_take (g_X7_flow u) a 0 21 + 1)) 0 24 = g_X3_goBy v x 19 0 ∧ (up (g_X7_take (g_X7_flow u) a) 0 21 (g_X7_take (g_X7_flow u) a 0 21 + 1)) 0 36 = g_X3_goBy v x 0 9 ∧ Tt u (up (g_X7_take (g_X7_flow u) a) 0 21 (g_X7_take (g_X7_flow u) a 0 21 + 1)) ∧ ∃ C, C ≤ 179307 ∧ f_X7_costNow (up (g_X7_take (g_X7_flow u) a) 0 21 (g_X7_take (g_X7_flow u) a 0 21 + 1)) = nI C ∧ f_X3_tideCosts (g_X3_goBy v x) = lN C := by
  have hn := S.1.1.1
  have I1 := S.1.fr (FL_Fr v)
  have hw : WH n (FL v) a (if x = -1 then f_X3_plannedCell (FL v) (f_X3_kindNow v) else x) := by
    rcases hx with ⟨rfl, rfl⟩ | ⟨c, hc, rfl, rfl⟩
    · rw [if_neg (by decide)]
      exact Or.inl ⟨Or.inl (by decide), Or.inl (has9 hn I1.2.1.1)⟩
    · rw [if_neg (show ¬ nI c = -1 from fun q => by have := nI_pos (n := c) (by omega); rw [q] at this; exact this (by decide))]
      by_cases e : nI c = FL v 19 1
      · exact Or.inl ⟨Or.inr e, Or.inr e⟩
      · exact Or.inr ⟨c, hc, rfl, rfl, e⟩
  have k := tide_core S hcap hB hM hw
  have tt : Tt u (up (g_X7_take (g_X7_flow u) a) 0 21 (g_X7_take (g_X7_flow u) a 0 21 + 1)) := ((flow_Fm u).trans (take_Fm _ a)).tt.trans Tt.u21
  have fr := goBy_Fr v x
  generalize up (g_X7_take (g_X7_flow u) a) 0 21 (g_X7_take (g_X7_flow u) a 0 21 + 1) = u' at *
  generalize g_X3_goBy v x = v' at *
  refine ⟨k.1, ?_, k.2.2.1, tt, cost1 k.1 hM k.2.1 k.2.2.1 k.2.2.2⟩
  rw [tt.2 24 (by decide) (ex0_n (by decide)), fr.c 19 (by decide)]; exact hcap
def JP (n nw nr B M : Nat) (σ : St) (w1 : Gr) (k : Nat) (a : Int32 × Int64 × St) (b : Int32 × Int32 × Gr) : Prop :=
  SIM n nw nr (B + k) (M + 7992 * k) (a.2.2 2) b.2.2 ∧ b.2.2 0 24 = a.2.2 2 19 0 ∧ a.1 = b.1 ∧ (a.1 = -9 ∨ ∃ c, c < 28 ∧ a.1 = nI c) ∧ (∃ C, C ≤ 179307 * k ∧ a.2.1 = lN C ∧ b.2.1 = nI C) ∧ (∀ f, f ≠ 2 → a.2.2 f = σ f) ∧ Tt w1 b.2.2
theorem judge_step {n nw nr B M r k : Nat} {σ : St} {w1 : Gr} {y1 : Int32} (hB : B + 28 < 2 ^ 30) (hM : M + 7992 * 28 < 2 ^ 30) (hr : r ≤ 28) (hk : k < r) (hrow : ∀ i, i < r → w1 31 i = σ 0 3 i) (hcell : ∀ i, i < r → σ 0 3 i = 9 ∨ ∃ c, c < n ∧ σ 0 3 i = nI c) {a : Int32 × Int64 × St} {b : Int32 × Int32 × Gr} (q : JP n nw nr B M σ w1 k a b) : JP n nw nr B M σ w1 (k + 1) (b_X6_judge_68 y1 k a) (b_X7_judge_91 y1 k b) := by
  obtain ⟨S, hcap, e1, h1, ⟨C, hC, c6, c7⟩, hf, ht⟩ := q
  have hm : 7992 * k ≤ 7992 * 27 := Nat.mul_le_mul_left _ (by omega)
  have hM' : M + 7992 * k + 7992 < 2 ^ 30 := by
    generalize 7992 * k = z at hm ⊢
    omega
  have hx := hcell k hk
  have hn8 := S.1.1.1
  have e0 : a.2.2 0 = σ 0 := hf 0 (by decide)
  have e31 : b.2.2 31 k = σ 0 3 k := by rw [ht.1 31 (by decide) (by decide) (by decide) (by decide)]; exact hrow k hk
  have f31 : g_X7_flow b.2.2 31 k = σ 0 3 k := by rw [(flow_Fm b.2.2).c 31 (by decide)]; exact e31
  have key : ∀ A : Int32, ((σ 0 3 k = 9 ∧ A = -9) ∨ ∃ c, c < n ∧ σ 0 3 k = nI c ∧ A = nI c) → b_X7_judge_91 y1 k b = (if 0 ≤ b.1 then (b.1, b.2.1 + f_X7_costNow (up (g_X7_take (g_X7_flow b.2.2) A) 0 21 (g_X7_take (g_X7_flow b.2.2) A 0 21 + 1)), up (g_X7_take (g_X7_flow b.2.2) A) 0 21 (g_X7_take (g_X7_flow b.2.2) A 0 21 + 1)) else if (up (g_X7_take (g_X7_flow b.2.2) A) 0 21 (g_X7_take (g_X7_flow b.2.2) A 0 21 + 1)) 31 k = 9 then (b.1, b.2.1 + f_X7_costNow (up (g_X7_take (g_X7_flow b.2.2) A) 0 21 (g_X7_take (g_X7_flow b.2.2) A 0 21 + 1)), up (g_X7_take (g_X7_flow b.2.2) A) 0 21 (g_X7_take (g_X7_flow b.2.2) A 0 21 + 1)) else if (up (g_X7_take (g_X7_flow b.2.2) A) 0 21 (g_X7_take (g_X7_flow b.2.2) A 0 21 + 1)) 0 36 = 0 then (nI k, b.2.1 + f_X7_costNow (up (g_X7_take (g_X7_flow b.2.2) A) 0 21 (g_X7_take (g_X7_flow b.2.2) A 0 21 + 1)), up (g_X7_take (g_X7_flow b.2.2) A) 0 21 (g_X7_take (g_X7_flow b.2.2) A 0 21 + 1)) else (b.1, b.2.1 + f_X7_costNow (up (g_X7_take (g_X7_flow b.2.2) A) 0 21 (g_X7_take (g_X7_flow b.2.2) A 0 21 + 1)), up (g_X7_take (g_X7_flow b.2.2) A) 0 21 (g_X7_take (g_X7_flow b.2.2) A 0 21 + 1))) → JP n nw nr B M σ w1 (k + 1) (b_X6_judge_68 y1 k a) (b_X7_judge_91 y1 k b) := by
    intro A hA d7
    obtain ⟨S', hcap', h36, tt, C', hC', c7', c6'⟩ := judge_tide S hcap (by omega) hM' hA
    rw [d7]
    clear d7
    generalize up (g_X7_take (g_X7_flow b.2.2) A) 0 21 (g_X7_take (g_X7_flow b.2.2) A 0 21 + 1) = u' at *
    have e31' : u' 31 k = σ 0 3 k := by rw [tt.1 31 (by decide) (by decide) (by decide) (by decide)]; exact e31
    have d6 : b_X6_judge_68 y1 k a = (if a.1 = -9 then if σ 0 3 k = 9 then (a.1, a.2.1 + f_X3_tideCosts (g_X3_goBy (a.2.2 2) (σ 0 3 k)), setG a.2.2 2 (g_X3_goBy (a.2.2 2) (σ 0 3 k))) else if g_X3_goBy (a.2.2 2) (σ 0 3 k) 0 9 = 0 then (nI k, a.2.1 + f_X3_tideCosts (g_X3_goBy (a.2.2 2) (σ 0 3 k)), setG a.2.2 2 (g_X3_goBy (a.2.2 2) (σ 0 3 k))) else (a.1, a.2.1 + f_X3_tideCosts (g_X3_goBy (a.2.2 2) (σ 0 3 k)), setG a.2.2 2 (g_X3_goBy (a.2.2 2) (σ 0 3 k))) else (a.1, a.2.1 + f_X3_tideCosts (g_X3_goBy (a.2.2 2) (σ 0 3 k)), setG a.2.2 2 (g_X3_goBy (a.2.2 2) (σ 0 3 k)))) := by
      unfold b_X6_judge_68
      dsimp only
      simp only [setG_same, setG_ne (show (0 : Nat) ≠ 2 by decide)]
      rw [nI_clamp (by omega), e0]
    rw [d6]
    clear d6
    generalize g_X3_goBy (a.2.2 2) (σ 0 3 k) = v' at *
    rw [c6, c7, c6', c7', lN_add, nI_add, e31', h36, ← e1]
    have hS : SIM n nw nr (B + (k + 1)) (M + 7992 * (k + 1)) v' u' := S'.mono (by omega) (by rw [Nat.mul_succ, Nat.add_assoc]; exact Nat.le_refl _)
    have hCC : C + C' ≤ 179307 * (k + 1) := by rw [Nat.mul_succ]; exact Nat.add_le_add hC hC'
    have kf : ∀ f, f ≠ 2 → setG a.2.2 2 v' f = σ f := fun f hf' => by rw [setG_ne hf']; exact hf f hf'
    have stay : JP n nw nr B M σ w1 (k + 1) (a.1, lN (C + C'), setG a.2.2 2 v') (a.1, nI (C + C'), u') := by
      refine ⟨?_, ?_, rfl, h1, ⟨C + C', hCC, rfl, rfl⟩, kf, ht.trans tt⟩
      · show SIM n nw nr (B + (k + 1)) (M + 7992 * (k + 1)) (setG a.2.2 2 v' 2) u'
        rw [setG_same]; exact hS
      · show u' 0 24 = setG a.2.2 2 v' 2 19 0
        rw [setG_same]; exact hcap'
    have new : JP n nw nr B M σ w1 (k + 1) (nI k, lN (C + C'), setG a.2.2 2 v') (nI k, nI (C + C'), u') := by
      refine ⟨?_, ?_, rfl, Or.inr ⟨k, by omega, rfl⟩, ⟨C + C', hCC, rfl, rfl⟩, kf, ht.trans tt⟩
      · show SIM n nw nr (B + (k + 1)) (M + 7992 * (k + 1)) (setG a.2.2 2 v' 2) u'
        rw [setG_same]; exact hS
      · show u' 0 24 = setG a.2.2 2 v' 2 19 0
        rw [setG_same]; exact hcap'
    rcases h1 with h1 | ⟨c, hc, h1⟩
    · rw [if_pos h1, if_neg (show ¬ 0 ≤ a.1 by rw [h1]; decide)]
      by_cases z9 : σ 0 3 k = 9
      · rw [if_pos z9, if_pos z9]; exact stay
      · rw [if_neg z9, if_neg z9]
        by_cases z0 : v' 0 9 = 0
        · rw [if_pos z0, if_pos z0]; exact new
        · rw [if_neg z0, if_neg z0]; exact stay
    · rw [if_neg (show ¬ a.1 = -9 by rw [h1]; exact fun q => by have := nI_pos (n := c) (by omega); rw [q] at this; exact this (by decide)), if_pos (show 0 ≤ a.1 by rw [h1]; exact Int32.not_lt.mp (nI_pos (by omega)))]
      exact stay
  rcases hx with hx | ⟨c, hc, hx⟩
  · refine key (-9) (Or.inl ⟨hx, rfl⟩) ?_
    unfold b_X7_judge_91
    dsimp only
    rw [nI_clamp (by omega), if_pos (f31.trans hx)]
  · refine key (nI c) (Or.inr ⟨c, hc, hx, rfl⟩) ?_
    unfold b_X7_judge_91
    dsimp only
    rw [nI_clamp (by omega), f31, hx, if_neg (show ¬ nI c = 9 from fun q => by have := nIinj (b := 9) (by omega) (by decide) q; omega)]
