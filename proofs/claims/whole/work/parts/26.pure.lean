/-! a tide, whole -/
def SIM (n nw nr B M : Nat) (v u : Gr) : Prop := IC n nw nr v ∧ RC n nw nr v u ∧ TR n v u ∧ NR v u ∧ TZ n M v ∧ rg (v 0 6) 0 B
theorem SIM.mono {n nw nr B M B' M' : Nat} {v u : Gr} (h : SIM n nw nr B M v u) (hB : B ≤ B') (hM : M ≤ M') : SIM n nw nr B' M' v u := ⟨h.1, h.2.1, h.2.2.1, h.2.2.2.1, h.2.2.2.2.1.mono hM, h.2.2.2.2.2.mono hB⟩
theorem goBy_eq (v : Gr) (x : Int32) : g_X3_goBy v x = up (g_X3_dredge (FL v) (if x = -1 then f_X3_plannedCell (FL v) (f_X3_kindNow v) else x)) 0 6 (g_X3_dredge (FL v) (if x = -1 then f_X3_plannedCell (FL v) (f_X3_kindNow v) else x) 0 6 + 1) := by
  unfold g_X3_goBy FL
  dsimp only
  by_cases hk : f_X3_kindNow v = 0
  · rw [if_pos hk, if_pos hk]
    by_cases hx : x = -1
    · rw [if_pos hx, if_pos hx]
    · rw [if_neg hx, if_neg hx]
  · rw [if_neg hk, if_neg hk]
    by_cases hx : x = -1
    · rw [if_pos hx, if_pos hx]
    · rw [if_neg hx, if_neg hx]
theorem FL_TZ {n nw nr M : Nat} {v : Gr} (I : IC n nw nr v) (hM : M + 7992 < 2 ^ 31) (t : TZ n M v) : TZ n (M + 7992) (FL v) := by
  have key : ∀ v k, IC n nw nr v → TZ n M v → TZ n (M + 7992) (g_X0_settle (g_X3_bring (g_X3_carry v k))) := by
    intro v k I t
    have t1 := carry_TZ (kind := k) I (by omega) t
    have I1 := I.fr (carry_Fr v k)
    have t2 := bring_TZ I1 hM t1
    have I2 := I1.fr (bring_Fr _)
    exact settle_TZ t2 hM I2.1.1 I2.2.1.1 (fun i hi => (I2.2.2.1 i hi).2.2.1)
  unfold FL
  by_cases h : f_X3_kindNow v = 0
  · rw [if_pos h]; exact key _ _ (I.fr (stir_Fr v)) (stir_TZ t (by omega) I.1.1 I.2.1.1 (fun i hi => (I.2.2.1 i hi).2.2.2.1))
  · rw [if_neg h]; exact key _ _ I t
theorem tide_core {n nw nr B M : Nat} {v u : Gr} {x a : Int32} (S : SIM n nw nr B M v u) (hcap : u 0 24 = v 19 0) (hB : B < 2 ^ 30) (hM : M + 7992 < 2 ^ 30) (hw : WH n (FL v) a (if x = -1 then f_X3_plannedCell (FL v) (f_X3_kindNow v) else x)) :
    SIM n nw nr (B + 1) (M + 7992) (g_X3_goBy v x) (up (g_X7_take (g_X7_flow u) a) 0 21 (g_X7_take (g_X7_flow u) a 0 21 + 1)) ∧ LT 999 (g_X3_goBy v x) ∧ (up (g_X7_take (g_X7_flow u) a) 0 21 (g_X7_take (g_X7_flow u) a 0 21 + 1)) 0 36 = g_X3_goBy v x 0 9 ∧ (up (g_X7_take (g_X7_flow u) a) 0 21 (g_X7_take (g_X7_flow u) a 0 21 + 1)) 0 37 = g_X3_goBy v x 0 10 := by
  obtain ⟨I, R, T, N, Z, hb⟩ := S
  have tz := goBy_TZ I (by omega) Z x
  have fr := goBy_Fr v x
  have fm : Tt u (up (g_X7_take (g_X7_flow u) a) 0 21 (g_X7_take (g_X7_flow u) a 0 21 + 1)) := ((flow_Fm u).trans (take_Fm _ a)).tt.trans Tt.u21
  have I2 := I.fr fr
  have R2 := R.fr fr fm
  obtain ⟨t1, n1⟩ := flow_sim I R T N hb (by omega)
  have fr1 := FL_Fr v
  have fm1 := (flow_Fm u).tt
  have I1 := I.fr fr1
  have R1 := R.fr fr1 fm1
  have hcap1 : g_X7_flow u 0 24 = FL v 19 0 := by rw [(flow_Fm u).s 24 (by decide), fr1.c 19 (by decide)]; exact hcap
  obtain ⟨t2, n2, e36, e37⟩ := take_sim I1 R1 t1 n1 hcap1 hw
  have e21 : g_X7_take (g_X7_flow u) a 0 21 = v 0 6 := by rw [(take_Fm _ a).s 21 (by decide), (flow_Fm u).s 21 (by decide)]; exact N.1
  have n21 := n2.1
  rw [e21] at n21
  rw [goBy_eq] at tz I2 R2 ⊢
  generalize (if x = -1 then f_X3_plannedCell (FL v) (f_X3_kindNow v) else x) = b at t2 n2 e36 e37 tz I2 R2 n21 ⊢
  generalize g_X3_dredge (FL v) b = D at t2 n2 e36 e37 tz I2 R2 n21 ⊢
  generalize g_X7_take (g_X7_flow u) a = K at t2 n2 e36 e37 R2 fm e21 ⊢
  refine ⟨⟨I2, R2, t2.v0.u0, ⟨?_, ?_, ?_⟩, tz.1, ?_⟩, tz.2, ?_, ?_⟩
  · rw [s1, s1, n2.1]
  · rw [s0 22 (by decide), s0 7 (by decide)]; exact n2.2.1
  · rw [s0 23 (by decide), s0 8 (by decide)]; exact n2.2.2
  · obtain ⟨j, h1, h2, e⟩ := hb
    refine ⟨j + 1, by omega, by omega, ?_⟩
    rw [s1, ← n21, e, nI_1]
  · rw [s0 36 (by decide), s0 9 (by decide)]; exact e36
  · rw [s0 37 (by decide), s0 10 (by decide)]; exact e37
theorem PL.wh {n : Nat} {v : Gr} {a b : Int32} (hn : n ≤ 8) (h : PL n (v 19 1) a b) : WH n v a b := by
  obtain ⟨e, h⟩ := h
  by_cases q : b = v 19 1
  · rw [if_pos q] at e
    exact Or.inl ⟨Or.inl (by rw [e]; decide), Or.inr q⟩
  · rw [if_neg q] at e
    rcases h with h | ⟨c, hc, h⟩
    · refine Or.inl ⟨Or.inl (by rw [e, h]; decide), Or.inl ?_⟩
      rw [h]; unfold f_X0_has; rw [if_pos (by decide)]
    · exact Or.inr ⟨c, hc, e.trans h, h, by rw [← h]; exact q⟩
/-- by the plan -/
theorem tide_plan {n nw nr B M : Nat} {v u : Gr} (S : SIM n nw nr B M v u) (hcap : u 0 24 = v 19 0) (h1 : 1 ≤ n) (hB : B < 2 ^ 30) (hM : M + 7992 < 2 ^ 30) :
    SIM n nw nr (B + 1) (M + 7992) (g_X3_goBy v (-1)) (g_X7_passTide u) ∧ g_X7_passTide u 0 24 = g_X3_goBy v (-1) 19 0 ∧ LT 999 (g_X3_goBy v (-1)) ∧ g_X7_passTide u 0 36 = g_X3_goBy v (-1) 0 9 ∧ g_X7_passTide u 0 37 = g_X3_goBy v (-1) 0 10 := by
  have S0 := S
  obtain ⟨I, R, T, N, Z, hb⟩ := S
  obtain ⟨ek, hk⟩ := kind_eq I R N hb (by omega)
  obtain ⟨t1, n1⟩ := flow_sim I R T N hb (by omega)
  have fr1 := FL_Fr v
  have fm1 := (flow_Fm u).tt
  have ekF : f_X7_kindAt (g_X7_flow u) (g_X7_flow u 0 21) = f_X3_kindNow v := by
    rw [← ek]
    unfold f_X7_kindAt
    rw [(flow_Fm u).c 19 (by decide), (flow_Fm u).s 20 (by decide), (flow_Fm u).s 21 (by decide)]
  have pl := plan_sim (kind := f_X3_kindNow v) (I.fr fr1) (R.fr fr1 fm1) t1 (FL_TZ I (by omega) Z) hM h1 hk
  have k := tide_core (x := -1) (a := f_X7_chosen (g_X7_flow u) (f_X3_kindNow v)) S0 hcap hB hM (by rw [if_pos rfl]; exact pl.wh I.1.1)
  have e : g_X7_passTide u = up (g_X7_take (g_X7_flow u) (f_X7_chosen (g_X7_flow u) (f_X3_kindNow v))) 0 21 (g_X7_take (g_X7_flow u) (f_X7_chosen (g_X7_flow u) (f_X3_kindNow v)) 0 21 + 1) := by
    unfold g_X7_passTide
    dsimp only
    rw [ekF]
  refine ⟨by rw [e]; exact k.1, ?_, k.2.1, by rw [e]; exact k.2.2.1, by rw [e]; exact k.2.2.2⟩
  rw [(passTide_Tt u).2 24 (by decide) (ex0_n (by decide)), (goBy_Fr v (-1)).c 19 (by decide)]
  exact hcap
theorem has9 {n : Nat} {v : Gr} (hn : n ≤ 8) (hv : v 1 0 = nI n) : f_X0_has v 9 = 0 := by
  unfold f_X0_has
  rw [if_neg (by decide), hv, if_pos (show nI n ≤ 9 from (nI_leI (a := n) (b := 9) (by omega) (by decide)).mpr (by omega))]
theorem goBy9 {n nw nr : Nat} {v : Gr} (I : IC n nw nr v) : g_X3_goBy v 9 = up (up (up (FL v) 0 9 0) 0 10 0) 0 6 (FL v 0 6 + 1) := by
  rw [goBy_eq, if_neg (by decide)]
  have I1 := I.fr (FL_Fr v)
  generalize FL v = D at I1 ⊢
  have hv : up (up D 0 9 0) 0 10 0 1 0 = nI n := by rw [up_ne (by decide), up_ne (by decide)]; exact I1.2.1.1
  have e : g_X3_dredge D 9 = up (up D 0 9 0) 0 10 0 := by
    unfold g_X3_dredge
    dsimp only
    rw [if_pos (has9 I1.1.1 hv)]
  rw [e, s0 6 (by decide), s0 6 (by decide)]
/-- with no dredger: the reference leaves it away, or its cap is 0 -/
theorem tide_none {n nw nr B M : Nat} {v u K : Gr} (S : SIM n nw nr B M v u) (hB : B < 2 ^ 30) (hM : M + 7992 < 2 ^ 30) (fm : Tt u K) (h6 : ∀ j, j < 16 → K 6 j = g_X7_flow u 6 j ∧ K 7 j = g_X7_flow u 7 j) (h21 : K 0 21 = g_X7_flow u 0 21) (h22 : K 0 22 = g_X7_flow u 0 22) (h23 : K 0 23 = g_X7_flow u 0 23) :
    SIM n nw nr (B + 1) (M + 7992) (g_X3_goBy v 9) (up K 0 21 (K 0 21 + 1)) := by
  obtain ⟨I, R, T, N, Z, hb⟩ := S
  have tz := goBy_TZ I (by omega) Z 9
  have fr := goBy_Fr v 9
  have fm : Tt u (up K 0 21 (K 0 21 + 1)) := fm.trans Tt.u21
  have I2 := I.fr fr
  have R2 := R.fr fr fm
  obtain ⟨t1, n1⟩ := flow_sim I R T N hb (by omega)
  have e21 : g_X7_flow u 0 21 = v 0 6 := by rw [(flow_Fm u).s 21 (by decide)]; exact N.1
  have n21 := n1.1
  rw [e21] at n21
  have hn := I.1.1
  rw [goBy9 I] at tz I2 R2 ⊢
  generalize FL v = D at t1 n1 tz I2 R2 n21 ⊢
  refine ⟨I2, R2, ?_, ⟨?_, ?_, ?_⟩, tz.1, ?_⟩
  · refine TR.v0 (TR.v0 (TR.v0 (TR.u0 ?_)))
    intro i s hi hs
    rw [(h6 (2 * i + s) (by omega)).1, (h6 (2 * i + s) (by omega)).2]; exact t1 i s hi hs
  · rw [s1, s1, h21, e21, ← n21]
  · rw [s0 22 (by decide), h22, s0 7 (by decide), s0 7 (by decide), s0 7 (by decide)]; exact n1.2.1
  · rw [s0 23 (by decide), h23, s0 8 (by decide), s0 8 (by decide), s0 8 (by decide)]; exact n1.2.2
  · obtain ⟨j, h1, h2, e⟩ := hb
    refine ⟨j + 1, by omega, by omega, ?_⟩
    rw [s1, ← n21, e, nI_1]
theorem up_self (u : Gr) (f j : Nat) : up u f j (u f j) = u := by
  funext g
  by_cases e : g = f
  · subst e; rw [up_same, upd_self]
  · rw [up_ne e]
theorem tk1_0 (u : Gr) (x s : Int32) : tk1 u x s 0 = u := by
  unfold tk1
  simp only [Int32.sub_zero, Int32.add_zero, up_self, ite_self]
/-- a dredger of cap 0 takes nothing -/
theorem take_0 {n nw nr M : Nat} {v u : Gr} (hn : n ≤ 8) (T : TR n v u) (Z : TZ n M v) (h24 : u 0 24 = 0) {a : Int32} (ha : a < 0 ∨ ∃ c, c < n ∧ a = nI c) :
    (∀ j, g_X7_take u a 6 j = u 6 j ∧ g_X7_take u a 7 j = u 7 j) ∧ g_X7_take u a 0 21 = u 0 21 ∧ g_X7_take u a 0 22 = u 0 22 ∧ g_X7_take u a 0 23 = u 0 23 := by
  have z0 : (∀ j, up (up u 0 36 0) 0 37 0 6 j = u 6 j ∧ up (up u 0 36 0) 0 37 0 7 j = u 7 j) ∧ up (up u 0 36 0) 0 37 0 0 21 = u 0 21 ∧ up (up u 0 36 0) 0 37 0 0 22 = u 0 22 ∧ up (up u 0 36 0) 0 37 0 0 23 = u 0 23 := ⟨fun j => ⟨rfl, rfl⟩, rfl, rfl, rfl⟩
  have z24 : up (up u 0 36 0) 0 37 0 0 24 = 0 := h24
  have z36 : up (up u 0 36 0) 0 37 0 0 36 = 0 := rfl
  rw [take_tk, z24]
  generalize up (up u 0 36 0) 0 37 0 = u1 at z0 z24 z36 ⊢
  rcases ha with q | ⟨c, hc, rfl⟩
  · rw [if_pos q]; exact z0
  · rw [if_neg (nI_pos (by omega))]
    by_cases q : nI c = u1 0 25
    · rw [if_pos q]; exact z0
    · have nn0 : ∀ s : Nat, s < 2 → ¬ u1 7 (2 * c + s) < 0 := fun s hs => by
        rw [(z0.1 _).2, (T c s hc hs).2]; exact (Z.1.1 _ (by omega)).2
      have i1 : (2 * nI c + 1).toNatClampNeg = 2 * c + 1 := ix2c (s := 1) (by omega) (by decide)
      have i0 : (2 * nI c + 0).toNatClampNeg = 2 * c + 0 := ix2c (s := 0) (by omega) (by decide)
      rw [if_neg q, tkS_eq, i1, if_pos (Int32.not_lt.mp (nn0 1 (by decide))), tk1_0, tkS_eq, i0, Int32.sub_zero, if_pos (Int32.not_lt.mp (nn0 0 (by decide))), tk1_0, z36, Int32.add_zero, up_self]
      exact z0
/-- alone -/
theorem tide_alone {n nw nr B M : Nat} {v u : Gr} (S : SIM n nw nr B M v u) (h24 : u 0 24 = 0) (h1 : 1 ≤ n) (hB : B < 2 ^ 30) (hM : M + 7992 < 2 ^ 30) :
    SIM n nw nr (B + 1) (M + 7992) (g_X3_goBy v 9) (g_X7_passTide u) ∧ g_X7_passTide u 0 24 = 0 := by
  have S0 := S
  obtain ⟨I, R, T, N, Z, hb⟩ := S
  obtain ⟨ek, hk⟩ := kind_eq I R N hb (by omega)
  obtain ⟨t1, n1⟩ := flow_sim I R T N hb (by omega)
  have fr1 := FL_Fr v
  have fm1 := (flow_Fm u).tt
  have ekF : f_X7_kindAt (g_X7_flow u) (g_X7_flow u 0 21) = f_X3_kindNow v := by
    rw [← ek]
    unfold f_X7_kindAt
    rw [(flow_Fm u).c 19 (by decide), (flow_Fm u).s 20 (by decide), (flow_Fm u).s 21 (by decide)]
  have pl := plan_sim (kind := f_X3_kindNow v) (I.fr fr1) (R.fr fr1 fm1) t1 (FL_TZ I (by omega) Z) hM h1 hk
  have h24F : g_X7_flow u 0 24 = 0 := by rw [(flow_Fm u).s 24 (by decide)]; exact h24
  have e : g_X7_passTide u = up (g_X7_take (g_X7_flow u) (f_X7_chosen (g_X7_flow u) (f_X3_kindNow v))) 0 21 (g_X7_take (g_X7_flow u) (f_X7_chosen (g_X7_flow u) (f_X3_kindNow v)) 0 21 + 1) := by
    unfold g_X7_passTide
    dsimp only
    rw [ekF]
  have ha : f_X7_chosen (g_X7_flow u) (f_X3_kindNow v) < 0 ∨ ∃ c, c < n ∧ f_X7_chosen (g_X7_flow u) (f_X3_kindNow v) = nI c := by
    obtain ⟨p1, p2⟩ := pl
    by_cases q : f_X3_plannedCell (FL v) (f_X3_kindNow v) = FL v 19 1
    · rw [if_pos q] at p1; exact Or.inl (by rw [p1]; decide)
    · rw [if_neg q] at p1
      rcases p2 with p2 | ⟨c, hc, p2⟩
      · exact Or.inl (by rw [p1, p2]; decide)
      · exact Or.inr ⟨c, hc, p1.trans p2⟩
  obtain ⟨k1, k2, k3, k4⟩ := take_0 (nw := nw) (nr := nr) I.1.1 t1 (FL_TZ I (by omega) Z) h24F ha
  refine ⟨?_, ?_⟩
  · rw [e]; exact tide_none S0 hB hM ((flow_Fm u).trans (take_Fm _ _)).tt (fun j _ => k1 j) k2 k3 k4
  · rw [(passTide_Tt u).2 24 (by decide) (ex0_n (by decide))]; exact h24
