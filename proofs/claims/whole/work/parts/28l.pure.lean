/-! the best of several -/
theorem Sv.shift {w w' : Gr} {i : Nat} (k : Sv w (up w' 0 i (w 0 i))) (x : Int32) : Sv (up w 0 i x) (up w' 0 i x) := by
  refine ⟨fun f h0 h6 h7 h35 h38 h39 => ?_, fun q hq => ?_, fun q h36 h37 h40 h41 h42 => ?_⟩
  · have := k.1 f h0 h6 h7 h35 h38 h39
    rw [up_ne h0] at this
    rw [up_ne h0, up_ne h0, this]
  · have := k.2.1 q hq
    rw [up_ne (by decide), up_ne (by decide)] at this
    rw [up_ne (by decide), up_ne (by decide), up_ne (by decide), up_ne (by decide)]
    exact this
  · have := k.2.2 q h36 h37 h40 h41 h42
    rw [up0] at this ⊢
    rw [up0]
    by_cases e : q = i
    · rw [if_pos e, if_pos e]
    · rw [if_neg e, if_neg e]; rw [if_neg e] at this; exact this
theorem t0 {u : Gr} {j : Nat} {x : Int32} (i : Nat) (h : i ≠ j) : up u 19 j x 19 i = u 19 i := by rw [up0, if_neg h]
theorem t1 {u : Gr} {j : Nat} {x : Int32} : up u 19 j x 19 j = x := by rw [up0, if_pos rfl]
theorem SIM.sv {n nw nr B M : Nat} {v w w' : Gr} (S : SIM n nw nr B M v w) (k : Sv w w') : SIM n nw nr B M v w' := S.am k.am
theorem SIM.d25 {n nw nr B M : Nat} {v u : Gr} {x : Int32} (S : SIM n nw nr B M v u) (hx : x = 8 ∨ ∃ c, c < n ∧ x = nI c) : SIM n nw nr B M (up v 19 1 x) (up u 0 25 x) := by
  obtain ⟨d0, d1, d2, d3, d4⟩ := S.1.2.2.2.2.2.2.1
  obtain ⟨a1, a2, a3, a4⟩ := S.2.1.2.2.2.2.1
  refine S.dred (fun f hf => up_ne hf) (fun f hf => up_ne hf) (fun j hj => s0 j (by omega)) ?_ ?_
  · refine ⟨?_, ?_, ?_, ?_, ?_⟩
    · rw [t0 0 (by decide)]; exact d0
    · rw [t1]; exact hx
    · rw [t0 2 (by decide)]; exact d2
    · rw [t0 3 (by decide)]; exact d3
    · rw [t0 4 (by decide)]; exact d4
  · rw [s1, t1, t0 2 (by decide), t0 3 (by decide), t0 4 (by decide), s0 26 (by decide), s0 27 (by decide), s0 28 (by decide)]
    exact ⟨rfl, a2, a3, a4⟩
theorem SIM.d26 {n nw nr B M : Nat} {v u : Gr} {x : Int32} (S : SIM n nw nr B M v u) (hx : rg x 0 4) : SIM n nw nr B M (up v 19 2 x) (up u 0 26 x) := by
  obtain ⟨d0, d1, d2, d3, d4⟩ := S.1.2.2.2.2.2.2.1
  obtain ⟨a1, a2, a3, a4⟩ := S.2.1.2.2.2.2.1
  refine S.dred (fun f hf => up_ne hf) (fun f hf => up_ne hf) (fun j hj => s0 j (by omega)) ?_ ?_
  · refine ⟨?_, ?_, ?_, ?_, ?_⟩
    · rw [t0 0 (by decide)]; exact d0
    · rw [t0 1 (by decide)]; exact d1
    · rw [t1]; exact hx
    · rw [t0 3 (by decide)]; exact d3
    · rw [t0 4 (by decide)]; exact d4
  · rw [s1, t1, t0 1 (by decide), t0 3 (by decide), t0 4 (by decide), s0 25 (by decide), s0 27 (by decide), s0 28 (by decide)]
    exact ⟨a1, rfl, a3, a4⟩
theorem SIM.d24 {n nw nr B M : Nat} {v u : Gr} {x : Int32} (S : SIM n nw nr B M v u) (hx : rg x 0 999) : SIM n nw nr B M (up v 19 0 x) (up u 0 24 x) := by
  obtain ⟨d0, d1, d2, d3, d4⟩ := S.1.2.2.2.2.2.2.1
  obtain ⟨a1, a2, a3, a4⟩ := S.2.1.2.2.2.2.1
  refine S.dred (fun f hf => up_ne hf) (fun f hf => up_ne hf) (fun j hj => s0 j (by omega)) ?_ ?_
  · refine ⟨?_, ?_, ?_, ?_, ?_⟩
    · rw [t1]; exact hx
    · rw [t0 1 (by decide)]; exact d1
    · rw [t0 2 (by decide)]; exact d2
    · rw [t0 3 (by decide)]; exact d3
    · rw [t0 4 (by decide)]; exact d4
  · rw [t0 1 (by decide), t0 2 (by decide), t0 3 (by decide), t0 4 (by decide), s0 25 (by decide), s0 26 (by decide), s0 27 (by decide), s0 28 (by decide)]
    exact ⟨a1, a2, a3, a4⟩
/-- the class's cost under a bound, held against the bound -/
theorem cmps {n nw nr B M N : Nat} {v u : Gr} (S : SIM n nw nr B M v u) (hcap : u 0 24 = v 19 0) (h1 : 1 ≤ n) (hB : B + 200 < 2 ^ 30) (hM : M + 1598400 < 2 ^ 30) (hN : N ≤ 200) {E : Nat} (hE : E < 2 ^ 63) : ∃ C, C ≤ 35861400 ∧ f_X7_costOf u (nI N) = lN C ∧ (0 ≤ lg_cmp (f_X3_runCosts v (nI N) (lN E)) (lN E) ↔ E ≤ C) ∧ (¬ E ≤ C → f_X3_runCosts v (nI N) (lN E) = lN C) := by
  obtain ⟨C, hC, e1, e2⟩ := costs S hcap h1 hB hM hN
  obtain ⟨D, e3, hD, hDC⟩ := e2 E hE
  refine ⟨C, hC, e1, ?_, ?_⟩
  · rw [e3, lg_cmp_ge, pk_lLE hE (by omega)]; omega
  · intro q
    rw [e3, show D = C by omega]
def BS (E : Int64) (b6 b7 : Int32) (E7 : Int64) : Prop := (E = 4000000000000000000 ∧ b7 = -1) ∨ (∃ c C : Nat, c < 25 ∧ b6 = nI c ∧ b7 = nI c ∧ E = lN C ∧ E7 = lN C ∧ C ≤ 35861400)
def BT (E : Int64) (b6 b7 : Int32) (E7 : Int64) : Prop := ∃ c C : Nat, c < 25 ∧ b6 = nI c ∧ b7 = nI c ∧ E = lN C ∧ E7 = lN C ∧ C ≤ 35861400
theorem bstep {n nw nr B M N m : Nat} {v u : Gr} {E E7 : Int64} {b6 b7 : Int32} (S : SIM n nw nr B M v u) (hcap : u 0 24 = v 19 0) (h1 : 1 ≤ n) (hB : B + 200 < 2 ^ 30) (hM : M + 1598400 < 2 ^ 30) (hN : N ≤ 200) (hm : m < 25) (h : BS E b6 b7 E7) :
    (0 ≤ lg_cmp (f_X3_runCosts v (nI N) E) E ∧ BT E b6 b7 E7 ∧ ¬ b7 < 0 ∧ 0 ≤ lg_cmp (f_X7_costOf u (nI N)) E7) ∨ (¬ 0 ≤ lg_cmp (f_X3_runCosts v (nI N) E) E ∧ BT (f_X3_runCosts v (nI N) E) (nI m) (nI m) (f_X7_costOf u (nI N)) ∧ (b7 < 0 ∨ ¬ 0 ≤ lg_cmp (f_X7_costOf u (nI N)) E7)) := by
  rcases h with ⟨rfl, rfl⟩ | ⟨c, C0, hc, rfl, rfl, rfl, rfl, hC0⟩
  · obtain ⟨C, hC, e1, e2, e3⟩ := cmps S hcap h1 hB hM hN (E := 4000000000000000000) (by decide)
    rw [e18]
    refine Or.inr ⟨fun q => ?_, ⟨m, C, hm, rfl, rfl, e3 (by omega), e1, hC⟩, Or.inl (by decide)⟩
    have := e2.mp q
    omega
  · obtain ⟨C, hC, e1, e2, e3⟩ := cmps S hcap h1 hB hM hN (E := C0) (by omega)
    have e4 : 0 ≤ lg_cmp (f_X7_costOf u (nI N)) (lN C0) ↔ C0 ≤ C := by rw [e1, lg_cmp_ge, pk_lLE (by omega) (by omega)]
    by_cases q : C0 ≤ C
    · exact Or.inl ⟨e2.mpr q, ⟨c, C0, hc, rfl, rfl, rfl, rfl, hC0⟩, nI_pos (by omega), e4.mpr q⟩
    · exact Or.inr ⟨fun z => q (e2.mp z), ⟨m, C, hm, rfl, rfl, e3 q, e1, hC⟩, Or.inr (fun z => q (e4.mp z))⟩
/-- one candidate, in the words of both loops -/
theorem bcand {n nw nr B M N m i : Nat} {σ τ : St} {w v : Gr} {x : Int32} {E E7 : Int64} {b6 b7 : Int32} (hw : Sv (σ 4) (up w 0 i (σ 4 0 i))) (hτ : ∀ f, f ≠ 2 → τ f = σ f) (S : SIM n nw nr B M v (up (σ 4) 0 i x)) (hcap : up (σ 4) 0 i x 0 24 = v 19 0) (h1 : 1 ≤ n) (hB : B + 200 < 2 ^ 30) (hM : M + 1598400 < 2 ^ 30) (hN : N ≤ 200) (hm : m < 25) (h : BS E b6 b7 E7) (z6 : Int64 × Int32 × St) (z7 : Int32 × Int64 × Gr)
    (d6 : z6 = if 0 ≤ lg_cmp (f_X3_runCosts v (nI N) E) E then (E, b6, setG τ 2 (g_X3_runCosts v (nI N) E)) else (f_X3_runCosts v (nI N) E, nI m, setG τ 2 (g_X3_runCosts v (nI N) E)))
    (d7 : z7 = if b7 < 0 then (nI m, f_X7_costOf (up w 0 i x) (nI N), g_X7_costOf (up w 0 i x) (nI N)) else if 0 ≤ lg_cmp (f_X7_costOf (up w 0 i x) (nI N)) E7 then (b7, E7, g_X7_costOf (up w 0 i x) (nI N)) else (nI m, f_X7_costOf (up w 0 i x) (nI N), g_X7_costOf (up w 0 i x) (nI N))) :
    BT z6.1 z6.2.1 z7.1 z7.2.1 ∧ (∀ f, f ≠ 2 → z6.2.2 f = σ f) ∧ Sv (σ 4) (up z7.2.2 0 i (σ 4 0 i)) := by
  have hs := hw.shift x
  have S' := S.sv hs
  have hcap' : up w 0 i x 0 24 = v 19 0 := (hs.sl 24 (by decide)).trans hcap
  have kf : ∀ g, ∀ f, f ≠ 2 → setG τ 2 g f = σ f := fun g f hf => by rw [setG_ne hf]; exact hτ f hf
  have ks : Sv (σ 4) (up (g_X7_costOf (up w 0 i x) (nI N)) 0 i (σ 4 0 i)) := (hs.trans (costOf_Sv _ _)).back
  rcases bstep S' hcap' h1 hB hM hN hm h with ⟨p1, p2, p3, p4⟩ | ⟨p1, p2, p3⟩
  · rw [if_pos p1] at d6
    rw [if_neg p3, if_pos p4] at d7
    rw [d6, d7]
    exact ⟨p2, kf _, ks⟩
  · rw [if_neg p1] at d6
    have d7' : z7 = (nI m, f_X7_costOf (up w 0 i x) (nI N), g_X7_costOf (up w 0 i x) (nI N)) := by
      by_cases q : b7 < 0
      · rw [if_pos q] at d7; exact d7
      · rw [if_neg q, if_neg (p3.resolve_left q)] at d7; exact d7
    rw [d6, d7']
    exact ⟨p2, kf _, ks⟩
