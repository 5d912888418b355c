/-- one stuff of the reference's take, and what follows it -/
noncomputable def tkS (u : Gr) (x s left : Int32) (K : Gr → Int32 → Gr) : Gr :=
  if left ≤ (u 7 ((2 * x) + s).toNatClampNeg) then
    let a : Gr := up u 7 ((2 * x) + s).toNatClampNeg ((u 7 ((2 * x) + s).toNatClampNeg) - left)
    let b : Gr := up a 0 36 ((a 0 36) + left)
    if (b 0 25) = 8 then
      let c : Gr := up b 0 37 ((b 0 37) + left)
      let d : Gr := up c 0 22 ((c 0 22) + left)
      K d (left - left)
    else
      let c : Gr := up b 6 ((2 * (b 0 25)) + s).toNatClampNeg ((b 6 ((2 * (b 0 25)) + s).toNatClampNeg) + left)
      K c (left - left)
  else
    let n : Int32 := u 7 ((2 * x) + s).toNatClampNeg
    let a : Gr := up u 7 ((2 * x) + s).toNatClampNeg ((u 7 ((2 * x) + s).toNatClampNeg) - n)
    let b : Gr := up a 0 36 ((a 0 36) + n)
    if (b 0 25) = 8 then
      let c : Gr := up b 0 37 ((b 0 37) + n)
      let d : Gr := up c 0 22 ((c 0 22) + n)
      K d (left - n)
    else
      let c : Gr := up b 6 ((2 * (b 0 25)) + s).toNatClampNeg ((b 6 ((2 * (b 0 25)) + s).toNatClampNeg) + n)
      K c (left - n)
theorem take_tk (ρ : Gr) (x : Int32) : g_X7_take ρ x = (if x < 0 then up (up ρ 0 36 0) 0 37 0 else if x = up (up ρ 0 36 0) 0 37 0 0 25 then up (up ρ 0 36 0) 0 37 0 else tkS (up (up ρ 0 36 0) 0 37 0) x 1 (up (up ρ 0 36 0) 0 37 0 0 24) (fun a l => tkS a x 0 l (fun b _ => up b 0 23 ((b 0 23) + (b 0 36))))) := rfl
noncomputable def tk1 (u : Gr) (x s n : Int32) : Gr :=
  if (up (up u 7 ((2 * x) + s).toNatClampNeg ((u 7 ((2 * x) + s).toNatClampNeg) - n)) 0 36 ((up u 7 ((2 * x) + s).toNatClampNeg ((u 7 ((2 * x) + s).toNatClampNeg) - n) 0 36) + n)) 0 25 = 8 then
    up (up (up (up u 7 ((2 * x) + s).toNatClampNeg ((u 7 ((2 * x) + s).toNatClampNeg) - n)) 0 36 ((up u 7 ((2 * x) + s).toNatClampNeg ((u 7 ((2 * x) + s).toNatClampNeg) - n) 0 36) + n)) 0 37 ((up (up u 7 ((2 * x) + s).toNatClampNeg ((u 7 ((2 * x) + s).toNatClampNeg) - n)) 0 36 ((up u 7 ((2 * x) + s).toNatClampNeg ((u 7 ((2 * x) + s).toNatClampNeg) - n) 0 36) + n) 0 37) + n)) 0 22 ((up (up (up u 7 ((2 * x) + s).toNatClampNeg ((u 7 ((2 * x) + s).toNatClampNeg) - n)) 0 36 ((up u 7 ((2 * x) + s).toNatClampNeg ((u 7 ((2 * x) + s).toNatClampNeg) - n) 0 36) + n)) 0 37 ((up (up u 7 ((2 * x) + s).toNatClampNeg ((u 7 ((2 * x) + s).toNatClampNeg) - n)) 0 36 ((up u 7 ((2 * x) + s).toNatClampNeg ((u 7 ((2 * x) + s).toNatClampNeg) - n) 0 36) + n) 0 37) + n) 0 22) + n)
  else
    up (up (up u 7 ((2 * x) + s).toNatClampNeg ((u 7 ((2 * x) + s).toNatClampNeg) - n)) 0 36 ((up u 7 ((2 * x) + s).toNatClampNeg ((u 7 ((2 * x) + s).toNatClampNeg) - n) 0 36) + n)) 6 ((2 * (up (up u 7 ((2 * x) + s).toNatClampNeg ((u 7 ((2 * x) + s).toNatClampNeg) - n)) 0 36 ((up u 7 ((2 * x) + s).toNatClampNeg ((u 7 ((2 * x) + s).toNatClampNeg) - n) 0 36) + n) 0 25)) + s).toNatClampNeg ((up (up u 7 ((2 * x) + s).toNatClampNeg ((u 7 ((2 * x) + s).toNatClampNeg) - n)) 0 36 ((up u 7 ((2 * x) + s).toNatClampNeg ((u 7 ((2 * x) + s).toNatClampNeg) - n) 0 36) + n) 6 ((2 * (up (up u 7 ((2 * x) + s).toNatClampNeg ((u 7 ((2 * x) + s).toNatClampNeg) - n)) 0 36 ((up u 7 ((2 * x) + s).toNatClampNeg ((u 7 ((2 * x) + s).toNatClampNeg) - n) 0 36) + n) 0 25)) + s).toNatClampNeg) + n)
theorem ite_app {α β : Type} {p : Prop} [Decidable p] (K : α → β) (a b : α) : (if p then K a else K b) = K (if p then a else b) := by
  by_cases h : p
  · rw [if_pos h, if_pos h]
  · rw [if_neg h, if_neg h]
theorem tkS_eq (u : Gr) (x s left : Int32) (K : Gr → Int32 → Gr) : tkS u x s left K = K (tk1 u x s (if left ≤ u 7 ((2 * x) + s).toNatClampNeg then left else u 7 ((2 * x) + s).toNatClampNeg)) (left - (if left ≤ u 7 ((2 * x) + s).toNatClampNeg then left else u 7 ((2 * x) + s).toNatClampNeg)) := by
  unfold tkS tk1
  dsimp only
  by_cases h : left ≤ u 7 ((2 * x) + s).toNatClampNeg
  · rw [if_pos h, if_pos h]; exact ite_app (fun z => K z (left - left)) _ _
  · rw [if_neg h, if_neg h]; exact ite_app (fun z => K z (left - u 7 ((2 * x) + s).toNatClampNeg)) _ _
/-- both while the dredger works -/
def SD (n : Nat) (v u : Gr) : Prop := TR n v u ∧ NR v u ∧ (u 0 36 = v 0 9 ∧ u 0 37 = v 0 10) ∧ (u 0 24 = v 19 0 ∧ u 0 25 = v 19 1) ∧ v 1 0 = nI n ∧ (v 19 1 = 8 ∨ ∃ c, c < n ∧ v 19 1 = nI c)
theorem s0 {u : Gr} {j : Nat} {x : Int32} (i : Nat) (h : i ≠ j) : up u 0 j x 0 i = u 0 i := by rw [up0, if_neg h]
theorem s1 {u : Gr} {j : Nat} {x : Int32} : up u 0 j x 0 j = x := by rw [up0, if_pos rfl]
theorem subsub (a b c : Int32) : a - b - c = a - (b + c) := by
  rw [Int32.sub_eq_add_neg, Int32.sub_eq_add_neg, Int32.sub_eq_add_neg, Int32.neg_add, Int32.sub_eq_add_neg, Int32.add_assoc]
theorem minswap (a b : Int32) : (if a ≤ b then a else b) = if b < a then b else a := by
  by_cases h : b < a
  · rw [if_pos h, if_neg (Int32.not_le.mpr h)]
  · rw [if_neg h, if_pos (Int32.not_lt.mp h)]
theorem dstuff_sim {n : Nat} {v u : Gr} (hn : n ≤ 8) (h : SD n v u) {c s : Nat} (hc : c < n) (hs : s < 2) {left : Int32} (hl : left = v 19 0 - v 0 9) :
    SD n (g_X3_dredgeStuff v (nI c) (nI s)) (tk1 u (nI c) (nI s) (if left ≤ u 7 ((2 * nI c) + nI s).toNatClampNeg then left else u 7 ((2 * nI c) + nI s).toNatClampNeg)) ∧ left - (if left ≤ u 7 ((2 * nI c) + nI s).toNatClampNeg then left else u 7 ((2 * nI c) + nI s).toNatClampNeg) = g_X3_dredgeStuff v (nI c) (nI s) 19 0 - g_X3_dredgeStuff v (nI c) (nI s) 0 9 := by
  obtain ⟨t, N, ⟨e36, e37⟩, ⟨e24, e25⟩, hv, hd⟩ := h
  have eS : u 7 (2 * c + s) = v 8 (8 * s + c) := (t c s hc hs).2
  rw [ix2c (by omega) hs, eS, minswap, hl]
  unfold g_X3_dredgeStuff tk1
  dsimp only
  rw [hp_c (by omega) hs, ix2c (by omega) hs, eS]
  generalize (if v 8 (8 * s + c) < v 19 0 - v 0 9 then v 8 (8 * s + c) else v 19 0 - v 0 9) = P
  have t1 := t.u8 hn hc hs (v 8 (8 * s + c) - P)
  have a9 : up v 8 (8 * s + c) (v 8 (8 * s + c) - P) 0 = v 0 := up_ne (by decide)
  have a36 : up u 7 (2 * c + s) (v 8 (8 * s + c) - P) 0 = u 0 := up_ne (by decide)
  have a19 : up v 8 (8 * s + c) (v 8 (8 * s + c) - P) 19 = v 19 := up_ne (by decide)
  have a1 : up v 8 (8 * s + c) (v 8 (8 * s + c) - P) 1 = v 1 := up_ne (by decide)
  generalize up v 8 (8 * s + c) (v 8 (8 * s + c) - P) = v1 at t1 a9 a19 a1 ⊢
  generalize up u 7 (2 * c + s) (v 8 (8 * s + c) - P) = u1 at t1 a36 ⊢
  have b19 : ∀ x, up v1 0 9 x 19 = v 19 := fun x => (up_ne (by decide)).trans a19
  have b1 : ∀ x, up v1 0 9 x 1 0 = nI n := fun x => by rw [up_ne (by decide), a1]; exact hv
  have b25 : ∀ x, up u1 0 36 x 0 25 = v 19 1 := fun x => by rw [s0 25 (by decide), a36]; exact e25
  rw [b19, b25, a9, a36]
  unfold g_X3_drop
  dsimp only
  rcases hd with h8 | ⟨d, hd, ed⟩
  · have hb : f_X0_has (up v1 0 9 (v 0 9 + P)) 8 = 0 := has8 hn (b1 _)
    rw [h8, if_pos hb, if_pos rfl]
    have b19' : ∀ x y, up (up v1 0 9 x) 0 10 y 19 = v 19 := fun x y => (up_ne (by decide)).trans (b19 x)
    have hb2 : ∀ x y, f_X0_has (up (up v1 0 9 x) 0 10 y) 8 = 0 := fun x y => has8 hn (b1 x)
    rw [b19', h8, if_pos (hb2 _ _)]
    refine ⟨⟨t1.v0.v0.v0.u0.u0.u0, ?_, ⟨?_, ?_⟩, ⟨?_, ?_⟩, ?_, ?_⟩, ?_⟩
    · refine ⟨?_, ?_, ?_⟩
      · rw [s0 21 (by decide), s0 21 (by decide), s0 21 (by decide), a36, s0 6 (by decide), s0 6 (by decide), s0 6 (by decide), a9]; exact N.1
      · rw [s1, s1, s0 22 (by decide), s0 22 (by decide), a36, s0 7 (by decide), s0 7 (by decide), a9, N.2.1]
      · rw [s0 23 (by decide), s0 23 (by decide), s0 23 (by decide), a36, s0 8 (by decide), s0 8 (by decide), s0 8 (by decide), a9]; exact N.2.2
    · rw [s0 36 (by decide), s0 36 (by decide), s1, s0 9 (by decide), s0 9 (by decide), s1, e36]
    · rw [s0 37 (by decide), s1, s0 37 (by decide), a36, s0 10 (by decide), s1, s0 10 (by decide), a9, e37]
    · rw [s0 24 (by decide), s0 24 (by decide), s0 24 (by decide), a36, up_ne (by decide), b19']; exact e24
    · rw [s0 25 (by decide), s0 25 (by decide), s0 25 (by decide), a36, up_ne (by decide), b19']; exact e25
    · rw [up_ne (by decide), up_ne (by decide)]; exact b1 _
    · rw [up_ne (by decide), b19']; exact Or.inl h8
    · rw [up_ne (show (19 : Nat) ≠ 0 by decide), b19', s0 9 (by decide), s0 9 (by decide), s1, subsub]
  · have hb : f_X0_has (up v1 0 9 (v 0 9 + P)) (nI d) = 1 := hasc hn (b1 _) hd
    have hne : ¬ (nI d : Int32) = 8 := fun q => by have := nIinj (by omega) (by decide) (show nI d = nI 8 from q); omega
    rw [ed, if_neg (by rw [hb]; decide), if_neg hne, if_neg (by rw [hb]; decide), hp_c (by omega) hs, ix2c (by omega) hs]
    have t2 : TR n (up v1 0 9 (v 0 9 + P)) (up u1 0 36 (u 0 36 + P)) := t1.v0.u0
    rw [(t2 d s hd hs).1]
    refine ⟨⟨t2.u7 hn hd hs _, ?_, ⟨?_, ?_⟩, ⟨?_, ?_⟩, ?_, ?_⟩, ?_⟩
    · unfold NR
      rw [up_ne (show (0 : Nat) ≠ 6 by decide), up_ne (show (0 : Nat) ≠ 7 by decide), s0 21 (by decide), s0 22 (by decide), s0 23 (by decide), s0 6 (by decide), s0 7 (by decide), s0 8 (by decide), a36, a9]; exact N
    · rw [up_ne (show (0 : Nat) ≠ 6 by decide), up_ne (show (0 : Nat) ≠ 7 by decide), s1, s1, e36]
    · rw [up_ne (show (0 : Nat) ≠ 6 by decide), up_ne (show (0 : Nat) ≠ 7 by decide), s0 37 (by decide), s0 10 (by decide), a36, a9]; exact e37
    · rw [up_ne (show (0 : Nat) ≠ 6 by decide), s0 24 (by decide), a36, up_ne (show (19 : Nat) ≠ 7 by decide), b19]; exact e24
    · rw [up_ne (show (0 : Nat) ≠ 6 by decide), s0 25 (by decide), a36, up_ne (show (19 : Nat) ≠ 7 by decide), b19]; exact e25
    · rw [up_ne (show (1 : Nat) ≠ 7 by decide)]; exact b1 _
    · rw [up_ne (show (19 : Nat) ≠ 7 by decide), b19]; exact Or.inr ⟨d, hd, ed⟩
    · rw [up_ne (show (19 : Nat) ≠ 7 by decide), b19, up_ne (show (0 : Nat) ≠ 7 by decide), s1, subsub]
/-- whence each takes -/
def WH (n : Nat) (v : Gr) (a b : Int32) : Prop := ((a < 0 ∨ a = v 19 1) ∧ (f_X0_has v b = 0 ∨ b = v 19 1)) ∨ (∃ c, c < n ∧ a = nI c ∧ b = nI c ∧ ¬ nI c = v 19 1)
theorem take_sim {n nw nr : Nat} {v u : Gr} (I : IC n nw nr v) (R : RC n nw nr v u) (h : TR n v u) (N : NR v u) (hcap : u 0 24 = v 19 0) {a b : Int32} (hw : WH n v a b) :
    TR n (g_X3_dredge v b) (g_X7_take u a) ∧ NR (g_X3_dredge v b) (g_X7_take u a) ∧ g_X7_take u a 0 36 = g_X3_dredge v b 0 9 ∧ g_X7_take u a 0 37 = g_X3_dredge v b 0 10 := by
  have hn := I.1.1
  have D := I.2.2.2.2.2.2.1
  have r := R.2.2.2.2.1
  have hd0 : SD n (up (up v 0 9 0) 0 10 0) (up (up u 0 36 0) 0 37 0) := by
    refine ⟨h.v0.v0.u0.u0, ?_, ⟨?_, ?_⟩, ⟨?_, ?_⟩, I.2.1.1, D.2.1⟩
    · unfold NR
      rw [s0 21 (by decide), s0 21 (by decide), s0 22 (by decide), s0 22 (by decide), s0 23 (by decide), s0 23 (by decide), s0 6 (by decide), s0 6 (by decide), s0 7 (by decide), s0 7 (by decide), s0 8 (by decide), s0 8 (by decide)]; exact N
    · rw [s0 36 (by decide), s1, s0 9 (by decide), s1]
    · rw [s1, s1]
    · rw [s0 24 (by decide), s0 24 (by decide)]; exact hcap
    · rw [s0 25 (by decide), s0 25 (by decide)]; exact r.1
  have e25 : up (up u 0 36 0) 0 37 0 0 25 = v 19 1 := hd0.2.2.2.1.2
  have e24 : up (up u 0 36 0) 0 37 0 0 24 = up (up v 0 9 0) 0 10 0 19 0 := hd0.2.2.2.1.1
  have e9 : up (up v 0 9 0) 0 10 0 0 9 = 0 := by rw [s0 9 (by decide), s1]
  have ehas : ∀ x, f_X0_has (up (up v 0 9 0) 0 10 0) x = f_X0_has v x := fun x => rfl
  have e19 : up (up v 0 9 0) 0 10 0 19 1 = v 19 1 := rfl
  rw [take_tk, e25, e24]
  unfold g_X3_dredge
  dsimp only
  rw [ehas, e19]
  generalize up (up v 0 9 0) 0 10 0 = v1 at hd0 e24 e9 ehas e19 ⊢
  generalize up (up u 0 36 0) 0 37 0 = u1 at hd0 e25 e24 ⊢
  rcases hw with ⟨ha, hb⟩ | ⟨c, hc, rfl, rfl, hne⟩
  · have ea : ∀ X : Gr, (if a < 0 then u1 else if a = v 19 1 then u1 else X) = u1 := fun X => by
      rcases ha with q | q
      · rw [if_pos q]
      · rw [if_pos q, ite_self]
    have eb : ∀ X : Gr, (if f_X0_has v b = 0 then v1 else if b = v 19 1 then v1 else X) = v1 := fun X => by
      rcases hb with q | q
      · rw [if_pos q]
      · rw [if_pos q, ite_self]
    rw [ea, eb]
    exact ⟨hd0.1, hd0.2.1, hd0.2.2.1.1, hd0.2.2.1.2⟩
  · rw [if_neg (nI_pos (by omega)), if_neg hne, if_neg (by rw [hasc hn I.2.1.1 hc]; decide), if_neg hne]
    rw [tkS_eq]
    have k1 := dstuff_sim (s := 1) (left := v1 19 0) hn hd0 hc (by decide) (by rw [e9, Int32.sub_zero])
    rw [show (nI 1 : Int32) = 1 from rfl] at k1
    obtain ⟨k1, l1⟩ := k1
    generalize (if v1 19 0 ≤ u1 7 (2 * nI c + 1).toNatClampNeg then v1 19 0 else u1 7 (2 * nI c + 1).toNatClampNeg) = n1 at k1 l1 ⊢
    generalize g_X3_dredgeStuff v1 (nI c) 1 = v2 at k1 l1 ⊢
    generalize tk1 u1 (nI c) 1 n1 = u2 at k1 ⊢
    rw [tkS_eq]
    have k2 := dstuff_sim (s := 0) (left := v1 19 0 - n1) hn k1 hc (by decide) l1
    rw [show (nI 0 : Int32) = 0 from rfl] at k2
    obtain ⟨k2, _⟩ := k2
    generalize (if v1 19 0 - n1 ≤ u2 7 (2 * nI c + 0).toNatClampNeg then v1 19 0 - n1 else u2 7 (2 * nI c + 0).toNatClampNeg) = n2 at k2 ⊢
    generalize g_X3_dredgeStuff v2 (nI c) 0 = v3 at k2 ⊢
    generalize tk1 u2 (nI c) 0 n2 = u3 at k2 ⊢
    obtain ⟨t, N', ⟨e36, e37⟩, _⟩ := k2
    refine ⟨t.v0.u0, ⟨?_, ?_, ?_⟩, ?_, ?_⟩
    · rw [s0 21 (by decide), s0 6 (by decide)]; exact N'.1
    · rw [s0 22 (by decide), s0 7 (by decide)]; exact N'.2.1
    · rw [s1, s1, N'.2.2, e36]
    · rw [s0 36 (by decide), s0 9 (by decide)]; exact e36
    · rw [s0 37 (by decide), s0 10 (by decide)]; exact e37
