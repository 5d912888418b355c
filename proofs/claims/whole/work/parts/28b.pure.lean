/-! the invariant between calls -/
/-- the reference's state out of its image -/
def uimg (I : Nat → Int32) (f : Nat) : Nat → Int32 := match f with
  | 0 => fun j => match j with
    | 0 => I 0
    | 8 => I 1
    | 15 => I 2
    | 20 => I 3
    | 21 => I 4
    | 22 => I 5
    | 23 => I 6
    | 24 => I 7
    | 25 => I 8
    | 26 => I 9
    | 27 => I 10
    | 28 => I 11
    | 34 => -1
    | _ => 0
  | 1 => fun c => I (12 + 8 * c)
  | 2 => fun c => I (13 + 8 * c)
  | 3 => fun c => I (14 + 8 * c)
  | 4 => fun c => I (15 + 8 * c)
  | 5 => fun c => I (16 + 8 * c)
  | 16 => fun c => I (17 + 8 * c)
  | 17 => fun c => I (18 + 8 * c)
  | 18 => fun c => I (19 + 8 * c)
  | 6 => fun k => I (76 + 2 * k)
  | 7 => fun k => I (77 + 2 * k)
  | 9 => fun w => I (108 + 6 * w)
  | 10 => fun w => I (109 + 6 * w)
  | 11 => fun w => I (110 + 6 * w)
  | 12 => fun w => I (111 + 6 * w)
  | 13 => fun w => I (112 + 6 * w)
  | 14 => fun w => if I (113 + 6 * w) = 1 then 1 else 0
  | 19 => fun t => I (252 + t)
  | _ => fun _ => 0
def TX (s w : Gr) : Prop := ∃ e, e ≤ 96 ∧ s 1 0 = nI e ∧ w 0 30 = nI e ∧ ∀ i, i < e → w 29 i = s 2 i
def RW (s w : Gr) : Prop := ∃ r, r ≤ 28 ∧ s 0 6 = nI r ∧ w 0 32 = nI r ∧ ∀ i, i < r → w 31 i = s 3 i ∧ rg (s 3 i) 0 9
def RF (s w : Gr) : Prop := ∀ i, i < 7 → w 33 i = s 4 i
def SIMc (j : Nat) (v w : Gr) : Prop := ∃ n nw nr, SIM n nw nr (200 * j) (1598400 * j) v w ∧ w 0 24 = v 19 0 ∧ w 0 34 = -1
def IMG (j : Nat) (s k3 w : Gr) : Prop := (s 0 3 = 0 ∧ w 0 51 = 0) ∨ (s 0 3 = 1 ∧ w 0 51 = 1 ∧ SIMc j k3 (uimg (w 52)))
def IVc (j : Nat) (s v k3 w : Gr) : Prop := SIMc j v w ∧ TX s w ∧ RW s w ∧ RF s w ∧ IMG j s k3 w
def IV (j : Nat) (σ : St) : Prop := IVc j (σ 0) (σ 1) (σ 3) (σ 4)
theorem SIMc.mono {j j' : Nat} {v w : Gr} (h : SIMc j v w) (hj : j ≤ j') : SIMc j' v w := by
  obtain ⟨n, nw, nr, S, c⟩ := h
  exact ⟨n, nw, nr, S.mono (Nat.mul_le_mul_left _ hj) (Nat.mul_le_mul_left _ hj), c⟩
theorem IMG.mono {j j' : Nat} {s k3 w : Gr} (h : IMG j s k3 w) (hj : j ≤ j') : IMG j' s k3 w := by
  rcases h with h | ⟨a, b, c⟩
  · exact Or.inl h
  · exact Or.inr ⟨a, b, c.mono hj⟩
theorem IVc.mono {j j' : Nat} {s v k3 w : Gr} (h : IVc j s v k3 w) (hj : j ≤ j') : IVc j' s v k3 w := ⟨h.1.mono hj, h.2.1, h.2.2.1, h.2.2.2.1, h.2.2.2.2.mono hj⟩
/-- what the others need of the reference -/
def WK (w w' : Gr) : Prop := w' 29 = w 29 ∧ w' 31 = w 31 ∧ w' 33 = w 33 ∧ w' 52 = w 52 ∧ w' 0 30 = w 0 30 ∧ w' 0 32 = w 0 32 ∧ w' 0 51 = w 0 51
/-- another harbour, the others as they were -/
theorem IVc.sim {j j' : Nat} {s v v' k3 w w' : Gr} (h : IVc j s v k3 w) (hj : j ≤ j') (S : SIMc j' v' w') (k : WK w w') : IVc j' s v' k3 w' := by
  obtain ⟨_, t, r, f, i⟩ := h
  obtain ⟨k1, k2, k3', k4, k5, k6, k7⟩ := k
  refine ⟨S, ?_, ?_, ?_, ?_⟩
  · unfold TX; rw [k1, k5]; exact t
  · unfold RW; rw [k2, k6]; exact r
  · unfold RF; rw [k3']; exact f
  · unfold IMG; rw [k4, k7]; exact i.mono hj
theorem SIM.wfm {n nw nr B M : Nat} {v w : Gr} (S : SIM n nw nr B M v w) (t : rg (w 0 30) 0 96) (r : rg (w 0 32) 0 28) : WFm B w := by
  obtain ⟨I, R, T, N, Z, hb⟩ := S
  obtain ⟨⟨hn, hw, hr⟩, _, _, W, _, V, D, m, _⟩ := I
  obtain ⟨⟨x1, x2, x3⟩, r2, r3, r4, ⟨y1, y2, y3, y4⟩, r6, r7⟩ := R
  refine ⟨⟨n, by omega, hn, x1⟩, ⟨nw, by omega, hw, x2⟩, ⟨nr, by omega, hr, x3⟩, by rw [r6]; exact m, by rw [N.1]; exact hb, ?_, ?_, fun i hi => ?_, fun i hi => ?_, t, r⟩
  · rw [y1]
    rcases D.2.1 with e | ⟨c, hc, e⟩
    · exact ⟨8, by decide, by decide, e⟩
    · exact ⟨c, by omega, by omega, e⟩
  · rw [y3]
    rcases D.2.2.2.1 with e | ⟨c, hc, e⟩
    · exact ⟨0, by decide, by decide, e⟩
    · exact ⟨c, by omega, by omega, e⟩
  · rw [x2, nI_clamp (by omega)] at hi
    obtain ⟨⟨c, hc, ec⟩, ht, _, hs, _⟩ := W i hi
    obtain ⟨q9, q10, _, q12, _⟩ := r3 i hi
    refine ⟨⟨c, by omega, by omega, q9.trans ec⟩, ?_, by rw [q12]; exact hs⟩
    rw [q10]
    rcases ht with e | ⟨d, hd, e⟩
    · exact ⟨8, by decide, by decide, e⟩
    · exact ⟨d, by omega, by omega, e⟩
  · rw [x3, nI_clamp (by omega)] at hi
    obtain ⟨⟨c, hc, ec⟩, hs, _⟩ := V i hi
    obtain ⟨q16, q17, _⟩ := r4 i hi
    exact ⟨⟨c, by omega, by omega, q16.trans ec⟩, by rw [q17]; exact hs⟩
theorem IVc.wfm {j : Nat} {s v k3 w : Gr} (h : IVc j s v k3 w) : WFm (200 * j) w := by
  obtain ⟨⟨n, nw, nr, S, _⟩, ⟨e, he, _, ee, _⟩, ⟨r, hr, _, er, _⟩, _⟩ := h
  exact S.wfm ⟨e, by omega, he, ee⟩ ⟨r, by omega, hr, er⟩
theorem IVc.wfh {j : Nat} {s v k3 w : Gr} (h : IVc j s v k3 w) : WFh v := by
  obtain ⟨⟨n, nw, nr, ⟨I, _⟩, _⟩, _⟩ := h
  obtain ⟨⟨hn, hw, hr⟩, ⟨e1, e2, e3⟩, _⟩ := I
  unfold WFh
  rw [e1, e2, e3, nI_clamp (by omega), nI_clamp (by omega), nI_clamp (by omega)]
  exact ⟨hn, hw, hr⟩
/-- a call: the answers are alike, and the invariant holds behind it -/
def OK {α : Type} (j : Nat) (σ : St) (a : α) (g6 : St) (b : α) (g7 : Gr) : Prop := g6 4 = σ 4 ∧ a = b ∧ IV (j + 1) (setG g6 4 g7)
theorem OK.map {α β : Type} (f : α → β) {j : Nat} {σ : St} {a b : α} {g6 : St} {g7 : Gr} (h : OK j σ a g6 b g7) : OK j σ (f a) g6 (f b) g7 := ⟨h.1, by rw [h.2.1], h.2.2⟩
theorem OK.stay {α : Type} {j : Nat} {σ : St} {a b : α} (h : IV j σ) (e : a = b) : OK j σ a σ b (σ 4) := ⟨rfl, e, by rw [setG_self]; exact IVc.mono h (Nat.le_succ j)⟩
theorem OK.of {α : Type} {j : Nat} {σ g6 : St} {a b : α} {g7 : Gr} (e4 : g6 4 = σ 4) (e : a = b) (h : IVc (j + 1) (g6 0) (g6 1) (g6 3) g7) : OK j σ a g6 b g7 := by
  refine ⟨e4, e, ?_⟩
  unfold IV
  rw [setG_same, setG_ne (by decide), setG_ne (by decide), setG_ne (by decide)]
  exact h
theorem refuse_IV {j : Nat} {s v k3 w : Gr} (h : IVc j s v k3 w) {k : Nat} (hk : k < 7) : IVc (j + 1) (up s 4 k (s 4 k + 1)) v k3 (up w 33 k (w 33 k + 1)) := by
  obtain ⟨S, t, r, f, i⟩ := h
  refine ⟨?_, ?_, ?_, fun i hi => ?_, ?_⟩
  · obtain ⟨n, nw, nr, S, c1, c2⟩ := S.mono (Nat.le_succ j)
    refine ⟨n, nw, nr, S.am ⟨fun j _ => congrFun (up_ne (by decide)) j, congrFun (up_ne (by decide)) 34, fun f i _ hf => congrFun (up_ne (by omega)) i, fun f i _ hf => congrFun (up_ne (by omega)) i, fun f i _ hf => congrFun (up_ne (by omega)) i, fun i _ => congrFun (up_ne (by decide)) i⟩, ?_, ?_⟩
    · rw [up_ne (by decide)]; exact c1
    · rw [up_ne (by decide)]; exact c2
  · unfold TX; rw [up_ne (show (1 : Nat) ≠ 4 by decide), up_ne (show (2 : Nat) ≠ 4 by decide), up_ne (show (0 : Nat) ≠ 33 by decide), up_ne (show (29 : Nat) ≠ 33 by decide)]; exact t
  · unfold RW; rw [up_ne (show (0 : Nat) ≠ 4 by decide), up_ne (show (3 : Nat) ≠ 4 by decide), up_ne (show (0 : Nat) ≠ 33 by decide), up_ne (show (31 : Nat) ≠ 33 by decide)]; exact r
  · rw [up0, up0, f k hk]
    by_cases e : i = k
    · rw [if_pos e, if_pos e]
    · rw [if_neg e, if_neg e]; exact f i hi
  · unfold IMG; rw [up_ne (show (0 : Nat) ≠ 4 by decide), up_ne (show (0 : Nat) ≠ 33 by decide), up_ne (show (52 : Nat) ≠ 33 by decide)]; exact i.mono (Nat.le_succ j)
/-- a number by which a call is refused -/
def RN (x : Int32) : Prop := x = -1 ∨ x = -2 ∨ x = -3 ∨ x = -4 ∨ x = -6
theorem ref_eq {x : Int32} (hx : RN x) (s w : Gr) : ∃ k, k < 7 ∧ f_X6_refuse s x = x ∧ g_X6_refuse s x = up s 4 k (s 4 k + 1) ∧ f_X7_refuse w x = x ∧ g_X7_refuse w x = up w 33 k (w 33 k + 1) := by
  rcases hx with rfl | rfl | rfl | rfl | rfl
  · exact ⟨1, by decide, by unfold f_X6_refuse; rw [if_neg (by decide), if_neg (by decide)], by unfold g_X6_refuse; rw [if_neg (by decide), if_neg (by decide)]; rfl, rfl, rfl⟩
  · exact ⟨2, by decide, by unfold f_X6_refuse; rw [if_neg (by decide), if_neg (by decide)], by unfold g_X6_refuse; rw [if_neg (by decide), if_neg (by decide)]; rfl, rfl, rfl⟩
  · exact ⟨3, by decide, by unfold f_X6_refuse; rw [if_neg (by decide), if_neg (by decide)], by unfold g_X6_refuse; rw [if_neg (by decide), if_neg (by decide)]; rfl, rfl, rfl⟩
  · exact ⟨4, by decide, by unfold f_X6_refuse; rw [if_neg (by decide), if_neg (by decide)], by unfold g_X6_refuse; rw [if_neg (by decide), if_neg (by decide)]; rfl, rfl, rfl⟩
  · exact ⟨6, by decide, by unfold f_X6_refuse; rw [if_neg (by decide), if_neg (by decide)], by unfold g_X6_refuse; rw [if_neg (by decide), if_neg (by decide)]; rfl, rfl, rfl⟩
theorem OK.ref {j : Nat} {σ : St} {x : Int32} (h : IV j σ) (hx : RN x) : OK j σ (f_X6_refuse (σ 0) x) (setG σ 0 (g_X6_refuse (σ 0) x)) (f_X7_refuse (σ 4) x) (g_X7_refuse (σ 4) x) := by
  obtain ⟨k, hk, e1, e2, e3, e4⟩ := ref_eq hx (σ 0) (σ 4)
  rw [e1, e2, e3, e4]
  refine OK.of (setG_ne (by decide)) rfl ?_
  rw [setG_same, setG_ne (by decide), setG_ne (by decide)]
  exact refuse_IV h hk
theorem r1 : RN (-1) := Or.inl rfl
theorem r2 : RN (-2) := Or.inr (Or.inl rfl)
theorem r3 : RN (-3) := Or.inr (Or.inr (Or.inl rfl))
theorem r4 : RN (-4) := Or.inr (Or.inr (Or.inr (Or.inl rfl)))
theorem r6 : RN (-6) := Or.inr (Or.inr (Or.inr (Or.inr rfl)))
theorem HX_IV : ∀ (j : Nat) (σ : St), j ≤ 512 → IV j σ → WFh (σ 1) ∧ rg (σ 0 0 6) 0 28 ∧ WFm (200 * j) (σ 4) ∧ σ 4 0 34 = -1 := by
  intro j σ _ h
  refine ⟨IVc.wfh h, ?_, IVc.wfm h, ?_⟩
  · obtain ⟨r, hr, er, _⟩ := h.2.2.1
    exact ⟨r, by omega, hr, er⟩
  · obtain ⟨⟨_, _, _, _, _, c⟩, _⟩ := h
    exact c
theorem IV_mono : ∀ (j : Nat) (σ : St), j < 512 → IV j σ → IV (j + 1) σ := fun j σ _ h => IVc.mono h (Nat.le_succ j)
/-! conditions, one against the other -/
theorem b01 {x y : Int32} (hx : x = 0 ∨ x = 1) (hy : y = 0 ∨ y = 1) (h : ¬ x = 0 ↔ ¬ y = 0) : x = y := by
  rcases hx with rfl | rfl
  · rcases hy with rfl | rfl
    · rfl
    · exact absurd rfl (h.mpr (by decide))
  · rcases hy with rfl | rfl
    · exact absurd rfl (h.mp (by decide))
    · rfl
theorem in01 (a b c : Int64) : f_X7_in a b c = 0 ∨ f_X7_in a b c = 1 := by
  unfold f_X7_in
  repeat' split
  all_goals first | exact Or.inl rfl | exact Or.inr rfl
theorem upto_iff {x y : Int32} {n : Nat} (hy : y = nI n) (hn : n < 2 ^ 30) : (¬ f_X7_in x.toInt64 0 ((y - 1).toInt64) = 0) ↔ ∃ c, c < n ∧ x = nI c := by
  have e : (¬ f_X7_in x.toInt64 (0 : Int32).toInt64 ((y - 1).toInt64) = 0) ↔ (0 ≤ x ∧ x ≤ y - 1) := in_ii
  show (¬ f_X7_in x.toInt64 (0 : Int32).toInt64 ((y - 1).toInt64) = 0) ↔ _
  rw [e, hy]
  have e1 : (nI n - 1).toInt = (n : Int) - 1 := by
    rw [show (1 : Int32) = nI 1 from rfl, pk_sub_toInt hn (by decide)]; rfl
  constructor
  · rintro ⟨h1, h2⟩
    obtain ⟨c, hc, rfl⟩ := nI_of (Int32.not_lt.mpr h1)
    have := Int32.le_iff_toInt_le.mp h2
    rw [nI_toInt hc, e1] at this
    exact ⟨c, by omega, rfl⟩
  · rintro ⟨c, hc, rfl⟩
    refine ⟨nI_pos' (by omega), ?_⟩
    rw [Int32.le_iff_toInt_le, nI_toInt (by omega), e1]; omega
theorem has01 (v : Gr) (x : Int32) : f_X0_has v x = 0 ∨ f_X0_has v x = 1 := by
  unfold f_X0_has
  repeat' split
  all_goals first | exact Or.inl rfl | exact Or.inr rfl
theorem cell_eq {n : Nat} {v w : Gr} (hn : n ≤ 8) (hv : v 1 0 = nI n) (hw : w 0 0 = nI n) (x : Int32) : f_X7_isCell w x = f_X0_has v x :=
  b01 (in01 _ _ _) (has01 v x) ((upto_iff hw (by omega)).trans (has_iff hn hv).symm)
theorem hasN_iff {n k : Nat} {a : Int32} {x : Int32} (hk : k < 2 ^ 30) (hn : n ≤ k) (hv : a = nI n) : (¬ (if x < 0 then (0 : Int32) else if a ≤ x then 0 else if nI k ≤ x then 0 else 1) = 0) ↔ ∃ c, c < n ∧ x = nI c := by
  rw [hv]
  constructor
  · intro h
    by_cases h1 : x < 0
    · rw [if_pos h1] at h; exact absurd rfl h
    · rw [if_neg h1] at h
      obtain ⟨c, hc, rfl⟩ := nI_of h1
      by_cases h2 : nI n ≤ nI c
      · rw [if_pos h2] at h; exact absurd rfl h
      · exact ⟨c, by
          by_cases q : c < n
          · exact q
          · exact absurd ((nI_leI (by omega) hc).mpr (by omega)) h2, rfl⟩
  · rintro ⟨c, hc, rfl⟩
    rw [if_neg (nI_pos (by omega)), if_neg (fun q => by have := (nI_leI (by omega) (by omega)).mp q; omega), if_neg (fun q => by have := (nI_leI (by omega) (by omega)).mp q; omega)]
    decide
theorem w01 (v : Gr) (x : Int32) : f_X5_has v x = 0 ∨ f_X5_has v x = 1 := by
  unfold f_X5_has
  repeat' split
  all_goals first | exact Or.inl rfl | exact Or.inr rfl
theorem v01 (v : Gr) (x : Int32) : f_X4_has v x = 0 ∨ f_X4_has v x = 1 := by
  unfold f_X4_has
  repeat' split
  all_goals first | exact Or.inl rfl | exact Or.inr rfl
theorem hasW_iff {nw : Nat} {v : Gr} {x : Int32} (hn : nw ≤ 24) (hv : v 9 0 = nI nw) : (¬ f_X5_has v x = 0) ↔ ∃ c, c < nw ∧ x = nI c := hasN_iff (k := 24) (by decide) hn hv
theorem hasV_iff {nr : Nat} {v : Gr} {x : Int32} (hn : nr ≤ 8) (hv : v 15 0 = nI nr) : (¬ f_X4_has v x = 0) ↔ ∃ c, c < nr ∧ x = nI c := hasN_iff (k := 8) (by decide) hn hv
theorem way_eq {nw : Nat} {v w : Gr} (hn : nw ≤ 24) (hv : v 9 0 = nI nw) (hw : w 0 8 = nI nw) (x : Int32) : f_X7_in x.toInt64 0 ((w 0 8 - 1).toInt64) = f_X5_has v x :=
  b01 (in01 _ _ _) (w01 v x) ((upto_iff hw (by omega)).trans (hasW_iff hn hv).symm)
theorem river_eq {nr : Nat} {v w : Gr} (hn : nr ≤ 8) (hv : v 15 0 = nI nr) (hw : w 0 15 = nI nr) (x : Int32) : f_X7_in x.toInt64 0 ((w 0 15 - 1).toInt64) = f_X4_has v x :=
  b01 (in01 _ _ _) (v01 v x) ((upto_iff hw (by omega)).trans (hasV_iff hn hv).symm)
theorem st01 (x : Int32) : f_X6_isStuff x = 0 ∨ f_X6_isStuff x = 1 := by
  unfold f_X6_isStuff
  repeat' split
  all_goals first | exact Or.inl rfl | exact Or.inr rfl
theorem stuff_iff {x : Int32} : (¬ f_X6_isStuff x = 0) ↔ ∃ s, s < 2 ∧ x = nI s := by
  unfold f_X6_isStuff
  constructor
  · intro h
    by_cases h1 : x = 0
    · exact ⟨0, by decide, h1⟩
    · by_cases h2 : x = 1
      · exact ⟨1, by decide, h2⟩
      · rw [if_neg h1, if_neg h2] at h; exact absurd rfl h
  · rintro ⟨s, hs, rfl⟩
    have : s = 0 ∨ s = 1 := by omega
    rcases this with rfl | rfl <;> decide
theorem stuff_eq (x : Int32) : f_X7_isStuff x = f_X6_isStuff x := by
  refine b01 (in01 _ _ _) (st01 x) ?_
  have e : (¬ f_X7_in x.toInt64 (0 : Int32).toInt64 (1 : Int32).toInt64 = 0) ↔ (0 ≤ x ∧ x ≤ 1) := in_ii
  refine Iff.trans e (Iff.trans ?_ stuff_iff.symm)
  constructor
  · rintro ⟨h1, h2⟩
    obtain ⟨c, hc, rfl⟩ := nI_of (Int32.not_lt.mpr h1)
    have := (nI_leI hc (b := 1) (by decide)).mp h2
    exact ⟨c, by omega, rfl⟩
  · rintro ⟨s, hs, rfl⟩
    exact ⟨nI_pos' (by omega), (nI_leI (b := 1) (by omega) (by decide)).mpr (by omega)⟩
