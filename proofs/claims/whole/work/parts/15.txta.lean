/-! the reading of a text, as both read it: h says what byte stands at a place, -1 behind the end -/
def hb (t : Nat → Int32) (e a : Nat) : Int32 := if a < e then t a else -1
def dg (x : Int32) : Bool := decide (48 ≤ x) && decide (x ≤ 57)
theorem dg_iff {x : Int32} : dg x = true ↔ (48 ≤ x ∧ x ≤ 57) := by
  unfold dg; rw [Bool.and_eq_true, decide_eq_true_eq, decide_eq_true_eq]
theorem dg_out {t : Nat → Int32} {e a : Nat} (h : dg (hb t e a) = true) : a < e := by
  unfold hb at h
  by_cases q : a < e
  · exact q
  · rw [if_neg q] at h; exact absurd h (by decide)
theorem hb_out {t : Nat → Int32} {e a : Nat} {c : Int32} (h : hb t e a = c) (hc : ¬ c = -1) : a < e := by
  unfold hb at h
  by_cases q : a < e
  · exact q
  · rw [if_neg q] at h; exact absurd h.symm hc
abbrev Rd : Type := Bool × Nat × Int32
def rdig (h : Nat → Int32) (a : Nat) : Rd := if dg (h a) = true then (true, a + 1, h a - 48) else (false, a, 0)
def rnum (h : Nat → Int32) (a : Nat) : Rd :=
  if dg (h a) = true then
    if h a - 48 = 0 then (true, a + 1, 0)
    else if dg (h (a + 1)) = true then
      if dg (h (a + 2)) = true then (true, a + 3, 10 * (10 * (h a - 48) + h (a + 1) - 48) + h (a + 2) - 48)
      else (true, a + 2, 10 * (h a - 48) + h (a + 1) - 48)
    else (true, a + 1, h a - 48)
  else (false, a, 0)
def rof (h : Nat → Int32) (a : Nat) (c d : Int32) : Rd := if h a = d then (true, a + 1, 1) else if h a = c then (true, a + 1, 0) else (false, a, 0)
/-- how many signs of the moon stand there, at most n -/
def mcn (h : Nat → Int32) (a : Nat) : Nat → Nat → Nat
  | 0, k => k
  | n + 1, k => if h (a + k) = 115 ∨ h (a + k) = 110 then mcn h a n (k + 1) else k
def mbt (h : Nat → Int32) (a : Nat) : Nat → Int32
  | 0 => 0
  | k + 1 => mbt h a k ||| ((if h (a + k) = 110 then (1 : Int32) else 0) <<< (nI k &&& 31))
abbrev S5 : Type := Bool × Nat × Int32 × Int32 × Int32 × Int32 × Int32
def nofit (a : Nat) : S5 := (false, a, 0, 0, 0, 0, 0)
/-- its last sign -/
def rend (h : Nat → Int32) (a : Nat) (n : Int32 × Int32 × Int32 × Int32 × Int32) : S5 := if h a = 59 then (true, a + 1, n) else nofit a
def rbnd (p : Rd) (k : Nat → Int32 → S5) : S5 := if p.1 = true then k p.2.1 p.2.2 else nofit p.2.1
def stm (h : Nat → Int32) (a : Nat) : S5 :=
  if h a = 99 then
    rbnd (rnum h (a + 1)) (fun b x => if h b = 44 then rbnd (rnum h (b + 1)) (fun c y => rend h c (x, y, 0, 0, 0)) else nofit b)
  else if h a = 119 then
    rbnd (rdig h (a + 1)) (fun b x0 => rbnd (rdig h b) (fun b x1 => rbnd (rof h b 115 110) (fun b x2 => rbnd (rof h b 83 77) (fun b x3 => rbnd (rnum h b) (fun b x4 => rend h b (x0, x1, x2, x3, x4))))))
  else if h a = 114 then
    rbnd (rdig h (a + 1)) (fun b x0 => rbnd (rof h b 83 77) (fun b x1 => rbnd (rnum h b) (fun b x2 => rend h b (x0, x1, x2, 0, 0))))
  else if h a = 109 then
    if mcn h (a + 1) 28 0 = 0 then nofit (a + 1)
    else rend h (a + 1 + mcn h (a + 1) 28 0) (mbt h (a + 1) (mcn h (a + 1) 28 0), nI (mcn h (a + 1) 28 0), 0, 0, 0)
  else nofit a
/-- where the reference reads: the text, its end, the place, whether it is bad -/
def RX (b : Int32) (t : Nat → Int32) (e : Nat) (ρ : Gr) (a : Nat) : Prop := ρ 29 = t ∧ ρ 0 44 = nI e ∧ e ≤ 96 ∧ a ≤ e ∧ ρ 0 43 = nI a ∧ ρ 0 45 = b
/-- all but the place and the fault -/
def Q0 (ρ ρ' : Gr) : Prop := (∀ f, f ≠ 0 → ρ' f = ρ f) ∧ ∀ j, j ≠ 43 → j ≠ 45 → ρ' 0 j = ρ 0 j
theorem Q0.rf {ρ : Gr} : Q0 ρ ρ := ⟨fun _ _ => rfl, fun _ _ _ => rfl⟩
theorem Q0.trans {a b c : Gr} (h : Q0 a b) (h' : Q0 b c) : Q0 a c := ⟨fun f hf => (h'.1 f hf).trans (h.1 f hf), fun j h1 h2 => (h'.2 j h1 h2).trans (h.2 j h1 h2)⟩
theorem Q0.u {ρ : Gr} {j : Nat} {x : Int32} (hj : j = 43 ∨ j = 45) : Q0 ρ (up ρ 0 j x) := ⟨fun f hf => up_ne hf, fun i h1 h2 => by rw [up0, if_neg (by omega)]⟩
theorem Q0.u2 {ρ : Gr} {x y : Int32} : Q0 ρ (up (up ρ 0 45 x) 0 43 y) := (Q0.u (by omega)).trans (Q0.u (by omega))
theorem takeSign_Q (ρ : Gr) (x : Int32) : Q0 ρ (g_X7_takeSign ρ x) := by
  unfold g_X7_takeSign
  repeat' split
  all_goals exact Q0.u2
theorem readDigit_Q (ρ : Gr) : Q0 ρ (g_X7_readDigit ρ) := takeSign_Q _ _
theorem readOf_Q (ρ : Gr) (x y : Int32) : Q0 ρ (g_X7_readOf ρ x y) := by
  unfold g_X7_readOf
  exact ite_P (P := fun r => Q0 ρ r) (takeSign_Q _ _) (ite_P (P := fun r => Q0 ρ r) (takeSign_Q _ _) (takeSign_Q _ _))
theorem readNumber_Q (ρ : Gr) : Q0 ρ (g_X7_readNumber ρ) := by
  refine wl_P (it := b_X7_readNumber_7) (fun v : Int32 × Gr => Q0 ρ v.2) (fun k v hv => ?_) _ _ _ (readDigit_Q ρ)
  dsimp only [b_X7_readNumber_7]
  repeat' split
  all_goals first
    | exact hv
    | exact hv.trans (Q0.u (by omega))
theorem RX.of {b : Int32} {t : Nat → Int32} {e a a' : Nat} {ρ ρ' : Gr} (h : RX 0 t e ρ a) (q : Q0 ρ ρ') (ha : a' ≤ e) (h43 : ρ' 0 43 = nI a') (h45 : ρ' 0 45 = b) : RX b t e ρ' a' :=
  ⟨(q.1 29 (by decide)).trans h.1, (q.2 44 (by decide) (by decide)).trans h.2.1, h.2.2.1, ha, h43, h45⟩
theorem RX.of1 {b : Int32} {t : Nat → Int32} {e a a' : Nat} {ρ ρ' : Gr} (h : RX 1 t e ρ a) (q : Q0 ρ ρ') (ha : a' ≤ e) (h43 : ρ' 0 43 = nI a') (h45 : ρ' 0 45 = b) : RX b t e ρ' a' :=
  ⟨(q.1 29 (by decide)).trans h.1, (q.2 44 (by decide) (by decide)).trans h.2.1, h.2.2.1, ha, h43, h45⟩
theorem RX.here {b : Int32} {t : Nat → Int32} {e a : Nat} {ρ : Gr} (h : RX b t e ρ a) : f_X7_here ρ = hb t e a := by
  obtain ⟨h1, h2, h3, h4, h5, h6⟩ := h
  unfold f_X7_here hb
  rw [h1, h2, h5]
  by_cases q : a < e
  · rw [if_pos q, if_pos ((nI_ltI (by omega) (by omega)).mpr q), nI_clamp (by omega)]
  · rw [if_neg q, if_neg (fun z => q ((nI_ltI (by omega) (by omega)).mp z))]
theorem ts_ok {t : Nat → Int32} {e a : Nat} {ρ : Gr} {x : Int32} (h : RX 0 t e ρ a) (ha : a < e) (hx : ¬ x = 0) : RX 0 t e (g_X7_takeSign ρ x) (a + 1) := by
  refine h.of (takeSign_Q _ _) ha ?_ ?_
  · unfold g_X7_takeSign
    rw [if_pos h.2.2.2.2.2, if_neg hx]
    show ρ 0 43 + 1 = _
    rw [h.2.2.2.2.1, nI_1]
  · unfold g_X7_takeSign
    rw [if_pos h.2.2.2.2.2, if_neg hx]
    rfl
theorem ts_no {t : Nat → Int32} {e a : Nat} {ρ : Gr} (h : RX 0 t e ρ a) : RX 1 t e (g_X7_takeSign ρ 0) a := by
  refine h.of (takeSign_Q _ _) h.2.2.2.1 ?_ ?_
  · unfold g_X7_takeSign
    rw [if_pos h.2.2.2.2.2, if_pos rfl]
    show ρ 0 43 + 0 = _
    rw [h.2.2.2.2.1]; exact nI_add a 0
  · unfold g_X7_takeSign
    rw [if_pos h.2.2.2.2.2, if_pos rfl]
    rfl
theorem ts_bad {t : Nat → Int32} {e a : Nat} {ρ : Gr} {x : Int32} (h : RX 1 t e ρ a) : RX 1 t e (g_X7_takeSign ρ x) a := by
  have hb : ¬ ρ 0 45 = 0 := by rw [h.2.2.2.2.2]; decide
  refine h.of1 (takeSign_Q _ _) h.2.2.2.1 ?_ ?_
  · unfold g_X7_takeSign
    rw [if_neg hb]
    show ρ 0 43 + 0 = _
    rw [h.2.2.2.2.1]; exact nI_add a 0
  · unfold g_X7_takeSign
    rw [if_neg hb]
    rfl
theorem in_dg {x : Int32} : f_X7_in x.toInt64 48 57 = 0 ↔ ¬ dg x = true := by
  have h : ¬ f_X7_in x.toInt64 (48 : Int32).toInt64 (57 : Int32).toInt64 = 0 ↔ (48 ≤ x ∧ x ≤ 57) := in_ii
  rw [dg_iff, ← h]
  exact Decidable.not_not.symm
theorem rd_ok {t : Nat → Int32} {e a : Nat} {ρ : Gr} (h : RX 0 t e ρ a) (hd : dg (hb t e a) = true) : RX 0 t e (g_X7_readDigit ρ) (a + 1) ∧ f_X7_readDigit ρ = hb t e a - 48 := by
  have hx : ¬ f_X7_in (f_X7_here ρ).toInt64 48 57 = 0 := by rw [h.here, in_dg]; exact fun q => q hd
  have k := ts_ok h (dg_out hd) hx
  refine ⟨k, ?_⟩
  unfold f_X7_readDigit
  dsimp only
  rw [if_pos k.2.2.2.2.2, h.here]
theorem rd_no {t : Nat → Int32} {e a : Nat} {ρ : Gr} (h : RX 0 t e ρ a) (hd : ¬ dg (hb t e a) = true) : RX 1 t e (g_X7_readDigit ρ) a ∧ f_X7_readDigit ρ = 0 := by
  have hx : f_X7_in (f_X7_here ρ).toInt64 48 57 = 0 := by rw [h.here, in_dg]; exact hd
  have k := ts_no h
  rw [← hx] at k
  refine ⟨k, ?_⟩
  unfold f_X7_readDigit
  dsimp only
  rw [if_neg (by rw [k.2.2.2.2.2]; decide)]
theorem rd_spec {t : Nat → Int32} {e a : Nat} {ρ : Gr} (h : RX 0 t e ρ a) : ((rdig (hb t e) a).1 = true → RX 0 t e (g_X7_readDigit ρ) (rdig (hb t e) a).2.1 ∧ f_X7_readDigit ρ = (rdig (hb t e) a).2.2) ∧ (¬ (rdig (hb t e) a).1 = true → RX 1 t e (g_X7_readDigit ρ) (rdig (hb t e) a).2.1) := by
  unfold rdig
  by_cases hd : dg (hb t e a) = true
  · rw [if_pos hd]; exact ⟨fun _ => rd_ok h hd, fun q => absurd rfl q⟩
  · rw [if_neg hd]; exact ⟨fun q => absurd q Bool.false_ne_true, fun _ => (rd_no h hd).1⟩
theorem ro_spec {t : Nat → Int32} {e a : Nat} {ρ : Gr} {c d : Int32} (h : RX 0 t e ρ a) (hc : ¬ c = -1) (hd : ¬ d = -1) : ((rof (hb t e) a c d).1 = true → RX 0 t e (g_X7_readOf ρ c d) (rof (hb t e) a c d).2.1 ∧ f_X7_readOf ρ c d = (rof (hb t e) a c d).2.2) ∧ (¬ (rof (hb t e) a c d).1 = true → RX 1 t e (g_X7_readOf ρ c d) (rof (hb t e) a c d).2.1) := by
  unfold rof g_X7_readOf f_X7_readOf
  dsimp only
  rw [h.here]
  by_cases h1 : hb t e a = d
  · rw [if_pos h1, if_pos h1, if_pos h1, ite_self, ite_self]
    exact ⟨fun _ => ⟨ts_ok h (hb_out h1 hd) (by decide), rfl⟩, fun q => absurd rfl q⟩
  · rw [if_neg h1, if_neg h1, if_neg h1]
    by_cases h2 : hb t e a = c
    · rw [if_pos h2, if_pos h2, if_pos h2]
      exact ⟨fun _ => ⟨ts_ok h (hb_out h2 hc) (by decide), rfl⟩, fun q => absurd rfl q⟩
    · rw [if_neg h2, if_neg h2, if_neg h2]
      exact ⟨fun q => absurd q Bool.false_ne_true, fun _ => ts_no h⟩
theorem dg_nn {x : Int32} (h : dg x = true) : ∃ j : Nat, j ≤ 9 ∧ x = nI (48 + j) ∧ x - 48 = nI j := by
  obtain ⟨h1, h2⟩ := dg_iff.mp h
  have a1 := Int32.le_iff_toInt_le.mp h1
  have a2 := Int32.le_iff_toInt_le.mp h2
  have z1 : (48 : Int32).toInt = 48 := by decide
  have z2 : (57 : Int32).toInt = 57 := by decide
  have z0 : (0 : Int32).toInt = 0 := by decide
  obtain ⟨j, hj, rfl⟩ := nI_of (x := x) (fun q => by have := Int32.lt_iff_toInt_lt.mp q; omega)
  rw [nI_toInt hj] at a1 a2
  refine ⟨j - 48, by omega, by rw [show 48 + (j - 48) = j by omega], ?_⟩
  rw [show (48 : Int32) = nI 48 from rfl, pk_sub (by omega)]
theorem n10 {i j : Nat} : 10 * nI i + nI (48 + j) - 48 = nI (10 * i + j) := by
  rw [show (10 : Int32) = nI 10 from rfl, show (48 : Int32) = nI 48 from rfl, pk_mul, nI_add, pk_sub (by omega), show 10 * i + (48 + j) - 48 = 10 * i + j by omega]
theorem bn_out {k : Nat} {v : Int32 × Gr} (h : 3 ≤ nI (1 + k) ∨ v.1 ≤ 0 ∨ f_X7_in (f_X7_here v.2).toInt64 48 57 = 0) : b_X7_readNumber_7 k v = (false, 69, 0, v) := by
  unfold b_X7_readNumber_7
  by_cases h1 : 3 ≤ nI (1 + k)
  · rw [if_pos h1]
  · rw [if_neg h1]
    by_cases h2 : v.1 ≤ 0
    · rw [if_pos h2]
    · rw [if_neg h2]
      by_cases h3 : v.2 0 45 = 0
      · rw [if_pos h3, if_pos ((h.resolve_left h1).resolve_left h2)]
      · rw [if_neg h3]
theorem bn_go {k : Nat} {v : Int32 × Gr} (h1 : ¬ 3 ≤ nI (1 + k)) (h2 : ¬ v.1 ≤ 0) (h3 : v.2 0 45 = 0) (h4 : ¬ f_X7_in (f_X7_here v.2).toInt64 48 57 = 0) : b_X7_readNumber_7 k v = (true, 0, 0, (10 * v.1 + f_X7_here v.2 - 48, up v.2 0 43 (v.2 0 43 + 1))) := by
  unfold b_X7_readNumber_7
  rw [if_neg h1, if_neg h2, if_pos h3, if_neg h4]
theorem RX.inc {t : Nat → Int32} {e a : Nat} {ρ : Gr} (h : RX 0 t e ρ a) (ha : a < e) : RX 0 t e (up ρ 0 43 (ρ 0 43 + 1)) (a + 1) := by
  refine h.of (Q0.u (by omega)) ha ?_ h.2.2.2.2.2
  show ρ 0 43 + 1 = _
  rw [h.2.2.2.2.1, nI_1]
theorem nm_spec {t : Nat → Int32} {e a : Nat} {ρ : Gr} (h : RX 0 t e ρ a) : ((rnum (hb t e) a).1 = true → RX 0 t e (g_X7_readNumber ρ) (rnum (hb t e) a).2.1 ∧ f_X7_readNumber ρ = (rnum (hb t e) a).2.2) ∧ (¬ (rnum (hb t e) a).1 = true → RX 1 t e (g_X7_readNumber ρ) (rnum (hb t e) a).2.1) := by
  have key : ∀ (x : Int32) (y : Gr), l_X7_readNumber_7 (f_X7_readDigit ρ, g_X7_readDigit ρ) = (69, 0, (x, y)) → f_X7_readNumber ρ = x ∧ g_X7_readNumber ρ = y := fun x y hz => ⟨congrArg (fun z : Nat × Int32 × Int32 × Gr => z.2.2.1) hz, congrArg (fun z : Nat × Int32 × Int32 × Gr => z.2.2.2) hz⟩
  have e3 : nn (2 + 1) = 3 := nn_eq 3
  have k0 : ¬ (3 : Int32) ≤ nI (1 + 0) := by decide
  have k1 : ¬ (3 : Int32) ≤ nI (1 + 1) := by decide
  have k2 : (3 : Int32) ≤ nI (1 + 2) := by decide
  unfold rnum
  by_cases hd : dg (hb t e a) = true
  · rw [if_pos hd]
    obtain ⟨r1, v1⟩ := rd_ok h hd
    obtain ⟨i, hi, e1, e2⟩ := dg_nn hd
    by_cases hz : hb t e a - 48 = 0
    · rw [if_pos hz]
      obtain ⟨f1, f2⟩ := key (f_X7_readDigit ρ) (g_X7_readDigit ρ) (by unfold l_X7_readNumber_7; rw [e3]; exact wl_out (bn_out (Or.inr (Or.inl (by show f_X7_readDigit ρ ≤ 0; rw [v1, hz]; decide)))))
      refine ⟨fun _ => ⟨by rw [f2]; exact r1, by rw [f1]; show f_X7_readDigit ρ = 0; rw [v1, hz]⟩, fun q => absurd rfl q⟩
    · rw [if_neg hz]
      have hp : ¬ f_X7_readDigit ρ ≤ 0 := by
        rw [v1, e2]
        refine nI_nle ?_ (by omega)
        cases i with
        | zero => exact absurd (by rw [e2]; rfl) hz
        | succ n => omega
      by_cases hd2 : dg (hb t e (a + 1)) = true
      · rw [if_pos hd2]
        have hx2 : ¬ f_X7_in (f_X7_here (g_X7_readDigit ρ)).toInt64 48 57 = 0 := by rw [r1.here, in_dg]; exact fun q => q hd2
        have g2 := bn_go (k := 0) (v := (f_X7_readDigit ρ, g_X7_readDigit ρ)) k0 hp r1.2.2.2.2.2 hx2
        have r2 := r1.inc (dg_out hd2)
        obtain ⟨j, hj, e4, e5⟩ := dg_nn hd2
        have v2 : 10 * f_X7_readDigit ρ + f_X7_here (g_X7_readDigit ρ) - 48 = 10 * (hb t e a - 48) + hb t e (a + 1) - 48 := by rw [v1, r1.here]
        have hp2 : ¬ 10 * f_X7_readDigit ρ + f_X7_here (g_X7_readDigit ρ) - 48 ≤ 0 := by
          rw [v2, e2, e4, n10]
          refine nI_nle ?_ (by omega)
          cases i with
          | zero => exact absurd (by rw [e2]; rfl) hz
          | succ n => omega
        by_cases hd3 : dg (hb t e (a + 2)) = true
        · rw [if_pos hd3]
          have hx3 : ¬ f_X7_in (f_X7_here (up (g_X7_readDigit ρ) 0 43 (g_X7_readDigit ρ 0 43 + 1))).toInt64 48 57 = 0 := by rw [r2.here, in_dg]; exact fun q => q hd3
          have g3 := bn_go (k := 1) (v := (10 * f_X7_readDigit ρ + f_X7_here (g_X7_readDigit ρ) - 48, up (g_X7_readDigit ρ) 0 43 (g_X7_readDigit ρ 0 43 + 1))) k1 hp2 r2.2.2.2.2.2 hx3
          have r3 := r2.inc (dg_out hd3)
          obtain ⟨f1, f2⟩ := key (10 * (10 * f_X7_readDigit ρ + f_X7_here (g_X7_readDigit ρ) - 48) + f_X7_here (up (g_X7_readDigit ρ) 0 43 (g_X7_readDigit ρ 0 43 + 1)) - 48) (up (up (g_X7_readDigit ρ) 0 43 (g_X7_readDigit ρ 0 43 + 1)) 0 43 ((up (g_X7_readDigit ρ) 0 43 (g_X7_readDigit ρ 0 43 + 1)) 0 43 + 1)) (by unfold l_X7_readNumber_7; rw [e3, wl_go g2, wl_go g3]; exact wl_out (bn_out (Or.inl k2)))
          refine ⟨fun _ => ⟨by rw [f2]; exact r3, ?_⟩, fun q => absurd rfl q⟩
          rw [f1]
          show 10 * (10 * f_X7_readDigit ρ + f_X7_here (g_X7_readDigit ρ) - 48) + f_X7_here _ - 48 = _
          rw [v2, r2.here]
        · rw [if_neg hd3]
          have hx3 : f_X7_in (f_X7_here (up (g_X7_readDigit ρ) 0 43 (g_X7_readDigit ρ 0 43 + 1))).toInt64 48 57 = 0 := by rw [r2.here, in_dg]; exact hd3
          obtain ⟨f1, f2⟩ := key (10 * f_X7_readDigit ρ + f_X7_here (g_X7_readDigit ρ) - 48) (up (g_X7_readDigit ρ) 0 43 (g_X7_readDigit ρ 0 43 + 1)) (by unfold l_X7_readNumber_7; rw [e3, wl_go g2]; exact wl_out (bn_out (Or.inr (Or.inr hx3))))
          exact ⟨fun _ => ⟨by rw [f2]; exact r2, by rw [f1]; exact v2⟩, fun q => absurd rfl q⟩
      · rw [if_neg hd2]
        have hx2 : f_X7_in (f_X7_here (g_X7_readDigit ρ)).toInt64 48 57 = 0 := by rw [r1.here, in_dg]; exact hd2
        obtain ⟨f1, f2⟩ := key (f_X7_readDigit ρ) (g_X7_readDigit ρ) (by unfold l_X7_readNumber_7; rw [e3]; exact wl_out (bn_out (Or.inr (Or.inr hx2))))
        exact ⟨fun _ => ⟨by rw [f2]; exact r1, by rw [f1]; exact v1⟩, fun q => absurd rfl q⟩
  · rw [if_neg hd]
    obtain ⟨r1, v1⟩ := rd_no h hd
    obtain ⟨f1, f2⟩ := key (f_X7_readDigit ρ) (g_X7_readDigit ρ) (by unfold l_X7_readNumber_7; rw [e3]; exact wl_out (bn_out (Or.inr (Or.inl (by show f_X7_readDigit ρ ≤ 0; rw [v1]; decide)))))
    exact ⟨fun q => absurd q Bool.false_ne_true, fun _ => by rw [f2]; exact r1⟩
