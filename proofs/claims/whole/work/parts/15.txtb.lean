/-- what reading a statement leaves as it was -/
def Q9 (w r : Gr) : Prop := (∀ f, f ≠ 0 → f ≠ 47 → f ≠ 48 → f ≠ 49 → r f = w f) ∧ ∀ j, j ≠ 43 → j ≠ 45 → j ≠ 46 → r 0 j = w 0 j
theorem Q9.rf {w : Gr} : Q9 w w := ⟨fun _ _ _ _ _ => rfl, fun _ _ _ _ => rfl⟩
theorem Q9.trans {a b c : Gr} (h : Q9 a b) (h' : Q9 b c) : Q9 a c := ⟨fun f h0 h1 h2 h3 => (h'.1 f h0 h1 h2 h3).trans (h.1 f h0 h1 h2 h3), fun j h1 h2 h3 => (h'.2 j h1 h2 h3).trans (h.2 j h1 h2 h3)⟩
theorem Q0.q9 {a b : Gr} (h : Q0 a b) : Q9 a b := ⟨fun f h0 _ _ _ => h.1 f h0, fun j h1 h2 _ => h.2 j h1 h2⟩
theorem Q9.u {w : Gr} {f j : Nat} {x : Int32} (hf : f = 47 ∨ f = 48 ∨ f = 49) : Q9 w (up w f j x) := ⟨fun f' h0 h1 h2 h3 => up_ne (by omega), fun i _ _ _ => congrFun (up_ne (by omega)) i⟩
theorem Q9.u46 {w : Gr} {x : Int32} : Q9 w (up w 0 46 x) := ⟨fun f' h0 _ _ _ => up_ne h0, fun i _ _ h => by rw [up0, if_neg h]⟩
/-- in the midst of a statement: begun at a, now at c -/
def SM (w : Gr) (b : Int32) (t : Nat → Int32) (e s a c : Nat) (ρ : Gr) : Prop := RX b t e ρ c ∧ Q9 w ρ ∧ ρ 0 46 = nI s ∧ ρ 47 = upd (w 47) s (nI a) ∧ ρ 48 = upd (w 48) s (hb t e a) ∧ ∀ i, i < 5 * s → ρ 49 i = w 49 i
theorem SM.q {w : Gr} {b b' : Int32} {t : Nat → Int32} {e s a c c' : Nat} {ρ ρ' : Gr} (h : SM w b t e s a c ρ) (q : Q0 ρ ρ') (r : RX b' t e ρ' c') : SM w b' t e s a c' ρ' :=
  ⟨r, h.2.1.trans q.q9, (q.2 46 (by decide) (by decide)).trans h.2.2.1, (q.1 47 (by decide)).trans h.2.2.2.1, (q.1 48 (by decide)).trans h.2.2.2.2.1, fun i hi => (congrFun (q.1 49 (by decide)) i).trans (h.2.2.2.2.2 i hi)⟩
theorem SM.p {w : Gr} {b : Int32} {t : Nat → Int32} {e s a c : Nat} {ρ : Gr} (h : SM w b t e s a c ρ) {j : Nat} {x : Int32} (hj : 5 * s ≤ j) : SM w b t e s a c (up ρ 49 j x) :=
  ⟨h.1, h.2.1.trans (Q9.u (by omega)), h.2.2.1, h.2.2.2.1, h.2.2.2.2.1, fun i hi => by rw [up0, if_neg (by omega)]; exact h.2.2.2.2.2 i hi⟩
theorem SM.bad {w : Gr} {t : Nat → Int32} {e s a c : Nat} {ρ : Gr} (h : SM w 1 t e s a c ρ) : ¬ ρ 0 45 = 0 := by rw [h.1.2.2.2.2.2]; decide
theorem SM.ok {w : Gr} {t : Nat → Int32} {e s a c : Nat} {ρ : Gr} (h : SM w 0 t e s a c ρ) : ρ 0 45 = 0 := h.1.2.2.2.2.2
/-- behind a statement -/
def SG (w : Gr) (t : Nat → Int32) (e s a : Nat) (p : S5) (r : Gr) : Prop :=
  Q9 w r ∧ r 0 46 = nI (s + 1) ∧ (¬ p.1 = true → RX 1 t e r p.2.1) ∧ (p.1 = true → RX 0 t e r p.2.1 ∧ r 47 = upd (w 47) s (nI a) ∧ r 48 = upd (w 48) s (hb t e a) ∧ (∀ i, i < 5 * s → r 49 i = w 49 i) ∧ r 49 (5 * s) = p.2.2.1 ∧ r 49 (5 * s + 1) = p.2.2.2.1 ∧ ((hb t e a = 119 ∨ hb t e a = 114) → r 49 (5 * s + 2) = p.2.2.2.2.1) ∧ (hb t e a = 119 → r 49 (5 * s + 3) = p.2.2.2.2.2.1 ∧ r 49 (5 * s + 4) = p.2.2.2.2.2.2))
theorem RX.u46 {b : Int32} {t : Nat → Int32} {e c : Nat} {ρ : Gr} {x : Int32} (h : RX b t e ρ c) : RX b t e (up ρ 0 46 x) c := h
theorem u46a {ρ : Gr} {x : Int32} {s : Nat} (q : Q0 ρ (g_X7_takeSign ρ x)) (h : ρ 0 46 = nI s) : (up (g_X7_takeSign ρ x) 0 46 (g_X7_takeSign ρ x 0 46 + 1)) 0 46 = nI (s + 1) := by
  rw [up0, if_pos rfl, q.2 46 (by decide) (by decide), h, nI_1]
theorem ite_Q {α : Sort _} {P : α → Prop} {p : Prop} [Decidable p] {a b : α} (ha : p → P a) (hb : ¬ p → P b) : P (if p then a else b) := by
  by_cases h : p
  · rw [if_pos h]; exact ha h
  · rw [if_neg h]; exact hb h
theorem se_bad {w : Gr} {t : Nat → Int32} {e s a c : Nat} {ρ : Gr} {p : S5} (hp : p = nofit c) (h : SM w 1 t e s a c ρ) : SG w t e s a p (if f_X7_here ρ = 59 then up (g_X7_takeSign ρ 1) 0 46 (g_X7_takeSign ρ 1 0 46 + 1) else up (g_X7_takeSign ρ 0) 0 46 (g_X7_takeSign ρ 0 0 46 + 1)) := by
  subst hp
  have k : ∀ x, SG w t e s a (nofit c) (up (g_X7_takeSign ρ x) 0 46 (g_X7_takeSign ρ x 0 46 + 1)) := fun x =>
    ⟨(h.2.1.trans (takeSign_Q ρ x).q9).trans Q9.u46, u46a (takeSign_Q ρ x) h.2.2.1, fun _ => (ts_bad h.1).u46, fun q => absurd q (show ¬ (false = true) by decide)⟩
  exact ite_P (P := fun r => SG w t e s a (nofit c) r) (k 1) (k 0)
theorem se {w : Gr} {t : Nat → Int32} {e s a c : Nat} {ρ : Gr} {p : S5} {n : Int32 × Int32 × Int32 × Int32 × Int32} (hp : p = rend (hb t e) c n) (h : SM w 0 t e s a c ρ) (h0 : ρ 49 (5 * s) = n.1) (h1 : ρ 49 (5 * s + 1) = n.2.1) (h2 : (hb t e a = 119 ∨ hb t e a = 114) → ρ 49 (5 * s + 2) = n.2.2.1) (h3 : hb t e a = 119 → ρ 49 (5 * s + 3) = n.2.2.2.1 ∧ ρ 49 (5 * s + 4) = n.2.2.2.2) :
    SG w t e s a p (if f_X7_here ρ = 59 then up (g_X7_takeSign ρ 1) 0 46 (g_X7_takeSign ρ 1 0 46 + 1) else up (g_X7_takeSign ρ 0) 0 46 (g_X7_takeSign ρ 0 0 46 + 1)) := by
  subst hp
  rw [h.1.here]
  unfold rend
  by_cases hq : hb t e c = 59
  · rw [if_pos hq, if_pos hq]
    have c49 := (takeSign_Q ρ 1).1 49 (by decide)
    have u : up (g_X7_takeSign ρ 1) 0 46 (g_X7_takeSign ρ 1 0 46 + 1) 49 = ρ 49 := (up_ne (by decide)).trans c49
    refine ⟨(h.2.1.trans (takeSign_Q ρ 1).q9).trans Q9.u46, u46a (takeSign_Q ρ 1) h.2.2.1, fun q => absurd rfl q, fun _ => ⟨(ts_ok h.1 (hb_out hq (by decide)) (by decide)).u46, ?_, ?_, ?_, ?_, ?_, ?_, ?_⟩⟩
    · exact ((up_ne (by decide)).trans ((takeSign_Q ρ 1).1 47 (by decide))).trans h.2.2.2.1
    · exact ((up_ne (by decide)).trans ((takeSign_Q ρ 1).1 48 (by decide))).trans h.2.2.2.2.1
    · rw [u]; exact h.2.2.2.2.2
    · rw [u]; exact h0
    · rw [u]; exact h1
    · rw [u]; exact h2
    · rw [u]; exact h3
  · rw [if_neg hq, if_neg hq]
    exact ⟨(h.2.1.trans (takeSign_Q ρ 0).q9).trans Q9.u46, u46a (takeSign_Q ρ 0) h.2.2.1, fun _ => (ts_no h.1).u46, fun q => absurd q (show ¬ (false = true) by decide)⟩
theorem ge5 {x s j : Nat} (h : x = 5 * s + j) : 5 * s ≤ x := by omega
theorem i5s {x : Int32} {s : Nat} (h : x = nI s) (hs : s ≤ 47) (j : Nat) (hj : j ≤ 4) : (5 * x + nI j).toNatClampNeg = 5 * s + j := by
  rw [h, show (5 : Int32) = nI 5 from rfl, pk_mul, nI_add, nI_clamp (by omega)]
theorem i50 {x : Int32} {s : Nat} (h : x = nI s) (hs : s ≤ 47) : (5 * x).toNatClampNeg = 5 * s := by
  rw [h, show (5 : Int32) = nI 5 from rfl, pk_mul, nI_clamp (by omega)]
theorem SM0 {w : Gr} {t : Nat → Int32} {e s a : Nat} (h : RX 0 t e w a) (h46 : w 0 46 = nI s) (hs : s ≤ 47) : SM w 0 t e s a a (up (up w 47 (w 0 46).toNatClampNeg (w 0 43)) 48 (w 0 46).toNatClampNeg (f_X7_here w)) := by
  have is : (w 0 46).toNatClampNeg = s := by rw [h46, nI_clamp (by omega)]
  refine ⟨h, (Q9.u (by omega)).trans (Q9.u (by omega)), h46, ?_, ?_, fun i _ => rfl⟩
  · show upd (w 47) _ (w 0 43) = _
    rw [is, h.2.2.2.2.1]
  · show upd (w 48) _ (f_X7_here w) = _
    rw [is, h.here]
theorem stm_c {h : Nat → Int32} {a : Nat} (hl : h a = 99) : stm h a = rbnd (rnum h (a + 1)) (fun b x => if h b = 44 then rbnd (rnum h (b + 1)) (fun c y => rend h c (x, y, 0, 0, 0)) else nofit b) := if_pos hl
theorem stm_w {h : Nat → Int32} {a : Nat} (hl : h a = 119) : stm h a = rbnd (rdig h (a + 1)) (fun b x0 => rbnd (rdig h b) (fun b x1 => rbnd (rof h b 115 110) (fun b x2 => rbnd (rof h b 83 77) (fun b x3 => rbnd (rnum h b) (fun b x4 => rend h b (x0, x1, x2, x3, x4)))))) := by
  unfold stm; rw [if_neg (by rw [hl]; decide), if_pos hl]
theorem stm_r {h : Nat → Int32} {a : Nat} (hl : h a = 114) : stm h a = rbnd (rdig h (a + 1)) (fun b x0 => rbnd (rof h b 83 77) (fun b x1 => rbnd (rnum h b) (fun b x2 => rend h b (x0, x1, x2, 0, 0)))) := by
  unfold stm; rw [if_neg (by rw [hl]; decide), if_neg (by rw [hl]; decide), if_pos hl]
theorem stm_m {h : Nat → Int32} {a : Nat} (hl : h a = 109) : stm h a = if mcn h (a + 1) 28 0 = 0 then nofit (a + 1) else rend h (a + 1 + mcn h (a + 1) 28 0) (mbt h (a + 1) (mcn h (a + 1) 28 0), nI (mcn h (a + 1) 28 0), 0, 0, 0) := by
  unfold stm; rw [if_neg (by rw [hl]; decide), if_neg (by rw [hl]; decide), if_neg (by rw [hl]; decide), if_pos hl]
theorem stm_o {h : Nat → Int32} {a : Nat} (h1 : ¬ h a = 99) (h2 : ¬ h a = 119) (h3 : ¬ h a = 114) (h4 : ¬ h a = 109) : stm h a = nofit a := by
  unfold stm; rw [if_neg h1, if_neg h2, if_neg h3, if_neg h4]
theorem rb_ok {p : Rd} {k : Nat → Int32 → S5} (h : p.1 = true) : rbnd p k = k p.2.1 p.2.2 := if_pos h
theorem rb_no {p : Rd} {k : Nat → Int32 → S5} (h : ¬ p.1 = true) : rbnd p k = nofit p.2.1 := if_neg h
theorem rs_c {w : Gr} {t : Nat → Int32} {e s a : Nat} (h : RX 0 t e w a) (h46 : w 0 46 = nI s) (hs : s ≤ 47) (hl : hb t e a = 99) : SG w t e s a (stm (hb t e) a) (g_X7_readStatement w) := by
  have hz : f_X7_here w = 99 := h.here.trans hl
  have i0 := i50 h46 hs
  have i1 := i5s h46 hs 1 (by decide)
  have M0 := SM0 h h46 hs
  rw [stm_c hl]
  unfold g_X7_readStatement
  extract_lets +onlyGivenNames zv4 zv11 zs24 zs34
  have i0 : zv11.toNatClampNeg = 5 * s := i0
  have i1 : (zv11 + 1).toNatClampNeg = 5 * s + 1 := i1
  rw [if_pos (show zv4 = 99 from hz)]
  extract_lets +onlyGivenNames zs65
  have M1 : SM w 0 t e s a (a + 1) zs65 := M0.q (takeSign_Q _ _) (ts_ok M0.1 (hb_out hl (by decide)) (by decide))
  rw [if_pos M1.ok]
  extract_lets +onlyGivenNames zs87 zs90
  by_cases hp : (rnum (hb t e) (a + 1)).1 = true
  · obtain ⟨r2, v2⟩ := (nm_spec M1.1).1 hp
    rw [rb_ok hp]
    have M2 : SM w 0 t e s a _ zs90 := (M1.q (readNumber_Q _) r2).p (Nat.le_of_eq i0.symm)
    have hv0 : zs90 49 (5 * s) = (rnum (hb t e) (a + 1)).2.2 := by show up zs87 49 _ _ 49 (5 * s) = _; rw [i0, up0, if_pos rfl]; exact v2
    rw [M2.1.here]
    by_cases hq : hb t e (rnum (hb t e) (a + 1)).2.1 = 44
    · rw [if_pos hq, if_pos hq]
      extract_lets +onlyGivenNames zs106
      have M3 : SM w 0 t e s a _ zs106 := M2.q (takeSign_Q _ _) (ts_ok M2.1 (hb_out hq (by decide)) (by decide))
      rw [if_pos M3.ok]
      extract_lets +onlyGivenNames zs128 zs131
      by_cases hp2 : (rnum (hb t e) ((rnum (hb t e) (a + 1)).2.1 + 1)).1 = true
      · obtain ⟨r4, v4⟩ := (nm_spec M3.1).1 hp2
        have M4 : SM w 0 t e s a _ zs131 := (M3.q (readNumber_Q _) r4).p (ge5 i1)
        rw [if_pos (show zs128 0 45 = 0 from M4.ok)]
        rw [rb_ok hp2]
        refine se rfl M4 ?_ ?_ (fun q => absurd hl ?_) (fun q => absurd hl ?_)
        · show up zs128 49 _ _ 49 (5 * s) = _
          rw [i1, up0, if_neg (by omega)]
          exact (congrFun ((readNumber_Q _).1 49 (by decide)) _).trans ((congrFun ((takeSign_Q _ _).1 49 (by decide)) _).trans hv0)
        · show up zs128 49 _ _ 49 (5 * s + 1) = _
          rw [i1, up0, if_pos rfl]
          exact v4
        · rcases q with q | q <;> (rw [q]; decide)
        · rw [q]; decide
      · have r4 := (nm_spec M3.1).2 hp2
        have M4 : SM w 1 t e s a _ zs131 := (M3.q (readNumber_Q _) r4).p (ge5 i1)
        rw [if_neg (show ¬ zs128 0 45 = 0 from M4.bad)]
        rw [rb_no hp2]
        exact se_bad rfl M4
    · rw [if_neg hq, if_neg hq]
      extract_lets +onlyGivenNames zs106
      have M3 : SM w 1 t e s a _ zs106 := M2.q (takeSign_Q _ _) (ts_no M2.1)
      rw [if_neg M3.bad]
      exact se_bad rfl (M3.p (ge5 i1))
  · rw [rb_no hp]
    have r2 := (nm_spec M1.1).2 hp
    have M2 : SM w 1 t e s a _ zs90 := (M1.q (readNumber_Q _) r2).p (Nat.le_of_eq i0.symm)
    refine ite_Q (P := fun r => SG w t e s a (nofit (rnum (hb t e) (a + 1)).2.1) r) (fun _ => ?_) (fun _ => ?_)
    · have M3 : SM w 1 t e s a _ (g_X7_takeSign zs90 1) := M2.q (takeSign_Q _ _) (ts_bad M2.1)
      extract_lets +onlyGivenNames zs106
      rw [if_neg (show ¬ zs106 0 45 = 0 from M3.bad)]
      exact se_bad rfl (M3.p (ge5 i1))
    · have M3 : SM w 1 t e s a _ (g_X7_takeSign zs90 0) := M2.q (takeSign_Q _ _) (ts_bad M2.1)
      extract_lets +onlyGivenNames zs106
      rw [if_neg (show ¬ zs106 0 45 = 0 from M3.bad)]
      exact se_bad rfl (M3.p (ge5 i1))
theorem rs_w {w : Gr} {t : Nat → Int32} {e s a : Nat} (h : RX 0 t e w a) (h46 : w 0 46 = nI s) (hs : s ≤ 47) (hl : hb t e a = 119) : SG w t e s a (stm (hb t e) a) (g_X7_readStatement w) := by
  have hz : f_X7_here w = 119 := h.here.trans hl
  have i0 := i50 h46 hs
  have i1 := i5s h46 hs 1 (by decide)
  have i2 := i5s h46 hs 2 (by decide)
  have i3 := i5s h46 hs 3 (by decide)
  have i4 := i5s h46 hs 4 (by decide)
  have M0 := SM0 h h46 hs
  rw [stm_w hl]
  unfold g_X7_readStatement
  extract_lets +onlyGivenNames zv4 zv11 zs24 zs34
  have i0 : zv11.toNatClampNeg = 5 * s := i0
  have i1 : (zv11 + 1).toNatClampNeg = 5 * s + 1 := i1
  have i2 : (zv11 + 2).toNatClampNeg = 5 * s + 2 := i2
  have i3 : (zv11 + 3).toNatClampNeg = 5 * s + 3 := i3
  have i4 : (zv11 + 4).toNatClampNeg = 5 * s + 4 := i4
  rw [if_neg (show ¬ zv4 = 99 by show ¬ f_X7_here w = 99; rw [hz]; decide)]
  rw [if_pos (show zv4 = 119 from hz)]
  extract_lets +onlyGivenNames z0
  have M1 : SM w 0 t e s a (a + 1) z0 := M0.q (takeSign_Q _ _) (ts_ok M0.1 (hb_out hl (by decide)) (by decide))
  rw [if_pos M1.ok]
  clear_value z0 zs34 zs24
  clear_value zv11 zv4
  extract_lets +onlyGivenNames y1 z1
  by_cases hp0 : (rdig (hb t e) (a + 1)).1 = true
  case neg =>
    rw [rb_no hp0]
    have N1 : SM w 1 t e s a _ z1 := (M1.q (readDigit_Q _) ((rd_spec M1.1).2 hp0)).p (Nat.le_of_eq i0.symm)
    rw [if_neg (show ¬ y1 0 45 = 0 from N1.bad)]
    exact se_bad rfl ((((N1.p (ge5 i1)).p (ge5 i2)).p (ge5 i3)).p (ge5 i4))
  rw [rb_ok hp0]
  have N1 : SM w 0 t e s a _ z1 := (M1.q (readDigit_Q _) ((rd_spec M1.1).1 hp0).1).p (Nat.le_of_eq i0.symm)
  have v0 : z1 49 (5 * s + 0) = (rdig (hb t e) (a + 1)).2.2 := (by show up y1 49 _ _ 49 (5 * s + 0) = _; rw [i0, up0, if_pos (Nat.add_zero _)]; exact ((rd_spec M1.1).1 hp0).2)
  rw [if_pos (show y1 0 45 = 0 from N1.ok)]
  clear_value y1 z1
  extract_lets +onlyGivenNames y2 z2
  by_cases hp1 : (rdig (hb t e) (rdig (hb t e) (a + 1)).2.1).1 = true
  case neg =>
    rw [rb_no hp1]
    have N2 : SM w 1 t e s a _ z2 := (N1.q (readDigit_Q _) ((rd_spec N1.1).2 hp1)).p (ge5 i1)
    rw [if_neg (show ¬ y2 0 45 = 0 from N2.bad)]
    exact se_bad rfl (((N2.p (ge5 i2)).p (ge5 i3)).p (ge5 i4))
  rw [rb_ok hp1]
  have N2 : SM w 0 t e s a _ z2 := (N1.q (readDigit_Q _) ((rd_spec N1.1).1 hp1).1).p (ge5 i1)
  have v0 := (show z2 49 (5 * s + 0) = y2 49 (5 * s + 0) by show up y2 49 _ _ 49 (5 * s + 0) = _; rw [i1, up0, if_neg (by omega)]).trans ((congrFun ((readDigit_Q _).1 49 (by decide)) _).trans v0)
  have v1 : z2 49 (5 * s + 1) = (rdig (hb t e) (rdig (hb t e) (a + 1)).2.1).2.2 := (by show up y2 49 _ _ 49 (5 * s + 1) = _; rw [i1, up0, if_pos rfl]; exact ((rd_spec N1.1).1 hp1).2)
  rw [if_pos (show y2 0 45 = 0 from N2.ok)]
  clear_value y2 z2
  extract_lets +onlyGivenNames y3 z3
  by_cases hp2 : (rof (hb t e) (rdig (hb t e) (rdig (hb t e) (a + 1)).2.1).2.1 115 110).1 = true
  case neg =>
    rw [rb_no hp2]
    have N3 : SM w 1 t e s a _ z3 := (N2.q (readOf_Q _ _ _) ((ro_spec (c := 115) (d := 110) N2.1 (by decide) (by decide)).2 hp2)).p (ge5 i2)
    rw [if_neg (show ¬ y3 0 45 = 0 from N3.bad)]
    exact se_bad rfl ((N3.p (ge5 i3)).p (ge5 i4))
  rw [rb_ok hp2]
  have N3 : SM w 0 t e s a _ z3 := (N2.q (readOf_Q _ _ _) ((ro_spec (c := 115) (d := 110) N2.1 (by decide) (by decide)).1 hp2).1).p (ge5 i2)
  have v0 := (show z3 49 (5 * s + 0) = y3 49 (5 * s + 0) by show up y3 49 _ _ 49 (5 * s + 0) = _; rw [i2, up0, if_neg (by omega)]).trans ((congrFun ((readOf_Q _ _ _).1 49 (by decide)) _).trans v0)
  have v1 := (show z3 49 (5 * s + 1) = y3 49 (5 * s + 1) by show up y3 49 _ _ 49 (5 * s + 1) = _; rw [i2, up0, if_neg (by omega)]).trans ((congrFun ((readOf_Q _ _ _).1 49 (by decide)) _).trans v1)
  have v2 : z3 49 (5 * s + 2) = (rof (hb t e) (rdig (hb t e) (rdig (hb t e) (a + 1)).2.1).2.1 115 110).2.2 := (by show up y3 49 _ _ 49 (5 * s + 2) = _; rw [i2, up0, if_pos rfl]; exact ((ro_spec (c := 115) (d := 110) N2.1 (by decide) (by decide)).1 hp2).2)
  rw [if_pos (show y3 0 45 = 0 from N3.ok)]
  clear_value y3 z3
  extract_lets +onlyGivenNames y4 z4
  by_cases hp3 : (rof (hb t e) (rof (hb t e) (rdig (hb t e) (rdig (hb t e) (a + 1)).2.1).2.1 115 110).2.1 83 77).1 = true
  case neg =>
    rw [rb_no hp3]
    have N4 : SM w 1 t e s a _ z4 := (N3.q (readOf_Q _ _ _) ((ro_spec (c := 83) (d := 77) N3.1 (by decide) (by decide)).2 hp3)).p (ge5 i3)
    rw [if_neg (show ¬ y4 0 45 = 0 from N4.bad)]
    exact se_bad rfl (N4.p (ge5 i4))
  rw [rb_ok hp3]
  have N4 : SM w 0 t e s a _ z4 := (N3.q (readOf_Q _ _ _) ((ro_spec (c := 83) (d := 77) N3.1 (by decide) (by decide)).1 hp3).1).p (ge5 i3)
  have v0 := (show z4 49 (5 * s + 0) = y4 49 (5 * s + 0) by show up y4 49 _ _ 49 (5 * s + 0) = _; rw [i3, up0, if_neg (by omega)]).trans ((congrFun ((readOf_Q _ _ _).1 49 (by decide)) _).trans v0)
  have v1 := (show z4 49 (5 * s + 1) = y4 49 (5 * s + 1) by show up y4 49 _ _ 49 (5 * s + 1) = _; rw [i3, up0, if_neg (by omega)]).trans ((congrFun ((readOf_Q _ _ _).1 49 (by decide)) _).trans v1)
  have v2 := (show z4 49 (5 * s + 2) = y4 49 (5 * s + 2) by show up y4 49 _ _ 49 (5 * s + 2) = _; rw [i3, up0, if_neg (by omega)]).trans ((congrFun ((readOf_Q _ _ _).1 49 (by decide)) _).trans v2)
  have v3 : z4 49 (5 * s + 3) = (rof (hb t e) (rof (hb t e) (rdig (hb t e) (rdig (hb t e) (a + 1)).2.1).2.1 115 110).2.1 83 77).2.2 := (by show up y4 49 _ _ 49 (5 * s + 3) = _; rw [i3, up0, if_pos rfl]; exact ((ro_spec (c := 83) (d := 77) N3.1 (by decide) (by decide)).1 hp3).2)
  rw [if_pos (show y4 0 45 = 0 from N4.ok)]
  clear_value y4 z4
  extract_lets +onlyGivenNames y5 z5
  by_cases hp4 : (rnum (hb t e) (rof (hb t e) (rof (hb t e) (rdig (hb t e) (rdig (hb t e) (a + 1)).2.1).2.1 115 110).2.1 83 77).2.1).1 = true
  case neg =>
    rw [rb_no hp4]
    have N5 : SM w 1 t e s a _ z5 := (N4.q (readNumber_Q _) ((nm_spec N4.1).2 hp4)).p (ge5 i4)
    rw [if_neg (show ¬ y5 0 45 = 0 from N5.bad)]
    exact se_bad rfl N5
  rw [rb_ok hp4]
  have N5 : SM w 0 t e s a _ z5 := (N4.q (readNumber_Q _) ((nm_spec N4.1).1 hp4).1).p (ge5 i4)
  have v0 := (show z5 49 (5 * s + 0) = y5 49 (5 * s + 0) by show up y5 49 _ _ 49 (5 * s + 0) = _; rw [i4, up0, if_neg (by omega)]).trans ((congrFun ((readNumber_Q _).1 49 (by decide)) _).trans v0)
  have v1 := (show z5 49 (5 * s + 1) = y5 49 (5 * s + 1) by show up y5 49 _ _ 49 (5 * s + 1) = _; rw [i4, up0, if_neg (by omega)]).trans ((congrFun ((readNumber_Q _).1 49 (by decide)) _).trans v1)
  have v2 := (show z5 49 (5 * s + 2) = y5 49 (5 * s + 2) by show up y5 49 _ _ 49 (5 * s + 2) = _; rw [i4, up0, if_neg (by omega)]).trans ((congrFun ((readNumber_Q _).1 49 (by decide)) _).trans v2)
  have v3 := (show z5 49 (5 * s + 3) = y5 49 (5 * s + 3) by show up y5 49 _ _ 49 (5 * s + 3) = _; rw [i4, up0, if_neg (by omega)]).trans ((congrFun ((readNumber_Q _).1 49 (by decide)) _).trans v3)
  have v4 : z5 49 (5 * s + 4) = (rnum (hb t e) (rof (hb t e) (rof (hb t e) (rdig (hb t e) (rdig (hb t e) (a + 1)).2.1).2.1 115 110).2.1 83 77).2.1).2.2 := (by show up y5 49 _ _ 49 (5 * s + 4) = _; rw [i4, up0, if_pos rfl]; exact ((nm_spec N4.1).1 hp4).2)
  rw [if_pos (show y5 0 45 = 0 from N5.ok)]
  clear_value y5 z5
  exact se rfl N5 v0 v1 (fun _ => v2) (fun _ => ⟨v3, v4⟩)
theorem rs_r {w : Gr} {t : Nat → Int32} {e s a : Nat} (h : RX 0 t e w a) (h46 : w 0 46 = nI s) (hs : s ≤ 47) (hl : hb t e a = 114) : SG w t e s a (stm (hb t e) a) (g_X7_readStatement w) := by
  have hz : f_X7_here w = 114 := h.here.trans hl
  have i0 := i50 h46 hs
  have i1 := i5s h46 hs 1 (by decide)
  have i2 := i5s h46 hs 2 (by decide)
  have M0 := SM0 h h46 hs
  rw [stm_r hl]
  unfold g_X7_readStatement
  extract_lets +onlyGivenNames zv4 zv11 zs24 zs34
  have i0 : zv11.toNatClampNeg = 5 * s := i0
  have i1 : (zv11 + 1).toNatClampNeg = 5 * s + 1 := i1
  have i2 : (zv11 + 2).toNatClampNeg = 5 * s + 2 := i2
  rw [if_neg (show ¬ zv4 = 99 by show ¬ f_X7_here w = 99; rw [hz]; decide)]
  rw [if_neg (show ¬ zv4 = 119 by show ¬ f_X7_here w = 119; rw [hz]; decide)]
  rw [if_pos (show zv4 = 114 from hz)]
  extract_lets +onlyGivenNames z0
  have M1 : SM w 0 t e s a (a + 1) z0 := M0.q (takeSign_Q _ _) (ts_ok M0.1 (hb_out hl (by decide)) (by decide))
  rw [if_pos M1.ok]
  clear_value z0 zs34 zs24
  clear_value zv11 zv4
  extract_lets +onlyGivenNames y1 z1
  by_cases hp0 : (rdig (hb t e) (a + 1)).1 = true
  case neg =>
    rw [rb_no hp0]
    have N1 : SM w 1 t e s a _ z1 := (M1.q (readDigit_Q _) ((rd_spec M1.1).2 hp0)).p (Nat.le_of_eq i0.symm)
    rw [if_neg (show ¬ y1 0 45 = 0 from N1.bad)]
    exact se_bad rfl ((N1.p (ge5 i1)).p (ge5 i2))
  rw [rb_ok hp0]
  have N1 : SM w 0 t e s a _ z1 := (M1.q (readDigit_Q _) ((rd_spec M1.1).1 hp0).1).p (Nat.le_of_eq i0.symm)
  have v0 : z1 49 (5 * s + 0) = (rdig (hb t e) (a + 1)).2.2 := (by show up y1 49 _ _ 49 (5 * s + 0) = _; rw [i0, up0, if_pos (Nat.add_zero _)]; exact ((rd_spec M1.1).1 hp0).2)
  rw [if_pos (show y1 0 45 = 0 from N1.ok)]
  clear_value y1 z1
  extract_lets +onlyGivenNames y2 z2
  by_cases hp1 : (rof (hb t e) (rdig (hb t e) (a + 1)).2.1 83 77).1 = true
  case neg =>
    rw [rb_no hp1]
    have N2 : SM w 1 t e s a _ z2 := (N1.q (readOf_Q _ _ _) ((ro_spec (c := 83) (d := 77) N1.1 (by decide) (by decide)).2 hp1)).p (ge5 i1)
    rw [if_neg (show ¬ y2 0 45 = 0 from N2.bad)]
    exact se_bad rfl (N2.p (ge5 i2))
  rw [rb_ok hp1]
  have N2 : SM w 0 t e s a _ z2 := (N1.q (readOf_Q _ _ _) ((ro_spec (c := 83) (d := 77) N1.1 (by decide) (by decide)).1 hp1).1).p (ge5 i1)
  have v0 := (show z2 49 (5 * s + 0) = y2 49 (5 * s + 0) by show up y2 49 _ _ 49 (5 * s + 0) = _; rw [i1, up0, if_neg (by omega)]).trans ((congrFun ((readOf_Q _ _ _).1 49 (by decide)) _).trans v0)
  have v1 : z2 49 (5 * s + 1) = (rof (hb t e) (rdig (hb t e) (a + 1)).2.1 83 77).2.2 := (by show up y2 49 _ _ 49 (5 * s + 1) = _; rw [i1, up0, if_pos rfl]; exact ((ro_spec (c := 83) (d := 77) N1.1 (by decide) (by decide)).1 hp1).2)
  rw [if_pos (show y2 0 45 = 0 from N2.ok)]
  clear_value y2 z2
  extract_lets +onlyGivenNames y3 z3
  by_cases hp2 : (rnum (hb t e) (rof (hb t e) (rdig (hb t e) (a + 1)).2.1 83 77).2.1).1 = true
  case neg =>
    rw [rb_no hp2]
    have N3 : SM w 1 t e s a _ z3 := (N2.q (readNumber_Q _) ((nm_spec N2.1).2 hp2)).p (ge5 i2)
    rw [if_neg (show ¬ y3 0 45 = 0 from N3.bad)]
    exact se_bad rfl N3
  rw [rb_ok hp2]
  have N3 : SM w 0 t e s a _ z3 := (N2.q (readNumber_Q _) ((nm_spec N2.1).1 hp2).1).p (ge5 i2)
  have v0 := (show z3 49 (5 * s + 0) = y3 49 (5 * s + 0) by show up y3 49 _ _ 49 (5 * s + 0) = _; rw [i2, up0, if_neg (by omega)]).trans ((congrFun ((readNumber_Q _).1 49 (by decide)) _).trans v0)
  have v1 := (show z3 49 (5 * s + 1) = y3 49 (5 * s + 1) by show up y3 49 _ _ 49 (5 * s + 1) = _; rw [i2, up0, if_neg (by omega)]).trans ((congrFun ((readNumber_Q _).1 49 (by decide)) _).trans v1)
  have v2 : z3 49 (5 * s + 2) = (rnum (hb t e) (rof (hb t e) (rdig (hb t e) (a + 1)).2.1 83 77).2.1).2.2 := (by show up y3 49 _ _ 49 (5 * s + 2) = _; rw [i2, up0, if_pos rfl]; exact ((nm_spec N2.1).1 hp2).2)
  rw [if_pos (show y3 0 45 = 0 from N3.ok)]
  clear_value y3 z3
  exact se rfl N3 v0 v1 (fun _ => v2) (fun q => absurd hl (by rw [q]; decide))
