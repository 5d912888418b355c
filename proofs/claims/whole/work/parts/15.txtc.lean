theorem sn_rof {h : Nat → Int32} {a : Nat} : (rof h a 115 110).1 = true ↔ (h a = 115 ∨ h a = 110) := by
  unfold rof
  by_cases h1 : h a = 110
  · rw [if_pos h1]; exact ⟨fun _ => Or.inr h1, fun _ => rfl⟩
  · rw [if_neg h1]
    by_cases h2 : h a = 115
    · rw [if_pos h2]; exact ⟨fun _ => Or.inl h2, fun _ => rfl⟩
    · rw [if_neg h2]; exact ⟨fun q => absurd q Bool.false_ne_true, fun q => absurd q (fun z => z.elim h2 h1)⟩
theorem rof_v {h : Nat → Int32} {a : Nat} {c d : Int32} (k : (rof h a c d).1 = true) : (rof h a c d).2.1 = a + 1 ∧ (rof h a c d).2.2 = (if h a = d then 1 else 0) := by
  unfold rof at k ⊢
  by_cases h1 : h a = d
  · rw [if_pos h1, if_pos h1]; exact ⟨rfl, rfl⟩
  · rw [if_neg h1] at k ⊢
    by_cases h2 : h a = c
    · rw [if_pos h2, if_neg h1]; exact ⟨rfl, rfl⟩
    · rw [if_neg h2] at k; exact absurd k Bool.false_ne_true
theorem mcn_ge (h : Nat → Int32) (a : Nat) : ∀ n k, k ≤ mcn h a n k ∧ mcn h a n k ≤ k + n
  | 0, k => ⟨Nat.le_refl _, Nat.le_refl _⟩
  | n + 1, k => by
    unfold mcn
    by_cases q : h (a + k) = 115 ∨ h (a + k) = 110
    · rw [if_pos q]; have := mcn_ge h a n (k + 1); omega
    · rw [if_neg q]; omega
/-- in the midst of a moon: k + 1 signs are read -/
def MO (t : Nat → Int32) (e s b k : Nat) (v : Gr) : Prop := RX 0 t e v (b + (1 + k)) ∧ v 49 (5 * s + 1) = nI (1 + k) ∧ v 49 (5 * s) = mbt (hb t e) b (1 + k)
theorem mo_run {t : Nat → Int32} {e s b : Nat} {y1 y2 : Int32} (i0 : y2.toNatClampNeg = 5 * s) (i1 : (y2 + 1).toNatClampNeg = 5 * s + 1) : ∀ (n k : Nat) (v : Gr), k ≤ 27 → 27 - k < n → MO t e s b k v →
    ∀ z, wl (b_X7_readStatement_364 y1 y2) n k v = z → RX 0 t e z.2.2 (b + mcn (hb t e) b (27 - k) (1 + k)) ∧ z.2.2 49 (5 * s + 1) = nI (mcn (hb t e) b (27 - k) (1 + k)) ∧ z.2.2 49 (5 * s) = mbt (hb t e) b (mcn (hb t e) b (27 - k) (1 + k)) ∧ Q9 v z.2.2 ∧ z.2.2 0 46 = v 0 46 ∧ z.2.2 47 = v 47 ∧ z.2.2 48 = v 48 ∧ ∀ i, i < 5 * s → z.2.2 49 i = v 49 i := by
  intro n
  induction n with
  | zero => intro k v _ h; omega
  | succ n ih =>
    intro k v hk hn M z hz
    obtain ⟨R, e1, e0⟩ := M
    by_cases hk27 : k = 27
    · subst hk27
      have hb0 : b_X7_readStatement_364 y1 y2 27 v = (false, 443, 0, v) := by
        unfold b_X7_readStatement_364
        rw [if_pos R.2.2.2.2.2, i1, e1, if_pos (by decide)]
      rw [wl_out hb0] at hz
      subst hz
      exact ⟨R, e1, e0, Q9.rf, rfl, rfl, rfl, fun _ _ => rfl⟩
    · have h28 : ¬ (28 : Int32) ≤ nI (1 + k) := fun q => by
        have := (nI_leI (a := 28) (by decide) (by omega)).mp q
        omega
      obtain ⟨d, hd⟩ : ∃ d, 27 - k = d + 1 := ⟨27 - k - 1, by omega⟩
      by_cases hsn : hb t e (b + (1 + k)) = 115 ∨ hb t e (b + (1 + k)) = 110
      · have hr := sn_rof.mpr hsn
        obtain ⟨r1, r2⟩ := (ro_spec (c := 115) (d := 110) R (by decide) (by decide)).1 hr
        obtain ⟨p1, p2⟩ := rof_v hr
        rw [p1] at r1
        rw [p2] at r2
        have q49 : g_X7_readOf v 115 110 49 = v 49 := (readOf_Q v 115 110).1 49 (by decide)
        have hb1 : b_X7_readStatement_364 y1 y2 k v = (true, 0, 0, up (up (g_X7_readOf v 115 110) 49 (5 * s) (v 49 (5 * s) ||| (f_X7_readOf v 115 110 <<< (v 49 (5 * s + 1) &&& 31)))) 49 (5 * s + 1) (v 49 (5 * s + 1) + 1)) := by
          have hx : up (g_X7_readOf v 115 110) 49 (5 * s) (v 49 (5 * s) ||| (f_X7_readOf v 115 110 <<< (v 49 (5 * s + 1) &&& 31))) 49 (5 * s + 1) = v 49 (5 * s + 1) := by rw [up0, if_neg (by omega), q49]
          unfold b_X7_readStatement_364
          rw [if_pos R.2.2.2.2.2, i1, i0, if_neg (by rw [e1]; exact h28), R.here]
          dsimp only
          rw [q49, hx]
          rcases hsn with q | q
          · rw [if_pos q]
          · rw [if_neg (by rw [q]; decide), if_pos q]
        rw [wl_go hb1] at hz
        have M' : MO t e s b (k + 1) (up (up (g_X7_readOf v 115 110) 49 (5 * s) (v 49 (5 * s) ||| (f_X7_readOf v 115 110 <<< (v 49 (5 * s + 1) &&& 31)))) 49 (5 * s + 1) (v 49 (5 * s + 1) + 1)) := by
          refine ⟨?_, ?_, ?_⟩
          · have : b + (1 + k) + 1 = b + (1 + (k + 1)) := by omega
            rw [← this]; exact r1
          · rw [up0, if_pos rfl, e1, nI_1]; rfl
          · rw [up0, if_neg (by omega), up0, if_pos rfl, e0, e1, r2]
            rfl
        obtain ⟨a1, a2, a3, a4, a5, a6, a7, a8⟩ := ih (k + 1) _ (by omega) (by omega) M' z hz
        have hm : mcn (hb t e) b (27 - k) (1 + k) = mcn (hb t e) b (27 - (k + 1)) (1 + (k + 1)) := by
          rw [hd, show 27 - (k + 1) = d by omega]
          show (if hb t e (b + (1 + k)) = 115 ∨ hb t e (b + (1 + k)) = 110 then mcn (hb t e) b d (1 + k + 1) else 1 + k) = _
          rw [if_pos hsn]; rfl
        rw [hm]
        refine ⟨a1, a2, a3, ?_, ?_, ?_, ?_, fun i hi => ?_⟩
        · exact (((readOf_Q v 115 110).q9.trans (Q9.u (by omega))).trans (Q9.u (by omega))).trans a4
        · exact a5.trans ((readOf_Q v 115 110).2 46 (by decide) (by decide))
        · exact a6.trans ((readOf_Q v 115 110).1 47 (by decide))
        · exact a7.trans ((readOf_Q v 115 110).1 48 (by decide))
        · rw [a8 i hi, up0, if_neg (by omega), up0, if_neg (by omega), q49]
      · have hb0 : b_X7_readStatement_364 y1 y2 k v = (false, 443, 0, v) := by
          unfold b_X7_readStatement_364
          rw [if_pos R.2.2.2.2.2, i1, e1, if_neg h28, R.here, if_neg (fun q => hsn (Or.inl q)), if_neg (fun q => hsn (Or.inr q))]
        rw [wl_out hb0] at hz
        subst hz
        have hm : mcn (hb t e) b (27 - k) (1 + k) = 1 + k := by
          rw [hd]
          show (if hb t e (b + (1 + k)) = 115 ∨ hb t e (b + (1 + k)) = 110 then mcn (hb t e) b d (1 + k + 1) else 1 + k) = _
          rw [if_neg hsn]
        rw [hm]
        exact ⟨R, e1, e0, Q9.rf, rfl, rfl, rfl, fun _ _ => rfl⟩
theorem mbt1 (h : Nat → Int32) (a : Nat) : mbt h a 1 = if h a = 110 then 1 else 0 := by
  show (0 : Int32) ||| ((if h (a + 0) = 110 then (1 : Int32) else 0) <<< (nI 0 &&& 31)) = _
  rw [Nat.add_zero]
  by_cases q : h a = 110
  · rw [if_pos q]; decide
  · rw [if_neg q]; decide
theorem rs_m {w : Gr} {t : Nat → Int32} {e s a : Nat} (h : RX 0 t e w a) (h46 : w 0 46 = nI s) (hs : s ≤ 47) (hl : hb t e a = 109) : SG w t e s a (stm (hb t e) a) (g_X7_readStatement w) := by
  have hz : f_X7_here w = 109 := h.here.trans hl
  have i0 := i50 h46 hs
  have i1 := i5s h46 hs 1 (by decide)
  have M0 := SM0 h h46 hs
  rw [stm_m hl]
  unfold g_X7_readStatement
  extract_lets +onlyGivenNames zv4 zv11 zs24 zs34
  have i0 : zv11.toNatClampNeg = 5 * s := i0
  have i1 : (zv11 + 1).toNatClampNeg = 5 * s + 1 := i1
  rw [if_neg (show ¬ zv4 = 99 by show ¬ f_X7_here w = 99; rw [hz]; decide)]
  rw [if_neg (show ¬ zv4 = 119 by show ¬ f_X7_here w = 119; rw [hz]; decide)]
  rw [if_neg (show ¬ zv4 = 114 by show ¬ f_X7_here w = 114; rw [hz]; decide)]
  rw [if_pos (show zv4 = 109 from hz)]
  extract_lets +onlyGivenNames z0
  have M1 : SM w 0 t e s a (a + 1) z0 := M0.q (takeSign_Q _ _) (ts_ok M0.1 (hb_out hl (by decide)) (by decide))
  rw [if_pos M1.ok]
  clear_value z0 zs34 zs24
  clear_value zv11 zv4
  extract_lets +onlyGivenNames y1 y2 y3 y4
  have c0 : mcn (hb t e) (a + 1) 28 0 = if hb t e (a + 1) = 115 ∨ hb t e (a + 1) = 110 then mcn (hb t e) (a + 1) 27 1 else 0 := rfl
  by_cases hsn : hb t e (a + 1) = 115 ∨ hb t e (a + 1) = 110
  · rw [if_pos hsn] at c0
    have hr := sn_rof.mpr hsn
    obtain ⟨r1, r2⟩ := (ro_spec (c := 115) (d := 110) M1.1 (by decide) (by decide)).1 hr
    obtain ⟨p1, p2⟩ := rof_v hr
    rw [p1] at r1
    rw [p2] at r2
    have M2 : SM w 0 t e s a (a + 1 + 1) y3 := ((M1.q (readOf_Q _ _ _) r1).p (Nat.le_of_eq i0.symm)).p (ge5 i1)
    have mo : MO t e s (a + 1) 0 y3 := by
      refine ⟨M2.1, ?_, ?_⟩
      · show up y2 49 _ 1 49 (5 * s + 1) = _
        rw [i1, up0, if_pos rfl]; rfl
      · show up y2 49 _ 1 49 (5 * s) = _
        rw [i1, up0, if_neg (by omega)]
        show up y1 49 _ _ 49 (5 * s) = _
        rw [i0, up0, if_pos rfl, r2]
        exact (mbt1 _ _).symm
    obtain ⟨a1, a2, a3, a4, a5, a6, a7, a8⟩ := mo_run (y1 := zv4) i0 i1 (nn (28 + 1)) 0 y3 (by decide) (by rw [nn_eq]; decide) mo y4 rfl
    have hge := (mcn_ge (hb t e) (a + 1) 27 1).1
    rw [c0, if_neg (by omega)]
    have M3 : SM w 0 t e s a (a + 1 + mcn (hb t e) (a + 1) 27 1) y4.2.2 := ⟨a1, M2.2.1.trans a4, a5.trans M2.2.2.1, a6.trans M2.2.2.2.1, a7.trans M2.2.2.2.2.1, fun i hi => (a8 i hi).trans (M2.2.2.2.2.2 i hi)⟩
    refine se rfl M3 a3 a2 (fun q => absurd hl ?_) (fun q => absurd hl ?_)
    · rcases q with q | q <;> (rw [q]; decide)
    · rw [q]; decide
  · rw [if_neg hsn] at c0
    rw [if_pos c0]
    have hr : ¬ (rof (hb t e) (a + 1) 115 110).1 = true := fun q => hsn (sn_rof.mp q)
    have r1 := (ro_spec (c := 115) (d := 110) M1.1 (by decide) (by decide)).2 hr
    have hn : (rof (hb t e) (a + 1) 115 110).2.1 = a + 1 := by
      unfold rof
      rw [if_neg (fun q => hsn (Or.inr q)), if_neg (fun q => hsn (Or.inl q))]
    rw [hn] at r1
    have M2 : SM w 1 t e s a (a + 1) y3 := ((M1.q (readOf_Q _ _ _) r1).p (Nat.le_of_eq i0.symm)).p (ge5 i1)
    have hy4 : y4 = (443, 0, y3) := by
      show wl (b_X7_readStatement_364 zv4 zv11) (nn (28 + 1)) 0 y3 = _
      rw [nn_eq]
      refine wl_out ?_
      unfold b_X7_readStatement_364
      rw [if_neg M2.bad]
    have hy : y4.2.2 = y3 := by rw [hy4]
    rw [hy]
    exact se_bad rfl M2
theorem rs_o {w : Gr} {t : Nat → Int32} {e s a : Nat} (h : RX 0 t e w a) (h46 : w 0 46 = nI s) (hs : s ≤ 47) (h1 : ¬ hb t e a = 99) (h2 : ¬ hb t e a = 119) (h3 : ¬ hb t e a = 114) (h4 : ¬ hb t e a = 109) : SG w t e s a (stm (hb t e) a) (g_X7_readStatement w) := by
  have M0 := SM0 h h46 hs
  rw [stm_o h1 h2 h3 h4]
  unfold g_X7_readStatement
  extract_lets +onlyGivenNames zv4 zv11 zs24 zs34
  rw [if_neg (show ¬ zv4 = 99 by show ¬ f_X7_here w = 99; rw [h.here]; exact h1)]
  rw [if_neg (show ¬ zv4 = 119 by show ¬ f_X7_here w = 119; rw [h.here]; exact h2)]
  rw [if_neg (show ¬ zv4 = 114 by show ¬ f_X7_here w = 114; rw [h.here]; exact h3)]
  rw [if_neg (show ¬ zv4 = 109 by show ¬ f_X7_here w = 109; rw [h.here]; exact h4)]
  extract_lets +onlyGivenNames z0
  have M1 : SM w 1 t e s a a z0 := M0.q (takeSign_Q _ _) (ts_no M0.1)
  rw [if_neg M1.bad]
  exact se_bad rfl M1
theorem rs_spec {w : Gr} {t : Nat → Int32} {e s a : Nat} (h : RX 0 t e w a) (h46 : w 0 46 = nI s) (hs : s ≤ 47) : SG w t e s a (stm (hb t e) a) (g_X7_readStatement w) := by
  by_cases h1 : hb t e a = 99
  · exact rs_c h h46 hs h1
  · by_cases h2 : hb t e a = 119
    · exact rs_w h h46 hs h2
    · by_cases h3 : hb t e a = 114
      · exact rs_r h h46 hs h3
      · by_cases h4 : hb t e a = 109
        · exact rs_m h h46 hs h4
        · exact rs_o h h46 hs h1 h2 h3 h4
