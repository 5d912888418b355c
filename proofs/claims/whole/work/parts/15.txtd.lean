theorem re_ok {h : Nat → Int32} {a : Nat} {n : Int32 × Int32 × Int32 × Int32 × Int32} (k : (rend h a n).1 = true) : rend h a n = (true, a + 1, n) ∧ h a = 59 := by
  unfold rend at k ⊢
  by_cases q : h a = 59
  · rw [if_pos q]; exact ⟨rfl, q⟩
  · rw [if_neg q] at k; exact absurd k Bool.false_ne_true
theorem rb_of {p : Rd} {k : Nat → Int32 → S5} (h : (rbnd p k).1 = true) : p.1 = true ∧ rbnd p k = k p.2.1 p.2.2 := by
  by_cases q : p.1 = true
  · exact ⟨q, rb_ok q⟩
  · rw [rb_no q] at h; exact absurd h Bool.false_ne_true
theorem rdig_n {h : Nat → Int32} {a : Nat} (k : (rdig h a).1 = true) : (rdig h a).2.1 = a + 1 := by
  unfold rdig at k ⊢
  by_cases q : dg (h a) = true
  · rw [if_pos q]
  · rw [if_neg q] at k; exact absurd k Bool.false_ne_true
theorem rnum_n {h : Nat → Int32} {a : Nat} (k : (rnum h a).1 = true) : a + 1 ≤ (rnum h a).2.1 := by
  unfold rnum at k ⊢
  by_cases q : dg (h a) = true
  · rw [if_pos q]
    by_cases q0 : h a - 48 = 0
    · rw [if_pos q0]; exact Nat.le_refl _
    · rw [if_neg q0]
      by_cases q1 : dg (h (a + 1)) = true
      · rw [if_pos q1]
        by_cases q2 : dg (h (a + 2)) = true
        · rw [if_pos q2]; show a + 1 ≤ a + 3; omega
        · rw [if_neg q2]; show a + 1 ≤ a + 2; omega
      · rw [if_neg q1]; exact Nat.le_refl _
  · rw [if_neg q] at k; exact absurd k Bool.false_ne_true
theorem rof_rg {h : Nat → Int32} {a : Nat} {c d : Int32} (k : (rof h a c d).1 = true) : rg (rof h a c d).2.2 0 1 := by
  rw [(rof_v k).2]
  by_cases q : h a = d
  · rw [if_pos q]; exact ⟨1, by decide, by decide, rfl⟩
  · rw [if_neg q]; exact ⟨0, by decide, by decide, rfl⟩
/-- what a good statement's numbers are -/
def SNr (l : Int32) (p : S5) : Prop := (l = 99 ∨ l = 119 ∨ l = 114 ∨ l = 109) ∧ (l = 119 → rg p.2.2.2.2.1 0 1 ∧ rg p.2.2.2.2.2.1 0 1) ∧ (l = 114 → rg p.2.2.2.1 0 1) ∧ (¬ l = 99 → ¬ l = 114 → ¬ l = 119 → rg p.2.2.2.1 1 28)
theorem stm_n {h : Nat → Int32} {a : Nat} (k : (stm h a).1 = true) : a + 2 ≤ (stm h a).2.1 ∧ SNr (h a) (stm h a) := by
  by_cases h1 : h a = 99
  · rw [stm_c h1] at k ⊢
    obtain ⟨k1, e1⟩ := rb_of k
    rw [e1] at k ⊢
    have g1 := rnum_n k1
    by_cases q : h (rnum h (a + 1)).2.1 = 44
    · rw [if_pos q] at k ⊢
      obtain ⟨k2, e2⟩ := rb_of k
      rw [e2] at k ⊢
      have g2 := rnum_n k2
      obtain ⟨e3, _⟩ := re_ok k
      rw [e3]
      refine ⟨?_, Or.inl h1, fun q => ?_, fun q => ?_, fun q => absurd h1 q⟩
      · show a + 2 ≤ _ + 1; omega
      · rw [h1] at q; exact absurd q (by decide)
      · rw [h1] at q; exact absurd q (by decide)
    · rw [if_neg q] at k; exact absurd k Bool.false_ne_true
  · by_cases h2 : h a = 119
    · rw [stm_w h2] at k ⊢
      obtain ⟨k1, e1⟩ := rb_of k
      rw [e1] at k ⊢
      have g1 := rdig_n k1
      obtain ⟨k2, e2⟩ := rb_of k
      rw [e2] at k ⊢
      have g2 := rdig_n k2
      obtain ⟨k3, e3⟩ := rb_of k
      rw [e3] at k ⊢
      have g3 := rof_v k3
      have r3 := rof_rg k3
      obtain ⟨k4, e4⟩ := rb_of k
      rw [e4] at k ⊢
      have g4 := rof_v k4
      have r4 := rof_rg k4
      obtain ⟨k5, e5⟩ := rb_of k
      rw [e5] at k ⊢
      have g5 := rnum_n k5
      obtain ⟨e6, _⟩ := re_ok k
      rw [e6]
      refine ⟨?_, Or.inr (Or.inl h2), fun _ => ⟨r3, r4⟩, fun q => ?_, fun _ _ q => absurd h2 q⟩
      · show a + 2 ≤ _ + 1; omega
      · rw [h2] at q; exact absurd q (by decide)
    · by_cases h3 : h a = 114
      · rw [stm_r h3] at k ⊢
        obtain ⟨k1, e1⟩ := rb_of k
        rw [e1] at k ⊢
        have g1 := rdig_n k1
        obtain ⟨k2, e2⟩ := rb_of k
        rw [e2] at k ⊢
        have g2 := rof_v k2
        have r2 := rof_rg k2
        obtain ⟨k3, e3⟩ := rb_of k
        rw [e3] at k ⊢
        have g3 := rnum_n k3
        obtain ⟨e6, _⟩ := re_ok k
        rw [e6]
        refine ⟨?_, Or.inr (Or.inr (Or.inl h3)), fun q => absurd q h2, fun _ => r2, fun _ q _ => absurd h3 q⟩
        show a + 2 ≤ _ + 1; omega
      · by_cases h4 : h a = 109
        · rw [stm_m h4] at k ⊢
          by_cases q : mcn h (a + 1) 28 0 = 0
          · rw [if_pos q] at k; exact absurd k Bool.false_ne_true
          · rw [if_neg q] at k ⊢
            obtain ⟨e6, _⟩ := re_ok k
            rw [e6]
            have := mcn_ge h (a + 1) 28 0
            refine ⟨?_, Or.inr (Or.inr (Or.inr h4)), fun q => absurd q h2, fun q => absurd q h3, fun _ _ _ => ⟨_, ?_, ?_, rfl⟩⟩
            · show a + 2 ≤ _ + 1; omega
            · omega
            · omega
        · rw [stm_o h1 h2 h3 h4] at k; exact absurd k Bool.false_ne_true
/-- where the statements begin -/
def pos (h : Nat → Int32) : Nat → Nat
  | 0 => 0
  | i + 1 => (stm h (pos h i)).2.1
/-- the statements that were read stand in the rows -/
def RV (t : Nat → Int32) (e k : Nat) (v : Gr) : Prop := ∀ i, i < k → (stm (hb t e) (pos (hb t e) i)).1 = true ∧ v 47 i = nI (pos (hb t e) i) ∧ v 48 i = hb t e (pos (hb t e) i) ∧ v 49 (5 * i) = (stm (hb t e) (pos (hb t e) i)).2.2.1 ∧ v 49 (5 * i + 1) = (stm (hb t e) (pos (hb t e) i)).2.2.2.1 ∧ ((hb t e (pos (hb t e) i) = 119 ∨ hb t e (pos (hb t e) i) = 114) → v 49 (5 * i + 2) = (stm (hb t e) (pos (hb t e) i)).2.2.2.2.1) ∧ (hb t e (pos (hb t e) i) = 119 → v 49 (5 * i + 3) = (stm (hb t e) (pos (hb t e) i)).2.2.2.2.2.1 ∧ v 49 (5 * i + 4) = (stm (hb t e) (pos (hb t e) i)).2.2.2.2.2.2)
def RI (w : Gr) (t : Nat → Int32) (e k : Nat) (v : Gr) : Prop := Q9 w v ∧ v 0 46 = nI k ∧ k ≤ 48 ∧ ((RX 0 t e v (pos (hb t e) k) ∧ 2 * k ≤ pos (hb t e) k ∧ RV t e k v) ∨ (∃ K, k = K + 1 ∧ RX 1 t e v (pos (hb t e) k) ∧ ¬ (stm (hb t e) (pos (hb t e) K)).1 = true ∧ ∀ i, i < K → (stm (hb t e) (pos (hb t e) i)).1 = true))
theorem RI.start {w : Gr} {t : Nat → Int32} {e : Nat} (h : RX 0 t e w 0) (h46 : w 0 46 = 0) : RI w t e 0 w := ⟨Q9.rf, h46, by decide, Or.inl ⟨h, Nat.zero_le _, fun i hi => absurd hi (Nat.not_lt_zero i)⟩⟩
theorem RI.good {w : Gr} {t : Nat → Int32} {e k : Nat} {v : Gr} (h : RI w t e k v) (h0 : v 0 45 = 0) : RX 0 t e v (pos (hb t e) k) ∧ 2 * k ≤ pos (hb t e) k ∧ RV t e k v := by
  rcases h.2.2.2 with q | ⟨K, _, q, _⟩
  · exact q
  · rw [q.2.2.2.2.2] at h0; exact absurd h0 (by decide)
theorem RI.lt {w : Gr} {t : Nat → Int32} {e k : Nat} {v : Gr} (h : RI w t e k v) (h0 : v 0 45 = 0) (hc : v 0 46 = 0 ∨ ¬ v 0 44 ≤ v 0 43) : k < 48 ∧ PA v ∧ rg (v 0 46) 0 47 ∧ (k = 0 ∨ pos (hb t e) k < e) := by
  obtain ⟨R, h2, _⟩ := h.good h0
  obtain ⟨_, r2, r3, r4, r5, _⟩ := R
  have h3 := h.2.2.1
  have hk : k < 48 ∧ (k = 0 ∨ pos (hb t e) k < e) := by
    rcases hc with q | q
    · rw [h.2.1] at q
      have : k = 0 := by
        by_cases z : k = 0
        · exact z
        · exact absurd q (nI_ne0 (by omega) (by omega))
      omega
    · rw [r2, r5] at q
      have : ¬ e ≤ pos (hb t e) k := fun z => q ((nI_leI (by omega) (by omega)).mpr z)
      omega
  exact ⟨hk.1, ⟨_, _, r4, r3, r5, r2⟩, ⟨k, by omega, by omega, h.2.1⟩, hk.2⟩
theorem RI.go {w : Gr} {t : Nat → Int32} {e k : Nat} {v : Gr} (h : RI w t e k v) (h0 : v 0 45 = 0) (hk : k < 48) : RI w t e (k + 1) (g_X7_readStatement v) := by
  obtain ⟨R, h2, hv⟩ := h.good h0
  obtain ⟨s1, s2, s3, s4⟩ := rs_spec R h.2.1 (by omega)
  refine ⟨h.1.trans s1, s2, by omega, ?_⟩
  by_cases q : (stm (hb t e) (pos (hb t e) k)).1 = true
  · obtain ⟨a1, a2, a3, a4, a5, a6, a7, a8⟩ := s4 q
    obtain ⟨n1, _⟩ := stm_n q
    refine Or.inl ⟨a1, ?_, fun i hi => ?_⟩
    · show 2 * (k + 1) ≤ (stm (hb t e) (pos (hb t e) k)).2.1
      omega
    · by_cases hik : i = k
      · subst hik
        exact ⟨q, by rw [a2]; exact pk_us, by rw [a3]; exact pk_us, a5, a6, a7, a8⟩
      · obtain ⟨b1, b2, b3, b4, b5, b6, b7⟩ := hv i (by omega)
        refine ⟨b1, by rw [a2, pk_un hik]; exact b2, by rw [a3, pk_un hik]; exact b3, by rw [a4 _ (by omega)]; exact b4, by rw [a4 _ (by omega)]; exact b5, fun z => by rw [a4 _ (by omega)]; exact b6 z, fun z => ?_⟩
        rw [a4 _ (by omega), a4 _ (by omega)]
        exact b7 z
  · exact Or.inr ⟨k, rfl, s3 q, q, fun i hi => (hv i hi).1⟩
def SPr (v : Gr) (i : Nat) : Prop := (v 48 i = 119 → rg (v 49 (5 * i + 3)) 0 1) ∧ (v 48 i = 114 → rg (v 49 (5 * i + 1)) 0 1) ∧ (¬ v 48 i = 99 → ¬ v 48 i = 114 → ¬ v 48 i = 119 → rg (v 49 (5 * i + 1)) 1 28)
theorem RV.sp {t : Nat → Int32} {e k : Nat} {v : Gr} (h : RV t e k v) (i : Nat) (hi : i < k) : SPr v i := by
  obtain ⟨b1, b2, b3, b4, b5, b6, b7⟩ := h i hi
  obtain ⟨_, _, n2, n3, n4⟩ := stm_n b1
  unfold SPr
  rw [b3]
  refine ⟨fun z => ?_, fun z => ?_, fun z1 z2 z3 => ?_⟩
  · rw [(b7 z).1]; exact (n2 z).2
  · rw [b5]; exact n3 z
  · rw [b5]; exact n4 z1 z2 z3
theorem rg.s {x : Int32} {lo hi : Nat} (h : rg x lo hi) : rg (x + 1) lo (hi + 1) := by
  obtain ⟨j, h1, h2, rfl⟩ := h
  exact ⟨j + 1, by omega, by omega, nI_1 j⟩
theorem rg_cell {B : Nat} {w : Gr} {x : Int32} (h : WFm B w) (c : ¬ f_X7_isCell w x = 0) : rg x 0 7 := by
  obtain ⟨j, hj, rfl⟩ := vp_in_of (h.cell c) (by decide)
  exact ⟨j, by omega, by omega, rfl⟩
theorem addCell_WFm {B : Nat} {w : Gr} (a b : Int32) (h : WFm B w) (c : ¬ w 0 0 = 8) : WFm B (g_X7_addCell w a b) := by
  refine ⟨?_, h.2⟩
  show rg (w 0 0 + 1) 0 8
  exact (rg.ne (hi := 7) h.1 c).s
theorem up_rg {f : Nat → Int32} {n i : Nat} {x : Int32} {lo hi : Nat} (h : i ≠ n → rg (f i) lo hi) (hx : rg x lo hi) : rg (upd f n x i) lo hi := by
  by_cases q : i = n
  · rw [q, pk_us]; exact hx
  · rw [pk_un q]; exact h q
theorem addWay_WFm {B : Nat} {w : Gr} {a b c d e : Int32} (h : WFm B w) (q : ¬ w 0 8 = 24) (ha : rg a 0 7) (hb : rg b 0 8) (hd : rg d 0 1) : WFm B (g_X7_addWay w a b c d e) := by
  obtain ⟨h1, h2, h3, h4, h5, h6, h7, h8, h9⟩ := h
  have h2' := (rg.ne (hi := 23) h2 q).s
  refine ⟨h1, h2', h3, h4, h5, h6, h7, fun i hi => ?_, h9⟩
  obtain ⟨j, _, hj, e⟩ := rg.ne (hi := 23) h2 q
  have hn : (w 0 8).toNatClampNeg = j := by rw [e, nI_clamp (by omega)]
  have hi' : i < (w 0 8 + 1).toNatClampNeg := hi
  rw [e, nI_1, nI_clamp (by omega)] at hi'
  show rg (upd (w 9) (w 0 8).toNatClampNeg a i) 0 7 ∧ rg (upd (w 10) (w 0 8).toNatClampNeg b i) 0 8 ∧ rg (upd (w 12) (w 0 8).toNatClampNeg d i) 0 1
  rw [hn] at h8 ⊢
  exact ⟨up_rg (fun z => (h8 i (by omega)).1) ha, up_rg (fun z => (h8 i (by omega)).2.1) hb, up_rg (fun z => (h8 i (by omega)).2.2) hd⟩
theorem addRiver_WFm {B : Nat} {w : Gr} {a b c : Int32} (h : WFm B w) (q : ¬ w 0 15 = 8) (ha : rg a 0 7) (hb : rg b 0 1) : WFm B (g_X7_addRiver w a b c) := by
  obtain ⟨h1, h2, h3, h4, h5, h6, h7, h8, h9, h10⟩ := h
  have h3' := (rg.ne (hi := 7) h3 q).s
  refine ⟨h1, h2, h3', h4, h5, h6, h7, h8, fun i hi => ?_, h10⟩
  obtain ⟨j, _, hj, e⟩ := rg.ne (hi := 7) h3 q
  have hn : (w 0 15).toNatClampNeg = j := by rw [e, nI_clamp (by omega)]
  have hi' : i < (w 0 15 + 1).toNatClampNeg := hi
  rw [e, nI_1, nI_clamp (by omega)] at hi'
  show rg (upd (w 16) (w 0 15).toNatClampNeg a i) 0 7 ∧ rg (upd (w 17) (w 0 15).toNatClampNeg b i) 0 1
  rw [hn] at h9 ⊢
  exact ⟨up_rg (fun z => (h9 i (by omega)).1) ha, up_rg (fun z => (h9 i (by omega)).2) hb⟩
theorem ends_rg {B : Nat} {w : Gr} {a b : Int32} (h : WFm B w) (c : ¬ f_X7_areEnds w a b = 0) : rg a 0 7 ∧ rg b 0 8 := by
  unfold f_X7_areEnds at c
  by_cases h1 : f_X7_isCell w a = 0
  · rw [if_pos h1] at c; exact absurd rfl c
  · rw [if_neg h1] at c
    refine ⟨rg_cell h h1, ?_⟩
    by_cases h2 : b = 8
    · rw [h2]; exact ⟨8, by decide, by decide, rfl⟩
    · rw [if_neg h2] at c
      by_cases h3 : f_X7_isCell w b = 0
      · rw [if_pos h3] at c; exact absurd rfl c
      · exact (rg_cell h h3).mono (by decide)
theorem cm255_c (y1 y2 y3 y4 y5 : Int32) (v : Gr) (f : Nat) (hf : f ≠ 19) : l_X7_comes_255 y1 y2 y3 y4 y5 v f = v f := itn_fr (fun v : Gr => v f) (fun k v => up_ne hf) _ _
theorem comes_WF {B : Nat} {w : Gr} {x : Int32} {i : Nat} (h : WFm B w) (hx : x = nI i) (hi : i ≤ 47) (sp : SPr w i) : WFm B (g_X7_comes w x) := by
  have ix : x.toNatClampNeg = i := by rw [hx, nI_clamp (by omega)]
  have i1 : (5 * x + 1).toNatClampNeg = 5 * i + 1 := i5s hx hi 1 (by decide)
  have i3 : (5 * x + 3).toNatClampNeg = 5 * i + 3 := i5s hx hi 3 (by decide)
  unfold g_X7_comes
  dsimp only
  rw [ix, i1, i3]
  refine ite_Q (P := fun r => WFm B r) (fun l1 => ?_) (fun l1 => ?_)
  · refine ite_P (P := fun r => WFm B r) h (ite_P (P := fun r => WFm B r) h (ite_Q (P := fun r => WFm B r) (fun _ => h) (fun q => ?_)))
    exact addCell_WFm _ _ h q
  · refine ite_Q (P := fun r => WFm B r) (fun l2 => ?_) (fun l2 => ?_)
    · refine ite_Q (P := fun r => WFm B r) (fun _ => h) (fun q1 => ite_P (P := fun r => WFm B r) h (ite_Q (P := fun r => WFm B r) (fun _ => h) (fun q => ?_)))
      exact addRiver_WFm h q (rg_cell h q1) (sp.2.1 l2)
    · refine ite_Q (P := fun r => WFm B r) (fun l3 => ?_) (fun l3 => ?_)
      · refine ite_Q (P := fun r => WFm B r) (fun _ => h) (fun q1 => ite_P (P := fun r => WFm B r) h (ite_Q (P := fun r => WFm B r) (fun _ => h) (fun q => ite_P (P := fun r => WFm B r) ?_ h)))
        exact addWay_WFm h q (ends_rg h q1).1 (ends_rg h q1).2 (sp.1 l3)
      · have k := sp.2.2 l1 l2 l3
        unfold WFm
        simp only [cm255_c _ _ _ _ _ _ _ (show (0 : Nat) ≠ 19 by decide), cm255_c _ _ _ _ _ _ _ (show (9 : Nat) ≠ 19 by decide), cm255_c _ _ _ _ _ _ _ (show (10 : Nat) ≠ 19 by decide), cm255_c _ _ _ _ _ _ _ (show (12 : Nat) ≠ 19 by decide), cm255_c _ _ _ _ _ _ _ (show (16 : Nat) ≠ 19 by decide), cm255_c _ _ _ _ _ _ _ (show (17 : Nat) ≠ 19 by decide)]
        exact ⟨h.1, h.2.1, h.2.2.1, k, h.2.2.2.2⟩
theorem comes_c (w : Gr) (x : Int32) (f : Nat) (hf : 20 ≤ f) : g_X7_comes w x f = w f := by
  have n : ∀ j, j < 20 → f ≠ j := fun j hj => by omega
  unfold g_X7_comes
  dsimp only
  refine ite_P (P := fun r : Gr => r f = w f) ?_ (ite_P (P := fun r : Gr => r f = w f) ?_ (ite_P (P := fun r : Gr => r f = w f) ?_ ?_))
  · refine ite_P (P := fun r : Gr => r f = w f) rfl (ite_P (P := fun r : Gr => r f = w f) rfl (ite_P (P := fun r : Gr => r f = w f) rfl ?_))
    unfold g_X7_addCell
    simp only [up_ne (n 0 (by decide)), up_ne (n 1 (by decide)), up_ne (n 2 (by decide)), up_ne (n 3 (by decide)), up_ne (n 4 (by decide)), up_ne (n 5 (by decide)), up_ne (n 6 (by decide)), up_ne (n 7 (by decide))]
  · refine ite_P (P := fun r : Gr => r f = w f) rfl (ite_P (P := fun r : Gr => r f = w f) rfl (ite_P (P := fun r : Gr => r f = w f) rfl ?_))
    unfold g_X7_addRiver
    simp only [up_ne (n 0 (by decide)), up_ne (n 16 (by decide)), up_ne (n 17 (by decide)), up_ne (n 18 (by decide))]
  · refine ite_P (P := fun r : Gr => r f = w f) rfl (ite_P (P := fun r : Gr => r f = w f) rfl (ite_P (P := fun r : Gr => r f = w f) rfl (ite_P (P := fun r : Gr => r f = w f) ?_ rfl)))
    unfold g_X7_addWay
    simp only [up_ne (n 0 (by decide)), up_ne (n 9 (by decide)), up_ne (n 10 (by decide)), up_ne (n 11 (by decide)), up_ne (n 12 (by decide)), up_ne (n 13 (by decide)), up_ne (n 14 (by decide))]
  · exact (cm255_c _ _ _ _ _ _ _ (n 19 (by decide))).trans (up_ne (n 0 (by decide)))
theorem comes_s (w : Gr) (x : Int32) (j : Nat) (hj : 20 < j) : g_X7_comes w x 0 j = w 0 j := by
  unfold g_X7_comes
  dsimp only
  refine ite_P (P := fun r : Gr => r 0 j = w 0 j) ?_ (ite_P (P := fun r : Gr => r 0 j = w 0 j) ?_ (ite_P (P := fun r : Gr => r 0 j = w 0 j) ?_ ?_))
  · refine ite_P (P := fun r : Gr => r 0 j = w 0 j) rfl (ite_P (P := fun r : Gr => r 0 j = w 0 j) rfl (ite_P (P := fun r : Gr => r 0 j = w 0 j) rfl ?_))
    unfold g_X7_addCell
    rw [up0, if_neg (by omega)]
    rfl
  · refine ite_P (P := fun r : Gr => r 0 j = w 0 j) rfl (ite_P (P := fun r : Gr => r 0 j = w 0 j) rfl (ite_P (P := fun r : Gr => r 0 j = w 0 j) rfl ?_))
    unfold g_X7_addRiver
    rw [up0, if_neg (by omega)]
    rfl
  · refine ite_P (P := fun r : Gr => r 0 j = w 0 j) rfl (ite_P (P := fun r : Gr => r 0 j = w 0 j) rfl (ite_P (P := fun r : Gr => r 0 j = w 0 j) rfl (ite_P (P := fun r : Gr => r 0 j = w 0 j) ?_ rfl)))
    unfold g_X7_addWay
    rw [up0, if_neg (by omega)]
    rfl
  · refine (congrFun (cm255_c _ _ _ _ _ _ _ (by decide)) j).trans ?_
    rw [up0, if_neg (by omega)]
theorem WFm.rd {B : Nat} {w : Gr} (h : WFm B w) : WFm B (up (up (up (up (up w 0 43 0) 0 44 (w 0 30)) 0 30 0) 0 45 0) 0 46 0) :=
  ⟨h.1, h.2.1, h.2.2.1, h.2.2.2.1, h.2.2.2.2.1, h.2.2.2.2.2.1, h.2.2.2.2.2.2.1, h.2.2.2.2.2.2.2.1, h.2.2.2.2.2.2.2.2.1, ⟨0, by decide, by decide, rfl⟩, h.2.2.2.2.2.2.2.2.2.2⟩
theorem Q9.wf {B : Nat} {w r : Gr} (k : Q9 w r) (h : WFm B w) : WFm B r := by
  have s : ∀ j, j < 43 → r 0 j = w 0 j := fun j q => k.2 j (by omega) (by omega) (by omega)
  have c : ∀ f, f ≠ 0 → f < 47 → r f = w f := fun f h0 q => k.1 f h0 (by omega) (by omega) (by omega)
  unfold WFm
  rw [s 0 (by decide), s 8 (by decide), s 15 (by decide), s 20 (by decide), s 21 (by decide), s 25 (by decide), s 27 (by decide), s 30 (by decide), s 32 (by decide), c 9 (by decide) (by decide), c 10 (by decide) (by decide), c 12 (by decide) (by decide), c 16 (by decide) (by decide), c 17 (by decide) (by decide)]
  exact h
theorem cm28 {v w0 : Gr} {k : Nat} (h48 : v 48 = w0 48) (h49 : v 49 = w0 49) (hk : k ≤ 47) (sp : SPr w0 k) : ¬ v 48 (nI k).toNatClampNeg = 99 → ¬ v 48 (nI k).toNatClampNeg = 114 → ¬ v 48 (nI k).toNatClampNeg = 119 → (v 49 (5 * nI k + 1).toNatClampNeg).toNatClampNeg ≤ 28 := by
  rw [h48, h49, nI_clamp (by omega), show (5 * nI k + 1).toNatClampNeg = 5 * k + 1 from i5s rfl hk 1 (by decide)]
  intro a b c
  exact (sp.2.2 a b c).c (by decide)
theorem SPr.of {v w0 : Gr} {k : Nat} (h48 : v 48 = w0 48) (h49 : v 49 = w0 49) (sp : SPr w0 k) : SPr v k := by
  unfold SPr
  rw [h48, h49]
  exact sp
