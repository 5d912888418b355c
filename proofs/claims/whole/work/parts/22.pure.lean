/-! class and reference beside each other -/
def RC (n nw nr : Nat) (ρ w : Gr) : Prop :=
  (w 0 0 = nI n ∧ w 0 8 = nI nw ∧ w 0 15 = nI nr) ∧
  (∀ i, i < n → w 1 i = ρ 2 i ∧ w 2 i = ρ 3 i ∧ w 3 i = ρ 4 i ∧ w 4 i = ρ 5 i ∧ w 5 i = ρ 6 i) ∧
  (∀ i, i < nw → w 9 i = ρ 10 i ∧ w 10 i = ρ 11 i ∧ w 11 i = ρ 12 i ∧ w 12 i = ρ 13 i ∧ w 13 i = ρ 14 i ∧ w 14 i = f_X5_isShut ρ (nI i)) ∧
  (∀ i, i < nr → w 16 i = ρ 16 i ∧ w 17 i = ρ 17 i ∧ (if nI i = w 0 34 then 0 else w 18 i) = ρ 18 i) ∧
  (w 0 25 = ρ 19 1 ∧ w 0 26 = ρ 19 2 ∧ w 0 27 = ρ 19 3 ∧ w 0 28 = ρ 19 4) ∧
  (w 0 20 = ρ 0 4 ∧ ∀ t, t < 28 → nI t < ρ 0 4 → w 19 t = (ρ 0 5 >>> (nI t &&& 31)) &&& 1)
theorem RC.fr {n nw nr : Nat} {ρ ρ' w w' : Gr} (h : RC n nw nr ρ w) (k : Fr ρ ρ') (m : Tt w w') : RC n nw nr ρ' w' := by
  have c : ∀ f, f ≠ 0 ∧ f ≠ 6 ∧ f ≠ 7 ∧ f ≠ 35 → w' f = w f := fun f q => m.1 f q.1 q.2.1 q.2.2.1 q.2.2.2
  have s : ∀ j, j ≠ 21 ∧ j ≠ 22 ∧ j ≠ 23 ∧ j ≠ 36 ∧ j ≠ 37 → w' 0 j = w 0 j := fun j q => m.2 j q.1 (ex0_n q.2)
  unfold RC f_X5_isShut at h ⊢
  rw [k.c 2 (by decide), k.c 3 (by decide), k.c 4 (by decide), k.c 5 (by decide), k.c 6 (by decide), k.c 9 (by decide), k.c 10 (by decide), k.c 11 (by decide), k.c 12 (by decide), k.c 13 (by decide), k.c 14 (by decide), k.c 16 (by decide), k.c 17 (by decide), k.c 18 (by decide), k.c 19 (by decide), k.2 4 (by decide), k.2 5 (by decide)]
  rw [c 1 (by decide), c 2 (by decide), c 3 (by decide), c 4 (by decide), c 5 (by decide), c 9 (by decide), c 10 (by decide), c 11 (by decide), c 12 (by decide), c 13 (by decide), c 14 (by decide), c 16 (by decide), c 17 (by decide), c 18 (by decide), c 19 (by decide), s 0 (by decide), s 8 (by decide), s 15 (by decide), s 20 (by decide), s 25 (by decide), s 26 (by decide), s 27 (by decide), s 28 (by decide), s 34 (by decide)]
  exact h
def TR (n : Nat) (v u : Gr) : Prop := ∀ i s, i < n → s < 2 → u 6 (2 * i + s) = v 7 (8 * s + i) ∧ u 7 (2 * i + s) = v 8 (8 * s + i)
def NR (v u : Gr) : Prop := u 0 21 = v 0 6 ∧ u 0 22 = v 0 7 ∧ u 0 23 = v 0 8
theorem TR.u7 {n c r : Nat} {v u : Gr} (h : TR n v u) (hn : n ≤ 8) (hc : c < n) (hr : r < 2) (x : Int32) : TR n (up v 7 (8 * r + c) x) (up u 6 (2 * c + r) x) := by
  intro i s hi hs
  rw [up0, up0, up_ne (show (7 : Nat) ≠ 6 by decide), up_ne (show (8 : Nat) ≠ 7 by decide)]
  refine ⟨?_, (h i s hi hs).2⟩
  by_cases e : 2 * i + s = 2 * c + r
  · rw [if_pos e, if_pos (by omega)]
  · rw [if_neg e, if_neg (by omega)]; exact (h i s hi hs).1
theorem TR.u8 {n c r : Nat} {v u : Gr} (h : TR n v u) (hn : n ≤ 8) (hc : c < n) (hr : r < 2) (x : Int32) : TR n (up v 8 (8 * r + c) x) (up u 7 (2 * c + r) x) := by
  intro i s hi hs
  rw [up0, up0, up_ne (show (6 : Nat) ≠ 7 by decide), up_ne (show (7 : Nat) ≠ 8 by decide)]
  refine ⟨(h i s hi hs).1, ?_⟩
  by_cases e : 2 * i + s = 2 * c + r
  · rw [if_pos e, if_pos (by omega)]
  · rw [if_neg e, if_neg (by omega)]; exact (h i s hi hs).2
theorem TR.same {n : Nat} {v v' u u' : Gr} (h : TR n v u) (e7 : v' 7 = v 7) (e8 : v' 8 = v 8) (e6 : u' 6 = u 6) (e7' : u' 7 = u 7) : TR n v' u' := by
  unfold TR
  rw [e7, e8, e6, e7']
  exact h
theorem TR.v0 {n : Nat} {v u : Gr} {j : Nat} {x : Int32} (h : TR n v u) : TR n (up v 0 j x) u := h.same (up_ne (by decide)) (up_ne (by decide)) rfl rfl
theorem TR.u0 {n : Nat} {v u : Gr} {j : Nat} {x : Int32} (h : TR n v u) : TR n v (up u 0 j x) := h.same rfl rfl (up_ne (by decide)) (up_ne (by decide))
/-- the class stirs: heap by heap -/
theorem stir1_7 (c s : Nat) (u : Gr) (hc : c < 8) (hs : s < 2) : b_X0_stir_18 (nI c) s u 8 = upd (u 8) (8 * s + c) (u 8 (8 * s + c) - f_X6_partOf (u 8 (8 * s + c)) (u 5 c)) ∧ b_X0_stir_18 (nI c) s u 7 = upd (u 7) (8 * s + c) (u 7 (8 * s + c) + f_X6_partOf (u 8 (8 * s + c)) (u 5 c)) ∧ b_X0_stir_18 (nI c) s u 5 = u 5 ∧ b_X0_stir_18 (nI c) s u 0 = u 0 := by
  unfold b_X0_stir_18
  rw [hp_c hc hs, nI_clamp (by omega)]
  refine ⟨?_, ?_, ?_, ?_⟩
  · rw [up_ne (show (8 : Nat) ≠ 7 by decide), up_same]
  · rw [up_same, up_ne (show (7 : Nat) ≠ 8 by decide)]
  · rw [up_ne (show (5 : Nat) ≠ 7 by decide), up_ne (show (5 : Nat) ≠ 8 by decide)]
  · rw [up_ne (show (0 : Nat) ≠ 7 by decide), up_ne (show (0 : Nat) ≠ 8 by decide)]
theorem settle1_7 (c s : Nat) (u : Gr) (hc : c < 8) (hs : s < 2) : b_X0_settle_18 (nI c) s u 7 = upd (u 7) (8 * s + c) (u 7 (8 * s + c) - f_X6_partOf (u 7 (8 * s + c)) (u 4 c)) ∧ b_X0_settle_18 (nI c) s u 8 = upd (u 8) (8 * s + c) (u 8 (8 * s + c) + f_X6_partOf (u 7 (8 * s + c)) (u 4 c)) ∧ b_X0_settle_18 (nI c) s u 4 = u 4 ∧ b_X0_settle_18 (nI c) s u 0 = u 0 := by
  unfold b_X0_settle_18
  rw [hp_c hc hs, nI_clamp (by omega)]
  refine ⟨?_, ?_, ?_, ?_⟩
  · rw [up_ne (show (7 : Nat) ≠ 8 by decide), up_same]
  · rw [up_same, up_ne (show (8 : Nat) ≠ 7 by decide)]
  · rw [up_ne (show (4 : Nat) ≠ 8 by decide), up_ne (show (4 : Nat) ≠ 7 by decide)]
  · rw [up_ne (show (0 : Nat) ≠ 8 by decide), up_ne (show (0 : Nat) ≠ 7 by decide)]
/-- where a loop over all heaps stands: f done below k, the rest as it was; A moves to B -/
def HH (A B : Nat) (pt : Nat → Int32) (v : Gr) (k : Nat) (u : Gr) : Prop := (∀ i s, i < k → s < 2 → u A (8 * s + i) = v A (8 * s + i) - f_X6_partOf (v A (8 * s + i)) (pt i) ∧ u B (8 * s + i) = v B (8 * s + i) + f_X6_partOf (v A (8 * s + i)) (pt i)) ∧ (∀ i s, k ≤ i → i < 8 → s < 2 → u A (8 * s + i) = v A (8 * s + i) ∧ u B (8 * s + i) = v B (8 * s + i)) ∧ u 0 = v 0
theorem HH.step {A B : Nat} {pt : Nat → Int32} {v u u1 u2 : Gr} {k : Nat} (h : HH A B pt v k u) (hk : k < 8)
    (a1 : u1 A = upd (u A) (8 * 0 + k) (u A (8 * 0 + k) - f_X6_partOf (u A (8 * 0 + k)) (pt k))) (b1 : u1 B = upd (u B) (8 * 0 + k) (u B (8 * 0 + k) + f_X6_partOf (u A (8 * 0 + k)) (pt k))) (z1 : u1 0 = u 0)
    (a2 : u2 A = upd (u1 A) (8 * 1 + k) (u1 A (8 * 1 + k) - f_X6_partOf (u1 A (8 * 1 + k)) (pt k))) (b2 : u2 B = upd (u1 B) (8 * 1 + k) (u1 B (8 * 1 + k) + f_X6_partOf (u1 A (8 * 1 + k)) (pt k))) (z2 : u2 0 = u1 0) : HH A B pt v (k + 1) u2 := by
  have r1 : u1 A (8 * 1 + k) = v A (8 * 1 + k) := by rw [a1, pk_un (by omega)]; exact (h.2.1 k 1 (by omega) hk (by decide)).1
  have r0 : u A (8 * 0 + k) = v A (8 * 0 + k) := (h.2.1 k 0 (by omega) hk (by decide)).1
  have q0 : u B (8 * 0 + k) = v B (8 * 0 + k) := (h.2.1 k 0 (by omega) hk (by decide)).2
  have q1 : u1 B (8 * 1 + k) = v B (8 * 1 + k) := by rw [b1, pk_un (by omega)]; exact (h.2.1 k 1 (by omega) hk (by decide)).2
  refine ⟨fun i s hi hs => ?_, fun i s hi hi8 hs => ?_, by rw [z2, z1]; exact h.2.2⟩
  · by_cases e : i = k
    · subst e
      by_cases es : s = 1
      · subst es
        rw [a2, b2, pk_us, pk_us, r1, q1]; exact ⟨rfl, rfl⟩
      · have : s = 0 := by omega
        subst this
        rw [a2, b2, pk_un (by omega), pk_un (by omega), a1, b1, pk_us, pk_us, r0, q0]; exact ⟨rfl, rfl⟩
    · rw [a2, b2, pk_un (by omega), pk_un (by omega), a1, b1, pk_un (by omega), pk_un (by omega)]
      exact h.1 i s (by omega) hs
  · rw [a2, b2, pk_un (by omega), pk_un (by omega), a1, b1, pk_un (by omega), pk_un (by omega)]
    exact h.2.1 i s (by omega) hi8 hs
theorem HH.start {A B : Nat} {pt : Nat → Int32} {v : Gr} : HH A B pt v 0 v := ⟨fun i s h => absurd h (Nat.not_lt_zero i), fun _ _ _ _ _ => ⟨rfl, rfl⟩, rfl⟩
theorem itn2 {S : Type} (f : Nat → S → S) (u : S) : itn f 2 u = f 1 (f 0 u) := rfl
theorem stir_HH {n : Nat} {v : Gr} (hn : n ≤ 8) (hv : v 1 0 = nI n) : HH 8 7 (v 5) v n (g_X0_stir v) := by
  have hb : (v 1 0).toNatClampNeg = n := by rw [hv, nI_clamp (by omega)]
  have k := itn_I (f := b_X0_stir_2) (N := n) (fun k u => HH 8 7 (v 5) v k u ∧ u 5 = v 5) (fun k u hk ⟨h, e⟩ => by
    have s0 := stir1_7 k 0 u (by omega) (by decide)
    have s1 := stir1_7 k 1 (b_X0_stir_18 (nI k) 0 u) (by omega) (by decide)
    show HH 8 7 (v 5) v (k + 1) (itn (b_X0_stir_18 (nI k)) (nn 2) u) ∧ itn (b_X0_stir_18 (nI k)) (nn 2) u 5 = v 5
    rw [nn_eq, itn2]
    have e1 : b_X0_stir_18 (nI k) 0 u 5 = v 5 := s0.2.2.1.trans e
    refine ⟨h.step (u1 := b_X0_stir_18 (nI k) 0 u) (u2 := b_X0_stir_18 (nI k) 1 (b_X0_stir_18 (nI k) 0 u)) (by omega) ?_ ?_ s0.2.2.2 ?_ ?_ s1.2.2.2, s1.2.2.1.trans e1⟩
    · rw [← e]; exact s0.1
    · rw [← e]; exact s0.2.1
    · rw [← e1]; exact s1.1
    · rw [← e1]; exact s1.2.1) n v (Nat.le_refl _) ⟨HH.start, rfl⟩
  show HH 8 7 (v 5) v n (itn b_X0_stir_2 (v 1 0).toNatClampNeg v)
  rw [hb]; exact k.1
theorem settle_HH {n : Nat} {v : Gr} (hn : n ≤ 8) (hv : v 1 0 = nI n) : HH 7 8 (v 4) v n (g_X0_settle v) := by
  have hb : (v 1 0).toNatClampNeg = n := by rw [hv, nI_clamp (by omega)]
  have k := itn_I (f := b_X0_settle_2) (N := n) (fun k u => HH 7 8 (v 4) v k u ∧ u 4 = v 4) (fun k u hk ⟨h, e⟩ => by
    have s0 := settle1_7 k 0 u (by omega) (by decide)
    have s1 := settle1_7 k 1 (b_X0_settle_18 (nI k) 0 u) (by omega) (by decide)
    show HH 7 8 (v 4) v (k + 1) (itn (b_X0_settle_18 (nI k)) (nn 2) u) ∧ itn (b_X0_settle_18 (nI k)) (nn 2) u 4 = v 4
    rw [nn_eq, itn2]
    have e1 : b_X0_settle_18 (nI k) 0 u 4 = v 4 := s0.2.2.1.trans e
    refine ⟨h.step (u1 := b_X0_settle_18 (nI k) 0 u) (u2 := b_X0_settle_18 (nI k) 1 (b_X0_settle_18 (nI k) 0 u)) (by omega) ?_ ?_ s0.2.2.2 ?_ ?_ s1.2.2.2, s1.2.2.1.trans e1⟩
    · rw [← e]; exact s0.1
    · rw [← e]; exact s0.2.1
    · rw [← e1]; exact s1.1
    · rw [← e1]; exact s1.2.1) n v (Nat.le_refl _) ⟨HH.start, rfl⟩
  show HH 7 8 (v 4) v n (itn b_X0_settle_2 (v 1 0).toNatClampNeg v)
  rw [hb]; exact k.1
/-- and the reference: place by place -/
noncomputable def zz (kind S p : Int32) : Int32 := if kind = 0 then f_X6_partOf S p else 0
theorem half_c {k : Nat} (hk : k < 2 ^ 31) : (nI k / 2).toNatClampNeg = k / 2 := by
  rw [show (2 : Int32) = nI 2 from rfl, pk_div hk (by decide) (by decide), nI_clamp (by omega)]
def FF (kind : Int32) (w : Gr) (k : Nat) (u : Gr) : Prop := (∀ j, j < k → u 7 j = w 7 j - zz kind (w 7 j) (w 4 (j / 2)) ∧ u 6 j = w 6 j + zz kind (w 7 j) (w 4 (j / 2)) ∧ u 35 j = w 6 j + zz kind (w 7 j) (w 4 (j / 2))) ∧ (∀ j, k ≤ j → u 7 j = w 7 j ∧ u 6 j = w 6 j) ∧ u 4 = w 4 ∧ u 0 = w 0
theorem f11_eq (kind : Int32) (k : Nat) (u : Gr) (hk : k < 2 ^ 31) : b_X7_flow_11 kind k u 7 = upd (u 7) k (u 7 k - zz kind (u 7 k) (u 4 (k / 2))) ∧ b_X7_flow_11 kind k u 6 = upd (u 6) k (u 6 k + zz kind (u 7 k) (u 4 (k / 2))) ∧ b_X7_flow_11 kind k u 35 = upd (u 35) k (u 6 k + zz kind (u 7 k) (u 4 (k / 2))) ∧ b_X7_flow_11 kind k u 4 = u 4 ∧ b_X7_flow_11 kind k u 0 = u 0 := by
  have key : ∀ z : Int32, up (up (up u 7 k (u 7 k - z)) 6 k (up u 7 k (u 7 k - z) 6 k + z)) 35 k (up (up u 7 k (u 7 k - z)) 6 k (up u 7 k (u 7 k - z) 6 k + z) 6 k) 7 = upd (u 7) k (u 7 k - z) ∧ up (up (up u 7 k (u 7 k - z)) 6 k (up u 7 k (u 7 k - z) 6 k + z)) 35 k (up (up u 7 k (u 7 k - z)) 6 k (up u 7 k (u 7 k - z) 6 k + z) 6 k) 6 = upd (u 6) k (u 6 k + z) ∧ up (up (up u 7 k (u 7 k - z)) 6 k (up u 7 k (u 7 k - z) 6 k + z)) 35 k (up (up u 7 k (u 7 k - z)) 6 k (up u 7 k (u 7 k - z) 6 k + z) 6 k) 35 = upd (u 35) k (u 6 k + z) ∧ up (up (up u 7 k (u 7 k - z)) 6 k (up u 7 k (u 7 k - z) 6 k + z)) 35 k (up (up u 7 k (u 7 k - z)) 6 k (up u 7 k (u 7 k - z) 6 k + z) 6 k) 4 = u 4 ∧ up (up (up u 7 k (u 7 k - z)) 6 k (up u 7 k (u 7 k - z) 6 k + z)) 35 k (up (up u 7 k (u 7 k - z)) 6 k (up u 7 k (u 7 k - z) 6 k + z) 6 k) 0 = u 0 := by
    intro z
    refine ⟨?_, ?_, ?_, ?_, ?_⟩
    · rw [up_ne (show (7 : Nat) ≠ 35 by decide), up_ne (show (7 : Nat) ≠ 6 by decide), up_same]
    · rw [up_ne (show (6 : Nat) ≠ 35 by decide), up_same, up_ne (show (6 : Nat) ≠ 7 by decide)]
    · rw [up_same, up_ne (show (35 : Nat) ≠ 6 by decide), up_ne (show (35 : Nat) ≠ 7 by decide), up0, if_pos rfl, up_ne (show (6 : Nat) ≠ 7 by decide)]
    · rw [up_ne (show (4 : Nat) ≠ 35 by decide), up_ne (show (4 : Nat) ≠ 6 by decide), up_ne (show (4 : Nat) ≠ 7 by decide)]
    · rw [up_ne (show (0 : Nat) ≠ 35 by decide), up_ne (show (0 : Nat) ≠ 6 by decide), up_ne (show (0 : Nat) ≠ 7 by decide)]
  unfold b_X7_flow_11 zz
  dsimp only
  rw [nI_clamp hk, half_c hk]
  by_cases h : kind = 0
  · rw [if_pos h, if_pos h]; exact key _
  · rw [if_neg h, if_neg h]; exact key 0
theorem FF.step {kind : Int32} {w u : Gr} {k : Nat} (h : FF kind w k u) (hk : k < 2 ^ 31) : FF kind w (k + 1) (b_X7_flow_11 kind k u) := by
  obtain ⟨h1, h2, h3, h4⟩ := h
  obtain ⟨e7, e6, e35, e4, e0⟩ := f11_eq kind k u hk
  refine ⟨fun j hj => ?_, fun j hj => ?_, e4.trans h3, e0.trans h4⟩
  · by_cases q : j = k
    · subst q
      rw [e7, e6, e35, pk_us, pk_us, pk_us, (h2 j (Nat.le_refl _)).1, (h2 j (Nat.le_refl _)).2, h3]
      exact ⟨rfl, rfl, rfl⟩
    · rw [e7, e6, e35, pk_un q, pk_un q, pk_un q]; exact h1 j (by omega)
  · rw [e7, e6, pk_un (by omega), pk_un (by omega)]; exact h2 j (by omega)
theorem flow11_FF {n : Nat} {kind : Int32} {w : Gr} (hn : n ≤ 8) (hw : w 0 0 = nI n) : FF kind w (2 * n) (l_X7_flow_11 kind w) := by
  have hb : (2 * w 0 0).toNatClampNeg = 2 * n := by rw [hw, show (2 : Int32) = nI 2 from rfl, pk_mul, nI_clamp (by omega)]
  show FF kind w (2 * n) (itn (b_X7_flow_11 kind) (2 * w 0 0).toNatClampNeg w)
  rw [hb]
  exact itn_I (N := 2 * n) (FF kind w) (fun k u hk h => h.step (by omega)) (2 * n) w (Nat.le_refl _) ⟨fun j h => absurd h (Nat.not_lt_zero j), fun _ _ => ⟨rfl, rfl⟩, rfl, rfl⟩
def GG3 (w : Gr) (k : Nat) (u : Gr) : Prop := (∀ j, j < k → u 6 j = w 6 j - f_X6_partOf (w 6 j) (w 3 (j / 2)) ∧ u 7 j = w 7 j + f_X6_partOf (w 6 j) (w 3 (j / 2))) ∧ (∀ j, k ≤ j → u 7 j = w 7 j ∧ u 6 j = w 6 j) ∧ u 3 = w 3 ∧ u 0 = w 0
theorem GG3.step {w u : Gr} {k : Nat} (h : GG3 w k u) (hk : k < 2 ^ 31) : GG3 w (k + 1) (b_X7_flow_283 k u) := by
  obtain ⟨h1, h2, h3, h4⟩ := h
  have e : b_X7_flow_283 k u = up (up u 6 k (u 6 k - f_X6_partOf (u 6 k) (u 3 (k / 2)))) 7 k (up u 6 k (u 6 k - f_X6_partOf (u 6 k) (u 3 (k / 2))) 7 k + f_X6_partOf (u 6 k) (u 3 (k / 2))) := by
    unfold b_X7_flow_283 f_X6_partOf
    dsimp only
    rw [nI_clamp hk, half_c hk]
  rw [e]
  refine ⟨fun j hj => ?_, fun j hj => ?_, ?_, ?_⟩
  · rw [up_ne (show (6 : Nat) ≠ 7 by decide), up0, up0, up_ne (show (7 : Nat) ≠ 6 by decide)]
    by_cases q : j = k
    · subst q
      rw [if_pos rfl, if_pos rfl, (h2 j (Nat.le_refl _)).1, (h2 j (Nat.le_refl _)).2, h3]
      exact ⟨rfl, rfl⟩
    · rw [if_neg q, if_neg q]; exact h1 j (by omega)
  · rw [up_ne (show (6 : Nat) ≠ 7 by decide), up0, up0, up_ne (show (7 : Nat) ≠ 6 by decide), if_neg (by omega), if_neg (by omega)]; exact h2 j (by omega)
  · rw [up_ne (show (3 : Nat) ≠ 7 by decide), up_ne (show (3 : Nat) ≠ 6 by decide)]; exact h3
  · rw [up_ne (show (0 : Nat) ≠ 7 by decide), up_ne (show (0 : Nat) ≠ 6 by decide)]; exact h4
theorem flow283_GG {n : Nat} {w : Gr} (hn : n ≤ 8) (hw : w 0 0 = nI n) : GG3 w (2 * n) (l_X7_flow_283 w) := by
  have hb : (2 * w 0 0).toNatClampNeg = 2 * n := by rw [hw, show (2 : Int32) = nI 2 from rfl, pk_mul, nI_clamp (by omega)]
  show GG3 w (2 * n) (itn b_X7_flow_283 (2 * w 0 0).toNatClampNeg w)
  rw [hb]
  exact itn_I (N := 2 * n) (GG3 w) (fun k u hk h => h.step (by omega)) (2 * n) w (Nat.le_refl _) ⟨fun j h => absurd h (Nat.not_lt_zero j), fun _ _ => ⟨rfl, rfl⟩, rfl, rfl⟩
