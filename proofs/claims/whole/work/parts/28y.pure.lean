/-! the first passes, side by side -/
theorem co28_go {k : Nat} {v : Gr} (h0 : v 0 45 = 0) (h : v 0 46 = 0 ∨ ¬ v 0 44 ≤ v 0 43) : b_X7_coast_28 k v = (true, 0, 0, g_X7_readStatement v) := by
  unfold b_X7_coast_28
  rw [if_pos h0]
  by_cases z : v 0 46 = 0
  · rw [if_pos z]
  · rw [if_neg z, if_neg (h.resolve_left z)]
theorem co28_out {k : Nat} {v : Gr} (h : ¬ v 0 45 = 0 ∨ (¬ v 0 46 = 0 ∧ v 0 44 ≤ v 0 43)) : b_X7_coast_28 k v = (false, 60, 0, v) := by
  unfold b_X7_coast_28
  by_cases h0 : v 0 45 = 0
  · obtain ⟨a, b⟩ := h.resolve_left (fun q => q h0)
    rw [if_pos h0, if_neg a, if_pos b]
  · rw [if_neg h0]
def KT (τ τ' : St) : Prop := (∀ f, f ≠ 0 → τ' f = τ f) ∧ ∀ f, f ≠ 1 → τ' 0 f = τ 0 f
theorem KT.rf {τ : St} : KT τ τ := ⟨fun _ _ => rfl, fun _ _ => rfl⟩
theorem KT.trans {a b c : St} (h : KT a b) (k : KT b c) : KT a c := ⟨fun f hf => (k.1 f hf).trans (h.1 f hf), fun f hf => (k.2 f hf).trans (h.2 f hf)⟩
theorem pass1 {w : Gr} {t : Nat → Int32} {e : Nat} : ∀ (d k : Nat) (τ : St) (v : Gr), k + d = 48 → RI w t e k v → v 0 45 = 0 → (k = 0 ∨ pos (hb t e) k < e) → CX t e (τ 0) (pos (hb t e) k) →
    ∃ τ' v', wl b_X7_coast_28 (d + 1) k v = (60, 0, v') ∧ KT τ τ' ∧ τ' 0 1 0 = nI e ∧
      ((∃ K, wl b_X1_readInto_7 (d + 49) k (nI k, τ) = (43, 0, (nI K, τ')) ∧ RI w t e K v' ∧ v' 0 45 = 0) ∨ (∃ p c, p ≤ 96 ∧ wl b_X1_readInto_7 (d + 49) k (nI k, τ) = (22, -1000 - nI p, (c, τ')) ∧ ¬ v' 0 45 = 0 ∧ v' 0 43 = nI p ∧ Q9 w v')) := by
  intro d
  induction d with
  | zero =>
    intro k τ v hk R h0 hc C
    obtain ⟨g1, _, _⟩ := R.good h0
    have hcc : v 0 46 = 0 ∨ ¬ v 0 44 ≤ v 0 43 := by
      rcases hc with rfl | hc
      · exact Or.inl R.2.1
      · refine Or.inr (fun q => ?_)
        rw [g1.2.1, g1.2.2.2.2.1] at q
        have := (nI_leI (by have := g1.2.2.1; omega) (by have := g1.2.2.1; have := g1.2.2.2.1; omega)).mp q
        omega
    have := (R.lt h0 hcc).1
    omega
  | succ d ih =>
    intro k τ v hk R h0 hc C
    obtain ⟨g1, _, _⟩ := R.good h0
    have he := g1.2.2.1
    have hcc : v 0 46 = 0 ∨ ¬ v 0 44 ≤ v 0 43 := by
      rcases hc with rfl | hc
      · exact Or.inl R.2.1
      · refine Or.inr (fun q => ?_)
        rw [g1.2.1, g1.2.2.2.2.1] at q
        have := (nI_leI (by omega) (by have := g1.2.2.2.1; omega)).mp q
        omega
    have R' := R.go h0 (by omega)
    have d7 := co28_go (k := k) h0 hcc
    obtain ⟨a1, a2, a3, a4⟩ := cs_stm C
    have kt : KT τ (setG τ 0 (g_X1_readStatement (τ 0))) := ⟨fun f hf => setG_ne hf, fun f hf => by rw [setG_same]; exact a4 f hf⟩
    have hp : (stm (hb t e) (pos (hb t e) k)).2.1 = pos (hb t e) (k + 1) := rfl
    rw [hp] at a3
    generalize g_X7_readStatement v = v1 at *
    by_cases g : (stm (hb t e) (pos (hb t e) k)).1 = true
    · obtain ⟨f1, _⟩ := a1 g
      have r0 : RX 0 t e v1 (pos (hb t e) (k + 1)) := by
        rcases R'.2.2.2 with q | ⟨K, hK, _, q, _⟩
        · exact q.1
        · have : k = K := by omega
          subst this
          exact absurd g q
      have h0' : v1 0 45 = 0 := r0.2.2.2.2.2
      have n46 : ¬ v1 0 46 = 0 := fun q => by
        rw [R'.2.1] at q
        have := nIinj (b := 0) (by omega) (by decide) q
        omega
      by_cases hl : e ≤ pos (hb t e) (k + 1)
      · refine ⟨_, v1, ?_, kt, ?_, Or.inl ⟨k + 1, ?_, R', h0'⟩⟩
        · rw [wl_go d7]
          refine wl_out (co28_out (Or.inr ⟨n46, ?_⟩))
          rw [r0.2.1, r0.2.2.2.2.1]
          exact (nI_leI (by omega) (by have := r0.2.2.2.1; omega)).mpr hl
        · rw [setG_same]; exact a3.2.1
        · refine wl_out ?_
          unfold b_X1_readInto_7
          dsimp only
          rw [if_neg (ne0 f1), setG_same, if_pos (by rw [a3.2.1, a3.2.2.2.2]; exact (nI_leI (by omega) (by have := a3.2.2.2.1; omega)).mpr hl), nI_1]
      · have d6 : b_X1_readInto_7 k (nI k, τ) = (true, 0, 0, (nI (k + 1), setG τ 0 (g_X1_readStatement (τ 0)))) := by
          unfold b_X1_readInto_7
          dsimp only
          rw [if_neg (ne0 f1), setG_same, if_neg (by rw [a3.2.1, a3.2.2.2.2]; exact fun q => hl ((nI_leI (by omega) (by have := a3.2.2.2.1; omega)).mp q)), nI_1, if_pos (show nI (k + 1) < 96 from nI_lt (b := 96) (by omega) (by decide))]
        obtain ⟨τ', v', w1, k1, e1, w2⟩ := ih (k + 1) (setG τ 0 (g_X1_readStatement (τ 0))) v1 (by omega) R' h0' (Or.inr (by omega)) (by rw [setG_same]; exact a3)
        refine ⟨τ', v', by rw [wl_go d7]; exact w1, kt.trans k1, e1, ?_⟩
        rw [show d + 1 + 49 = (d + 49) + 1 by omega, wl_go d6]
        exact w2
    · have f0 := a2 g
      have r1 : RX 1 t e v1 (pos (hb t e) (k + 1)) := by
        rcases R'.2.2.2 with ⟨_, _, q⟩ | ⟨K, hK, q, _⟩
        · exact absurd (q k (by omega)).1 g
        · exact q
      have n45 : ¬ v1 0 45 = 0 := by rw [r1.2.2.2.2.2]; decide
      refine ⟨_, v1, ?_, kt, ?_, Or.inr ⟨pos (hb t e) (k + 1), nI k, by have := r1.2.2.2.1; omega, ?_, n45, r1.2.2.2.2.1, R'.1⟩⟩
      · rw [wl_go d7]
        exact wl_out (co28_out (Or.inl n45))
      · rw [setG_same]; exact a3.2.1
      · refine wl_out ?_
        unfold b_X1_readInto_7
        dsimp only
        rw [if_pos f0, setG_same, a3.2.2.2.2]
