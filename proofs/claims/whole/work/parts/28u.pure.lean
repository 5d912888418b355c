/-! the class reads a text -/
def CX (t : Nat → Int32) (e : Nat) (ρ : Gr) (a : Nat) : Prop := (∀ i, i < e → ρ 2 i = t i) ∧ ρ 1 0 = nI e ∧ e ≤ 96 ∧ a ≤ e ∧ ρ 1 2 = nI a
def KS (S : List Nat) (ρ ρ' : Gr) : Prop := (∀ f, f ≠ 1 → ρ' f = ρ f) ∧ ∀ j, j ∉ S → ρ' 1 j = ρ 1 j
theorem KS.rf {ρ : Gr} : KS [] ρ ρ := ⟨fun _ _ => rfl, fun _ _ => rfl⟩
theorem KS.rfl' {S : List Nat} {ρ : Gr} : KS S ρ ρ := ⟨fun _ _ => rfl, fun _ _ => rfl⟩
theorem KS.trans {S T : List Nat} {a b c : Gr} (h : KS S a b) (k : KS T b c) : KS (S ++ T) a c := ⟨fun f hf => (k.1 f hf).trans (h.1 f hf), fun j hj => by
  rw [List.mem_append, not_or] at hj
  exact (k.2 j hj.2).trans (h.2 j hj.1)⟩
theorem KS.u {ρ : Gr} {j : Nat} {x : Int32} : KS [j] ρ (up ρ 1 j x) := ⟨fun f hf => up_ne hf, fun i hi => by
  rw [up0, if_neg (fun q => hi (by rw [q]; exact List.mem_singleton.mpr rfl))]⟩
theorem CX.ks {S : List Nat} {t : Nat → Int32} {e a a' : Nat} {ρ ρ' : Gr} (h : CX t e ρ a) (k : KS S ρ ρ') (h0 : 0 ∉ S) (ha : a' ≤ e) (h2 : ρ' 1 2 = nI a') : CX t e ρ' a' := ⟨fun i hi => by rw [k.1 2 (by decide)]; exact h.1 i hi, (k.2 0 h0).trans h.2.1, h.2.2.1, ha, h2⟩
theorem CX.here {t : Nat → Int32} {e a : Nat} {ρ : Gr} (h : CX t e ρ a) : f_X1_byteHere ρ = if a < e then t a else -9 := by
  obtain ⟨h1, h2, h3, h4, h5⟩ := h
  unfold f_X1_byteHere
  rw [h2, h5, if_neg (nI_pos (by omega))]
  by_cases q : a < e
  · rw [if_neg (fun z => by have := (nI_leI (by omega) (by omega)).mp z; omega), if_neg (fun z => by have := (nI_leI (a := 96) (by decide) (by omega)).mp z; omega), if_pos q, nI_clamp (by omega), h1 a q]
  · rw [if_pos ((nI_leI (by omega) (by omega)).mpr (by omega)), if_neg q]
theorem CX.is {t : Nat → Int32} {e a : Nat} {ρ : Gr} (h : CX t e ρ a) {c : Int32} (h1 : ¬ c = -1) (h9 : ¬ c = -9) : f_X1_byteHere ρ = c ↔ hb t e a = c := by
  rw [h.here]
  unfold hb
  by_cases q : a < e
  · rw [if_pos q, if_pos q]
  · rw [if_neg q, if_neg q]; exact ⟨fun z => absurd z.symm h9, fun z => absurd z.symm h1⟩
theorem CX.val {t : Nat → Int32} {e a : Nat} {ρ : Gr} (h : CX t e ρ a) (q : a < e) : f_X1_byteHere ρ = hb t e a := by
  rw [h.here]; unfold hb; rw [if_pos q, if_pos q]
theorem CX.dig {t : Nat → Int32} {e a : Nat} {ρ : Gr} (h : CX t e ρ a) : f_X1_digitIsHere ρ = if dg (hb t e a) = true then 1 else 0 := by
  unfold f_X1_digitIsHere
  by_cases q : a < e
  · rw [h.val q]
    by_cases d : dg (hb t e a) = true
    · obtain ⟨d1, d2⟩ := dg_iff.mp d
      rw [if_pos d, if_neg (Int32.not_lt.mpr d1), if_neg (Int32.not_lt.mpr d2)]
    · rw [if_neg d]
      by_cases z : hb t e a < 48
      · rw [if_pos z]
      · rw [if_neg z]
        by_cases y : 57 < hb t e a
        · rw [if_pos y]
        · exact absurd (dg_iff.mpr ⟨Int32.not_lt.mp z, Int32.not_lt.mp y⟩) d
  · rw [if_neg (fun z => q (dg_out z)), h.here, if_neg q, if_pos (by decide)]
theorem CX.inc {t : Nat → Int32} {e a : Nat} {ρ : Gr} (h : CX t e ρ a) (q : a < e) : CX t e (up ρ 1 2 (ρ 1 2 + 1)) (a + 1) :=
  h.ks (KS.u (j := 2)) (by decide) q (by rw [up0, if_pos rfl, h.2.2.2.2, nI_1])
theorem cs_sign {t : Nat → Int32} {e a : Nat} {ρ : Gr} {x : Int32} (h : CX t e ρ a) (h1 : ¬ x = -1) (h9 : ¬ x = -9) :
    (hb t e a = x → f_X1_readSign ρ x = 1 ∧ CX t e (g_X1_readSign ρ x) (a + 1) ∧ KS [2] ρ (g_X1_readSign ρ x)) ∧ (¬ hb t e a = x → f_X1_readSign ρ x = 0 ∧ g_X1_readSign ρ x = ρ) := by
  unfold f_X1_readSign g_X1_readSign
  refine ⟨fun q => ?_, fun q => ?_⟩
  · rw [if_pos ((h.is h1 h9).mpr q), if_pos ((h.is h1 h9).mpr q)]
    exact ⟨rfl, h.inc (hb_out q h1), KS.u⟩
  · rw [if_neg (fun z => q ((h.is h1 h9).mp z)), if_neg (fun z => q ((h.is h1 h9).mp z))]
    exact ⟨rfl, rfl⟩
theorem cs_dig {t : Nat → Int32} {e a : Nat} {ρ : Gr} (h : CX t e ρ a) :
    ((rdig (hb t e) a).1 = true → f_X1_readDigit ρ = 1 ∧ CX t e (g_X1_readDigit ρ) (rdig (hb t e) a).2.1 ∧ KS [5, 4, 2] ρ (g_X1_readDigit ρ) ∧ g_X1_readDigit ρ 1 4 = (rdig (hb t e) a).2.2 ∧ g_X1_readDigit ρ 1 5 = ρ 1 4) ∧ (¬ (rdig (hb t e) a).1 = true → f_X1_readDigit ρ = 0 ∧ g_X1_readDigit ρ = ρ ∧ (rdig (hb t e) a).2.1 = a) := by
  unfold f_X1_readDigit g_X1_readDigit rdig
  dsimp only
  by_cases d : dg (hb t e a) = true
  · rw [if_pos d]
    refine ⟨fun _ => ?_, fun q => absurd rfl q⟩
    have e1 : f_X1_digitIsHere ρ = 1 := by rw [h.dig, if_pos d]
    rw [if_neg (by rw [e1]; decide), if_neg (by rw [e1]; decide)]
    have k5 : KS [5] ρ (up ρ 1 5 (ρ 1 4)) := KS.u
    have h5 := h.ks k5 (by decide) h.2.2.2.1 ((k5.2 2 (by decide)).trans h.2.2.2.2)
    rw [h5.val (dg_out d)]
    have q5 : up ρ 1 5 (ρ 1 4) 1 5 = ρ 1 4 := by rw [up0, if_pos rfl]
    generalize up ρ 1 5 (ρ 1 4) = ρ5 at *
    have k4 : KS [4] ρ5 (up ρ5 1 4 (hb t e a - 48)) := KS.u
    have h4 := h5.ks k4 (by decide) h.2.2.2.1 ((k4.2 2 (by decide)).trans h5.2.2.2.2)
    refine ⟨rfl, h4.inc (dg_out d), (k5.trans k4).trans KS.u, ?_, ?_⟩
    · rw [up0, if_neg (by decide), up0, if_pos rfl]
    · rw [up0, if_neg (by decide), up0, if_neg (by decide)]; exact q5
  · rw [if_neg d]
    have e0 : f_X1_digitIsHere ρ = 0 := by rw [h.dig, if_neg d]
    refine ⟨fun q => absurd q Bool.false_ne_true, fun _ => ?_⟩
    rw [if_pos e0, if_pos e0]
    exact ⟨rfl, rfl, rfl⟩
