theorem up0 (ρ : Gr) (f j i : Nat) (x : Int32) : up ρ f j x f i = if i = j then x else ρ f i := by rw [up_same]; rfl
theorem save_c (ρ : Gr) (f : Nat) (h : f ≠ 0 ∧ f ≠ 38 ∧ f ≠ 39) : g_X7_save ρ f = ρ f := by
  have hl : ∀ n v, itn b_X7_save_2 n v f = v f := fun n v => itn_fr (fun v : Gr => v f) (fun k v => by
    show up (up v 38 _ _) 39 _ _ f = v f
    rw [up_ne h.2.2, up_ne h.2.1]) n v
  unfold g_X7_save l_X7_save_2
  simp only [up_ne h.1, hl]
theorem save_l0 (n : Nat) (v : Gr) : itn b_X7_save_2 n v 0 = v 0 := itn_fr (fun v : Gr => v 0) (fun k v => by
    show up (up v 38 _ _) 39 _ _ 0 = v 0
    rw [up_ne (by decide), up_ne (by decide)]) n v
theorem save_s (ρ : Gr) (j : Nat) (h : j ≠ 40 ∧ j ≠ 41 ∧ j ≠ 42) : g_X7_save ρ 0 j = ρ 0 j := by
  unfold g_X7_save l_X7_save_2
  simp only [up_same, pk_un h.2.2, pk_un h.2.1, pk_un h.1, save_l0]
theorem save_40 (ρ : Gr) : g_X7_save ρ 0 40 = ρ 0 21 ∧ g_X7_save ρ 0 41 = ρ 0 22 ∧ g_X7_save ρ 0 42 = ρ 0 23 := by
  have e : l_X7_save_2 ρ 0 = ρ 0 := by unfold l_X7_save_2; exact save_l0 _ ρ
  refine ⟨?_, ?_, ?_⟩ <;> simp [g_X7_save, up0, e]
theorem save_lt (v : Gr) : ∀ n, n ≤ 16 → (∀ i, i < n → itn b_X7_save_2 n v 38 i = v 6 i ∧ itn b_X7_save_2 n v 39 i = v 7 i) ∧ itn b_X7_save_2 n v 6 = v 6 ∧ itn b_X7_save_2 n v 7 = v 7
  | 0, _ => ⟨fun i h => absurd h (Nat.not_lt_zero i), rfl, rfl⟩
  | n + 1, h => by
    obtain ⟨h1, h2, h3⟩ := save_lt v n (by omega)
    have hc : (nI n).toNatClampNeg = n := nI_clamp (by omega)
    have e38 : itn b_X7_save_2 (n + 1) v 38 = upd (itn b_X7_save_2 n v 38) n (v 6 n) := by
      simp only [itn, b_X7_save_2, up_ne (show (38 : Nat) ≠ 39 by decide), up_same, hc, h2]
    have e39 : itn b_X7_save_2 (n + 1) v 39 = upd (itn b_X7_save_2 n v 39) n (v 7 n) := by
      simp only [itn, b_X7_save_2, up_ne (show (39 : Nat) ≠ 38 by decide), up_ne (show (7 : Nat) ≠ 38 by decide), up_same, hc, h3]
    refine ⟨fun i hi => ?_, ?_, ?_⟩
    · rw [e38, e39]
      by_cases hin : i = n
      · subst hin; exact ⟨pk_us, pk_us⟩
      · rw [pk_un hin, pk_un hin]; exact h1 i (by omega)
    · simp only [itn, b_X7_save_2, up_ne (show (6 : Nat) ≠ 39 by decide), up_ne (show (6 : Nat) ≠ 38 by decide), h2]
    · simp only [itn, b_X7_save_2, up_ne (show (7 : Nat) ≠ 39 by decide), up_ne (show (7 : Nat) ≠ 38 by decide), h3]
theorem save_t (ρ : Gr) (i : Nat) (h : i < 16) : g_X7_save ρ 38 i = ρ 6 i ∧ g_X7_save ρ 39 i = ρ 7 i := by
  have h1 : l_X7_save_2 ρ 38 i = ρ 6 i ∧ l_X7_save_2 ρ 39 i = ρ 7 i := by unfold l_X7_save_2; rw [nn_eq]; exact (save_lt ρ 16 (Nat.le_refl _)).1 i h
  simp only [g_X7_save, up_ne (show (38 : Nat) ≠ 0 by decide), up_ne (show (39 : Nat) ≠ 0 by decide)]
  exact h1
theorem save_WF {B : Nat} {ρ : Gr} (h : WFm B ρ) : WFm B (g_X7_save ρ) := by
  unfold WFm
  rw [save_s ρ 0 (by decide), save_s ρ 8 (by decide), save_s ρ 15 (by decide), save_s ρ 20 (by decide), save_s ρ 21 (by decide), save_s ρ 25 (by decide), save_s ρ 27 (by decide), save_s ρ 30 (by decide), save_s ρ 32 (by decide), save_c ρ 9 (by decide), save_c ρ 10 (by decide), save_c ρ 12 (by decide), save_c ρ 16 (by decide), save_c ρ 17 (by decide)]
  exact h
theorem putBack_c (ρ : Gr) (f : Nat) (h : f ≠ 0 ∧ f ≠ 6 ∧ f ≠ 7) : g_X7_putBack ρ f = ρ f := by
  have hl : ∀ n v, itn b_X7_putBack_2 n v f = v f := fun n v => itn_fr (fun v : Gr => v f) (fun k v => by
    show up (up v 6 _ _) 7 _ _ f = v f
    rw [up_ne h.2.2, up_ne h.2.1]) n v
  unfold g_X7_putBack l_X7_putBack_2
  simp only [up_ne h.1, hl]
theorem putBack_l0 (n : Nat) (v : Gr) : itn b_X7_putBack_2 n v 0 = v 0 := itn_fr (fun v : Gr => v 0) (fun k v => by
    show up (up v 6 _ _) 7 _ _ 0 = v 0
    rw [up_ne (by decide), up_ne (by decide)]) n v
theorem putBack_s (ρ : Gr) (j : Nat) (h : j ≠ 21 ∧ j ≠ 22 ∧ j ≠ 23) : g_X7_putBack ρ 0 j = ρ 0 j := by
  unfold g_X7_putBack l_X7_putBack_2
  simp only [up_same, pk_un h.2.2, pk_un h.2.1, pk_un h.1, putBack_l0]
theorem putBack_21 (ρ : Gr) : g_X7_putBack ρ 0 21 = ρ 0 40 ∧ g_X7_putBack ρ 0 22 = ρ 0 41 ∧ g_X7_putBack ρ 0 23 = ρ 0 42 := by
  have e : l_X7_putBack_2 ρ 0 = ρ 0 := by unfold l_X7_putBack_2; exact putBack_l0 _ ρ
  refine ⟨?_, ?_, ?_⟩ <;> simp [g_X7_putBack, up0, e]
theorem putBack_lt (v : Gr) : ∀ n, n ≤ 16 → (∀ i, i < n → itn b_X7_putBack_2 n v 6 i = v 38 i ∧ itn b_X7_putBack_2 n v 7 i = v 39 i) ∧ itn b_X7_putBack_2 n v 38 = v 38 ∧ itn b_X7_putBack_2 n v 39 = v 39
  | 0, _ => ⟨fun i h => absurd h (Nat.not_lt_zero i), rfl, rfl⟩
  | n + 1, h => by
    obtain ⟨h1, h2, h3⟩ := putBack_lt v n (by omega)
    have hc : (nI n).toNatClampNeg = n := nI_clamp (by omega)
    have e38 : itn b_X7_putBack_2 (n + 1) v 6 = upd (itn b_X7_putBack_2 n v 6) n (v 38 n) := by
      simp only [itn, b_X7_putBack_2, up_ne (show (6 : Nat) ≠ 7 by decide), up_same, hc, h2]
    have e39 : itn b_X7_putBack_2 (n + 1) v 7 = upd (itn b_X7_putBack_2 n v 7) n (v 39 n) := by
      simp only [itn, b_X7_putBack_2, up_ne (show (7 : Nat) ≠ 6 by decide), up_ne (show (39 : Nat) ≠ 6 by decide), up_same, hc, h3]
    refine ⟨fun i hi => ?_, ?_, ?_⟩
    · rw [e38, e39]
      by_cases hin : i = n
      · subst hin; exact ⟨pk_us, pk_us⟩
      · rw [pk_un hin, pk_un hin]; exact h1 i (by omega)
    · simp only [itn, b_X7_putBack_2, up_ne (show (38 : Nat) ≠ 7 by decide), up_ne (show (38 : Nat) ≠ 6 by decide), h2]
    · simp only [itn, b_X7_putBack_2, up_ne (show (39 : Nat) ≠ 7 by decide), up_ne (show (39 : Nat) ≠ 6 by decide), h3]
theorem putBack_t (ρ : Gr) (i : Nat) (h : i < 16) : g_X7_putBack ρ 6 i = ρ 38 i ∧ g_X7_putBack ρ 7 i = ρ 39 i := by
  have h1 : l_X7_putBack_2 ρ 6 i = ρ 38 i ∧ l_X7_putBack_2 ρ 7 i = ρ 39 i := by unfold l_X7_putBack_2; rw [nn_eq]; exact (putBack_lt ρ 16 (Nat.le_refl _)).1 i h
  simp only [g_X7_putBack, up_ne (show (6 : Nat) ≠ 0 by decide), up_ne (show (7 : Nat) ≠ 0 by decide)]
  exact h1
/-- tides went by: what they leave -/
def Tt (w w' : Gr) : Prop := (∀ f, f ≠ 0 → f ≠ 6 → f ≠ 7 → f ≠ 35 → w' f = w f) ∧ ∀ j, j ≠ 21 → ¬ ex0 j → w' 0 j = w 0 j
theorem Tt.rf {w : Gr} : Tt w w := ⟨fun _ _ _ _ _ => rfl, fun _ _ _ => rfl⟩
theorem Tt.trans {a b c : Gr} (h : Tt a b) (h' : Tt b c) : Tt a c := ⟨fun f h1 h2 h3 h4 => (h'.1 f h1 h2 h3 h4).trans (h.1 f h1 h2 h3 h4), fun j h0 hj => (h'.2 j h0 hj).trans (h.2 j h0 hj)⟩
theorem Fm.tt {w w' : Gr} (h : Fm w w') : Tt w w' := ⟨h.1, fun j _ hj => h.2 j hj⟩
theorem Tt.u21 {w : Gr} {x : Int32} : Tt w (up w 0 21 x) := ⟨fun f' h0 _ _ _ => up_ne h0, fun i hi _ => by rw [up_same]; exact pk_un hi⟩
theorem passTide_Tt (ρ : Gr) : Tt ρ (g_X7_passTide ρ) := (((flow_Fm _).trans (take_Fm _ _)).tt).trans Tt.u21
/-- the same but for what a run scribbles on -/
def Sv (w w' : Gr) : Prop := (∀ f, f ≠ 0 → f ≠ 6 → f ≠ 7 → f ≠ 35 → f ≠ 38 → f ≠ 39 → w' f = w f) ∧ (∀ i, i < 16 → w' 6 i = w 6 i ∧ w' 7 i = w 7 i) ∧ ∀ j, j ≠ 36 → j ≠ 37 → j ≠ 40 → j ≠ 41 → j ≠ 42 → w' 0 j = w 0 j
theorem Sv.of {ρ v : Gr} (h : Tt (g_X7_save ρ) v) : Sv ρ (g_X7_putBack v) := by
  refine ⟨fun f h0 h6 h7 h35 h38 h39 => ?_, fun i hi => ?_, fun j h36 h37 h40 h41 h42 => ?_⟩
  · rw [putBack_c v f ⟨h0, h6, h7⟩, h.1 f h0 h6 h7 h35, save_c ρ f ⟨h0, h38, h39⟩]
  · obtain ⟨a, b⟩ := putBack_t v i hi
    obtain ⟨c, d⟩ := save_t ρ i hi
    rw [a, b, h.1 38 (by decide) (by decide) (by decide) (by decide), h.1 39 (by decide) (by decide) (by decide) (by decide), c, d]
    exact ⟨rfl, rfl⟩
  · obtain ⟨a, b, c⟩ := putBack_21 v
    obtain ⟨a', b', c'⟩ := save_40 ρ
    by_cases e : j = 21
    · subst e; rw [a, h.2 40 (by decide) (by unfold ex0; omega), a']
    · by_cases e : j = 22
      · subst e; rw [b, h.2 41 (by decide) (by unfold ex0; omega), b']
      · by_cases e : j = 23
        · subst e; rw [c, h.2 42 (by decide) (by unfold ex0; omega), c']
        · rw [putBack_s v j ⟨by omega, by omega, by omega⟩, h.2 j (by omega) (by unfold ex0; omega), save_s ρ j ⟨h40, h41, h42⟩]
theorem Sv.wf {B : Nat} {w w' : Gr} (k : Sv w w') (h : WFm B w) : WFm B w' := by
  have s : ∀ j, j ≠ 36 ∧ j ≠ 37 ∧ j ≠ 40 ∧ j ≠ 41 ∧ j ≠ 42 → w' 0 j = w 0 j := fun j q => k.2.2 j q.1 q.2.1 q.2.2.1 q.2.2.2.1 q.2.2.2.2
  have c : ∀ f, f ≠ 0 ∧ f ≠ 6 ∧ f ≠ 7 ∧ f ≠ 35 ∧ f ≠ 38 ∧ f ≠ 39 → w' f = w f := fun f q => k.1 f q.1 q.2.1 q.2.2.1 q.2.2.2.1 q.2.2.2.2.1 q.2.2.2.2.2
  unfold WFm
  rw [s 0 (by decide), s 8 (by decide), s 15 (by decide), s 20 (by decide), s 21 (by decide), s 25 (by decide), s 27 (by decide), s 30 (by decide), s 32 (by decide), c 9 (by decide), c 10 (by decide), c 12 (by decide), c 16 (by decide), c 17 (by decide)]
  exact h
theorem Sv.trans {a b c : Gr} (h : Sv a b) (h' : Sv b c) : Sv a c := ⟨fun f h1 h2 h3 h4 h5 h6 => (h'.1 f h1 h2 h3 h4 h5 h6).trans (h.1 f h1 h2 h3 h4 h5 h6), fun i hi => ⟨(h'.2.1 i hi).1.trans (h.2.1 i hi).1, (h'.2.1 i hi).2.trans (h.2.1 i hi).2⟩, fun j h1 h2 h3 h4 h5 => (h'.2.2 j h1 h2 h3 h4 h5).trans (h.2.2 j h1 h2 h3 h4 h5)⟩
theorem Sv.rf {a : Gr} : Sv a a := ⟨fun _ _ _ _ _ _ _ => rfl, fun _ _ => ⟨rfl, rfl⟩, fun _ _ _ _ _ _ => rfl⟩
theorem itn_P {S : Type} {f : Nat → S → S} (P : S → Prop) (h : ∀ k v, P v → P (f k v)) : ∀ (n : Nat) (v : S), P v → P (itn f n v)
  | 0, _, h0 => h0
  | n + 1, v, h0 => h n _ (itn_P P h n v h0)
theorem wl_P {S : Type} {it : Nat → S → Bool × Nat × Int32 × S} (P : S → Prop) (h : ∀ k v, P v → P (it k v).2.2.2) : ∀ (n k : Nat) (v : S), P v → P (wl it n k v).2.2
  | 0, _, _, h0 => h0
  | n + 1, k, v, h0 => by
    show P (if (it k v).1 = true then wl it n (k + 1) (it k v).2.2.2 else (it k v).2).2.2
    by_cases hh : (it k v).1 = true
    · rw [if_pos hh]; exact wl_P P h n (k + 1) _ (h k v h0)
    · rw [if_neg hh]; exact h k v h0
