/-! states that agree where it matters -/
def AG (a b : Gr) : Prop := (a 1 0 = b 1 0 ∧ a 9 0 = b 9 0 ∧ a 9 6 = b 9 6 ∧ a 15 0 = b 15 0) ∧ (∀ j, j < 5 → a 19 j = b 19 j) ∧ (∀ j, 4 ≤ j → j ≤ 8 → a 0 j = b 0 j) ∧ (∀ f i, i < 8 → (2 ≤ f ∧ f ≤ 6) ∨ (16 ≤ f ∧ f ≤ 18) → a f i = b f i) ∧ (∀ f i, i < 16 → 7 ≤ f ∧ f ≤ 8 → a f i = b f i) ∧ (∀ f i, i < 24 → 10 ≤ f ∧ f ≤ 14 → a f i = b f i)
theorem AG.rf {a : Gr} : AG a a := ⟨⟨rfl, rfl, rfl, rfl⟩, fun _ _ => rfl, fun _ _ _ => rfl, fun _ _ _ _ => rfl, fun _ _ _ _ => rfl, fun _ _ _ _ => rfl⟩
theorem AG.shut {a b : Gr} (h : AG a b) (x : Int32) : f_X5_isShut a x = f_X5_isShut b x := by
  unfold f_X5_isShut; rw [h.1.2.2.1]
theorem AG.pws {a b : Gr} (h : AG a b) (c k s : Int32) {m : Nat} (hm : m ≤ 24) : pw a c k s m = pw b c k s m := by
  unfold pw
  refine sm_congr m (fun i hi => ?_)
  have e := h.2.2.2.2.2
  rw [e 10 i (by omega) (by decide), e 12 i (by omega) (by decide), e 13 i (by omega) (by decide), e 14 i (by omega) (by decide)]
theorem IC.ag {n nw nr : Nat} {a b : Gr} (h : AG a b) (I : IC n nw nr b) : IC n nw nr a := by
  obtain ⟨⟨hn, hw, hr⟩, ⟨e1, e2, e3⟩, C, W, P, V, D, m, S⟩ := I
  obtain ⟨⟨a1, a2, a3, a4⟩, a5, a6, a7, a8, a9⟩ := id h
  refine ⟨⟨hn, hw, hr⟩, ⟨a1.trans e1, a2.trans e2, a4.trans e3⟩, fun i hi => ?_, fun i hi => ?_, fun c k s => ?_, fun i hi => ?_, ?_, ?_, fun i h1 h2 => ?_⟩
  · rw [a7 2 i (by omega) (by decide), a7 3 i (by omega) (by decide), a7 4 i (by omega) (by decide), a7 5 i (by omega) (by decide), a7 6 i (by omega) (by decide)]; exact C i hi
  · rw [a9 10 i (by omega) (by decide), a9 11 i (by omega) (by decide), a9 12 i (by omega) (by decide), a9 13 i (by omega) (by decide), a9 14 i (by omega) (by decide)]; exact W i hi
  · rw [h.pws c k s hw]; exact P c k s
  · rw [a7 16 i (by omega) (by decide), a7 17 i (by omega) (by decide), a7 18 i (by omega) (by decide)]; exact V i hi
  · unfold DIv; rw [a5 0 (by decide), a5 1 (by decide), a5 2 (by decide), a5 3 (by decide), a5 4 (by decide)]; exact D
  · rw [a6 4 (by decide) (by decide)]; exact m
  · rw [h.shut]; exact S i h1 h2
theorem RC.ag {n nw nr : Nat} {a b u : Gr} (h : AG a b) (hb : n ≤ 8 ∧ nw ≤ 24 ∧ nr ≤ 8) (R : RC n nw nr b u) : RC n nw nr a u := by
  obtain ⟨hn, hw, hr⟩ := hb
  obtain ⟨r1, r2, r3, r4, r5, r6, r7⟩ := R
  obtain ⟨⟨a1, a2, a3, a4⟩, a5, a6, a7, a8, a9⟩ := id h
  refine ⟨r1, fun i hi => ?_, fun i hi => ?_, fun i hi => ?_, ?_, ?_, ?_⟩
  · rw [a7 2 i (by omega) (by decide), a7 3 i (by omega) (by decide), a7 4 i (by omega) (by decide), a7 5 i (by omega) (by decide), a7 6 i (by omega) (by decide)]; exact r2 i hi
  · rw [a9 10 i (by omega) (by decide), a9 11 i (by omega) (by decide), a9 12 i (by omega) (by decide), a9 13 i (by omega) (by decide), a9 14 i (by omega) (by decide), h.shut]; exact r3 i hi
  · rw [a7 16 i (by omega) (by decide), a7 17 i (by omega) (by decide), a7 18 i (by omega) (by decide)]; exact r4 i hi
  · rw [a5 1 (by decide), a5 2 (by decide), a5 3 (by decide), a5 4 (by decide)]; exact r5
  · rw [a6 4 (by decide) (by decide)]; exact r6
  · rw [a6 4 (by decide) (by decide), a6 5 (by decide) (by decide)]; exact r7
theorem TZ.ag {n M : Nat} {a b : Gr} (h : AG a b) (Z : TZ n M b) : TZ n M a := by
  have e := h.2.2.2.2.1
  refine ⟨⟨fun i hi => ?_, ?_⟩, fun i s h1 h2 h3 => ?_⟩
  · rw [e 7 i hi (by decide), e 8 i hi (by decide)]; exact Z.1.1 i hi
  · rw [sm_congr (g := fun i => (b 7 i).toNatClampNeg + (b 8 i).toNatClampNeg) 16 (fun i hi => by rw [e 7 i hi (by decide), e 8 i hi (by decide)])]; exact Z.1.2
  · rw [e 7 _ (by omega) (by decide), e 8 _ (by omega) (by decide)]; exact Z.2 i s h1 h2 h3
theorem SIM.ag {n nw nr B M : Nat} {a b u : Gr} (h : AG a b) (S : SIM n nw nr B M b u) : SIM n nw nr B M a u := by
  obtain ⟨I, R, T, N, Z, hb⟩ := S
  have e := h.2.2.2.2.1
  have e0 := h.2.2.1
  have hn := I.1.1
  refine ⟨I.ag h, R.ag h I.1, fun i s hi hs => ?_, ?_, Z.ag h, ?_⟩
  · rw [e 7 _ (by omega) (by decide), e 8 _ (by omega) (by decide)]; exact T i s hi hs
  · unfold NR; rw [e0 6 (by decide) (by decide), e0 7 (by decide) (by decide), e0 8 (by decide) (by decide)]; exact N
  · rw [e0 6 (by decide) (by decide)]; exact hb
/-- the same of the reference -/
def AM (a b : Gr) : Prop := (∀ j, j ≤ 28 → a 0 j = b 0 j) ∧ a 0 34 = b 0 34 ∧ (∀ f i, i < 8 → (1 ≤ f ∧ f ≤ 5) ∨ (16 ≤ f ∧ f ≤ 18) → a f i = b f i) ∧ (∀ f i, i < 16 → 6 ≤ f ∧ f ≤ 7 → a f i = b f i) ∧ (∀ f i, i < 24 → 9 ≤ f ∧ f ≤ 14 → a f i = b f i) ∧ (∀ i, i < 28 → a 19 i = b 19 i)
theorem SIM.am {n nw nr B M : Nat} {v a b : Gr} (h : AM a b) (S : SIM n nw nr B M v b) : SIM n nw nr B M v a := by
  obtain ⟨I, R, T, N, Z, hb⟩ := S
  obtain ⟨a1, a2, a3, a4, a5, a6⟩ := h
  obtain ⟨hn, hw, hr⟩ := I.1
  refine ⟨I, ?_, fun i s hi hs => ?_, ?_, Z, hb⟩
  · obtain ⟨⟨x1, x2, x3⟩, r2, r3, r4, ⟨y1, y2, y3, y4⟩, r6, r7⟩ := R
    refine ⟨⟨(a1 0 (by decide)).trans x1, (a1 8 (by decide)).trans x2, (a1 15 (by decide)).trans x3⟩, fun i hi => ?_, fun i hi => ?_, fun i hi => ?_, ⟨(a1 25 (by decide)).trans y1, (a1 26 (by decide)).trans y2, (a1 27 (by decide)).trans y3, (a1 28 (by decide)).trans y4⟩, (a1 20 (by decide)).trans r6, fun t ht hlt => (a6 t ht).trans (r7 t ht hlt)⟩
    · rw [a3 1 i (by omega) (by decide), a3 2 i (by omega) (by decide), a3 3 i (by omega) (by decide), a3 4 i (by omega) (by decide), a3 5 i (by omega) (by decide)]; exact r2 i hi
    · rw [a5 9 i (by omega) (by decide), a5 10 i (by omega) (by decide), a5 11 i (by omega) (by decide), a5 12 i (by omega) (by decide), a5 13 i (by omega) (by decide), a5 14 i (by omega) (by decide)]; exact r3 i hi
    · rw [a3 16 i (by omega) (by decide), a3 17 i (by omega) (by decide), a3 18 i (by omega) (by decide), a2]; exact r4 i hi
  · rw [a4 6 _ (by omega) (by decide), a4 7 _ (by omega) (by decide)]; exact T i s hi hs
  · unfold NR; rw [a1 21 (by decide), a1 22 (by decide), a1 23 (by decide)]; exact N
theorem Sv.am {w w' : Gr} (k : Sv w w') : AM w' w :=
  ⟨fun j hj => k.2.2 j (by omega) (by omega) (by omega) (by omega) (by omega), k.2.2 34 (by decide) (by decide) (by decide) (by decide) (by decide), fun f i _ hf => congrFun (k.1 f (by omega) (by omega) (by omega) (by omega) (by omega) (by omega)) i, fun f i hi hf => by
    have : f = 6 ∨ f = 7 := by omega
    rcases this with rfl | rfl
    · exact (k.2.1 i hi).1
    · exact (k.2.1 i hi).2, fun f i _ hf => congrFun (k.1 f (by omega) (by omega) (by omega) (by omega) (by omega) (by omega)) i, fun i _ => congrFun (k.1 19 (by decide) (by decide) (by decide) (by decide) (by decide) (by decide)) i⟩
theorem save_AM (u : Gr) : AM (g_X7_save u) u :=
  ⟨fun j hj => save_s u j (by omega), save_s u 34 (by decide), fun f i _ hf => congrFun (save_c u f (by omega)) i, fun f i _ hf => congrFun (save_c u f (by omega)) i, fun f i _ hf => congrFun (save_c u f (by omega)) i, fun i _ => congrFun (save_c u 19 (by decide)) i⟩
theorem cpy8 {f g : Nat → Int32} {i : Nat} (h : i < 8) : va_cpy f g 0 0 (8 : Int32).toNatClampNeg i = f i := by
  rw [show (8 : Int32).toNatClampNeg = 8 from by decide, pk_cpy_in (Nat.zero_le _) (by omega)]; congr 1; omega
theorem cpy16 {f g : Nat → Int32} {i : Nat} (h : i < 16) : va_cpy f g 0 0 (16 : Int32).toNatClampNeg i = f i := by
  rw [show (16 : Int32).toNatClampNeg = 16 from by decide, pk_cpy_in (Nat.zero_le _) (by omega)]; congr 1; omega
theorem cpy24 {f g : Nat → Int32} {i : Nat} (h : i < 24) : va_cpy f g 0 0 (24 : Int32).toNatClampNeg i = f i := by
  rw [show (24 : Int32).toNatClampNeg = 24 from by decide, pk_cpy_in (Nat.zero_le _) (by omega)]; congr 1; omega
theorem become_AG (ρ τ : Gr) : AG (g_X3_become ρ τ) τ := by
  refine ⟨⟨rfl, rfl, rfl, rfl⟩, fun j hj => ?_, fun j h1 h2 => ?_, fun f i hi hf => ?_, fun f i hi hf => ?_, fun f i hi hf => ?_⟩
  · have : j = 0 ∨ j = 1 ∨ j = 2 ∨ j = 3 ∨ j = 4 := by omega
    rcases this with rfl | rfl | rfl | rfl | rfl <;> rfl
  · have : j = 4 ∨ j = 5 ∨ j = 6 ∨ j = 7 ∨ j = 8 := by omega
    rcases this with rfl | rfl | rfl | rfl | rfl <;> rfl
  · have : f = 2 ∨ f = 3 ∨ f = 4 ∨ f = 5 ∨ f = 6 ∨ f = 16 ∨ f = 17 ∨ f = 18 := by omega
    rcases this with rfl | rfl | rfl | rfl | rfl | rfl | rfl | rfl <;> exact cpy8 hi
  · have : f = 7 ∨ f = 8 := by omega
    rcases this with rfl | rfl <;> exact cpy16 hi
  · have : f = 10 ∨ f = 11 ∨ f = 12 ∨ f = 13 ∨ f = 14 := by omega
    rcases this with rfl | rfl | rfl | rfl | rfl <;> exact cpy24 hi
/-- the first tide behind which a cell lacks -/
theorem holds_loop {N : Nat} {x : Int32} {v u : Gr} (hN : N ≤ 200) (H : ∀ k, k < N → (f_X0_someLack (VP x (k + 1) v) = 0 ↔ f_X7_feetLacking (UP (k + 1) u) 0 ≤ 0)) :
    ∀ m k, k ≤ N → N - k < m → (wl (b_X7_holdsFor_9 (nI N)) m k (-9, UP k u)).2.2.1 = (if (wl (b_X3_firstLack_2 (nI N) x) m k (VP x k v)).1 = 30 then -9 else (wl (b_X3_firstLack_2 (nI N) x) m k (VP x k v)).2.1) ∧ ((wl (b_X7_holdsFor_9 (nI N)) m k (-9, UP k u)).2.2.1 = -9 ∨ ∃ c, c < 200 ∧ (wl (b_X7_holdsFor_9 (nI N)) m k (-9, UP k u)).2.2.1 = nI c) := by
  intro m
  induction m with
  | zero => intro k _ h; omega
  | succ m ih =>
    intro k hk hm
    by_cases q : k = N
    · subst q
      have e1 : b_X7_holdsFor_9 (nI k) k (-9, UP k u) = (false, 43, 0, (-9, UP k u)) := by
        unfold b_X7_holdsFor_9
        rw [if_pos (Int32.le_refl _)]
      have e2 : b_X3_firstLack_2 (nI k) x k (VP x k v) = (false, 30, 0, VP x k v) := by
        unfold b_X3_firstLack_2
        rw [if_pos (Int32.le_refl _)]
      rw [wl_out e1, wl_out e2]
      exact ⟨by rw [if_pos rfl], Or.inl rfl⟩
    · have hlt : ¬ nI N ≤ nI k := fun z => by have := (nI_leI (by omega) (by omega)).mp z; omega
      have hH := H k (by omega)
      by_cases l : f_X0_someLack (VP x (k + 1) v) = 0
      · have e1 : b_X7_holdsFor_9 (nI N) k (-9, UP k u) = (true, 0, 0, (-9, UP (k + 1) u)) := by
          unfold b_X7_holdsFor_9
          dsimp only
          rw [if_neg hlt, if_neg (by decide), ← UP_s, if_pos (hH.mp l)]
        have e2 : b_X3_firstLack_2 (nI N) x k (VP x k v) = (true, 0, 0, VP x (k + 1) v) := by
          unfold b_X3_firstLack_2
          dsimp only
          rw [if_neg hlt, ← VP_s, if_pos l]
        rw [wl_go e1, wl_go e2]
        exact ih (k + 1) (by omega) (by omega)
      · have e1 : b_X7_holdsFor_9 (nI N) k (-9, UP k u) = (true, 0, 0, (nI k, UP (k + 1) u)) := by
          unfold b_X7_holdsFor_9
          dsimp only
          rw [if_neg hlt, if_neg (by decide), ← UP_s, if_neg (fun z => l (hH.mpr z))]
        have e2 : b_X3_firstLack_2 (nI N) x k (VP x k v) = (false, 23, nI k, VP x (k + 1) v) := by
          unfold b_X3_firstLack_2
          dsimp only
          rw [if_neg hlt, ← VP_s, if_neg l]
        have e3 : b_X7_holdsFor_9 (nI N) (k + 1) (nI k, UP (k + 1) u) = (false, 43, 0, (nI k, UP (k + 1) u)) := by
          unfold b_X7_holdsFor_9
          dsimp only
          rw [if_pos (show (0 : Int32) ≤ nI k from nI_pos' (by omega)), ite_self]
        obtain ⟨m', rfl⟩ : ∃ m', m = m' + 1 := ⟨m - 1, by omega⟩
        rw [wl_go e1, wl_out e2, wl_out e3]
        exact ⟨by rw [if_neg (show ¬ (23 : Nat) = 30 by decide)], Or.inr ⟨k, by omega, rfl⟩⟩
theorem holds_of {N : Nat} {x : Int32} {v u : Gr} (hN : N ≤ 200) (H : ∀ k, k < N → (f_X0_someLack (VP x (k + 1) v) = 0 ↔ f_X7_feetLacking (UP (k + 1) u) 0 ≤ 0)) : (l_X7_holdsFor_9 (nI N) (-9, u)).2.2.1 = f_X3_firstLack v (nI N) x ∧ (f_X3_firstLack v (nI N) x = -9 ∨ ∃ c, c < 200 ∧ f_X3_firstLack v (nI N) x = nI c) := by
  have k := holds_loop hN H (N + 1) 0 (Nat.zero_le _) (by omega)
  have e1 : l_X7_holdsFor_9 (nI N) (-9, u) = wl (b_X7_holdsFor_9 (nI N)) (N + 1) 0 (-9, UP 0 u) := by unfold l_X7_holdsFor_9; rw [nI_clamp (by omega), nn_eq]; rfl
  have e2 : f_X3_firstLack v (nI N) x = (if (wl (b_X3_firstLack_2 (nI N) x) (N + 1) 0 (VP x 0 v)).1 = 30 then -9 else (wl (b_X3_firstLack_2 (nI N) x) (N + 1) 0 (VP x 0 v)).2.1) := by unfold f_X3_firstLack l_X3_firstLack_2; dsimp only; rw [nI_clamp (by omega), nn_eq]; rfl
  rw [e1, e2, ← k.1]
  exact ⟨rfl, k.2⟩
theorem lackH {n nw nr B M : Nat} {v u : Gr} (S : SIM n nw nr B M v u) (hM : M < 2 ^ 30) : f_X0_someLack v = 0 ↔ f_X7_feetLacking u 0 ≤ 0 := by
  obtain ⟨I, R, T, N, Z, hb⟩ := S
  rw [some_sim (M := M) I, (feet_sim I R T Z hM).2]
theorem m200 {M k : Nat} (hM : M + 1598400 < 2 ^ 30) (hk : k ≤ 200) : M + 7992 * k < 2 ^ 30 := by
  have h200 : 7992 * k ≤ 7992 * 200 := Nat.mul_le_mul_left _ hk
  exact Nat.lt_of_le_of_lt (Nat.add_le_add_left h200 M) (by omega)
theorem holds_sim {n nw nr B M N : Nat} {v u : Gr} (S : SIM n nw nr B M v u) (hcap : u 0 24 = v 19 0) (h1 : 1 ≤ n) (hB : B + 200 < 2 ^ 30) (hM : M + 1598400 < 2 ^ 30) (hN : N ≤ 200) : f_X7_holdsFor u (nI N) = f_X3_firstLack v (nI N) (-1) ∧ (f_X3_firstLack v (nI N) (-1) = -9 ∨ ∃ c, c < 200 ∧ f_X3_firstLack v (nI N) (-1) = nI c) := by
  have S' := S.am (save_AM u)
  have hc' : g_X7_save u 0 24 = v 19 0 := (save_s u 24 (by decide)).trans hcap
  exact holds_of hN (fun k hk => lackH (run_plan S' hc' h1 hB hM (k + 1) (by omega)).1 (m200 hM (by omega)))
theorem alone_sim {n nw nr B M N : Nat} {v u : Gr} (S : SIM n nw nr B M v u) (h24 : u 0 24 = 0) (h1 : 1 ≤ n) (hB : B + 200 < 2 ^ 30) (hM : M + 1598400 < 2 ^ 30) (hN : N ≤ 200) : f_X7_holdsFor u (nI N) = f_X3_firstLack v (nI N) 9 := by
  have S' := S.am (save_AM u)
  have hc' : g_X7_save u 0 24 = 0 := (save_s u 24 (by decide)).trans h24
  exact (holds_of hN (fun k hk => lackH (run_alone S' hc' h1 hB hM (k + 1) (by omega)).1 (m200 hM (by omega)))).1
/-- costs of runs: the reference's C, and the class's under a bound -/
theorem costs {n nw nr B M N : Nat} {v u : Gr} (S : SIM n nw nr B M v u) (hcap : u 0 24 = v 19 0) (h1 : 1 ≤ n) (hB : B + 200 < 2 ^ 30) (hM : M + 1598400 < 2 ^ 30) (hN : N ≤ 200) : ∃ C, C ≤ 35861400 ∧ f_X7_costOf u (nI N) = lN C ∧ ∀ E, E < 2 ^ 63 → ∃ D, f_X3_runCosts v (nI N) (lN E) = lN D ∧ D ≤ C ∧ (D = C ∨ E ≤ D) :=
  cost_sim (S.am (save_AM u)) ((save_s u 24 (by decide)).trans hcap) h1 hB hM hN
