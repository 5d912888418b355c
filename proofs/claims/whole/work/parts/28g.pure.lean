/-- another harbour now, and the reference with it -/
theorem OK.now {α : Type} {j : Nat} {σ : St} {a b : α} {ρ g7 : Gr} (h : IV j σ) (e : a = b) (S : SIMc (j + 1) ρ g7) (k : WK (σ 4) g7) : OK j σ a (setG σ 1 ρ) b g7 := by
  refine OK.of (setG_ne (by decide)) e ?_
  rw [setG_ne (show (0 : Nat) ≠ 1 by decide), setG_same, setG_ne (show (3 : Nat) ≠ 1 by decide)]
  exact IVc.sim h (Nat.le_succ j) S k
theorem SIM.up1 {n nw nr j : Nat} {v u : Gr} (S : SIM n nw nr (200 * j) (1598400 * j) v u) : SIM n nw nr (200 * (j + 1)) (1598400 * (j + 1)) v u := S.mono (Nat.mul_le_mul_left 200 (Nat.le_succ j)) (Nat.mul_le_mul_left 1598400 (Nat.le_succ j))
/-- the moon's row -/
theorem moonL {f : Nat → Gr → Gr} {bits : Int32} (hf : ∀ k v, k < 28 → f k v = up v 19 k ((bits >>> (nI k &&& 31)) &&& 1)) (v : Gr) : ∀ N, N ≤ 28 → (∀ t, t < N → itn f N v 19 t = (bits >>> (nI t &&& 31)) &&& 1) ∧ ∀ g, g ≠ 19 → itn f N v g = v g
  | 0, _ => ⟨fun t h => absurd h (Nat.not_lt_zero t), fun _ _ => rfl⟩
  | N + 1, hN => by
    obtain ⟨h1, h2⟩ := moonL hf v N (by omega)
    have e : itn f (N + 1) v = up (itn f N v) 19 N ((bits >>> (nI N &&& 31)) &&& 1) := hf N _ (by omega)
    refine ⟨fun t ht => ?_, fun g hg => ?_⟩
    · rw [e, up0]
      by_cases q : t = N
      · rw [if_pos q, q]
      · rw [if_neg q]; exact h1 t (by omega)
    · rw [e, up_ne hg]; exact h2 g hg
theorem ok_moon {j : Nat} {σ : St} (h : IV j σ) (a b : Int32) : OK j σ (f_X6_moon σ a b) (g_X6_moon σ a b) (f_X7_moon (σ 4) a b) (g_X7_moon (σ 4) a b) := by
  obtain ⟨n, nw, nr, S, c1, c2⟩ := h.1
  have R := S.2.1
  unfold f_X6_moon g_X6_moon f_X7_moon g_X7_moon
  dsimp only
  by_cases h1 : 1 ≤ a
  · simp only [if_pos h1]
    by_cases h2 : a ≤ 28
    · simp only [if_pos h2]
      obtain ⟨m, hm1, hm2, rfl⟩ := rg_of (a := 1) rfl (hi := 28) (b := 28) rfl (by decide) (by decide) h1 (Int32.not_lt.mpr h2)
      obtain ⟨k1, k2⟩ := moonL (f := b_X7_moon_38 (nI m) b (σ 4 0 20)) (bits := b) (fun k v hk => by unfold b_X7_moon_38; rw [nI_clamp (by omega)]) (up (σ 4) 0 20 (nI m)) m hm2
      have e : l_X7_moon_38 (nI m) b (σ 4 0 20) (up (σ 4) 0 20 (nI m)) = itn (b_X7_moon_38 (nI m) b (σ 4 0 20)) m (up (σ 4) 0 20 (nI m)) := by unfold l_X7_moon_38; rw [nI_clamp (by omega)]
      rw [e]
      refine OK.now h R.2.2.2.2.2.1.symm ⟨n, nw, nr, S.up1.moon (len := nI m) (bits := b) rfl ⟨m, hm1, hm2, rfl⟩ (fun f h0 h19 => (k2 f h19).trans (up_ne h0)) (fun j hj => by rw [k2 0 (by decide), s0 j hj]) (by rw [k2 0 (by decide), s1]) (fun t ht hlt => k1 t ((nI_ltI (by omega) (by omega)).mp hlt)), ?_, ?_⟩ (WK.of (fun f hf => (k2 f (by omega)).trans (up_ne (by omega))) (fun j hj => by rw [k2 0 (by decide), s0 j (by omega)]))
      · rw [k2 0 (by decide), s0 24 (by decide)]; exact c1
      · rw [k2 0 (by decide), s0 34 (by decide)]; exact c2
    · simp only [if_neg h2]; exact OK.ref h r6
  · simp only [if_neg h1]; exact OK.ref h r4
theorem ok_tons {j : Nat} {σ : St} (h : IV j σ) (a b x : Int32) : OK j σ (f_X6_tons σ a b x) (g_X6_tons σ a b x) (f_X7_tons (σ 4) a b x) (g_X7_tons (σ 4) a b x) := by
  obtain ⟨n, nw, nr, S, c1, c2⟩ := h.1
  have I := S.1
  have R := S.2.1
  have T := S.2.2.1
  have hn := I.1.1
  unfold f_X6_tons g_X6_tons f_X7_tons g_X7_tons
  dsimp only
  rw [cell_eq hn I.2.1.1 R.1.1, stuff_eq]
  by_cases h1 : f_X0_has (σ 1) a = 0
  · simp only [if_pos h1]; exact OK.ref h r1
  · simp only [if_neg h1]
    by_cases h2 : f_X6_isStuff b = 0
    · simp only [if_pos h2]; exact OK.ref h r1
    · simp only [if_neg h2]
      obtain ⟨c, hc, rfl⟩ := (has_iff hn I.2.1.1).mp h1
      obtain ⟨s, hs, rfl⟩ := stuff_iff.mp h2
      refine OK.stay h ?_
      rw [hp_c (by omega) hs, ix2c (by omega) hs]
      unfold f_X0_heapsOf
      by_cases q : x = 0
      · rw [if_pos q, if_pos q]; exact (T c s hc hs).2.symm
      · rw [if_neg q, if_neg q]; exact (T c s hc hs).1.symm
theorem ok_depth {j : Nat} {σ : St} (h : IV j σ) (a : Int32) : OK j σ (f_X6_depth σ a) (g_X6_depth σ a) (f_X7_depth (σ 4) a) (g_X7_depth (σ 4) a) := by
  obtain ⟨n, nw, nr, S, c1, c2⟩ := h.1
  have I := S.1
  have R := S.2.1
  have T := S.2.2.1
  have hn := I.1.1
  unfold f_X6_depth g_X6_depth f_X7_depth g_X7_depth
  dsimp only
  rw [cell_eq hn I.2.1.1 R.1.1]
  by_cases h1 : f_X0_has (σ 1) a = 0
  · simp only [if_pos h1]; exact OK.ref h r1
  · simp only [if_neg h1]
    obtain ⟨c, hc, rfl⟩ := (has_iff hn I.2.1.1).mp h1
    exact OK.stay h (depth_eq I R T hc).symm
theorem ok_lacks {j : Nat} {σ : St} (h : IV j σ) (a : Int32) : OK j σ (f_X6_lacks σ a) (g_X6_lacks σ a) (f_X7_lacks (σ 4) a) (g_X7_lacks (σ 4) a) := by
  obtain ⟨n, nw, nr, S, c1, c2⟩ := h.1
  have I := S.1
  have R := S.2.1
  have T := S.2.2.1
  have hn := I.1.1
  unfold f_X6_lacks g_X6_lacks f_X7_lacks g_X7_lacks
  dsimp only
  rw [cell_eq hn I.2.1.1 R.1.1]
  by_cases h1 : f_X0_has (σ 1) a = 0
  · simp only [if_pos h1]; exact (OK.ref h r1).map (fun z => -1000000000 + z)
  · simp only [if_neg h1]
    obtain ⟨c, hc, rfl⟩ := (has_iff hn I.2.1.1).mp h1
    exact OK.stay h (lack_eq I R T hc).symm
theorem j30 {j : Nat} (hj : j < 512) : 200 * j + 200 < 2 ^ 30 ∧ 1598400 * j + 1598400 < 2 ^ 30 ∧ 1598400 * j + 1608399 < 2 ^ 30 := by
  have h1 : 200 * j ≤ 200 * 511 := Nat.mul_le_mul_left _ (by omega)
  have h2 : 1598400 * j ≤ 1598400 * 511 := Nat.mul_le_mul_left _ (by omega)
  generalize 200 * j = a at h1 ⊢
  generalize 1598400 * j = b at h2 ⊢
  omega
theorem n1 {n : Nat} {x : Int32} (hx : x = nI n) (h : ¬ x = 0) : 1 ≤ n := by
  cases n with
  | zero => exact absurd (by rw [hx]; rfl) h
  | succ n => omega
theorem ok_takes {j : Nat} {σ : St} (h : IV j σ) (hj : j < 512) : OK j σ (f_X6_takes σ) (g_X6_takes σ) (f_X7_takes (σ 4)) (g_X7_takes (σ 4)) := by
  obtain ⟨n, nw, nr, S, c1, c2⟩ := h.1
  have I := S.1
  have R := S.2.1
  have T := S.2.2.1
  obtain ⟨j1, j2, j3⟩ := j30 hj
  unfold f_X6_takes g_X6_takes f_X7_takes g_X7_takes
  dsimp only
  rw [I.2.1.1, R.1.1]
  by_cases h1 : nI n = 0
  · simp only [if_pos h1]; exact OK.ref h r3
  · simp only [if_neg h1]
    obtain ⟨ek, hk⟩ := kind_eq I R S.2.2.2.1 S.2.2.2.2.2 (by omega)
    rw [ek]
    exact OK.stay h (plan_sim I R T S.2.2.2.2.1 (by omega) (n1 rfl h1) hk).1.symm
theorem ok_row {j : Nat} {σ : St} (h : IV j σ) (a : Int32) : OK j σ (f_X6_row σ a) (g_X6_row σ a) (f_X7_row (σ 4) a) (g_X7_row (σ 4) a) := by
  obtain ⟨S, t, ⟨r, hr, er, er', hrow⟩, f, i⟩ := id h
  unfold f_X6_row g_X6_row f_X7_row g_X7_row
  dsimp only
  by_cases h1 : 0 ≤ a
  · simp only [if_pos h1]
    by_cases h2 : 9 < a
    · simp only [if_pos h2]; exact OK.ref h r6
    · simp only [if_neg h2]
      rw [er, er']
      by_cases q : r = 28
      · subst q
        simp only [if_neg (show ¬ nI 28 < 28 by decide), if_pos (show nI 28 = 28 from rfl)]; exact OK.ref h r6
      · simp only [if_pos (show nI r < 28 from nI_lt (b := 28) (by omega) (by decide)), if_neg (show ¬ nI r = 28 from fun z => q (nIinj (b := 28) (by omega) (by decide) z))]
        rw [nI_clamp (by omega)]
        obtain ⟨m, _, hm, rfl⟩ := rg_of (a := 0) rfl (hi := 9) (b := 9) rfl (by decide) (by decide) h1 h2
        have e6 : up (σ 0) 3 r (nI m) 0 6 = nI r := by rw [up_ne (by decide)]; exact er
        have e6' : up (σ 4) 31 r (nI m) 0 32 = nI r := by rw [up_ne (by decide)]; exact er'
        simp only [setG_same, setG_setG, e6, e6', nI_1, s1]
        refine OK.of (setG_ne (by decide)) rfl ?_
        rw [setG_same, setG_ne (show (1 : Nat) ≠ 0 by decide), setG_ne (show (3 : Nat) ≠ 0 by decide)]
        refine ⟨?_, ?_, ⟨r + 1, by omega, s1, s1, fun k hk => ?_⟩, ?_, ?_⟩
        · obtain ⟨n, nw, nr, S, c1, c2⟩ := S.mono (Nat.le_succ j)
          refine ⟨n, nw, nr, S.am ⟨fun j hj => ?_, ?_, fun f i _ hf => ?_, fun f i _ hf => ?_, fun f i _ hf => ?_, fun i _ => rfl⟩, c1, c2⟩
          · rw [s0 j (by omega), up_ne (by decide)]
          · rw [s0 34 (by decide), up_ne (by decide)]
          · rw [up_ne (by omega), up_ne (by omega)]
          · rw [up_ne (by omega), up_ne (by omega)]
          · rw [up_ne (by omega), up_ne (by omega)]
        · exact t
        · show upd (σ 4 31) r (nI m) k = upd (σ 0 3) r (nI m) k ∧ rg (upd (σ 0 3) r (nI m) k) 0 9
          by_cases e : k = r
          · rw [e, pk_us, pk_us]; exact ⟨rfl, m, by omega, hm, rfl⟩
          · rw [pk_un e, pk_un e]; exact hrow k (by omega)
        · exact f
        · exact i.mono (Nat.le_succ j)
  · simp only [if_neg h1]; exact OK.ref h r4
theorem ok_shut {j : Nat} {σ : St} (h : IV j σ) (a x : Int32) (hb : isB x) : OK j σ (f_X6_shut σ a x) (g_X6_shut σ a x) (f_X7_shut (σ 4) a x) (g_X7_shut (σ 4) a x) := by
  obtain ⟨n, nw, nr, S, c1, c2⟩ := h.1
  have I := S.1
  have R := S.2.1
  have hw := I.1.2.1
  unfold f_X6_shut g_X6_shut f_X7_shut g_X7_shut
  dsimp only
  rw [way_eq hw I.2.1.2.1 R.1.2.1]
  by_cases h1 : f_X5_has (σ 1) a = 0
  · simp only [if_pos h1]; exact OK.ref h r1
  · simp only [if_neg h1]
    obtain ⟨i, hi, rfl⟩ := (hasW_iff hw I.2.1.2.1).mp h1
    have e14 := (R.2.2.1 i hi).2.2.2.2.2
    rw [nI_clamp (by omega), e14]
    by_cases q : f_X5_isShut (σ 1) (nI i) = x
    · simp only [if_pos q]
      rw [← q, ← e14, up_self]
      exact OK.stay h rfl
    · simp only [if_neg q]
      have hx : x = if f_X5_isShut (σ 1) (nI i) = 0 then 1 else 0 := by
        rcases shut01 (σ 1) (nI i) with e | e
        · rw [if_pos e]
          rw [e] at q
          rcases hb with z | z
          · exact absurd z.symm q
          · exact z
        · rw [if_neg (by rw [e]; decide)]
          rw [e] at q
          rcases hb with z | z
          · exact z
          · exact absurd z.symm q
      rw [hx]
      refine OK.now h rfl ⟨n, nw, nr, S.up1.turn hi, ?_, ?_⟩ (WK.of (fun f hf => up_ne (by omega)) (fun j hj => congrFun (up_ne (by decide)) j))
      · rw [up_ne (by decide)]; exact c1
      · rw [up_ne (by decide)]; exact c2
