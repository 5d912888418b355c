/-! the second passes, side by side -/
theorem give {n nw nr B M k K e : Nat} {t : Nat → Int32} {τ : St} {u : Gr} (S : SIM n nw nr B M (τ 2) u) (c2 : u 0 34 = -1) (hK : K ≤ 48) (hk : k < K) (rv : RV t e K u) (sv : SSv (hb t e (pos (hb t e) k)) (τ 0) (stm (hb t e) (pos (hb t e) k)).2.2) : GV n nw nr B M τ u (f_X1_giveTo τ) (g_X1_giveTo τ) (f_X7_comes u (nI k)) (g_X7_comes u (nI k)) := by
  obtain ⟨g, _, r48, r0, r1, r2, r3⟩ := rv k hk
  obtain ⟨_, hl, sw, sr, sm⟩ := stm_n g
  obtain ⟨l3, v99, v119, v114, v109⟩ := sv
  generalize (stm (hb t e) (pos (hb t e) k)) = p at *
  generalize hb t e (pos (hb t e) k) = l at *
  rcases hl with rfl | rfl | rfl | rfl
  · obtain ⟨a, b⟩ := v99 rfl
    exact give_c S (by omega) l3 r48 (r0.trans a.symm) (r1.trans b.symm)
  · obtain ⟨a, b, c, d, f⟩ := v119 rfl
    obtain ⟨x, y⟩ := r3 rfl
    obtain ⟨p1, p2⟩ := sw rfl
    exact give_w S (by omega) l3 r48 (r0.trans a.symm) (r1.trans b.symm) ((r2 (Or.inl rfl)).trans c.symm) (x.trans d.symm) (y.trans f.symm) (by rw [c]; exact p1) (by rw [d]; exact p2)
  · obtain ⟨a, b, c⟩ := v114 rfl
    exact give_r S c2 (by omega) l3 r48 (r0.trans a.symm) (r1.trans b.symm) ((r2 (Or.inr rfl)).trans c.symm) (by rw [b]; exact sr rfl)
  · obtain ⟨a, b⟩ := v109 rfl
    obtain ⟨m, hm1, hm2, em⟩ := sm (by decide) (by decide) (by decide)
    exact give_m S (by omega) l3 r48 (r0.trans a.symm) (r1.trans b.symm) (b.trans em) hm1 hm2
theorem rowL {f : Nat → Gr → Gr} {A B : Nat} (hAB : B ≠ A) (hf : ∀ k v, k < 28 → f k v = up v A k (v B k)) (v : Gr) : ∀ N, N ≤ 28 → (∀ t, t < N → itn f N v A t = v B t) ∧ ∀ g, g ≠ A → itn f N v g = v g
  | 0, _ => ⟨fun t h => absurd h (Nat.not_lt_zero t), fun _ _ => rfl⟩
  | N + 1, hN => by
    obtain ⟨h1, h2⟩ := rowL hAB hf v N (by omega)
    have e : itn f (N + 1) v = up (itn f N v) A N (itn f N v B N) := hf N _ (by omega)
    refine ⟨fun t ht => ?_, fun g hg => ?_⟩
    · rw [e, up0]
      by_cases q : t = N
      · rw [if_pos q, q, h2 B hAB]
      · rw [if_neg q]; exact h1 t (by omega)
    · rw [e, up_ne hg]; exact h2 g hg
theorem co100 (y1 y2 y3 y4 : Int32) (v : Gr) : (∀ t, t < 28 → l_X7_coast_100 y1 y2 y3 y4 v 50 t = v 19 t) ∧ ∀ g, g ≠ 50 → l_X7_coast_100 y1 y2 y3 y4 v g = v g := by
  unfold l_X7_coast_100
  rw [nn_eq]
  exact rowL (A := 50) (B := 19) (by decide) (fun k v hk => by unfold b_X7_coast_100; rw [nI_clamp (by omega)]) v 28 (Nat.le_refl _)
theorem co172 (y1 y2 y3 y4 y5 : Int32) (v : Gr) : (∀ t, t < 28 → l_X7_coast_172 y1 y2 y3 y4 y5 v 19 t = v 50 t) ∧ ∀ g, g ≠ 19 → l_X7_coast_172 y1 y2 y3 y4 y5 v g = v g := by
  unfold l_X7_coast_172
  rw [nn_eq]
  exact rowL (A := 19) (B := 50) (by decide) (fun k v hk => by unfold b_X7_coast_172; rw [nI_clamp (by omega)]) v 28 (Nat.le_refl _)
theorem SIM.am3 {n nw nr B M : Nat} {v w u : Gr} (S : SIM n nw nr B M v w) (o : OLD n nw nr w u) (h0 : u 0 0 = w 0 0) (h8 : u 0 8 = w 0 8) (h15 : u 0 15 = w 0 15) (h20 : u 0 20 = w 0 20) (h19 : ∀ i, i < 28 → u 19 i = w 19 i) : SIM n nw nr B M v u := by
  obtain ⟨I, R, T, N, Z, hb⟩ := S
  obtain ⟨o1, o2, o3, o4, o5, o6⟩ := o
  refine ⟨I, ?_, fun i s hi hs => ?_, ?_, Z, hb⟩
  · obtain ⟨⟨x1, x2, x3⟩, r2, r3, r4, ⟨y1, y2, y3, y4⟩, r6, r7⟩ := R
    refine ⟨⟨h0.trans x1, h8.trans x2, h15.trans x3⟩, fun i hi => ?_, fun i hi => ?_, fun i hi => ?_, ⟨(o6 25 (by decide)).trans y1, (o6 26 (by decide)).trans y2, (o6 27 (by decide)).trans y3, (o6 28 (by decide)).trans y4⟩, h20.trans r6, fun t ht hlt => (h19 t ht).trans (r7 t ht hlt)⟩
    · rw [o1 1 i hi (by decide), o1 2 i hi (by decide), o1 3 i hi (by decide), o1 4 i hi (by decide), o1 5 i hi (by decide)]; exact r2 i hi
    · rw [o3 9 i hi (by decide), o3 10 i hi (by decide), o3 11 i hi (by decide), o3 12 i hi (by decide), o3 13 i hi (by decide), o3 14 i hi (by decide)]; exact r3 i hi
    · rw [o4 16 i hi (by decide), o4 17 i hi (by decide), o4 18 i hi (by decide), o6 34 (by decide)]; exact r4 i hi
  · rw [o2 6 _ (by omega) (by decide), o2 7 _ (by omega) (by decide)]; exact T i s hi hs
  · unfold NR; rw [o6 21 (by decide), o6 22 (by decide), o6 23 (by decide)]; exact N
def KU (τ τ' : St) : Prop := (∀ f, f ≠ 0 → f ≠ 2 → τ' f = τ f) ∧ ∀ f, f ≠ 1 → τ' 0 f = τ 0 f
/-- all is put back as it stood -/
def RST (n nw nr : Nat) (w u : Gr) (y1 y2 y3 y4 : Int32) : Prop := OLD n nw nr w u ∧ u 0 0 = y1 ∧ u 0 8 = y2 ∧ u 0 15 = y3 ∧ u 0 20 = y4 ∧ ∀ i, i < 28 → u 19 i = w 50 i
theorem rst {n nw nr : Nat} {w u : Gr} (o : OLD n nw nr w u) (y1 y2 y3 y4 y5 : Int32) : RST n nw nr w (l_X7_coast_172 y1 y2 y3 y4 y5 (up (up (up (up u 0 0 y1) 0 8 y2) 0 15 y3) 0 20 y4)) y1 y2 y3 y4 := by
  obtain ⟨k1, k2⟩ := co172 y1 y2 y3 y4 y5 (up (up (up (up u 0 0 y1) 0 8 y2) 0 15 y3) 0 20 y4)
  have uf : ∀ f, f ≠ 0 → up (up (up (up u 0 0 y1) 0 8 y2) 0 15 y3) 0 20 y4 f = u f := fun f hf => by rw [up_ne hf, up_ne hf, up_ne hf, up_ne hf]
  have us : ∀ j, 20 < j → up (up (up (up u 0 0 y1) 0 8 y2) 0 15 y3) 0 20 y4 0 j = u 0 j := fun j hj => by rw [s0 j (by omega), s0 j (by omega), s0 j (by omega), s0 j (by omega)]
  have v0 : up (up (up (up u 0 0 y1) 0 8 y2) 0 15 y3) 0 20 y4 0 0 = y1 := by rw [s0 0 (by decide), s0 0 (by decide), s0 0 (by decide), s1]
  have v8 : up (up (up (up u 0 0 y1) 0 8 y2) 0 15 y3) 0 20 y4 0 8 = y2 := by rw [s0 8 (by decide), s0 8 (by decide), s1]
  have v15 : up (up (up (up u 0 0 y1) 0 8 y2) 0 15 y3) 0 20 y4 0 15 = y3 := by rw [s0 15 (by decide), s1]
  have v20 : up (up (up (up u 0 0 y1) 0 8 y2) 0 15 y3) 0 20 y4 0 20 = y4 := s1
  generalize up (up (up (up u 0 0 y1) 0 8 y2) 0 15 y3) 0 20 y4 = x at *
  generalize l_X7_coast_172 y1 y2 y3 y4 y5 x = r at *
  obtain ⟨o1, o2, o3, o4, o5, o6⟩ := o
  have c : ∀ f, f ≠ 0 → f ≠ 19 → r f = u f := fun f h0 h19 => (k2 f h19).trans (uf f h0)
  refine ⟨⟨fun f i hi hf => ?_, fun f i hi hf => ?_, fun f i hi hf => ?_, fun f i hi hf => ?_, fun f hf => ?_, fun j hj => ?_⟩, ?_, ?_, ?_, ?_, fun i hi => ?_⟩
  · rw [c f (by omega) (by omega)]; exact o1 f i hi hf
  · rw [c f (by omega) (by omega)]; exact o2 f i hi hf
  · rw [c f (by omega) (by omega)]; exact o3 f i hi hf
  · rw [c f (by omega) (by omega)]; exact o4 f i hi hf
  · rw [c f (by omega) (by omega)]; exact o5 f hf
  · rw [k2 0 (by decide), us j hj]; exact o6 j hj
  · rw [k2 0 (by decide)]; exact v0
  · rw [k2 0 (by decide)]; exact v8
  · rw [k2 0 (by decide)]; exact v15
  · rw [k2 0 (by decide)]; exact v20
  · rw [k1 i hi, uf 50 (by decide), o5 50 (by decide)]
theorem pass2 {n nw nr B M K e : Nat} {t : Nat → Int32} {w1 : Gr} {τ0 : St} {y1 y2 y3 y4 : Int32} (hK : K ≤ 48) (rw1 : RV t e K w1) (h46 : w1 0 46 = nI K) (h34 : w1 0 34 = -1) : ∀ (d k : Nat) (τ : St) (u : Gr), k + d = K → CX t e (τ 0) (pos (hb t e) k) → KU τ0 τ → (∃ n' nw' nr', n ≤ n' ∧ nw ≤ nw' ∧ nr ≤ nr' ∧ SIM n' nw' nr' B M (τ 2) u) → τ 2 19 0 = τ0 2 19 0 → OLD n nw nr w1 u →
    ∃ τ' u', KU τ0 τ' ∧ τ' 0 1 0 = nI e ∧
      ((wl (b_X1_readInto_50 (nI K)) (d + 1) k τ = (89, 0, τ') ∧ wl (b_X7_coast_130 y1 y2 y3 y4) (d + 1) k u = (217, 0, u') ∧ (∃ n' nw' nr', SIM n' nw' nr' B M (τ' 2) u') ∧ τ' 2 19 0 = τ0 2 19 0 ∧ OLD n nw nr w1 u') ∨
       (∃ p, p ≤ 96 ∧ wl (b_X1_readInto_50 (nI K)) (d + 1) k τ = (82, -2000 - nI p, τ') ∧ wl (b_X7_coast_130 y1 y2 y3 y4) (d + 1) k u = (210, -2000 - nI p, u') ∧ RST n nw nr w1 u' y1 y2 y3 y4)) := by
  intro d
  induction d with
  | zero =>
    intro k τ u hk C ku ⟨n', nw', nr', a1, a2, a3, S⟩ c o
    have hk : k = K := by omega
    subst hk
    refine ⟨τ, u, ku, C.2.1, Or.inl ⟨?_, ?_, ⟨n', nw', nr', S⟩, c, o⟩⟩
    · exact wl_out (by unfold b_X1_readInto_50; rw [if_pos (Int32.le_refl _)])
    · exact wl_out (by unfold b_X7_coast_130; rw [o.2.2.2.2.2 46 (by decide), h46, if_pos (Int32.le_refl _)])
  | succ d ih =>
    intro k τ u hk C ku ⟨n', nw', nr', a1, a2, a3, S⟩ c o
    have hl : ¬ nI K ≤ nI k := fun q => by have := (nI_leI (by omega) (by omega)).mp q; omega
    have rvu : RV t e K u := by
      unfold RV; rw [o.2.2.2.2.1 47 (by decide), o.2.2.2.2.1 48 (by decide), o.2.2.2.2.1 49 (by decide)]; exact rw1
    obtain ⟨b1, b2, b3, b4⟩ := cs_stm C
    obtain ⟨f1, sv⟩ := b1 (rvu k (by omega)).1
    have hp : (stm (hb t e) (pos (hb t e) k)).2.1 = pos (hb t e) (k + 1) := rfl
    rw [hp] at b3
    have x0 : setG τ 0 (g_X1_readStatement (τ 0)) 0 = g_X1_readStatement (τ 0) := setG_same
    have xf : ∀ f, f ≠ 0 → setG τ 0 (g_X1_readStatement (τ 0)) f = τ f := fun f hf => setG_ne hf
    have d6 : b_X1_readInto_50 (nI K) k τ = if f_X1_giveTo (setG τ 0 (g_X1_readStatement (τ 0))) = 0 then (false, 82, (-2000) - nI (pos (hb t e) k), g_X1_giveTo (setG τ 0 (g_X1_readStatement (τ 0)))) else (true, 0, 0, g_X1_giveTo (setG τ 0 (g_X1_readStatement (τ 0)))) := by
      unfold b_X1_readInto_50
      rw [if_neg hl]
      dsimp only
      rw [if_neg (ne0 f1), C.2.2.2.2]
    generalize setG τ 0 (g_X1_readStatement (τ 0)) = τ1 at *
    have ku1 : KU τ0 τ1 := ⟨fun f h0 h2 => (xf f h0).trans (ku.1 f h0 h2), fun f hf => by rw [x0, b4 f hf]; exact ku.2 f hf⟩
    rw [← x0] at sv b3
    rw [← xf 2 (by decide)] at S c
    have d7 : b_X7_coast_130 y1 y2 y3 y4 k u = if f_X7_comes u (nI k) = 0 then (false, 210, (-2000) - (l_X7_coast_172 y1 y2 y3 y4 (nI k) (up (up (up (up (g_X7_comes u (nI k)) 0 0 y1) 0 8 y2) 0 15 y3) 0 20 y4)) 47 k, l_X7_coast_172 y1 y2 y3 y4 (nI k) (up (up (up (up (g_X7_comes u (nI k)) 0 0 y1) 0 8 y2) 0 15 y3) 0 20 y4)) else (true, 0, 0, g_X7_comes u (nI k)) := by
      unfold b_X7_coast_130
      rw [o.2.2.2.2.2 46 (by decide), h46, if_neg hl]
      dsimp only
      rw [nI_clamp (by omega)]
    have pb : pos (hb t e) k ≤ 96 := by have := C.2.2.2.1; have := C.2.2.1; omega
    rcases give S ((o.2.2.2.2.2 34 (by decide)).trans h34) hK (by omega) rvu sv with ⟨p1, p2, p3, p4⟩ | ⟨p1, p2, p4, o', m1, m2, m3, q1, q2, q3, S', c'⟩
    · rw [if_pos p1] at d6
      rw [if_pos p2, p3] at d7
      have r := rst o y1 y2 y3 y4 (nI k)
      have e47 : (l_X7_coast_172 y1 y2 y3 y4 (nI k) (up (up (up (up u 0 0 y1) 0 8 y2) 0 15 y3) 0 20 y4)) 47 k = nI (pos (hb t e) k) := by
        rw [r.1.2.2.2.2.1 47 (by decide)]; exact (rw1 k (by omega)).2.1
      rw [e47] at d7
      refine ⟨_, _, ⟨fun f h0 h2 => ?_, fun f hf => ?_⟩, ?_, Or.inr ⟨pos (hb t e) k, pb, wl_out d6, wl_out d7, r⟩⟩
      · rw [p4 f h2]; exact ku1.1 f h0 h2
      · rw [p4 0 (by decide)]; exact ku1.2 f hf
      · rw [p4 0 (by decide)]; exact b3.2.1
    · rw [if_neg p1] at d6
      rw [if_neg p2] at d7
      rw [wl_go d6, wl_go d7]
      refine ih (k + 1) _ _ (by omega) (by rw [p4 0 (by decide)]; exact b3) ⟨fun f h0 h2 => ?_, fun f hf => ?_⟩ ⟨m1, m2, m3, by omega, by omega, by omega, S'⟩ (c'.trans c) (o.trans o' a1 a2 a3)
      · rw [p4 f h2]; exact ku1.1 f h0 h2
      · rw [p4 0 (by decide)]; exact ku1.2 f hf
