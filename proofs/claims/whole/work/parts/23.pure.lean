theorem kind_eq {n nw nr B : Nat} {v u : Gr} (I : IC n nw nr v) (R : RC n nw nr v u) (N : NR v u) (hB : rg (v 0 6) 0 B) (hB2 : B < 2 ^ 31) : f_X7_kindAt u (u 0 21) = f_X3_kindNow v ∧ (f_X3_kindNow v = 0 ∨ f_X3_kindNow v = 1) := by
  obtain ⟨len, hl1, hl2, el⟩ := I.2.2.2.2.2.2.2.1
  obtain ⟨t, _, ht, et⟩ := hB
  have hr : v 0 6 - v 0 6 / v 0 4 * v 0 4 = nI (t % len) := by rw [et, el]; exact pk_rem (by omega) (by omega) (by omega)
  have hlt := Nat.mod_lt t (show 0 < len by omega)
  have h1 : (1 : Int32) ≤ v 0 4 := by rw [el]; exact nI_le (a := 1) hl1 (by omega)
  have e : f_X3_kindNow v = (v 0 5 >>> (nI (t % len) &&& 31)) &&& 1 := by
    unfold f_X3_kindNow
    rw [if_pos h1, hr]
  constructor
  · rw [e]
    unfold f_X7_kindAt
    rw [N.1, R.2.2.2.2.2.1, hr, nI_clamp (by omega)]
    exact R.2.2.2.2.2.2 (t % len) (by omega) (by rw [el]; exact nI_lt hlt (by omega))
  · obtain ⟨j, hj, ej⟩ := pk_andE (v 0 5 >>> (nI (t % len) &&& 31)) (m := 1) 1 (by decide)
    rw [e, ej]
    have : j = 0 ∨ j = 1 := by omega
    rcases this with rfl | rfl
    · exact Or.inl rfl
    · exact Or.inr rfl
def S35 (n : Nat) (v u : Gr) : Prop := ∀ i s, i < n → s < 2 → u 35 (2 * i + s) = v 20 (8 * s + i)
theorem ix2c {c s : Nat} (hc : c < 8) (hs : s < 2) : (2 * nI c + nI s).toNatClampNeg = 2 * c + s := by
  rw [show (2 : Int32) = nI 2 from rfl, pk_mul, nI_add, nI_clamp (by omega)]
theorem way_sim {n nw nr : Nat} {kind : Int32} {v u : Gr} {k : Nat} (I : IC n nw nr v) (R : RC n nw nr v u) (hk : k < nw) (h : TR n v u) (N : NR v u) (h35 : S35 n v u) : TR n (b_X3_carry_23 kind k v) (b_X7_flow_92 kind k u) ∧ NR (b_X3_carry_23 kind k v) (b_X7_flow_92 kind k u) ∧ S35 n (b_X3_carry_23 kind k v) (b_X7_flow_92 kind k u) := by
  obtain ⟨⟨hn, hw, hr⟩, ⟨e1, _, _⟩, _, W, _⟩ := I
  obtain ⟨⟨c, hc, ec⟩, hto, _, hs13, _⟩ := W k hk
  obtain ⟨s, hs, es⟩ := rg01 hs13
  obtain ⟨r9, r10, r11, r12, r13, r14⟩ := R.2.2.1 k hk
  have hkc : (nI k).toNatClampNeg = k := nI_clamp (by omega)
  unfold b_X3_carry_23 b_X7_flow_92
  dsimp only
  rw [hkc, r11, r14]
  by_cases hkd : v 12 k = kind
  · rw [if_pos hkd, if_pos hkd]
    by_cases hsh : f_X5_isShut v (nI k) = 0
    · rw [if_pos hsh, if_pos hsh, r9, r12, ec, es, hp_c (by omega) hs, ix2c (by omega) hs]
      have ep : ((u 35 (2 * c + s)).toInt64 * (u 13 k).toInt64 / 100).toInt32 = f_X6_partOf (v 20 (8 * s + c)) (v 14 k) := by rw [h35 c s hc hs, r13]; rfl
      rw [ep]
      generalize f_X6_partOf (v 20 (8 * s + c)) (v 14 k) = P
      have e7 := (h c s hc hs).1
      rw [e7]
      have h1 := h.u7 hn hc hs (v 7 (8 * s + c) - P)
      have f11 : up v 7 (8 * s + c) (v 7 (8 * s + c) - P) 11 k = v 11 k := by rw [up_ne (by decide)]
      have f10 : up u 6 (2 * c + s) (v 7 (8 * s + c) - P) 10 k = v 11 k := by rw [up_ne (by decide)]; exact r10
      have f12 : up u 6 (2 * c + s) (v 7 (8 * s + c) - P) 12 k = nI s := by rw [up_ne (by decide), r12]; exact es
      rw [f11, f10, f12]
      have hv1 : up v 7 (8 * s + c) (v 7 (8 * s + c) - P) 1 0 = nI n := by rw [up_ne (by decide)]; exact e1
      have N1 : NR (up v 7 (8 * s + c) (v 7 (8 * s + c) - P)) (up u 6 (2 * c + s) (v 7 (8 * s + c) - P)) := by unfold NR; rw [up_ne (show (0 : Nat) ≠ 7 by decide), up_ne (show (0 : Nat) ≠ 6 by decide)]; exact N
      have S1 : S35 n (up v 7 (8 * s + c) (v 7 (8 * s + c) - P)) (up u 6 (2 * c + s) (v 7 (8 * s + c) - P)) := by unfold S35; rw [up_ne (show (20 : Nat) ≠ 7 by decide), up_ne (show (35 : Nat) ≠ 6 by decide)]; exact h35
      generalize up v 7 (8 * s + c) (v 7 (8 * s + c) - P) = v1 at h1 hv1 N1 S1 ⊢
      generalize up u 6 (2 * c + s) (v 7 (8 * s + c) - P) = u1 at h1 N1 S1 ⊢
      unfold g_X3_drop
      dsimp only
      rcases hto with h8 | ⟨d, hd, ed⟩
      · rw [h8, if_pos (has8 hn hv1), if_pos rfl]
        refine ⟨h1.v0.u0, ?_, ?_⟩
        · unfold NR
          simp only [up0, if_neg (show ¬ (21 : Nat) = 22 by decide), if_neg (show ¬ (23 : Nat) = 22 by decide), if_neg (show ¬ (6 : Nat) = 7 by decide), if_neg (show ¬ (8 : Nat) = 7 by decide), if_pos, N1.1, N1.2.1, N1.2.2, and_self]
        · unfold S35; rw [up_ne (show (20 : Nat) ≠ 0 by decide), up_ne (show (35 : Nat) ≠ 0 by decide)]; exact S1
      · have hne : ¬ nI d = 8 := fun q => by have := nIinj (by omega) (by decide) (show nI d = nI 8 from q); omega
        rw [ed, if_neg (by rw [hasc hn hv1 hd]; decide), if_neg hne, hp_c (by omega) hs, ix2c (by omega) hs, (h1 d s hd hs).1]
        refine ⟨h1.u7 hn hd hs _, ?_, ?_⟩
        · unfold NR; rw [up_ne (show (0 : Nat) ≠ 7 by decide), up_ne (show (0 : Nat) ≠ 6 by decide)]; exact N1
        · unfold S35; rw [up_ne (show (20 : Nat) ≠ 7 by decide), up_ne (show (35 : Nat) ≠ 6 by decide)]; exact S1
    · rw [if_neg hsh, if_neg hsh]; exact ⟨h, N, h35⟩
  · rw [if_neg hkd, if_neg hkd]; exact ⟨h, N, h35⟩
theorem c23_Fr (kind : Int32) (k : Nat) (v : Gr) : Fr v (b_X3_carry_23 kind k v) := by
  unfold b_X3_carry_23
  exact Fr.ite (Fr.ite (Fr.u7.trans (drop_Fr _ _ _ _)) Fr.rf) Fr.rf
theorem f92_Fm (kind : Int32) (k : Nat) (v : Gr) : Fm v (b_X7_flow_92 kind k v) := by
  dsimp only [b_X7_flow_92]
  exact Fm.ite (Fm.ite (Fm.ite (Fm.u6.trans (Fm.u0 22 x22)) (Fm.u6.trans Fm.u6)) Fm.rf) Fm.rf
/-- two loops beside each other -/
theorem itn_2 {S S' : Type} {f : Nat → S → S} {g : Nat → S' → S'} {N : Nat} (P : Nat → S → S' → Prop) (h : ∀ k v u, k < N → P k v u → P (k + 1) (f k v) (g k u)) : ∀ (n : Nat) (v : S) (u : S'), n ≤ N → P 0 v u → P n (itn f n v) (itn g n u)
  | 0, _, _, _, h0 => h0
  | n + 1, v, u, hn, h0 => h n _ _ (by omega) (itn_2 P h n v u (by omega) h0)
theorem ways_sim {n nw nr : Nat} {kind : Int32} {v u : Gr} (I : IC n nw nr v) (R : RC n nw nr v u) (h : TR n v u) (N : NR v u) (h35 : S35 n v u) : TR n (l_X3_carry_23 kind v) (l_X7_flow_92 kind u) ∧ NR (l_X3_carry_23 kind v) (l_X7_flow_92 kind u) := by
  have hb : (v 9 0).toNatClampNeg = nw := by rw [I.2.1.2.1, nI_clamp (by have := I.1; omega)]
  have hb' : (u 0 8).toNatClampNeg = nw := by rw [R.1.2.1, nI_clamp (by have := I.1; omega)]
  unfold l_X3_carry_23 l_X7_flow_92
  rw [hb, hb']
  have k := itn_2 (f := b_X3_carry_23 kind) (g := b_X7_flow_92 kind) (N := nw) (fun _ a b => Fr v a ∧ Fm u b ∧ TR n a b ∧ NR a b ∧ S35 n a b) (fun k a b hk ⟨fr, fm, t, nr', s⟩ => ⟨fr.trans (c23_Fr _ _ _), fm.trans (f92_Fm _ _ _), way_sim (I.fr fr) (R.fr fr fm.tt) hk t nr' s⟩) nw v u (Nat.le_refl _) ⟨Fr.rf, Fm.rf, h, N, h35⟩
  exact ⟨k.2.2.1, k.2.2.2.1⟩
theorem b2_Fr (k : Nat) (v : Gr) : Fr v (b_X3_bring_2 k v) := Fr.u7
theorem f226_Fm (k : Nat) (v : Gr) : Fm v (b_X7_flow_226 k v) := by
  unfold b_X7_flow_226
  exact Fm.ite Fm.u6 Fm.u6
theorem river_sim {n nw nr : Nat} {v u : Gr} {k : Nat} (I : IC n nw nr v) (R : RC n nw nr v u) (hk : k < nr) (h : TR n v u) (N : NR v u) : TR n (b_X3_bring_2 k v) (b_X7_flow_226 k u) ∧ NR (b_X3_bring_2 k v) (b_X7_flow_226 k u) := by
  obtain ⟨⟨hn, hw, hr⟩, ⟨e1, _, _⟩, _, _, _, V, _⟩ := I
  obtain ⟨⟨c, hc, ec⟩, hs17, _⟩ := V k hk
  obtain ⟨s, hs, es⟩ := rg01 hs17
  obtain ⟨r16, r17, r18⟩ := R.2.2.2.1 k hk
  have hkc : (nI k).toNatClampNeg = k := nI_clamp (by omega)
  have e : b_X7_flow_226 k u = up u 6 (2 * c + s) (u 6 (2 * c + s) + v 18 k) := by
    unfold b_X7_flow_226
    rw [← r18, hkc, r16, r17, ec, es, ix2c (by omega) hs]
    by_cases q : nI k = u 0 34
    · rw [if_pos q, if_pos q]
    · rw [if_neg q, if_neg q]
  have e' : b_X3_bring_2 k v = up v 7 (8 * s + c) (v 7 (8 * s + c) + v 18 k) := by
    unfold b_X3_bring_2
    rw [hkc, ec, es, hp_c (by omega) hs]
  rw [e, e', (h c s hc hs).1]
  refine ⟨h.u7 hn hc hs _, ?_⟩
  unfold NR; rw [up_ne (show (0 : Nat) ≠ 7 by decide), up_ne (show (0 : Nat) ≠ 6 by decide)]; exact N
theorem rivers_sim {n nw nr : Nat} {v u : Gr} (I : IC n nw nr v) (R : RC n nw nr v u) (h : TR n v u) (N : NR v u) : TR n (g_X3_bring v) (l_X7_flow_226 u) ∧ NR (g_X3_bring v) (l_X7_flow_226 u) := by
  have hb : (v 15 0).toNatClampNeg = nr := by rw [I.2.1.2.2, nI_clamp (by have := I.1; omega)]
  have hb' : (u 0 15).toNatClampNeg = nr := by rw [R.1.2.2, nI_clamp (by have := I.1; omega)]
  show TR n (itn b_X3_bring_2 (v 15 0).toNatClampNeg v) (itn b_X7_flow_226 (u 0 15).toNatClampNeg u) ∧ NR (itn b_X3_bring_2 (v 15 0).toNatClampNeg v) (itn b_X7_flow_226 (u 0 15).toNatClampNeg u)
  rw [hb, hb']
  have k := itn_2 (f := b_X3_bring_2) (g := b_X7_flow_226) (N := nr) (fun _ a b => Fr v a ∧ Fm u b ∧ TR n a b ∧ NR a b) (fun k a b hk ⟨fr, fm, t, nr'⟩ => ⟨fr.trans (b2_Fr _ _), fm.trans (f226_Fm _ _), river_sim (I.fr fr) (R.fr fr fm.tt) hk t nr'⟩) nr v u (Nat.le_refl _) ⟨Fr.rf, Fm.rf, h, N⟩
  exact ⟨k.2.2.1, k.2.2.2⟩
theorem settle_sim {n nw nr : Nat} {v u : Gr} (I : IC n nw nr v) (R : RC n nw nr v u) (h : TR n v u) (N : NR v u) : TR n (g_X0_settle v) (l_X7_flow_283 u) ∧ NR (g_X0_settle v) (l_X7_flow_283 u) := by
  have hn := I.1.1
  obtain ⟨a1, _, a3⟩ := settle_HH hn I.2.1.1
  obtain ⟨b1, _, _, b4⟩ := flow283_GG hn R.1.1
  refine ⟨fun i s hi hs => ?_, by unfold NR; rw [a3, b4]; exact N⟩
  obtain ⟨p, q⟩ := a1 i s hi hs
  obtain ⟨p', q'⟩ := b1 (2 * i + s) (by omega)
  have hd : (2 * i + s) / 2 = i := by omega
  rw [hd] at p' q'
  rw [p', q', p, q, (h i s hi hs).1, (h i s hi hs).2, (R.2.1 i hi).2.2.1]
  exact ⟨rfl, rfl⟩
theorem stir_sim {n nw nr : Nat} {v u : Gr} {kind : Int32} (I : IC n nw nr v) (R : RC n nw nr v u) (h : TR n v u) (N : NR v u) : TR n (if kind = 0 then g_X0_stir v else v) (l_X7_flow_11 kind u) ∧ NR (if kind = 0 then g_X0_stir v else v) (l_X7_flow_11 kind u) ∧ ∀ j, j < 2 * n → l_X7_flow_11 kind u 35 j = l_X7_flow_11 kind u 6 j := by
  have hn := I.1.1
  obtain ⟨b1, _, _, b4⟩ := flow11_FF (kind := kind) hn R.1.1
  refine ⟨fun i s hi hs => ?_, ?_, fun j hj => by rw [(b1 j hj).2.2, (b1 j hj).2.1]⟩
  · obtain ⟨p', q', _⟩ := b1 (2 * i + s) (by omega)
    have hd : (2 * i + s) / 2 = i := by omega
    rw [hd, (h i s hi hs).2, (R.2.1 i hi).2.2.2.1] at p' q'
    rw [(h i s hi hs).1] at q'
    rw [p', q']
    unfold zz
    by_cases hk : kind = 0
    · obtain ⟨a1, _, _⟩ := stir_HH hn I.2.1.1
      obtain ⟨p, q⟩ := a1 i s hi hs
      rw [if_pos hk, if_pos hk, p, q]; exact ⟨rfl, rfl⟩
    · rw [if_neg hk, if_neg hk]; exact ⟨Int32.add_zero _, Int32.sub_zero _⟩
  · unfold NR
    rw [b4]
    by_cases hk : kind = 0
    · rw [if_pos hk, (stir_HH hn I.2.1.1).2.2]; exact N
    · rw [if_neg hk]; exact N
/-- all of a tide but the dredger -/
noncomputable def FL (v : Gr) : Gr := g_X0_settle (g_X3_bring (g_X3_carry (if f_X3_kindNow v = 0 then g_X0_stir v else v) (f_X3_kindNow v)))
theorem FL_Fr (v : Gr) : Fr v (FL v) := by
  unfold FL
  have h : Fr v (if f_X3_kindNow v = 0 then g_X0_stir v else v) := Fr.ite (stir_Fr v) Fr.rf
  exact ((h.trans (carry_Fr _ _)).trans (bring_Fr _)).trans (settle_Fr _)
theorem flow_sim {n nw nr B : Nat} {v u : Gr} (I : IC n nw nr v) (R : RC n nw nr v u) (h : TR n v u) (N : NR v u) (hB : rg (v 0 6) 0 B) (hB2 : B < 2 ^ 31) : TR n (FL v) (g_X7_flow u) ∧ NR (FL v) (g_X7_flow u) := by
  have hn := I.1.1
  obtain ⟨ek, _⟩ := kind_eq I R N hB hB2
  unfold FL g_X7_flow
  dsimp only
  rw [ek]
  generalize f_X3_kindNow v = kind
  obtain ⟨t1, n1, e35⟩ := stir_sim (kind := kind) I R h N
  have fr1 : Fr v (if kind = 0 then g_X0_stir v else v) := Fr.ite (stir_Fr v) Fr.rf
  have fm1 := flow11_Fm kind u
  have I1 := I.fr fr1
  have R1 := R.fr fr1 fm1.tt
  generalize (if kind = 0 then g_X0_stir v else v) = v1 at t1 n1 fr1 I1 R1 ⊢
  generalize l_X7_flow_11 kind u = u1 at t1 n1 e35 fm1 R1 ⊢
  have fr2 : Fr v1 (setF v1 20 (va_cpy (v1 7) (v1 20) 0 0 (16 : Int32).toNatClampNeg)) := Fr.set (by decide)
  have I2 := I1.fr fr2
  have R2 := R1.fr fr2 Tt.rf
  have t2 : TR n (setF v1 20 (va_cpy (v1 7) (v1 20) 0 0 (16 : Int32).toNatClampNeg)) u1 := t1.same (setF_ne (by decide)) (setF_ne (by decide)) rfl rfl
  have n2 : NR (setF v1 20 (va_cpy (v1 7) (v1 20) 0 0 (16 : Int32).toNatClampNeg)) u1 := by unfold NR; rw [setF_ne (show (0 : Nat) ≠ 20 by decide)]; exact n1
  have s2 : S35 n (setF v1 20 (va_cpy (v1 7) (v1 20) 0 0 (16 : Int32).toNatClampNeg)) u1 := fun i s hi hs => by
    rw [carry_20 v1 _ (by omega), setF_ne (show (7 : Nat) ≠ 20 by decide), e35 _ (by omega)]; exact (t1 i s hi hs).1
  have e3 : g_X3_carry v1 kind = l_X3_carry_23 kind (setF v1 20 (va_cpy (v1 7) (v1 20) 0 0 (16 : Int32).toNatClampNeg)) := rfl
  rw [e3]
  have fr3 : Fr v1 (l_X3_carry_23 kind (setF v1 20 (va_cpy (v1 7) (v1 20) 0 0 (16 : Int32).toNatClampNeg))) := carry_Fr v1 kind
  obtain ⟨t3, n3⟩ := ways_sim (kind := kind) I2 R2 t2 n2 s2
  have fm3 := flow92_Fm kind u1
  have I3 := I1.fr fr3
  have R3 := R1.fr fr3 fm3.tt
  generalize l_X3_carry_23 kind (setF v1 20 (va_cpy (v1 7) (v1 20) 0 0 (16 : Int32).toNatClampNeg)) = v3 at t3 n3 fr3 I3 R3 ⊢
  generalize l_X7_flow_92 kind u1 = u3 at t3 n3 fm3 R3 ⊢
  obtain ⟨t4, n4⟩ := rivers_sim I3 R3 t3 n3
  have fr4 := bring_Fr v3
  have fm4 := flow226_Fm u3
  exact settle_sim (I3.fr fr4) (R3.fr fr4 fm4.tt) t4 n4
