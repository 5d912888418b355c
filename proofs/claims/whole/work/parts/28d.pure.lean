/-! a new cell, way, river -/
def AC (v : Gr) (n : Nat) (a b : Int32) : Gr := up (up (up (up (up (up v 1 0 (nI (n + 1))) 2 n a) 3 n b) 4 n 50) 5 n 20) 6 n 1
theorem addc {u : Gr} {n : Nat} (a b : Int32) (hn : n < 8) (hu : u 0 0 = nI n) : (g_X7_addCell u a b 0 0 = nI (n + 1) ∧ ∀ j, j ≠ 0 → g_X7_addCell u a b 0 j = u 0 j) ∧ g_X7_addCell u a b 1 = upd (u 1) n a ∧ g_X7_addCell u a b 2 = upd (u 2) n b ∧ g_X7_addCell u a b 3 = upd (u 3) n 50 ∧ g_X7_addCell u a b 4 = upd (u 4) n 20 ∧ g_X7_addCell u a b 5 = upd (u 5) n 1 ∧ g_X7_addCell u a b 6 = upd (upd (u 6) (2 * n) 0) (2 * n + 1) 0 ∧ g_X7_addCell u a b 7 = upd (upd (u 7) (2 * n) 0) (2 * n + 1) 0 ∧ ∀ f, 7 < f → g_X7_addCell u a b f = u f := by
  have i0 : (u 0 0).toNatClampNeg = n := by rw [hu, nI_clamp (by omega)]
  have j0 : (2 * u 0 0 + 0).toNatClampNeg = 2 * n := by rw [hu]; exact ix2c (s := 0) hn (by decide)
  have j1 : (2 * u 0 0 + 1).toNatClampNeg = 2 * n + 1 := by rw [hu]; exact ix2c (s := 1) hn (by decide)
  have e : g_X7_addCell u a b = up (up (up (up (up (up (up (up (up (up u 1 n a) 2 n b) 3 n 50) 4 n 20) 5 n 1) 6 (2 * n) 0) 7 (2 * n) 0) 6 (2 * n + 1) 0) 7 (2 * n + 1) 0) 0 0 (u 0 0 + 1) := by
    unfold g_X7_addCell
    simp only [up_ne (show (0 : Nat) ≠ 1 by decide), up_ne (show (0 : Nat) ≠ 2 by decide), up_ne (show (0 : Nat) ≠ 3 by decide), up_ne (show (0 : Nat) ≠ 4 by decide), up_ne (show (0 : Nat) ≠ 5 by decide), up_ne (show (0 : Nat) ≠ 6 by decide), up_ne (show (0 : Nat) ≠ 7 by decide), i0, j0, j1]
  rw [e]
  refine ⟨⟨by rw [s1, hu, nI_1], fun j hj => by rw [s0 j hj]; rfl⟩, rfl, rfl, rfl, rfl, rfl, rfl, rfl, fun f hf => ?_⟩
  have n' : ∀ j, j ≤ 7 → f ≠ j := fun j hj => by omega
  rw [up_ne (n' 0 (by decide)), up_ne (n' 7 (by decide)), up_ne (n' 6 (by decide)), up_ne (n' 7 (by decide)), up_ne (n' 6 (by decide)), up_ne (n' 5 (by decide)), up_ne (n' 4 (by decide)), up_ne (n' 3 (by decide)), up_ne (n' 2 (by decide)), up_ne (n' 1 (by decide))]
theorem SIM.cell {n nw nr B M : Nat} {v u : Gr} {a b : Int32} (S : SIM n nw nr B M v u) (hn8 : n < 8) (ha : rg a 1 99) (hb' : rg b 0 99) : SIM (n + 1) nw nr B M (AC v n a b) (g_X7_addCell u a b) := by
  obtain ⟨I, R, T, N, Z, hb⟩ := S
  obtain ⟨⟨hn, hw, hr⟩, ⟨x1, x2, x3⟩, C, W, P, V, D, m, SB⟩ := I
  obtain ⟨⟨q1, q2, q3⟩, c2, c3, c4, c5, c6, c7⟩ := R
  obtain ⟨⟨z0, zs⟩, z1, z2, z3, z4, z5, z6, z7, zf⟩ := addc (u := u) a b hn8 q1
  refine ⟨⟨⟨by omega, hw, hr⟩, ⟨rfl, x2, x3⟩, fun i hi => ?_, fun i hi => ?_, P, fun i hi => ?_, ?_, m, SB⟩, ⟨?_, fun i hi => ?_, ?_, ?_, ?_, ?_, ?_⟩, fun i s hi hs => ?_, ?_, ⟨Z.1, fun i s h1 h2 h3 => Z.2 i s (by omega) h2 h3⟩, hb⟩
  · show rg (upd (v 2) n a i) 1 99 ∧ rg (upd (v 3) n b i) 0 99 ∧ rg (upd (v 4) n 50 i) 0 100 ∧ rg (upd (v 5) n 20 i) 0 100 ∧ rg (upd (v 6) n 1 i) 0 99
    exact ⟨up_rg (fun z => (C i (by omega)).1) ha, up_rg (fun z => (C i (by omega)).2.1) hb', up_rg (fun z => (C i (by omega)).2.2.1) ⟨50, by decide, by decide, rfl⟩, up_rg (fun z => (C i (by omega)).2.2.2.1) ⟨20, by decide, by decide, rfl⟩, up_rg (fun z => (C i (by omega)).2.2.2.2) ⟨1, by decide, by decide, rfl⟩⟩
  · obtain ⟨⟨c, hc, e1⟩, h2, h3⟩ := W i hi
    exact ⟨⟨c, by omega, e1⟩, h2.imp id (fun ⟨d, hd, e⟩ => ⟨d, by omega, e⟩), h3⟩
  · obtain ⟨⟨c, hc, e1⟩, h3⟩ := V i hi
    exact ⟨⟨c, by omega, e1⟩, h3⟩
  · obtain ⟨d1, d2, d3, d4, d5⟩ := D
    exact ⟨d1, d2.imp id (fun ⟨d, hd, e⟩ => ⟨d, by omega, e⟩), d3, d4.imp id (fun ⟨d, hd, e⟩ => ⟨d, by omega, e⟩), d5⟩
  · rw [z0, zs 8 (by decide), zs 15 (by decide)]; exact ⟨rfl, q2, q3⟩
  · rw [z1, z2, z3, z4, z5]
    show upd (u 1) n a i = upd (v 2) n a i ∧ upd (u 2) n b i = upd (v 3) n b i ∧ upd (u 3) n 50 i = upd (v 4) n 50 i ∧ upd (u 4) n 20 i = upd (v 5) n 20 i ∧ upd (u 5) n 1 i = upd (v 6) n 1 i
    by_cases e : i = n
    · subst e; simp only [pk_us, and_self]
    · rw [pk_un e, pk_un e, pk_un e, pk_un e, pk_un e, pk_un e, pk_un e, pk_un e, pk_un e, pk_un e]; exact c2 i (by omega)
  · rw [zf 9 (by decide), zf 10 (by decide), zf 11 (by decide), zf 12 (by decide), zf 13 (by decide), zf 14 (by decide)]; exact c3
  · rw [zf 16 (by decide), zf 17 (by decide), zf 18 (by decide), zs 34 (by decide)]; exact c4
  · rw [zs 25 (by decide), zs 26 (by decide), zs 27 (by decide), zs 28 (by decide)]; exact c5
  · rw [zs 20 (by decide)]; exact c6
  · rw [zf 19 (by decide)]; exact c7
  · rw [z6, z7]
    show _ = v 7 (8 * s + i) ∧ _ = v 8 (8 * s + i)
    by_cases e : i = n
    · subst e
      have hz := Z.2 i s (Nat.le_refl _) hn8 hs
      rw [hz.1, hz.2]
      have : s = 0 ∨ s = 1 := by omega
      rcases this with rfl | rfl
      · rw [pk_un (by omega), Nat.add_zero, pk_us, pk_un (by omega), pk_us]; exact ⟨rfl, rfl⟩
      · rw [pk_us, pk_us]; exact ⟨rfl, rfl⟩
    · rw [pk_un (by omega), pk_un (by omega), pk_un (by omega), pk_un (by omega)]; exact T i s (by omega) hs
  · unfold NR; rw [zs 21 (by decide), zs 22 (by decide), zs 23 (by decide)]; exact N
def AW (v : Gr) (nw : Nat) (a b c d e : Int32) : Gr := up (up (up (up (up (up v 9 0 (nI (nw + 1))) 10 nw a) 11 nw b) 12 nw c) 13 nw d) 14 nw e
theorem addw {u : Gr} {nw : Nat} (a b c d e : Int32) (hn : nw < 24) (hu : u 0 8 = nI nw) : (g_X7_addWay u a b c d e 0 8 = nI (nw + 1) ∧ ∀ j, j ≠ 8 → g_X7_addWay u a b c d e 0 j = u 0 j) ∧ g_X7_addWay u a b c d e 9 = upd (u 9) nw a ∧ g_X7_addWay u a b c d e 10 = upd (u 10) nw b ∧ g_X7_addWay u a b c d e 11 = upd (u 11) nw c ∧ g_X7_addWay u a b c d e 12 = upd (u 12) nw d ∧ g_X7_addWay u a b c d e 13 = upd (u 13) nw e ∧ g_X7_addWay u a b c d e 14 = upd (u 14) nw 0 ∧ ∀ f, f ≠ 0 → f < 9 ∨ 14 < f → g_X7_addWay u a b c d e f = u f := by
  have i0 : (u 0 8).toNatClampNeg = nw := by rw [hu, nI_clamp (by omega)]
  have e' : g_X7_addWay u a b c d e = up (up (up (up (up (up (up u 9 nw a) 10 nw b) 11 nw c) 12 nw d) 13 nw e) 14 nw 0) 0 8 (u 0 8 + 1) := by
    unfold g_X7_addWay
    simp only [up_ne (show (0 : Nat) ≠ 9 by decide), up_ne (show (0 : Nat) ≠ 10 by decide), up_ne (show (0 : Nat) ≠ 11 by decide), up_ne (show (0 : Nat) ≠ 12 by decide), up_ne (show (0 : Nat) ≠ 13 by decide), up_ne (show (0 : Nat) ≠ 14 by decide), i0]
  rw [e']
  refine ⟨⟨by rw [s1, hu, nI_1], fun j hj => by rw [s0 j hj]; rfl⟩, rfl, rfl, rfl, rfl, rfl, rfl, fun f h0 hf => ?_⟩
  have n' : ∀ j, 9 ≤ j → j ≤ 14 → f ≠ j := fun j h1 h2 => by omega
  rw [up_ne h0, up_ne (n' 14 (by decide) (by decide)), up_ne (n' 13 (by decide) (by decide)), up_ne (n' 12 (by decide) (by decide)), up_ne (n' 11 (by decide) (by decide)), up_ne (n' 10 (by decide) (by decide)), up_ne (n' 9 (by decide) (by decide))]
theorem AW_pw {v : Gr} {nw : Nat} {a b c d e : Int32} (x k s : Int32) : pw (AW v nw a b c d e) x k s nw = pw v x k s nw := by
  unfold pw
  refine sm_congr nw (fun i hi => ?_)
  show (if upd (v 10) nw a i = x ∧ upd (v 12) nw c i = k ∧ upd (v 13) nw d i = s then (upd (v 14) nw e i).toNatClampNeg else 0) = _
  rw [pk_un (by omega), pk_un (by omega), pk_un (by omega), pk_un (by omega)]
theorem SIM.way {n nw nr B M : Nat} {v u : Gr} {a b c d : Int32} {e : Nat} (S : SIM n nw nr B M v u) (hw24 : nw < 24) (ha : ∃ x, x < n ∧ a = nI x) (hb' : b = 8 ∨ ∃ x, x < n ∧ b = nI x) (hc : rg c 0 1) (hd : rg d 0 1) (he : 1 ≤ e ∧ e ≤ 100) (hp : pw v a c d nw + e ≤ 100) : SIM n (nw + 1) nr B M (AW v nw a b c d (nI e)) (g_X7_addWay u a b c d (nI e)) := by
  obtain ⟨I, R, T, N, Z, hb⟩ := S
  obtain ⟨⟨hn, hw, hr⟩, ⟨x1, x2, x3⟩, C, W, P, V, D, m, SB⟩ := I
  obtain ⟨⟨q1, q2, q3⟩, c2, c3, c4, c5, c6, c7⟩ := R
  obtain ⟨⟨z0, zs⟩, z9, z10, z11, z12, z13, z14, zf⟩ := addw (u := u) a b c d (nI e) hw24 q2
  refine ⟨⟨⟨hn, by omega, hr⟩, ⟨x1, rfl, x3⟩, C, fun i hi => ?_, fun x k s => ?_, V, D, m, fun i h1 h2 => SB i (by omega) h2⟩, ⟨?_, ?_, fun i hi => ?_, ?_, ?_, ?_, ?_⟩, ?_, ?_, Z, hb⟩
  · show (∃ x, x < n ∧ upd (v 10) nw a i = nI x) ∧ (upd (v 11) nw b i = 8 ∨ ∃ x, x < n ∧ upd (v 11) nw b i = nI x) ∧ rg (upd (v 12) nw c i) 0 1 ∧ rg (upd (v 13) nw d i) 0 1 ∧ rg (upd (v 14) nw (nI e) i) 1 100
    by_cases q : i = nw
    · rw [q, pk_us, pk_us, pk_us, pk_us, pk_us]; exact ⟨ha, hb', hc, hd, e, he.1, he.2, rfl⟩
    · rw [pk_un q, pk_un q, pk_un q, pk_un q, pk_un q]; exact W i (by omega)
  · rw [pw_s, AW_pw]
    show pw v x k s nw + (if upd (v 10) nw a nw = x ∧ upd (v 12) nw c nw = k ∧ upd (v 13) nw d nw = s then (upd (v 14) nw (nI e) nw).toNatClampNeg else 0) ≤ 100
    rw [pk_us, pk_us, pk_us, pk_us, nI_clamp (by omega)]
    by_cases q : a = x ∧ c = k ∧ d = s
    · obtain ⟨rfl, rfl, rfl⟩ := q
      rw [if_pos ⟨rfl, rfl, rfl⟩]; exact hp
    · rw [if_neg q]; exact P x k s
  · rw [z0, zs 0 (by decide), zs 15 (by decide)]; exact ⟨q1, rfl, q3⟩
  · rw [zf 1 (by decide) (by decide), zf 2 (by decide) (by decide), zf 3 (by decide) (by decide), zf 4 (by decide) (by decide), zf 5 (by decide) (by decide)]; exact c2
  · rw [z9, z10, z11, z12, z13, z14]
    show upd (u 9) nw a i = upd (v 10) nw a i ∧ upd (u 10) nw b i = upd (v 11) nw b i ∧ upd (u 11) nw c i = upd (v 12) nw c i ∧ upd (u 12) nw d i = upd (v 13) nw d i ∧ upd (u 13) nw (nI e) i = upd (v 14) nw (nI e) i ∧ upd (u 14) nw 0 i = f_X5_isShut v (nI i)
    by_cases q : i = nw
    · subst q; simp only [pk_us, true_and]; exact (SB i (Nat.le_refl _) hw24).symm
    · rw [pk_un q, pk_un q, pk_un q, pk_un q, pk_un q, pk_un q, pk_un q, pk_un q, pk_un q, pk_un q, pk_un q]; exact c3 i (by omega)
  · rw [zf 16 (by decide) (by decide), zf 17 (by decide) (by decide), zf 18 (by decide) (by decide), zs 34 (by decide)]; exact c4
  · rw [zs 25 (by decide), zs 26 (by decide), zs 27 (by decide), zs 28 (by decide)]; exact c5
  · rw [zs 20 (by decide)]; exact c6
  · rw [zf 19 (by decide) (by decide)]; exact c7
  · unfold TR; rw [zf 6 (by decide) (by decide), zf 7 (by decide) (by decide)]; exact T
  · unfold NR; rw [zs 21 (by decide), zs 22 (by decide), zs 23 (by decide)]; exact N
def AR (v : Gr) (nr : Nat) (a b c : Int32) : Gr := up (up (up (up v 15 0 (nI (nr + 1))) 16 nr a) 17 nr b) 18 nr c
theorem addr {u : Gr} {nr : Nat} (a b c : Int32) (hn : nr < 8) (hu : u 0 15 = nI nr) : (g_X7_addRiver u a b c 0 15 = nI (nr + 1) ∧ ∀ j, j ≠ 15 → g_X7_addRiver u a b c 0 j = u 0 j) ∧ g_X7_addRiver u a b c 16 = upd (u 16) nr a ∧ g_X7_addRiver u a b c 17 = upd (u 17) nr b ∧ g_X7_addRiver u a b c 18 = upd (u 18) nr c ∧ ∀ f, f ≠ 0 → f < 16 ∨ 18 < f → g_X7_addRiver u a b c f = u f := by
  have i0 : (u 0 15).toNatClampNeg = nr := by rw [hu, nI_clamp (by omega)]
  have e' : g_X7_addRiver u a b c = up (up (up (up u 16 nr a) 17 nr b) 18 nr c) 0 15 (u 0 15 + 1) := by
    unfold g_X7_addRiver
    simp only [up_ne (show (0 : Nat) ≠ 16 by decide), up_ne (show (0 : Nat) ≠ 17 by decide), up_ne (show (0 : Nat) ≠ 18 by decide), i0]
  rw [e']
  refine ⟨⟨by rw [s1, hu, nI_1], fun j hj => by rw [s0 j hj]; rfl⟩, rfl, rfl, rfl, fun f h0 hf => ?_⟩
  rw [up_ne h0, up_ne (by omega), up_ne (by omega), up_ne (by omega)]
theorem SIM.river {n nw nr B M : Nat} {v u : Gr} {a b c : Int32} (S : SIM n nw nr B M v u) (h34 : u 0 34 = -1) (hr8 : nr < 8) (ha : ∃ x, x < n ∧ a = nI x) (hb' : rg b 0 1) (hc : rg c 0 999) : SIM n nw (nr + 1) B M (AR v nr a b c) (g_X7_addRiver u a b c) := by
  obtain ⟨I, R, T, N, Z, hb⟩ := S
  obtain ⟨⟨hn, hw, hr⟩, ⟨x1, x2, x3⟩, C, W, P, V, D, m, SB⟩ := I
  obtain ⟨⟨q1, q2, q3⟩, c2, c3, c4, c5, c6, c7⟩ := R
  obtain ⟨⟨z0, zs⟩, z16, z17, z18, zf⟩ := addr (u := u) a b c hr8 q3
  have hm1 : ∀ i, i < 8 → ¬ nI i = (-1 : Int32) := fun i hi q => by
    have h := congrArg Int32.toInt q
    rw [nI_toInt (by omega)] at h
    have z : (-1 : Int32).toInt = -1 := by decide
    omega
  refine ⟨⟨⟨hn, hw, by omega⟩, ⟨x1, x2, rfl⟩, C, W, P, fun i hi => ?_, D, m, SB⟩, ⟨?_, ?_, ?_, fun i hi => ?_, ?_, ?_, ?_⟩, ?_, ?_, Z, hb⟩
  · show (∃ x, x < n ∧ upd (v 16) nr a i = nI x) ∧ rg (upd (v 17) nr b i) 0 1 ∧ rg (upd (v 18) nr c i) 0 999
    by_cases q : i = nr
    · rw [q, pk_us, pk_us, pk_us]; exact ⟨ha, hb', hc⟩
    · rw [pk_un q, pk_un q, pk_un q]; exact V i (by omega)
  · rw [z0, zs 0 (by decide), zs 8 (by decide)]; exact ⟨q1, q2, rfl⟩
  · rw [zf 1 (by decide) (by decide), zf 2 (by decide) (by decide), zf 3 (by decide) (by decide), zf 4 (by decide) (by decide), zf 5 (by decide) (by decide)]; exact c2
  · rw [zf 9 (by decide) (by decide), zf 10 (by decide) (by decide), zf 11 (by decide) (by decide), zf 12 (by decide) (by decide), zf 13 (by decide) (by decide), zf 14 (by decide) (by decide)]; exact c3
  · rw [z16, z17, z18, zs 34 (by decide)]
    show upd (u 16) nr a i = upd (v 16) nr a i ∧ upd (u 17) nr b i = upd (v 17) nr b i ∧ (if nI i = u 0 34 then 0 else upd (u 18) nr c i) = upd (v 18) nr c i
    by_cases q : i = nr
    · subst q
      rw [pk_us, pk_us, pk_us, pk_us, pk_us, pk_us, h34, if_neg (hm1 i (by omega))]; exact ⟨rfl, rfl, rfl⟩
    · rw [pk_un q, pk_un q, pk_un q, pk_un q, pk_un q, pk_un q]; exact c4 i (by omega)
  · rw [zs 25 (by decide), zs 26 (by decide), zs 27 (by decide), zs 28 (by decide)]; exact c5
  · rw [zs 20 (by decide)]; exact c6
  · rw [zf 19 (by decide) (by decide)]; exact c7
  · unfold TR; rw [zf 6 (by decide) (by decide), zf 7 (by decide) (by decide)]; exact T
  · unfold NR; rw [zs 21 (by decide), zs 22 (by decide), zs 23 (by decide)]; exact N
/-! what the class's own methods do, in the reference's words -/
theorem together_n {n nw nr : Nat} {v : Gr} (I : IC n nw nr v) (c k s : Int32) : f_X5_together v c k s = nI (pw v c k s nw) := by
  obtain ⟨⟨hn, hw, hr⟩, ⟨_, x2, _⟩, _, W, _⟩ := I
  have hb : (v 9 0).toNatClampNeg = nw := by rw [x2, nI_clamp (by omega)]
  have h := itn_I (f := b_X5_together_6 v c k s) (N := nw) (fun m x => x = nI (pw v c k s m)) (fun m x hm e => by
    obtain ⟨q, hq1, hq2, eq⟩ := (W m hm).2.2.2.2
    unfold b_X5_together_6
    dsimp only
    rw [nI_clamp (by omega), pw_s, e]
    by_cases h1 : v 10 m = c
    · rw [if_pos h1]
      by_cases h2 : v 12 m = k
      · rw [if_pos h2]
        by_cases h3 : v 13 m = s
        · rw [if_pos h3, if_pos ⟨h1, h2, h3⟩, eq, nI_clamp (by omega), nI_add]
        · rw [if_neg h3, if_neg (fun q => h3 q.2.2), Nat.add_zero]
      · rw [if_neg h2, if_neg (fun q => h2 q.2.1), Nat.add_zero]
    · rw [if_neg h1, if_neg (fun q => h1 q.1), Nat.add_zero]) nw 0 (Nat.le_refl _) rfl
  unfold f_X5_together l_X5_together_6
  rw [hb]; exact h
theorem parts_n {n nw nr : Nat} {v u : Gr} (I : IC n nw nr v) (R : RC n nw nr v u) (c k s : Int32) : f_X7_partsFrom u c k s = nI (pw v c k s nw) := by
  obtain ⟨⟨hn, hw, hr⟩, ⟨_, x2, _⟩, _, W, _⟩ := I
  have hb : (u 0 8).toNatClampNeg = nw := by rw [R.1.2.1, nI_clamp (by omega)]
  have h := itn_I (f := b_X7_partsFrom_6 u c k s) (N := nw) (fun m x => x = nI (pw v c k s m)) (fun m x hm e => by
    obtain ⟨q, hq1, hq2, eq⟩ := (W m hm).2.2.2.2
    obtain ⟨r9, _, r11, r12, r13, _⟩ := R.2.2.1 m hm
    unfold b_X7_partsFrom_6
    dsimp only
    rw [nI_clamp (by omega), pw_s, e, r9, r11, r12, r13]
    by_cases h1 : v 10 m = c
    · rw [if_pos h1]
      by_cases h2 : v 12 m = k
      · rw [if_pos h2]
        by_cases h3 : v 13 m = s
        · rw [if_pos h3, if_pos ⟨h1, h2, h3⟩, eq, nI_clamp (by omega), nI_add]
        · rw [if_neg h3, if_neg (fun q => h3 q.2.2), Nat.add_zero, Int32.add_zero]
      · rw [if_neg h2, if_neg (fun q => h2 q.2.1), Nat.add_zero, Int32.add_zero]
    · rw [if_neg h1, if_neg (fun q => h1 q.1), Nat.add_zero, Int32.add_zero]) nw 0 (Nat.le_refl _) rfl
  unfold f_X7_partsFrom l_X7_partsFrom_6
  rw [hb]; exact h
theorem fullW {n nw nr : Nat} {v u : Gr} (I : IC n nw nr v) (R : RC n nw nr v u) : f_X5_isFull v = (if u 0 8 = 24 then 1 else 0) := by
  have hw := I.1.2.1
  unfold f_X5_isFull
  rw [I.2.1.2.1, R.1.2.1, if_neg (nI_pos (by omega))]
  by_cases q : nw = 24
  · subst q; rfl
  · rw [if_pos (show nI nw < 24 from nI_lt (b := 24) (by omega) (by decide)), if_neg (show ¬ nI nw = 24 from fun z => q (nIinj (b := 24) (by omega) (by decide) z))]
theorem fullV {n nw nr : Nat} {v u : Gr} (I : IC n nw nr v) (R : RC n nw nr v u) : f_X4_isFull v = (if u 0 15 = 8 then 1 else 0) := by
  have hw := I.1.2.2
  unfold f_X4_isFull
  rw [I.2.1.2.2, R.1.2.2, if_neg (nI_pos (by omega))]
  by_cases q : nr = 8
  · subst q; rfl
  · rw [if_pos (show nI nr < 8 from nI_lt (b := 8) (by omega) (by decide)), if_neg (show ¬ nI nr = 8 from fun z => q (nIinj (b := 8) (by omega) (by decide) z))]
