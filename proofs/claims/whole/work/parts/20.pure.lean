/-! sums, tons -/
theorem nIv {x : Int32} (h : ¬ x < 0) : x = nI x.toNatClampNeg := by
  obtain ⟨j, hj, rfl⟩ := nI_of h
  rw [nI_clamp hj]
theorem c31 (x : Int32) : x.toNatClampNeg < 2 ^ 31 := clamp_lt x
def sm (f : Nat → Nat) : Nat → Nat
  | 0 => 0
  | n + 1 => sm f n + f n
theorem sm_le (f : Nat → Nat) {h : Nat} : ∀ n, h < n → f h ≤ sm f n
  | 0, q => absurd q (Nat.not_lt_zero _)
  | n + 1, q => by
    show f h ≤ sm f n + f n
    by_cases e : h = n
    · subst e; omega
    · have := sm_le f (h := h) n (by omega); omega
theorem sm_congr {f g : Nat → Nat} : ∀ n, (∀ k, k < n → f k = g k) → sm f n = sm g n
  | 0, _ => rfl
  | n + 1, q => by
    show sm f n + f n = sm g n + g n
    rw [sm_congr n (fun k hk => q k (by omega)), q n (by omega)]
theorem sm_upd (f : Nat → Nat) (x : Nat) {h : Nat} : ∀ n, h < n → sm (fun k => if k = h then x else f k) n + f h = sm f n + x
  | 0, q => absurd q (Nat.not_lt_zero _)
  | n + 1, q => by
    show sm (fun k => if k = h then x else f k) n + (if n = h then x else f n) + f h = sm f n + f n + x
    by_cases e : h = n
    · subst e
      rw [if_pos rfl, sm_congr (g := f) h (fun k hk => if_neg (by omega))]; omega
    · rw [if_neg (by omega)]
      have := sm_upd f x n (by omega : h < n); omega
def Tn (M : Nat) (L S : Nat → Int32) : Prop := (∀ h, h < 16 → ¬ L h < 0 ∧ ¬ S h < 0) ∧ sm (fun h => (L h).toNatClampNeg + (S h).toNatClampNeg) 16 ≤ M
theorem Tn.le {M : Nat} {L S : Nat → Int32} (t : Tn M L S) {h : Nat} (hh : h < 16) : (L h).toNatClampNeg + (S h).toNatClampNeg ≤ M :=
  Nat.le_trans (sm_le (fun h => (L h).toNatClampNeg + (S h).toNatClampNeg) 16 hh) t.2
theorem Tn.put {M M' : Nat} {L S : Nat → Int32} (t : Tn M L S) {h a b : Nat} (hh : h < 16) (ha : a < 2 ^ 31) (hb : b < 2 ^ 31) (hs : M + (a + b) ≤ M' + ((L h).toNatClampNeg + (S h).toNatClampNeg)) : Tn M' (upd L h (nI a)) (upd S h (nI b)) := by
  refine ⟨fun k hk => ?_, ?_⟩
  · by_cases e : k = h
    · subst e; rw [pk_us, pk_us]; exact ⟨nI_pos ha, nI_pos hb⟩
    · rw [pk_un e, pk_un e]; exact t.1 k hk
  · have e : ∀ k, k < 16 → (fun k => (upd L h (nI a) k).toNatClampNeg + (upd S h (nI b) k).toNatClampNeg) k = (fun k => if k = h then a + b else (L k).toNatClampNeg + (S k).toNatClampNeg) k := by
      intro k _
      by_cases e : k = h
      · subst e; simp only [pk_us, if_pos]; rw [nI_clamp ha, nI_clamp hb]
      · simp only [pk_un e, if_neg e]
    rw [sm_congr 16 e]
    have := sm_upd (fun k => (L k).toNatClampNeg + (S k).toNatClampNeg) (a + b) 16 hh
    have := t.2
    omega
theorem upd_self (f : Nat → Int32) (h : Nat) : upd f h (f h) = f := by
  funext k
  by_cases e : k = h
  · subst e; rw [pk_us]
  · rw [pk_un e]
/-- L alone -/
theorem Tn.putL {M M' : Nat} {L S : Nat → Int32} (t : Tn M L S) {h a : Nat} (hh : h < 16) (ha : a < 2 ^ 31) (hs : M + a ≤ M' + (L h).toNatClampNeg) : Tn M' (upd L h (nI a)) S := by
  have := t.put (M' := M') (b := (S h).toNatClampNeg) hh ha (c31 _) (by omega)
  rw [← nIv (t.1 h hh).2, upd_self] at this
  exact this
theorem Tn.putS {M M' : Nat} {L S : Nat → Int32} (t : Tn M L S) {h b : Nat} (hh : h < 16) (hb : b < 2 ^ 31) (hs : M + b ≤ M' + (S h).toNatClampNeg) : Tn M' L (upd S h (nI b)) := by
  have := t.put (M' := M') (a := (L h).toNatClampNeg) hh (c31 _) hb (by omega)
  rw [← nIv (t.1 h hh).1, upd_self] at this
  exact this
theorem Tn.mono {M M' : Nat} {L S : Nat → Int32} (t : Tn M L S) (h : M ≤ M') : Tn M' L S := ⟨t.1, Nat.le_trans t.2 h⟩
theorem part_n {a p : Nat} (ha : a < 2 ^ 31) (hp : p ≤ 100) : f_X6_partOf (nI a) (nI p) = nI (a * p / 100) := by
  unfold f_X6_partOf
  have h1 : a * p ≤ a * 100 := Nat.mul_le_mul_left a hp
  rw [nI_l ha, nI_l (by omega), lN_mul, show (100 : Int64) = lN 100 from rfl, pk_lDiv (by omega) (by decide) (by decide), lN_i]
theorem part_le {a p : Nat} (hp : p ≤ 100) : a * p / 100 ≤ a := by
  have h1 : a * p ≤ a * 100 := Nat.mul_le_mul_left a hp
  omega
theorem heap_n {c s : Nat} (hc : c < 8) (hs : s < 2) : f_X6_heapOf (nI c) (nI s) = nI (8 * s + c) := by
  unfold f_X6_heapOf
  rw [pk_andN (m := 1) (by omega) 1 (by decide), pk_andN (m := 7) (by omega) 3 (by decide), show (8 : Int32) = nI 8 from rfl, pk_mul, nI_add]
  have h1 : s % 2 ^ 1 = s := Nat.mod_eq_of_lt (by omega)
  have h2 : c % 2 ^ 3 = c := Nat.mod_eq_of_lt (by omega)
  rw [h1, h2, show s * 8 + c = 8 * s + c by omega]
theorem hp_c {c s : Nat} (hc : c < 8) (hs : s < 2) : (f_X6_heapOf (nI c) (nI s)).toNatClampNeg = 8 * s + c := by
  rw [heap_n hc hs, nI_clamp (by omega)]
/-- tons of what is no cell are 0 -/
def ZN (n : Nat) (v : Gr) : Prop := ∀ i s, n ≤ i → i < 8 → s < 2 → v 7 (8 * s + i) = 0 ∧ v 8 (8 * s + i) = 0
/-- the tide's inner state: what it began with, the sum, nothing where no cell is -/
def TZ (n M : Nat) (v : Gr) : Prop := Tn M (v 7) (v 8) ∧ ZN n v
theorem TZ.le {n M : Nat} {v : Gr} (t : TZ n M v) {h : Nat} (hh : h < 16) : (v 7 h).toNatClampNeg + (v 8 h).toNatClampNeg ≤ M := t.1.le hh
theorem TZ.mono {n M M' : Nat} {v : Gr} (t : TZ n M v) (h : M ≤ M') : TZ n M' v := ⟨t.1.mono h, t.2⟩
theorem TZ.set {n M M' : Nat} {v v' : Gr} (t : TZ n M v) {c s a b : Nat} (hc : c < n) (hn : n ≤ 8) (hs : s < 2) (e7 : v' 7 = upd (v 7) (8 * s + c) (nI a)) (e8 : v' 8 = upd (v 8) (8 * s + c) (nI b)) (ha : a < 2 ^ 31) (hb : b < 2 ^ 31) (hm : M + (a + b) ≤ M' + ((v 7 (8 * s + c)).toNatClampNeg + (v 8 (8 * s + c)).toNatClampNeg)) : TZ n M' v' := by
  refine ⟨?_, fun i r hi hi8 hr => ?_⟩
  · rw [e7, e8]; exact t.1.put (by omega) ha hb hm
  · rw [e7, e8, pk_un (by omega), pk_un (by omega)]; exact t.2 i r hi hi8 hr
theorem TZ.setL {n M M' : Nat} {v v' : Gr} (t : TZ n M v) {c s a : Nat} (hc : c < n) (hn : n ≤ 8) (hs : s < 2) (e7 : v' 7 = upd (v 7) (8 * s + c) (nI a)) (e8 : v' 8 = v 8) (ha : a < 2 ^ 31) (hm : M + a ≤ M' + (v 7 (8 * s + c)).toNatClampNeg) : TZ n M' v' := by
  refine ⟨?_, fun i r hi hi8 hr => ?_⟩
  · rw [e7, e8]; exact t.1.putL (by omega) ha hm
  · rw [e7, e8, pk_un (by omega)]; exact t.2 i r hi hi8 hr
theorem TZ.setS {n M M' : Nat} {v v' : Gr} (t : TZ n M v) {c s b : Nat} (hc : c < n) (hn : n ≤ 8) (hs : s < 2) (e7 : v' 7 = v 7) (e8 : v' 8 = upd (v 8) (8 * s + c) (nI b)) (hb : b < 2 ^ 31) (hm : M + b ≤ M' + (v 8 (8 * s + c)).toNatClampNeg) : TZ n M' v' := by
  refine ⟨?_, fun i r hi hi8 hr => ?_⟩
  · rw [e7, e8]; exact t.1.putS (by omega) hb hm
  · rw [e7, e8, pk_un (by omega)]; exact t.2 i r hi hi8 hr
theorem TZ.same {n M : Nat} {v v' : Gr} (t : TZ n M v) (e7 : v' 7 = v 7) (e8 : v' 8 = v 8) : TZ n M v' := by
  unfold TZ ZN at t ⊢
  rw [e7, e8]; exact t
theorem TZ.n7 {n M : Nat} {v : Gr} (t : TZ n M v) {h : Nat} (hh : h < 16) : ∃ a, v 7 h = nI a ∧ a < 2 ^ 31 ∧ (v 7 h).toNatClampNeg = a := ⟨_, nIv (t.1.1 h hh).1, c31 _, rfl⟩
theorem TZ.n8 {n M : Nat} {v : Gr} (t : TZ n M v) {h : Nat} (hh : h < 16) : ∃ a, v 8 h = nI a ∧ a < 2 ^ 31 ∧ (v 8 h).toNatClampNeg = a := ⟨_, nIv (t.1.1 h hh).2, c31 _, rfl⟩
/-- one heap is stirred -/
theorem stir1_TZ {n M : Nat} {v : Gr} (t : TZ n M v) (hM : M < 2 ^ 31) {c s : Nat} (hc : c < n) (hn : n ≤ 8) (hs : s < 2) (hp : rg (v 5 c) 0 100) : TZ n M (b_X0_stir_18 (nI c) s v) := by
  obtain ⟨a, ea, ha, ea'⟩ := t.n7 (h := 8 * s + c) (by omega)
  obtain ⟨b, eb, hb, eb'⟩ := t.n8 (h := 8 * s + c) (by omega)
  obtain ⟨p, _, hp2, ep⟩ := hp
  have hle := t.le (h := 8 * s + c) (by omega)
  have hpl := part_le (a := b) hp2
  unfold b_X0_stir_18
  dsimp only
  rw [hp_c (by omega) hs, nI_clamp (by omega), eb, ep, part_n hb hp2, pk_sub hpl]
  refine t.set (a := a + b * p / 100) (b := b - b * p / 100) hc hn hs ?_ ?_ (by omega) (by omega) (by omega)
  · rw [up_same]
    rw [up_ne (show (7 : Nat) ≠ 8 by decide), ea, nI_add]
  · rw [up_ne (show (8 : Nat) ≠ 7 by decide), up_same]
theorem settle1_TZ {n M : Nat} {v : Gr} (t : TZ n M v) (hM : M < 2 ^ 31) {c s : Nat} (hc : c < n) (hn : n ≤ 8) (hs : s < 2) (hp : rg (v 4 c) 0 100) : TZ n M (b_X0_settle_18 (nI c) s v) := by
  obtain ⟨a, ea, ha, ea'⟩ := t.n7 (h := 8 * s + c) (by omega)
  obtain ⟨b, eb, hb, eb'⟩ := t.n8 (h := 8 * s + c) (by omega)
  obtain ⟨p, _, hp2, ep⟩ := hp
  have hle := t.le (h := 8 * s + c) (by omega)
  have hpl := part_le (a := a) hp2
  unfold b_X0_settle_18
  dsimp only
  rw [hp_c (by omega) hs, nI_clamp (by omega), ea, ep, part_n ha hp2, pk_sub hpl]
  refine t.set (a := a - a * p / 100) (b := b + a * p / 100) hc hn hs ?_ ?_ (by omega) (by omega) (by omega)
  · rw [up_ne (show (7 : Nat) ≠ 8 by decide), up_same]
  · rw [up_same]
    rw [up_ne (show (8 : Nat) ≠ 7 by decide), eb, nI_add]
/-- induction along a loop with its bound -/
theorem itn_I {S : Type} {f : Nat → S → S} {N : Nat} (P : Nat → S → Prop) (h : ∀ k v, k < N → P k v → P (k + 1) (f k v)) : ∀ (n : Nat) (v : S), n ≤ N → P 0 v → P n (itn f n v)
  | 0, _, _, h0 => h0
  | n + 1, v, hn, h0 => h n _ (by omega) (itn_I P h n v (by omega) h0)
theorem stir_TZ {n M : Nat} {v : Gr} (t : TZ n M v) (hM : M < 2 ^ 31) (hn : n ≤ 8) (hv : v 1 0 = nI n) (hp : ∀ i, i < n → rg (v 5 i) 0 100) : TZ n M (g_X0_stir v) := by
  have hb : (v 1 0).toNatClampNeg = n := by rw [hv, nI_clamp (by omega)]
  have k := itn_I (f := b_X0_stir_2) (N := n) (fun _ u => TZ n M u ∧ u 5 = v 5) (fun k u hk ⟨t, e⟩ => by
    have hi := itn_I (f := b_X0_stir_18 (nI k)) (N := 2) (fun _ u => TZ n M u ∧ u 5 = v 5) (fun s u hs ⟨t, e⟩ => ⟨stir1_TZ t hM hk hn hs (by rw [e]; exact hp k hk), e⟩) 2 u (Nat.le_refl _) ⟨t, e⟩
    show TZ n M (itn (b_X0_stir_18 (nI k)) (nn 2) u) ∧ itn (b_X0_stir_18 (nI k)) (nn 2) u 5 = v 5
    rw [nn_eq]; exact hi) n v (Nat.le_refl _) ⟨t, rfl⟩
  show TZ n M (itn b_X0_stir_2 (v 1 0).toNatClampNeg v)
  rw [hb]; exact k.1
theorem settle_TZ {n M : Nat} {v : Gr} (t : TZ n M v) (hM : M < 2 ^ 31) (hn : n ≤ 8) (hv : v 1 0 = nI n) (hp : ∀ i, i < n → rg (v 4 i) 0 100) : TZ n M (g_X0_settle v) := by
  have hb : (v 1 0).toNatClampNeg = n := by rw [hv, nI_clamp (by omega)]
  have k := itn_I (f := b_X0_settle_2) (N := n) (fun _ u => TZ n M u ∧ u 4 = v 4) (fun k u hk ⟨t, e⟩ => by
    have hi := itn_I (f := b_X0_settle_18 (nI k)) (N := 2) (fun _ u => TZ n M u ∧ u 4 = v 4) (fun s u hs ⟨t, e⟩ => ⟨settle1_TZ t hM hk hn hs (by rw [e]; exact hp k hk), e⟩) 2 u (Nat.le_refl _) ⟨t, e⟩
    show TZ n M (itn (b_X0_settle_18 (nI k)) (nn 2) u) ∧ itn (b_X0_settle_18 (nI k)) (nn 2) u 4 = v 4
    rw [nn_eq]; exact hi) n v (Nat.le_refl _) ⟨t, rfl⟩
  show TZ n M (itn b_X0_settle_2 (v 1 0).toNatClampNeg v)
  rw [hb]; exact k.1
