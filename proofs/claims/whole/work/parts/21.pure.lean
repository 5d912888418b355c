/-! what holds of a harbour of the class, but for its tons and its tides -/
def CIv (n : Nat) (ρ : Gr) : Prop := ∀ i, i < n → rg (ρ 2 i) 1 99 ∧ rg (ρ 3 i) 0 99 ∧ rg (ρ 4 i) 0 100 ∧ rg (ρ 5 i) 0 100 ∧ rg (ρ 6 i) 0 99
def WIv (n nw : Nat) (ρ : Gr) : Prop := ∀ i, i < nw → (∃ c, c < n ∧ ρ 10 i = nI c) ∧ (ρ 11 i = 8 ∨ ∃ c, c < n ∧ ρ 11 i = nI c) ∧ rg (ρ 12 i) 0 1 ∧ rg (ρ 13 i) 0 1 ∧ rg (ρ 14 i) 1 100
def pw (ρ : Gr) (c k s : Int32) (m : Nat) : Nat := sm (fun i => if ρ 10 i = c ∧ ρ 12 i = k ∧ ρ 13 i = s then (ρ 14 i).toNatClampNeg else 0) m
def PIv (nw : Nat) (ρ : Gr) : Prop := ∀ c k s, pw ρ c k s nw ≤ 100
def VIv (n nr : Nat) (ρ : Gr) : Prop := ∀ i, i < nr → (∃ c, c < n ∧ ρ 16 i = nI c) ∧ rg (ρ 17 i) 0 1 ∧ rg (ρ 18 i) 0 999
def DIv (n : Nat) (ρ : Gr) : Prop := rg (ρ 19 0) 0 999 ∧ (ρ 19 1 = 8 ∨ ∃ c, c < n ∧ ρ 19 1 = nI c) ∧ rg (ρ 19 2) 0 4 ∧ (ρ 19 3 = 0 ∨ ∃ c, c < n ∧ ρ 19 3 = nI c) ∧ rg (ρ 19 4) 0 99
def SBv (nw : Nat) (ρ : Gr) : Prop := ∀ i, nw ≤ i → i < 24 → f_X5_isShut ρ (nI i) = 0
def IC (n nw nr : Nat) (ρ : Gr) : Prop := (n ≤ 8 ∧ nw ≤ 24 ∧ nr ≤ 8) ∧ (ρ 1 0 = nI n ∧ ρ 9 0 = nI nw ∧ ρ 15 0 = nI nr) ∧ CIv n ρ ∧ WIv n nw ρ ∧ PIv nw ρ ∧ VIv n nr ρ ∧ DIv n ρ ∧ rg (ρ 0 4) 1 28 ∧ SBv nw ρ
theorem IC.fr {n nw nr : Nat} {ρ ρ' : Gr} (h : IC n nw nr ρ) (k : Fr ρ ρ') : IC n nw nr ρ' := by
  unfold IC CIv WIv PIv pw VIv DIv SBv f_X5_isShut at h ⊢
  rw [k.c 1 (by decide), k.c 2 (by decide), k.c 3 (by decide), k.c 4 (by decide), k.c 5 (by decide), k.c 6 (by decide), k.c 9 (by decide), k.c 10 (by decide), k.c 11 (by decide), k.c 12 (by decide), k.c 13 (by decide), k.c 14 (by decide), k.c 15 (by decide), k.c 16 (by decide), k.c 17 (by decide), k.c 18 (by decide), k.c 19 (by decide), k.2 4 (by decide)]
  exact h
theorem has8 {n : Nat} {v : Gr} (hn : n ≤ 8) (hv : v 1 0 = nI n) : f_X0_has v 8 = 0 := by
  unfold f_X0_has
  rw [if_neg (by decide), hv, if_pos (show nI n ≤ 8 from (nI_leI (a := n) (b := 8) (by omega) (by decide)).mpr hn)]
theorem hasc {n c : Nat} {v : Gr} (hn : n ≤ 8) (hv : v 1 0 = nI n) (hc : c < n) : f_X0_has v (nI c) = 1 := by
  unfold f_X0_has
  rw [if_neg (nI_pos (by omega)), hv, if_neg (fun q => by have := (nI_leI (by omega) (by omega)).mp q; omega), if_neg (fun q => by have := (nI_leI (a := 8) (by decide) (by omega)).mp q; omega)]
theorem has_iff {n : Nat} {v : Gr} {x : Int32} (hn : n ≤ 8) (hv : v 1 0 = nI n) : (¬ f_X0_has v x = 0) ↔ ∃ c, c < n ∧ x = nI c := by
  constructor
  · intro h
    obtain ⟨c, hc, rfl⟩ := vp_in_of (has_in h) (by decide)
    refine ⟨c, ?_, rfl⟩
    by_cases q : c < n
    · exact q
    · unfold f_X0_has at h
      rw [if_neg (nI_pos (by omega)), hv, if_pos ((nI_leI (by omega) (by omega)).mpr (by omega))] at h
      exact absurd rfl h
  · rintro ⟨c, hc, rfl⟩
    rw [hasc hn hv hc]; decide
theorem rg01 {x : Int32} (h : rg x 0 1) : ∃ s, s < 2 ∧ x = nI s := by
  obtain ⟨s, _, h2, e⟩ := h
  exact ⟨s, by omega, e⟩
/-- LOOSE that is dropped: p tons that were taken elsewhere -/
theorem drop_TZ {n M p s : Nat} {v : Gr} {x : Int32} (t : TZ n (M - p) v) (hp : p ≤ M) (hM : M < 2 ^ 31) (hn : n ≤ 8) (hv : v 1 0 = nI n) (hs : s < 2) (hx : x = 8 ∨ ∃ c, c < n ∧ x = nI c) : TZ n M (g_X3_drop v x (nI s) (nI p)) ∧ ∀ h, h < 16 → (v 7 h).toNatClampNeg ≤ (g_X3_drop v x (nI s) (nI p) 7 h).toNatClampNeg := by
  rcases hx with rfl | ⟨c, hc, rfl⟩
  · unfold g_X3_drop
    rw [if_pos (has8 hn hv)]
    exact ⟨(t.mono (Nat.sub_le _ _)).same rfl rfl, fun h _ => Nat.le_refl _⟩
  · unfold g_X3_drop
    rw [if_neg (by rw [hasc hn hv hc]; decide), hp_c (by omega) hs]
    obtain ⟨a, ea, ha, ea'⟩ := t.n7 (h := 8 * s + c) (by omega)
    have hle := t.le (h := 8 * s + c) (by omega)
    dsimp only
    rw [ea, nI_add]
    refine ⟨t.setL (a := a + p) hc hn hs up_same (up_ne (by decide)) (by omega) (by omega), fun h hh => ?_⟩
    rw [up0]
    by_cases e : h = 8 * s + c
    · rw [if_pos e, e, ea, nI_clamp ha, nI_clamp (by omega)]; omega
    · rw [if_neg e]; exact Nat.le_refl _
theorem pw_s (ρ : Gr) (c k s : Int32) (m : Nat) : pw ρ c k s (m + 1) = pw ρ c k s m + (if ρ 10 m = c ∧ ρ 12 m = k ∧ ρ 13 m = s then (ρ 14 m).toNatClampNeg else 0) := rfl
theorem pw_mono (ρ : Gr) (c k s : Int32) {a : Nat} : ∀ b, a ≤ b → pw ρ c k s a ≤ pw ρ c k s b
  | 0, h => by rw [Nat.le_zero.mp h]; exact Nat.le_refl _
  | b + 1, h => by
    by_cases e : a = b + 1
    · rw [e]; exact Nat.le_refl _
    · have := pw_mono ρ c k s b (show a ≤ b by omega)
      rw [pw_s]; omega
/-- along the ways: what is left where they take from -/
def CP (n M : Nat) (kind : Int32) (v0 : Gr) (k : Nat) (v : Gr) : Prop := TZ n M v ∧ Fr v0 v ∧ v 20 = v0 20 ∧ ∀ c s, c < 8 → s < 2 → (v0 7 (8 * s + c)).toNatClampNeg * 100 ≤ (v 7 (8 * s + c)).toNatClampNeg * 100 + (v0 7 (8 * s + c)).toNatClampNeg * pw v0 (nI c) kind (nI s) k
theorem nIinj {a b : Nat} (ha : a < 2 ^ 31) (hb : b < 2 ^ 31) (h : nI a = nI b) : a = b := (nI_eq ha hb).mp h
theorem drop_20 (v : Gr) (x y z : Int32) : g_X3_drop v x y z 20 = v 20 := by
  unfold g_X3_drop
  split
  · exact up_ne (by decide)
  · exact up_ne (by decide)
/-- one way: what it takes -/
theorem way_take {n nw nr M : Nat} {kind : Int32} {v0 v : Gr} {k : Nat} (I : IC n nw nr v0) (hk : k < nw) (h20 : ∀ h, h < 16 → v0 20 h = v0 7 h) (P : CP n M kind v0 k v) (t0 : TZ n M v0) (hkind : v0 12 k = kind) :
    ∃ c s q a0 a : Nat, c < n ∧ s < 2 ∧ q ≤ 100 ∧ v0 10 k = nI c ∧ v0 13 k = nI s ∧ v0 14 k = nI q ∧ v 20 (8 * s + c) = nI a0 ∧ v 7 (8 * s + c) = nI a ∧ a < 2 ^ 31 ∧ a0 < 2 ^ 31 ∧ a0 * q / 100 ≤ a ∧ (v0 7 (8 * s + c)).toNatClampNeg = a0 ∧ a0 * 100 ≤ (a - a0 * q / 100) * 100 + a0 * pw v0 (nI c) kind (nI s) (k + 1) ∧ pw v0 (nI c) kind (nI s) (k + 1) = pw v0 (nI c) kind (nI s) k + q := by
  obtain ⟨t, fr, e20, inv⟩ := P
  obtain ⟨⟨hn, hw, hr⟩, _, _, W, PI, _⟩ := I
  obtain ⟨⟨c, hc, ec⟩, _, _, hs13, ⟨q, hq1, hq2, eq⟩⟩ := W k hk
  obtain ⟨s, hs, es⟩ := rg01 hs13
  obtain ⟨a0, ea0, ha0, ea0'⟩ := t0.n7 (h := 8 * s + c) (by omega)
  obtain ⟨a, ea, ha, ea'⟩ := t.n7 (h := 8 * s + c) (by omega)
  have hpw : pw v0 (nI c) kind (nI s) (k + 1) = pw v0 (nI c) kind (nI s) k + q := by
    rw [pw_s, if_pos ⟨ec, hkind, es⟩, eq, nI_clamp (by omega)]
  have h100 : pw v0 (nI c) kind (nI s) (k + 1) ≤ 100 := Nat.le_trans (pw_mono _ _ _ _ nw (by omega)) (PI _ _ _)
  have hin := inv c s (by omega) hs
  rw [ea0', ea'] at hin
  have h1 : a0 * pw v0 (nI c) kind (nI s) (k + 1) ≤ a0 * 100 := Nat.mul_le_mul_left a0 h100
  have h2 : a0 * pw v0 (nI c) kind (nI s) (k + 1) = a0 * pw v0 (nI c) kind (nI s) k + a0 * q := by rw [hpw, Nat.mul_add]
  refine ⟨c, s, q, a0, a, hc, hs, hq2, ec, es, eq, ?_, ea, ha, ha0, by omega, ea0', by omega, hpw⟩
  rw [e20, h20 _ (by omega), ea0]
theorem CP.step {n nw nr M : Nat} {kind : Int32} {v0 v : Gr} {k : Nat} (I : IC n nw nr v0) (hM : M < 2 ^ 31) (hk : k < nw) (h20 : ∀ h, h < 16 → v0 20 h = v0 7 h) (t0 : TZ n M v0) (P : CP n M kind v0 k v) : CP n M kind v0 (k + 1) (b_X3_carry_23 kind k v) := by
  have P0 := P
  obtain ⟨t, fr, e20, inv⟩ := P
  have I' := I
  obtain ⟨⟨hn, hw, hr⟩, ⟨e1, _, _⟩, _, W, PI, _⟩ := I
  have stay : CP n M kind v0 (k + 1) v := ⟨t, fr, e20, fun c s hc hs => by
    have h := inv c s hc hs
    have h2 := Nat.mul_le_mul_left (v0 7 (8 * s + c)).toNatClampNeg (pw_mono v0 (nI c) kind (nI s) (a := k) (k + 1) (by omega))
    omega⟩
  have hkc : (nI k).toNatClampNeg = k := nI_clamp (by omega)
  unfold b_X3_carry_23
  dsimp only
  rw [hkc]
  refine ite_Q (P := fun r => CP n M kind v0 (k + 1) r) (fun hkd => ite_Q (P := fun r => CP n M kind v0 (k + 1) r) (fun hsh => ?_) (fun _ => stay)) (fun _ => stay)
  rw [fr.c 12 (by decide)] at hkd
  obtain ⟨c, s, q, a0, a, hc, hs, hq, ec, es, eq, e20', e7, ha, ha0, hle, ea0, hinv, hpw⟩ := way_take I' hk h20 P0 t0 hkd
  have e10 : v 10 k = nI c := by rw [fr.c 10 (by decide)]; exact ec
  have e13 : v 13 k = nI s := by rw [fr.c 13 (by decide)]; exact es
  have e14 : v 14 k = nI q := by rw [fr.c 14 (by decide)]; exact eq
  have e11 : ∀ j x, up v 7 j x 11 k = v0 11 k := fun j x => by rw [up_ne (by decide), fr.c 11 (by decide)]
  rw [e10, e13, e14, hp_c (by omega) hs, e20', part_n ha0 hq, e7, pk_sub hle, e11]
  have haM := t.le (h := 8 * s + c) (by omega)
  rw [e7, nI_clamp ha] at haM
  have t1 : TZ n (M - a0 * q / 100) (up v 7 (8 * s + c) (nI (a - a0 * q / 100))) := t.setL (a := a - a0 * q / 100) hc hn hs up_same (up_ne (by decide)) (by omega) (by rw [e7, nI_clamp ha]; omega)
  have hv1 : up v 7 (8 * s + c) (nI (a - a0 * q / 100)) 1 0 = nI n := by rw [up_ne (by decide), fr.c 1 (by decide)]; exact e1
  obtain ⟨t2, hge⟩ := drop_TZ (x := v0 11 k) t1 (by omega) hM hn hv1 hs ((W k hk).2.1)
  refine ⟨t2, (fr.trans Fr.u7).trans (drop_Fr _ _ _ _), by rw [drop_20, up_ne (by decide)]; exact e20, fun c' s' hc' hs' => ?_⟩
  have hg := hge (8 * s' + c') (by omega)
  rw [up0] at hg
  by_cases e : 8 * s' + c' = 8 * s + c
  · rw [if_pos e, nI_clamp (by omega)] at hg
    have hcc : c' = c := by omega
    have hss : s' = s := by omega
    subst hcc hss
    rw [ea0]
    omega
  · rw [if_neg e] at hg
    have h := inv c' s' hc' hs'
    have h2 := Nat.mul_le_mul_left (v0 7 (8 * s' + c')).toNatClampNeg (pw_mono v0 (nI c') kind (nI s') (a := k) (k + 1) (by omega))
    omega
theorem carry_20 (ρ : Gr) : ∀ h, h < 16 → (setF ρ 20 (va_cpy (ρ 7) (ρ 20) 0 0 (16 : Int32).toNatClampNeg)) 20 h = (setF ρ 20 (va_cpy (ρ 7) (ρ 20) 0 0 (16 : Int32).toNatClampNeg)) 7 h := by
  intro h hh
  rw [setF_same, setF_ne (by decide), show (16 : Int32).toNatClampNeg = 16 from by decide, pk_cpy_in (Nat.zero_le _) (by omega)]
  congr 1
  omega
theorem carry_TZ {n nw nr M : Nat} {ρ : Gr} {kind : Int32} (I : IC n nw nr ρ) (hM : M < 2 ^ 31) (t : TZ n M ρ) : TZ n M (g_X3_carry ρ kind) := by
  have fr : Fr ρ (setF ρ 20 (va_cpy (ρ 7) (ρ 20) 0 0 (16 : Int32).toNatClampNeg)) := Fr.set (by decide)
  have I0 := I.fr fr
  have t0 : TZ n M (setF ρ 20 (va_cpy (ρ 7) (ρ 20) 0 0 (16 : Int32).toNatClampNeg)) := t.same (setF_ne (by decide)) (setF_ne (by decide))
  have h20 := carry_20 ρ
  show TZ n M (itn (b_X3_carry_23 kind) ((setF ρ 20 (va_cpy (ρ 7) (ρ 20) 0 0 (16 : Int32).toNatClampNeg)) 9 0).toNatClampNeg (setF ρ 20 (va_cpy (ρ 7) (ρ 20) 0 0 (16 : Int32).toNatClampNeg)))
  generalize setF ρ 20 (va_cpy (ρ 7) (ρ 20) 0 0 (16 : Int32).toNatClampNeg) = v0 at I0 t0 h20 ⊢
  have hb : (v0 9 0).toNatClampNeg = nw := by rw [I0.2.1.2.1, nI_clamp (by have := I0.1; omega)]
  rw [hb]
  exact (itn_I (N := nw) (CP n M kind v0) (fun k v hk P => P.step I0 hM hk h20 t0) nw v0 (Nat.le_refl _) ⟨t0, Fr.rf, rfl, fun c s _ _ => Nat.le_add_right _ _⟩).1
theorem bring_TZ {n nw nr M : Nat} {ρ : Gr} (I : IC n nw nr ρ) (hM : M + 7992 < 2 ^ 31) (t : TZ n M ρ) : TZ n (M + 7992) (g_X3_bring ρ) := by
  have hb : (ρ 15 0).toNatClampNeg = nr := by rw [I.2.1.2.2, nI_clamp (by have := I.1; omega)]
  have hr8 := I.1.2.2
  have hn := I.1.1
  have k := itn_I (f := b_X3_bring_2) (N := nr) (fun k u => TZ n (M + 999 * k) u ∧ Fr ρ u) (fun k u hk ⟨t, fr⟩ => by
    obtain ⟨⟨c, hc, ec⟩, hs17, ⟨q, _, hq, eq⟩⟩ := I.2.2.2.2.2.1 k hk
    obtain ⟨s, hs, es⟩ := rg01 hs17
    refine ⟨?_, fr.trans Fr.u7⟩
    unfold b_X3_bring_2
    dsimp only
    rw [nI_clamp (by omega), fr.c 16 (by decide), fr.c 17 (by decide), fr.c 18 (by decide), ec, es, eq, hp_c (by omega) hs]
    obtain ⟨a, ea, ha, ea'⟩ := t.n7 (h := 8 * s + c) (by omega)
    have hle := t.le (h := 8 * s + c) (by omega)
    rw [ea, nI_add]
    exact t.setL (a := a + q) hc hn hs up_same (up_ne (by decide)) (by omega) (by omega)) nr ρ (Nat.le_refl _) ⟨t, Fr.rf⟩
  show TZ n (M + 7992) (itn b_X3_bring_2 (ρ 15 0).toNatClampNeg ρ)
  rw [hb]; exact k.1.mono (by omega)
/-- what the dredger took last -/
def LT (cap : Nat) (v : Gr) : Prop := ∃ t u : Nat, t ≤ cap ∧ u ≤ t ∧ v 0 9 = nI t ∧ v 0 10 = nI u
theorem LT.u {cap j : Nat} {v : Gr} {x : Int32} (h : LT cap v) (h9 : 9 ≠ j) (h10 : 10 ≠ j) : LT cap (up v 0 j x) := by
  obtain ⟨t, u, h1, h2, e1, e2⟩ := h
  exact ⟨t, u, h1, h2, by rw [up0, if_neg h9]; exact e1, by rw [up0, if_neg h10]; exact e2⟩
theorem drop_LT {cap : Nat} {v : Gr} (x y z : Int32) (h : LT cap v) : LT cap (g_X3_drop v x y z) := by
  unfold g_X3_drop
  split
  · exact h
  · exact h
theorem dredgeStuff_TZ {n nw nr M cap : Nat} {v : Gr} (I : IC n nw nr v) (hM : M < 2 ^ 31) (t : TZ n M v) {c s : Nat} (hc : c < n) (hs : s < 2) (hcap : v 19 0 = nI cap) (hcap9 : cap ≤ 999) (h : LT cap v) : TZ n M (g_X3_dredgeStuff v (nI c) (nI s)) ∧ LT cap (g_X3_dredgeStuff v (nI c) (nI s)) := by
  obtain ⟨t9, u9, h1, h2, e9, e10⟩ := h
  have hn := I.1.1
  have hv := I.2.1.1
  obtain ⟨b, eb, hb, eb'⟩ := t.n8 (h := 8 * s + c) (by omega)
  have hle := t.le (h := 8 * s + c) (by omega)
  obtain ⟨p, hp1, hp2, ep⟩ : ∃ p : Nat, p ≤ b ∧ t9 + p ≤ cap ∧ (if nI b < nI (cap - t9) then nI b else nI (cap - t9)) = nI p := by
    by_cases q : b < cap - t9
    · exact ⟨b, Nat.le_refl _, by omega, if_pos ((nI_ltI hb (by omega)).mpr q)⟩
    · exact ⟨cap - t9, by omega, by omega, if_neg (fun z => q ((nI_ltI hb (by omega)).mp z))⟩
  have hdrop := I.2.2.2.2.2.2.1.2.1
  unfold g_X3_dredgeStuff
  dsimp only
  rw [hp_c (by omega) hs, eb, hcap, e9, pk_sub h1, ep, pk_sub hp1]
  have t1 : TZ n (M - p) (up (up v 8 (8 * s + c) (nI (b - p))) 0 9 (up v 8 (8 * s + c) (nI (b - p)) 0 9 + nI p)) := t.setS (b := b - p) hc hn hs ((up_ne (by decide)).trans (up_ne (by decide))) ((up_ne (by decide)).trans up_same) (by omega) (by omega)
  have hv1 : ∀ x, (up (up v 8 (8 * s + c) (nI (b - p))) 0 9 x) 1 0 = nI n := fun x => hv
  refine ite_P (P := fun r => TZ n M r ∧ LT cap r) ?_ ?_
  · refine ⟨(drop_TZ (v := up (up (up v 8 (8 * s + c) (nI (b - p))) 0 9 (up v 8 (8 * s + c) (nI (b - p)) 0 9 + nI p)) 0 10 (up (up v 8 (8 * s + c) (nI (b - p))) 0 9 (up v 8 (8 * s + c) (nI (b - p)) 0 9 + nI p) 0 10 + nI p)) (t1.same (up_ne (by decide)) (up_ne (by decide))) (by omega) hM hn hv hs hdrop).1, drop_LT _ _ _ ⟨t9 + p, u9 + p, hp2, by omega, ?_, ?_⟩⟩
    · show v 0 9 + nI p = _; rw [e9, nI_add]
    · show v 0 10 + nI p = _; rw [e10, nI_add]
  · refine ⟨(drop_TZ t1 (by omega) hM hn hv hs hdrop).1, drop_LT _ _ _ ⟨t9 + p, u9, hp2, by omega, ?_, e10⟩⟩
    show v 0 9 + nI p = _; rw [e9, nI_add]
theorem dredge_TZ {n nw nr M cap : Nat} {v : Gr} (I : IC n nw nr v) (hM : M < 2 ^ 31) (t : TZ n M v) (x : Int32) (hcap : v 19 0 = nI cap) (hcap9 : cap ≤ 999) : TZ n M (g_X3_dredge v x) ∧ LT cap (g_X3_dredge v x) := by
  have h0 : Fr v (up (up v 0 9 0) 0 10 0) := (Fr.u0 (j := 9) (by decide)).trans (Fr.u0 (j := 10) (by decide))
  have t0 : TZ n M (up (up v 0 9 0) 0 10 0) := t.same rfl rfl
  have l0 : LT cap (up (up v 0 9 0) 0 10 0) := ⟨0, 0, Nat.zero_le _, Nat.le_refl _, rfl, rfl⟩
  have I0 := I.fr h0
  have hcap0 : up (up v 0 9 0) 0 10 0 19 0 = nI cap := hcap
  unfold g_X3_dredge
  dsimp only
  generalize up (up v 0 9 0) 0 10 0 = v1 at h0 t0 l0 I0 hcap0 ⊢
  refine ite_Q (P := fun r => TZ n M r ∧ LT cap r) (fun _ => ⟨t0, l0⟩) (fun hh => ite_P (P := fun r => TZ n M r ∧ LT cap r) ⟨t0, l0⟩ ?_)
  obtain ⟨c, hc, rfl⟩ := (has_iff I0.1.1 I0.2.1.1).mp hh
  have k1 := dredgeStuff_TZ (s := 1) I0 hM t0 hc (by decide) hcap0 hcap9 l0
  have I1 := I0.fr (dredgeStuff_Fr v1 (nI c) 1)
  have hcap1 : g_X3_dredgeStuff v1 (nI c) 1 19 0 = nI cap := by rw [(dredgeStuff_Fr v1 (nI c) 1).c 19 (by decide)]; exact hcap0
  have k2 := dredgeStuff_TZ (s := 0) I1 hM k1.1 hc (by decide) hcap1 hcap9 k1.2
  exact ⟨k2.1.same (up_ne (by decide)) (up_ne (by decide)), k2.2.u (by decide) (by decide)⟩
theorem goBy_TZ {n nw nr M : Nat} {ρ : Gr} (I : IC n nw nr ρ) (hM : M + 7992 < 2 ^ 31) (t : TZ n M ρ) (x : Int32) : TZ n (M + 7992) (g_X3_goBy ρ x) ∧ LT 999 (g_X3_goBy ρ x) := by
  obtain ⟨cap, _, hcap9, ecap⟩ := I.2.2.2.2.2.2.1.1
  have lt : ∀ v, LT cap v → LT 999 (up v 0 6 (v 0 6 + 1)) := fun v h => LT.u (by obtain ⟨a, b, h1, h2, h3, h4⟩ := h; exact ⟨a, b, by omega, h2, h3, h4⟩) (by decide) (by decide)
  have key : ∀ v, IC n nw nr v → TZ n M v → v 19 0 = nI cap → ∀ k y, TZ n (M + 7992) (up (g_X3_dredge (g_X0_settle (g_X3_bring (g_X3_carry v k))) y) 0 6 (g_X3_dredge (g_X0_settle (g_X3_bring (g_X3_carry v k))) y 0 6 + 1)) ∧ LT 999 (up (g_X3_dredge (g_X0_settle (g_X3_bring (g_X3_carry v k))) y) 0 6 (g_X3_dredge (g_X0_settle (g_X3_bring (g_X3_carry v k))) y 0 6 + 1)) := by
    intro v I t e k y
    have t1 := carry_TZ (kind := k) I (by omega) t
    have I1 := I.fr (carry_Fr v k)
    have t2 := bring_TZ I1 hM t1
    have I2 := I1.fr (bring_Fr _)
    have t3 := settle_TZ t2 hM I2.1.1 I2.2.1.1 (fun i hi => (I2.2.2.1 i hi).2.2.1)
    have I3 := I2.fr (settle_Fr _)
    have e3 : g_X0_settle (g_X3_bring (g_X3_carry v k)) 19 0 = nI cap := by
      rw [(settle_Fr _).c 19 (by decide), (bring_Fr _).c 19 (by decide), (carry_Fr _ _).c 19 (by decide)]; exact e
    have k4 := dredge_TZ I3 hM t3 y e3 hcap9
    exact ⟨k4.1.same (up_ne (by decide)) (up_ne (by decide)), lt _ k4.2⟩
  unfold g_X3_goBy
  dsimp only
  refine ite_P (P := fun r => TZ n (M + 7992) r ∧ LT 999 r) (ite_P (P := fun r => TZ n (M + 7992) r ∧ LT 999 r) ?_ ?_) (ite_P (P := fun r => TZ n (M + 7992) r ∧ LT 999 r) ?_ ?_)
  · exact key _ (I.fr (stir_Fr ρ)) (stir_TZ t (by omega) I.1.1 I.2.1.1 (fun i hi => (I.2.2.1 i hi).2.2.2.1)) (by rw [(stir_Fr ρ).c 19 (by decide)]; exact ecap) _ _
  · exact key _ (I.fr (stir_Fr ρ)) (stir_TZ t (by omega) I.1.1 I.2.1.1 (fun i hi => (I.2.2.1 i hi).2.2.2.1)) (by rw [(stir_Fr ρ).c 19 (by decide)]; exact ecap) _ _
  · exact key ρ I t ecap _ _
  · exact key ρ I t ecap _ _
