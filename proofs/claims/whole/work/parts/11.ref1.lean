/-- what a tide (and what saves it) leaves of the reference: all cells but the tons and their copies, of its own numbers all but these -/
def ex0 (j : Nat) : Prop := j = 22 ∨ j = 23 ∨ j = 36 ∨ j = 37
theorem ex0_n {j : Nat} (h : j ≠ 22 ∧ j ≠ 23 ∧ j ≠ 36 ∧ j ≠ 37) : ¬ ex0 j := by unfold ex0; omega
theorem x22 : ex0 22 := by unfold ex0; omega
theorem x23 : ex0 23 := by unfold ex0; omega
theorem x36 : ex0 36 := by unfold ex0; omega
theorem x37 : ex0 37 := by unfold ex0; omega
def Fm (w w' : Gr) : Prop := (∀ f, f ≠ 0 → f ≠ 6 → f ≠ 7 → f ≠ 35 → w' f = w f) ∧ ∀ j, ¬ ex0 j → w' 0 j = w 0 j
theorem Fm.rf {w : Gr} : Fm w w := ⟨fun _ _ _ _ _ => rfl, fun _ _ => rfl⟩
theorem Fm.trans {a b c : Gr} (h : Fm a b) (h' : Fm b c) : Fm a c := ⟨fun f h1 h2 h3 h4 => (h'.1 f h1 h2 h3 h4).trans (h.1 f h1 h2 h3 h4), fun j hj => (h'.2 j hj).trans (h.2 j hj)⟩
theorem Fm.c {w w' : Gr} (h : Fm w w') (f : Nat) (hf : f ≠ 0 ∧ f ≠ 6 ∧ f ≠ 7 ∧ f ≠ 35) : w' f = w f := h.1 f hf.1 hf.2.1 hf.2.2.1 hf.2.2.2
theorem Fm.s {w w' : Gr} (h : Fm w w') (j : Nat) (hj : j ≠ 22 ∧ j ≠ 23 ∧ j ≠ 36 ∧ j ≠ 37) : w' 0 j = w 0 j := h.2 j (ex0_n hj)
theorem Fm.u {w : Gr} {f j : Nat} {x : Int32} (hf : f = 6 ∨ f = 7 ∨ f = 35) : Fm w (up w f j x) := ⟨fun f' h0 h6 h7 h35 => up_ne (by omega), fun i _ => congrFun (up_ne (by omega)) i⟩
theorem Fm.u6 {w : Gr} {j : Nat} {x : Int32} : Fm w (up w 6 j x) := Fm.u (by decide)
theorem Fm.u7 {w : Gr} {j : Nat} {x : Int32} : Fm w (up w 7 j x) := Fm.u (by decide)
theorem Fm.u35 {w : Gr} {j : Nat} {x : Int32} : Fm w (up w 35 j x) := Fm.u (by decide)
theorem Fm.u0 {w : Gr} (j : Nat) {x : Int32} (hj : ex0 j) : Fm w (up w 0 j x) := ⟨fun f' h0 _ _ _ => up_ne h0, fun i hi => by rw [up_same]; exact pk_un (fun e => hi (e ▸ hj))⟩
theorem Fm.ite {p : Prop} [Decidable p] {a b c : Gr} (h1 : Fm a b) (h2 : Fm a c) : Fm a (if p then b else c) := by
  by_cases h : p
  · rw [if_pos h]; exact h1
  · rw [if_neg h]; exact h2
theorem itn_Fm {f : Nat → Gr → Gr} (h : ∀ k v, Fm v (f k v)) : ∀ (n : Nat) (v : Gr), Fm v (itn f n v)
  | 0, _ => Fm.rf
  | n + 1, v => (itn_Fm h n v).trans (h n _)
/-- the reference's state as its places need it; B bounds the tides that went by -/
def WFm (B : Nat) (w : Gr) : Prop := rg (w 0 0) 0 8 ∧ rg (w 0 8) 0 24 ∧ rg (w 0 15) 0 8 ∧ rg (w 0 20) 1 28 ∧ rg (w 0 21) 0 B ∧ rg (w 0 25) 0 8 ∧ rg (w 0 27) 0 7 ∧ (∀ i, i < (w 0 8).toNatClampNeg → rg (w 9 i) 0 7 ∧ rg (w 10 i) 0 8 ∧ rg (w 12 i) 0 1) ∧ (∀ i, i < (w 0 15).toNatClampNeg → rg (w 16 i) 0 7 ∧ rg (w 17 i) 0 1) ∧ rg (w 0 30) 0 96 ∧ rg (w 0 32) 0 28
theorem WFm.fr {B : Nat} {w w' : Gr} (h : WFm B w) (k : Fm w w') : WFm B w' := by
  unfold WFm
  rw [k.s 0 (by decide), k.s 8 (by decide), k.s 15 (by decide), k.s 20 (by decide), k.s 21 (by decide), k.s 25 (by decide), k.s 27 (by decide), k.s 30 (by decide), k.s 32 (by decide), k.c 9 (by decide), k.c 10 (by decide), k.c 12 (by decide), k.c 16 (by decide), k.c 17 (by decide)]
  exact h
theorem WFm.n {B : Nat} {w : Gr} (h : WFm B w) : (w 0 0).toNatClampNeg ≤ 8 := h.1.c (by decide)
theorem WFm.w {B : Nat} {w : Gr} (h : WFm B w) : (w 0 8).toNatClampNeg ≤ 24 := h.2.1.c (by decide)
theorem WFm.r {B : Nat} {w : Gr} (h : WFm B w) : (w 0 15).toNatClampNeg ≤ 8 := h.2.2.1.c (by decide)
theorem WFm.m {B : Nat} {w : Gr} (h : WFm B w) : rg (w 0 20) 1 28 := h.2.2.2.1
theorem WFm.t {B : Nat} {w : Gr} (h : WFm B w) (hB : B < 2 ^ 31) : ¬ w 0 21 < 0 := h.2.2.2.2.1.nn hB
theorem WFm.d {B : Nat} {w : Gr} (h : WFm B w) : rg (w 0 25) 0 8 := h.2.2.2.2.2.1
theorem WFm.o {B : Nat} {w : Gr} (h : WFm B w) : rg (w 0 27) 0 7 := h.2.2.2.2.2.2.1
theorem WFm.ways {B : Nat} {w : Gr} (h : WFm B w) : ∀ i, i < (w 0 8).toNatClampNeg → rg (w 9 i) 0 7 ∧ rg (w 10 i) 0 8 ∧ rg (w 12 i) 0 1 := h.2.2.2.2.2.2.2.1
theorem WFm.rivers {B : Nat} {w : Gr} (h : WFm B w) : ∀ i, i < (w 0 15).toNatClampNeg → rg (w 16 i) 0 7 ∧ rg (w 17 i) 0 1 := h.2.2.2.2.2.2.2.2.1
theorem WFm.n2 {B : Nat} {w : Gr} (h : WFm B w) : (2 * w 0 0).toNatClampNeg ≤ 16 := by
  obtain ⟨j, _, h2, e⟩ := h.1
  rw [e, show (2 : Int32) = nI 2 from rfl, pk_mul, nI_clamp (by omega)]
  omega
theorem WFm.dv {B : Nat} {w : Gr} (h : WFm B w) (hne : ¬ w 0 25 = 8) : vp_in (w 0 25) 8 := (rg.ne (hi := 7) h.d hne).v (by decide) (by decide)
theorem WFm.tick {B : Nat} {w : Gr} (h : WFm B w) : WFm (B + 1) (up w 0 21 (w 0 21 + 1)) := by
  obtain ⟨h1, h2, h3, h4, ⟨j, h5, h6, e⟩, h7⟩ := h
  exact ⟨h1, h2, h3, h4, ⟨j + 1, by omega, by omega, by show w 0 21 + 1 = nI (j + 1); rw [e, nI_1]⟩, h7⟩
theorem WFm.mono {B B' : Nat} {w : Gr} (h : WFm B w) (hb : B ≤ B') : WFm B' w := ⟨h.1, h.2.1, h.2.2.1, h.2.2.2.1, h.2.2.2.2.1.mono hb, h.2.2.2.2.2⟩
theorem lm_rg (ρ : Gr) (hn : (ρ 0 0).toNatClampNeg ≤ 8) : f_X7_lackingMost ρ < 0 ∨ vp_in (f_X7_lackingMost ρ) 8 := by
  have key : ∀ n, n ≤ (ρ 0 0).toNatClampNeg → itn (b_X7_lackingMost_5 ρ) n (-9) < 0 ∨ vp_in (itn (b_X7_lackingMost_5 ρ) n (-9)) 8 := by
    intro n
    induction n with
    | zero => intro _; exact Or.inl (show (-9 : Int32) < 0 by decide)
    | succ n ih =>
      intro h
      have h0 := ih (by omega)
      have h1 : (nI n : Int32) < 0 ∨ vp_in (nI n) 8 := Or.inr (vp_in_nI (by omega) (by decide))
      show b_X7_lackingMost_5 ρ n _ < 0 ∨ vp_in (b_X7_lackingMost_5 ρ n _) 8
      unfold b_X7_lackingMost_5
      repeat' split
      all_goals first | exact h0 | exact h1
  exact key _ (Nat.le_refl _)
theorem de_rg (ρ : Gr) (hn : (ρ 0 0).toNatClampNeg ≤ 8) : f_X7_deepest ρ < 0 ∨ vp_in (f_X7_deepest ρ) 8 := by
  have key : ∀ n, n ≤ (ρ 0 0).toNatClampNeg → itn (b_X7_deepest_5 ρ) n (-9) < 0 ∨ vp_in (itn (b_X7_deepest_5 ρ) n (-9)) 8 := by
    intro n
    induction n with
    | zero => intro _; exact Or.inl (show (-9 : Int32) < 0 by decide)
    | succ n ih =>
      intro h
      have h0 := ih (by omega)
      have h1 : (nI n : Int32) < 0 ∨ vp_in (nI n) 8 := Or.inr (vp_in_nI (by omega) (by decide))
      show b_X7_deepest_5 ρ n _ < 0 ∨ vp_in (b_X7_deepest_5 ρ n _) 8
      unfold b_X7_deepest_5
      repeat' split
      all_goals first | exact h0 | exact h1
  exact key _ (Nat.le_refl _)
theorem ch_rg {B : Nat} {ρ : Gr} (h : WFm B ρ) (x : Int32) : f_X7_chosen ρ x < 0 ∨ vp_in (f_X7_chosen ρ x) 8 := by
  have h1 := lm_rg ρ h.n
  have h2 := de_rg ρ h.n
  have h3 : (-9 : Int32) < 0 ∨ vp_in (-9) 8 := Or.inl (by decide)
  have h4 : ρ 0 27 < 0 ∨ vp_in (ρ 0 27) 8 := Or.inr (h.o.v (by decide) (by decide))
  unfold f_X7_chosen
  repeat' split
  all_goals first | exact h1 | exact h2 | exact h3 | exact h4
noncomputable def b_X7_flow_11 (y1 : Int32) (k : Nat) (v : Gr) : Gr :=
  if y1 = 0 then
    let zv51 : Int32 := ((((v 7 (nI k).toNatClampNeg).toInt64) * ((v 4 ((nI k) / 2).toNatClampNeg).toInt64)) / 100).toInt32
    let zs61_2 : Gr := up v 7 (nI k).toNatClampNeg ((v 7 (nI k).toNatClampNeg) - zv51)
    let zs71_2 : Gr := up zs61_2 6 (nI k).toNatClampNeg ((zs61_2 6 (nI k).toNatClampNeg) + zv51)
    let zs83_2 : Gr := up zs71_2 35 (nI k).toNatClampNeg (zs71_2 6 (nI k).toNatClampNeg)
    zs83_2
  else
    let zs61 : Gr := up v 7 (nI k).toNatClampNeg ((v 7 (nI k).toNatClampNeg) - 0)
    let zs71 : Gr := up zs61 6 (nI k).toNatClampNeg ((zs61 6 (nI k).toNatClampNeg) + 0)
    let zs83 : Gr := up zs71 35 (nI k).toNatClampNeg (zs71 6 (nI k).toNatClampNeg)
    zs83
noncomputable def l_X7_flow_11 (y1 : Int32) (v0 : Gr) : Gr := itn (b_X7_flow_11 y1) (2 * (v0 0 0)).toNatClampNeg v0
noncomputable def b_X7_flow_92 (y1 : Int32) (k : Nat) (v : Gr) : Gr :=
  if (v 11 (nI k).toNatClampNeg) = y1 then
    if (v 14 (nI k).toNatClampNeg) = 0 then
      let zv134 : Int32 := (2 * (v 9 (nI k).toNatClampNeg)) + (v 12 (nI k).toNatClampNeg)
      let zv155 : Int32 := ((((v 35 zv134.toNatClampNeg).toInt64) * ((v 13 (nI k).toNatClampNeg).toInt64)) / 100).toInt32
      let zs167 : Gr := up v 6 zv134.toNatClampNeg ((v 6 zv134.toNatClampNeg) - zv155)
      if (zs167 10 (nI k).toNatClampNeg) = 8 then
        let zs187 : Gr := up zs167 0 22 ((zs167 0 22) + zv155)
        zs187
      else
        let zs217 : Gr := up zs167 6 ((2 * (zs167 10 (nI k).toNatClampNeg)) + (zs167 12 (nI k).toNatClampNeg)).toNatClampNeg ((zs167 6 ((2 * (zs167 10 (nI k).toNatClampNeg)) + (zs167 12 (nI k).toNatClampNeg)).toNatClampNeg) + zv155)
        zs217
    else
      v
  else
    v
noncomputable def l_X7_flow_92 (y1 : Int32) (v0 : Gr) : Gr := itn (b_X7_flow_92 y1) (v0 0 8).toNatClampNeg v0
noncomputable def b_X7_flow_226  (k : Nat) (v : Gr) : Gr :=
  if (nI k) = (v 0 34) then
    let zs274_2 : Gr := up v 6 ((2 * (v 16 (nI k).toNatClampNeg)) + (v 17 (nI k).toNatClampNeg)).toNatClampNeg ((v 6 ((2 * (v 16 (nI k).toNatClampNeg)) + (v 17 (nI k).toNatClampNeg)).toNatClampNeg) + 0)
    zs274_2
  else
    let zs274 : Gr := up v 6 ((2 * (v 16 (nI k).toNatClampNeg)) + (v 17 (nI k).toNatClampNeg)).toNatClampNeg ((v 6 ((2 * (v 16 (nI k).toNatClampNeg)) + (v 17 (nI k).toNatClampNeg)).toNatClampNeg) + (v 18 (nI k).toNatClampNeg))
    zs274
noncomputable def l_X7_flow_226  (v0 : Gr) : Gr := itn (b_X7_flow_226) (v0 0 15).toNatClampNeg v0
noncomputable def b_X7_flow_283  (k : Nat) (v : Gr) : Gr :=
  let zv315 : Int32 := ((((v 6 (nI k).toNatClampNeg).toInt64) * ((v 3 ((nI k) / 2).toNatClampNeg).toInt64)) / 100).toInt32
  let zs325 : Gr := up v 6 (nI k).toNatClampNeg ((v 6 (nI k).toNatClampNeg) - zv315)
  let zs335 : Gr := up zs325 7 (nI k).toNatClampNeg ((zs325 7 (nI k).toNatClampNeg) + zv315)
  zs335
noncomputable def l_X7_flow_283  (v0 : Gr) : Gr := itn (b_X7_flow_283) (2 * (v0 0 0)).toNatClampNeg v0
noncomputable def g_X7_flow (ρ : Gr)  : Gr :=
  let zv8 : Int32 := f_X7_kindAt ρ (ρ 0 21)
  let zl11 : Gr := (l_X7_flow_11 zv8 ρ)
  let zl92 : Gr := (l_X7_flow_92 zv8 zl11)
  let zl226 : Gr := (l_X7_flow_226 zl92)
  let zl283 : Gr := (l_X7_flow_283 zl226)
  zl283
theorem flow11_Fm (y : Int32) (v : Gr) : Fm v (l_X7_flow_11 y v) := itn_Fm (fun k v => by
  unfold b_X7_flow_11
  exact Fm.ite ((Fm.u7.trans Fm.u6).trans Fm.u35) ((Fm.u7.trans Fm.u6).trans Fm.u35)) _ _
theorem flow92_Fm (y : Int32) (v : Gr) : Fm v (l_X7_flow_92 y v) := itn_Fm (fun k v => by
  dsimp only [b_X7_flow_92]
  exact Fm.ite (Fm.ite (Fm.ite (Fm.u6.trans (Fm.u0 22 x22)) (Fm.u6.trans Fm.u6)) Fm.rf) Fm.rf) _ _
theorem flow226_Fm (v : Gr) : Fm v (l_X7_flow_226 v) := itn_Fm (fun k v => by
  unfold b_X7_flow_226
  exact Fm.ite Fm.u6 Fm.u6) _ _
theorem flow283_Fm (v : Gr) : Fm v (l_X7_flow_283 v) := itn_Fm (fun k v => Fm.u6.trans Fm.u7) _ _
set_option maxRecDepth 100000 in
set_option maxHeartbeats 4000000 in
theorem lp_X7_flow_11 {l : Launch} {G : GG} {p : Program} {e : Env} {s : State} {m : MethodId} {args : Array Value} {below : List Frame} {meth : Method} {c : Code} {Q : State → Prop} {σ : St} (X : Cx p m c cX7_flow 5 s args RX7 G) (y1 : Int32) (v0 : Gr) (h16 : (2 * (v0 0 0)).toNatClampNeg ≤ 16)
    (kk : ∀ (H : Heap) (locs : List Loc) (ls : Array Slot), Wh G s σ 4 (l_X7_flow_11 y1 v0) H locs → lv_has ls 5 [(0, .ref (aa G 4 0)), (1, .int y1), (2, .int (nI ((2 * (v0 0 0)).toNatClampNeg)))] → W p l e (rmv 1 21) s m args below meth c H locs 0 0 Q (F0 m 90 ls [])) :
    ∀ (n k : Nat) (v : Gr), k ≤ (2 * (v0 0 0)).toNatClampNeg → (2 * (v0 0 0)).toNatClampNeg - k < n → v = itn (b_X7_flow_11 y1) k v0 → (Fm v0 v) → ∀ (H : Heap) (locs : List Loc) (ls : Array Slot), Wh G s σ 4 v H locs → lv_has ls 5 [(0, .ref (aa G 4 0)), (1, .int y1), (2, .int (nI k))] → W p l e (rmv 1 21) s m args below meth c H locs 0 0 Q (F0 m 11 ls []) := by
  have hx := X.1.1
  have hb := X.1.2.1
  intro n
  induction n with
  | zero => intro k v _ h; omega
  | succ n ih =>
    intro k v hkN hn ev hv H locs ls w hl
    refine lv_iload_n hx hb dX7_flow_11 rfl (lv_at hl 2 rfl) ?_
    refine lv_iconst (v := 2) hx hb dX7_flow_12 (by decide) ?_
    refine lv_aload_n hx hb dX7_flow_13 rfl (lv_at hl 0 rfl) ?_
    refine gf7_111 X w dX7_flow_14 ?_
    refine lv_imul hx hb dX7_flow_17 ?_
    refine lv_icmp_ge (tgt := 90) hx hb dX7_flow_18 (by decide) (fun zc18 => ?_) (fun zc18 => ?_)
    · -- 90
      have hkE : k = (2 * (v0 0 0)).toNatClampNeg := lp_eq hkN (by rw [← hv.s 0 (by decide)]; exact zc18)
      have ev2 : l_X7_flow_11 y1 v0 = v := by unfold l_X7_flow_11; rw [← hkE]; exact ev.symm
      rw [ev2] at kk
      rw [hkE] at hl
      exact kk _ _ _ w (lv_sub hl [0, 1, 2] rfl)
    · -- 21
      have hk : k < (2 * (v0 0 0)).toNatClampNeg := lp_lt hkN (by rw [← hv.s 0 (by decide)]; exact zc18)
      refine lv_iload_n hx hb dX7_flow_21 rfl (lv_at hl 1 rfl) ?_
      refine lv_if_ne (tgt := 50) hx hb dX7_flow_22 (by decide) (fun zc22 => ?_) (fun zc22 => ?_)
      · -- 50
        refine lv_iconst (v := 0) hx hb dX7_flow_50 (by decide) ?_
        refine lv_istore_n (lv' := [(3, .int 0), (0, .ref (aa G 4 0)), (1, .int y1), (2, .int (nI k))]) hx hb dX7_flow_51 rfl hl (by decide) rfl (fun ls hl => ?_)
        refine lv_aload_n hx hb dX7_flow_52 rfl (lv_at hl 1 rfl) ?_
        refine gf7_28 X w dX7_flow_53 ?_
        refine lv_iload_n hx hb dX7_flow_56 rfl (lv_at hl 3 rfl) ?_
        refine lv_dup2_11 hx hb dX7_flow_57 rfl rfl ?_
        refine ia (f := 7) (n := 16) X w m4_7 rfl (vp_in_nI (by omega) (by decide)) dX7_flow_58 ?_
        refine lv_iload_n hx hb dX7_flow_59 rfl (lv_at hl 0 rfl) ?_
        refine lv_isub hx hb dX7_flow_60 ?_
        refine iS (f := 7) (n := 16) X w m4_7 rfl (vp_in_nI (by omega) (by decide)) dX7_flow_61 (fun zs61 H locs ezs61 w => ?_)
        refine lv_aload_n hx hb dX7_flow_62 rfl (lv_at hl 1 rfl) ?_
        change W _ _ _ _ _ _ _ _ _ _ _ _ _ _ _ (F0 m 63 ls _)
        refine gf7_25 X w dX7_flow_63 ?_
        refine lv_iload_n hx hb dX7_flow_66 rfl (lv_at hl 3 rfl) ?_
        refine lv_dup2_11 hx hb dX7_flow_67 rfl rfl ?_
        refine ia (f := 6) (n := 16) X w m4_6 rfl (vp_in_nI (by omega) (by decide)) dX7_flow_68 ?_
        refine lv_iload_n hx hb dX7_flow_69 rfl (lv_at hl 0 rfl) ?_
        refine lv_iadd hx hb dX7_flow_70 ?_
        refine iS (f := 6) (n := 16) X w m4_6 rfl (vp_in_nI (by omega) (by decide)) dX7_flow_71 (fun zs71 H locs ezs71 w => ?_)
        refine lv_aload_n hx hb dX7_flow_72 rfl (lv_at hl 1 rfl) ?_
        refine gf7_84 X w dX7_flow_73 ?_
        refine lv_iload_n hx hb dX7_flow_76 rfl (lv_at hl 3 rfl) ?_
        refine lv_aload_n hx hb dX7_flow_77 rfl (lv_at hl 1 rfl) ?_
        refine gf7_25 X w dX7_flow_78 ?_
        change W _ _ _ _ _ _ _ _ _ _ _ _ _ _ _ (F0 m 81 ls _)
        refine lv_iload_n hx hb dX7_flow_81 rfl (lv_at hl 3 rfl) ?_
        refine ia (f := 6) (n := 16) X w m4_6 rfl (vp_in_nI (by omega) (by decide)) dX7_flow_82 ?_
        refine iS (f := 35) (n := 16) X w m4_35 rfl (vp_in_nI (by omega) (by decide)) dX7_flow_83 (fun zs83 H locs ezs83 w => ?_)
        refine lv_iinc (v := nI (k + 1)) (lv' := [(2, .int (nI (k + 1))), (3, .int 0), (0, .ref (aa G 4 0)), (1, .int y1)]) hx hb dX7_flow_84 hl (k := 3) rfl (nI_1 _) (by decide) rfl (fun ls hl => ?_)
        refine lv_goto (tgt := 11) hx hb dX7_flow_87 (by decide) ?_
        exact ih (k + 1) zs83 (by omega) (by omega) (by replace ezs83 := ezs83.symm; subst ezs83; replace ezs71 := ezs71.symm; subst ezs71; replace ezs61 := ezs61.symm; subst ezs61; simp only [itn, ← ev, b_X7_flow_11, if_neg zc22]) (by replace ezs83 := ezs83.symm; subst ezs83; replace ezs71 := ezs71.symm; subst ezs71; replace ezs61 := ezs61.symm; subst ezs61; exact ((hv.trans Fm.u7).trans Fm.u6).trans Fm.u35) _ _ _ w (lv_sub hl [2, 3, 0] rfl)
      · -- 25
        refine lv_aload_n hx hb dX7_flow_25 rfl (lv_at hl 0 rfl) ?_
        refine gf7_28 X w dX7_flow_26 ?_
        refine lv_iload_n hx hb dX7_flow_29 rfl (lv_at hl 2 rfl) ?_
        refine ia (f := 7) (n := 16) X w m4_7 rfl (vp_in_nI (by omega) (by decide)) dX7_flow_30 ?_
        refine lv_i2l hx hb dX7_flow_31 rfl ?_
        refine lv_aload_n hx hb dX7_flow_32 rfl (lv_at hl 0 rfl) ?_
        refine gf7_19 X w dX7_flow_33 ?_
        refine lv_iload_n hx hb dX7_flow_36 rfl (lv_at hl 2 rfl) ?_
        refine lv_iconst (v := 2) hx hb dX7_flow_37 (by decide) ?_
        refine lv_idiv hx hb dX7_flow_38 (by decide) ?_
        refine ia (f := 4) (n := 8) X w m4_4 rfl (half_in (by omega)) dX7_flow_39 ?_
        change W _ _ _ _ _ _ _ _ _ _ _ _ _ _ _ (F0 m 40 ls _)
        refine lv_i2l hx hb dX7_flow_40 rfl ?_
        refine lv_lmul hx hb dX7_flow_41 ?_
        refine lv_ldc2 hx hb X.1.2.2.2.1 (X.1.2.2.2.2 _ kw998) dX7_flow_42 ?_
        refine lv_ldiv hx hb dX7_flow_45 (by decide) ?_
        refine lv_l2i hx hb dX7_flow_46 rfl ?_
        refine lv_goto (tgt := 51) hx hb dX7_flow_47 (by decide) ?_
        refine lv_topi (fun zv51 ezv51 => ?_)
        refine lv_istore_n (lv' := [(3, .int zv51), (0, .ref (aa G 4 0)), (1, .int y1), (2, .int (nI k))]) hx hb dX7_flow_51 rfl hl (by decide) rfl (fun ls hl => ?_)
        refine lv_aload_n hx hb dX7_flow_52 rfl (lv_at hl 1 rfl) ?_
        refine gf7_28 X w dX7_flow_53 ?_
        refine lv_iload_n hx hb dX7_flow_56 rfl (lv_at hl 3 rfl) ?_
        refine lv_dup2_11 hx hb dX7_flow_57 rfl rfl ?_
        refine ia (f := 7) (n := 16) X w m4_7 rfl (vp_in_nI (by omega) (by decide)) dX7_flow_58 ?_
        change W _ _ _ _ _ _ _ _ _ _ _ _ _ _ _ (F0 m 59 ls _)
        refine lv_iload_n hx hb dX7_flow_59 rfl (lv_at hl 0 rfl) ?_
        refine lv_isub hx hb dX7_flow_60 ?_
        refine iS (f := 7) (n := 16) X w m4_7 rfl (vp_in_nI (by omega) (by decide)) dX7_flow_61 (fun zs61_2 H locs ezs61_2 w => ?_)
        refine lv_aload_n hx hb dX7_flow_62 rfl (lv_at hl 1 rfl) ?_
        refine gf7_25 X w dX7_flow_63 ?_
        refine lv_iload_n hx hb dX7_flow_66 rfl (lv_at hl 3 rfl) ?_
        refine lv_dup2_11 hx hb dX7_flow_67 rfl rfl ?_
        refine ia (f := 6) (n := 16) X w m4_6 rfl (vp_in_nI (by omega) (by decide)) dX7_flow_68 ?_
        refine lv_iload_n hx hb dX7_flow_69 rfl (lv_at hl 0 rfl) ?_
        refine lv_iadd hx hb dX7_flow_70 ?_
        refine iS (f := 6) (n := 16) X w m4_6 rfl (vp_in_nI (by omega) (by decide)) dX7_flow_71 (fun zs71_2 H locs ezs71_2 w => ?_)
        refine lv_aload_n hx hb dX7_flow_72 rfl (lv_at hl 1 rfl) ?_
        change W _ _ _ _ _ _ _ _ _ _ _ _ _ _ _ (F0 m 73 ls _)
        refine gf7_84 X w dX7_flow_73 ?_
        refine lv_iload_n hx hb dX7_flow_76 rfl (lv_at hl 3 rfl) ?_
        refine lv_aload_n hx hb dX7_flow_77 rfl (lv_at hl 1 rfl) ?_
        refine gf7_25 X w dX7_flow_78 ?_
        refine lv_iload_n hx hb dX7_flow_81 rfl (lv_at hl 3 rfl) ?_
        refine ia (f := 6) (n := 16) X w m4_6 rfl (vp_in_nI (by omega) (by decide)) dX7_flow_82 ?_
        refine iS (f := 35) (n := 16) X w m4_35 rfl (vp_in_nI (by omega) (by decide)) dX7_flow_83 (fun zs83_2 H locs ezs83_2 w => ?_)
        refine lv_iinc (v := nI (k + 1)) (lv' := [(2, .int (nI (k + 1))), (3, .int zv51), (0, .ref (aa G 4 0)), (1, .int y1)]) hx hb dX7_flow_84 hl (k := 3) rfl (nI_1 _) (by decide) rfl (fun ls hl => ?_)
        refine lv_goto (tgt := 11) hx hb dX7_flow_87 (by decide) ?_
        exact ih (k + 1) zs83_2 (by omega) (by omega) (by replace ezs83_2 := ezs83_2.symm; subst ezs83_2; replace ezs71_2 := ezs71_2.symm; subst ezs71_2; replace ezs61_2 := ezs61_2.symm; subst ezs61_2; replace ezv51 := ezv51.symm; subst ezv51; simp only [itn, ← ev, b_X7_flow_11, if_pos zc22]) (by replace ezs83_2 := ezs83_2.symm; subst ezs83_2; replace ezs71_2 := ezs71_2.symm; subst ezs71_2; replace ezs61_2 := ezs61_2.symm; subst ezs61_2; replace ezv51 := ezv51.symm; subst ezv51; exact ((hv.trans Fm.u7).trans Fm.u6).trans Fm.u35) _ _ _ w (lv_sub hl [2, 3, 0] rfl)
set_option maxRecDepth 100000 in
set_option maxHeartbeats 4000000 in
theorem lp_X7_flow_92 {l : Launch} {G : GG} {p : Program} {e : Env} {s : State} {m : MethodId} {args : Array Value} {below : List Frame} {meth : Method} {c : Code} {Q : State → Prop} {σ : St} (X : Cx p m c cX7_flow 5 s args RX7 G) (y1 : Int32) (v0 : Gr) (B : Nat) (hm : WFm B v0)
    (kk : ∀ (H : Heap) (locs : List Loc) (ls : Array Slot), Wh G s σ 4 (l_X7_flow_92 y1 v0) H locs → lv_has ls 5 [(0, .ref (aa G 4 0)), (1, .int y1), (2, .int (nI ((v0 0 8).toNatClampNeg)))] → W p l e (rmv 1 21) s m args below meth c H locs 0 0 Q (F0 m 224 ls [])) :
    ∀ (n k : Nat) (v : Gr), k ≤ (v0 0 8).toNatClampNeg → (v0 0 8).toNatClampNeg - k < n → v = itn (b_X7_flow_92 y1) k v0 → (Fm v0 v) → ∀ (H : Heap) (locs : List Loc) (ls : Array Slot), Wh G s σ 4 v H locs → lv_has ls 5 [(0, .ref (aa G 4 0)), (1, .int y1), (2, .int (nI k))] → W p l e (rmv 1 21) s m args below meth c H locs 0 0 Q (F0 m 92 ls []) := by
  have hx := X.1.1
  have hb := X.1.2.1
  intro n
  induction n with
  | zero => intro k v _ h; omega
  | succ n ih =>
    intro k v hkN hn ev hv H locs ls w hl
    refine lv_iload_n hx hb dX7_flow_92 rfl (lv_at hl 2 rfl) ?_
    refine lv_aload_n hx hb dX7_flow_93 rfl (lv_at hl 0 rfl) ?_
    refine gf7_132 X w dX7_flow_94 ?_
    refine lv_icmp_ge (tgt := 224) hx hb dX7_flow_97 (by decide) (fun zc97 => ?_) (fun zc97 => ?_)
    · -- 224
      have hkE : k = (v0 0 8).toNatClampNeg := lp_eq hkN (by rw [← hv.s 8 (by decide)]; exact zc97)
      have ev2 : l_X7_flow_92 y1 v0 = v := by unfold l_X7_flow_92; rw [← hkE]; exact ev.symm
      rw [ev2] at kk
      rw [hkE] at hl
      exact kk _ _ _ w (lv_sub hl [0, 1, 2] rfl)
    · -- 100
      have hk : k < (v0 0 8).toNatClampNeg := lp_lt hkN (by rw [← hv.s 8 (by decide)]; exact zc97)
      have h24 := hm.w
      have q9 : rg (v 9 (nI k).toNatClampNeg) 0 7 := by rw [hv.c 9 (by decide), nI_clamp (by omega)]; exact (hm.ways k hk).1
      have q10 : rg (v 10 (nI k).toNatClampNeg) 0 8 := by rw [hv.c 10 (by decide), nI_clamp (by omega)]; exact (hm.ways k hk).2.1
      have q12 : rg (v 12 (nI k).toNatClampNeg) 0 1 := by rw [hv.c 12 (by decide), nI_clamp (by omega)]; exact (hm.ways k hk).2.2
      refine lv_aload_n hx hb dX7_flow_100 rfl (lv_at hl 0 rfl) ?_
      refine gf7_37 X w dX7_flow_101 ?_
      refine lv_iload_n hx hb dX7_flow_104 rfl (lv_at hl 2 rfl) ?_
      refine ia (f := 11) (n := 24) X w m4_11 rfl (vp_in_nI (by omega) (by decide)) dX7_flow_105 ?_
      refine lv_iload_n hx hb dX7_flow_106 rfl (lv_at hl 1 rfl) ?_
      refine lv_icmp_ne (tgt := 218) hx hb dX7_flow_107 (by decide) (fun zc107 => ?_) (fun zc107 => ?_)
      · -- 218
        refine lv_iinc (v := nI (k + 1)) (lv' := [(2, .int (nI (k + 1))), (0, .ref (aa G 4 0)), (1, .int y1)]) hx hb dX7_flow_218 hl (k := 2) rfl (nI_1 _) (by decide) rfl (fun ls hl => ?_)
        refine lv_goto (tgt := 92) hx hb dX7_flow_221 (by decide) ?_
        exact ih (k + 1) v (by omega) (by omega) (by simp only [itn, ← ev, b_X7_flow_92, if_neg zc107]) (by first | exact hv | exact (hv.trans Fm.u6).trans (Fm.u0 22 x22) | exact (hv.trans Fm.u6).trans Fm.u6) _ _ _ w (lv_sub hl [1, 2, 0] rfl)
      · -- 110
        refine lv_aload_n hx hb dX7_flow_110 rfl (lv_at hl 0 rfl) ?_
        refine gf7_46 X w dX7_flow_111 ?_
        refine lv_iload_n hx hb dX7_flow_114 rfl (lv_at hl 2 rfl) ?_
        refine r_za (f := 14) (n := 24) X w m4_14 rfl (vp_in_nI (by omega) (by decide)) dX7_flow_115 ?_
        refine lv_if_ne (tgt := 218) hx hb dX7_flow_116 (by decide) (fun zc116 => ?_) (fun zc116 => ?_)
        · -- 218
          refine lv_iinc (v := nI (k + 1)) (lv' := [(2, .int (nI (k + 1))), (0, .ref (aa G 4 0)), (1, .int y1)]) hx hb dX7_flow_218 hl (k := 2) rfl (nI_1 _) (by decide) rfl (fun ls hl => ?_)
          refine lv_goto (tgt := 92) hx hb dX7_flow_221 (by decide) ?_
          exact ih (k + 1) v (by omega) (by omega) (by simp only [itn, ← ev, b_X7_flow_92, if_pos zc107, if_neg zc116]) (by first | exact hv | exact (hv.trans Fm.u6).trans (Fm.u0 22 x22) | exact (hv.trans Fm.u6).trans Fm.u6) _ _ _ w (lv_sub hl [1, 2, 0] rfl)
        · -- 119
          refine lv_iconst (v := 2) hx hb dX7_flow_119 (by decide) ?_
          refine lv_aload_n hx hb dX7_flow_120 rfl (lv_at hl 0 rfl) ?_
          refine gf7_31 X w dX7_flow_121 ?_
          refine lv_iload_n hx hb dX7_flow_124 rfl (lv_at hl 2 rfl) ?_
          refine ia (f := 9) (n := 24) X w m4_9 rfl (vp_in_nI (by omega) (by decide)) dX7_flow_125 ?_
          refine lv_imul hx hb dX7_flow_126 ?_
          refine lv_aload_n hx hb dX7_flow_127 rfl (lv_at hl 0 rfl) ?_
          refine gf7_40 X w dX7_flow_128 ?_
          refine lv_iload_n hx hb dX7_flow_131 rfl (lv_at hl 2 rfl) ?_
          refine ia (f := 12) (n := 24) X w m4_12 rfl (vp_in_nI (by omega) (by decide)) dX7_flow_132 ?_
          refine lv_iadd hx hb dX7_flow_133 ?_
          change W _ _ _ _ _ _ _ _ _ _ _ _ _ _ _ (F0 m 134 ls _)
          refine lv_topi (fun zv134 ezv134 => ?_)
          refine lv_istore_n (lv' := [(3, .int zv134), (0, .ref (aa G 4 0)), (1, .int y1), (2, .int (nI k))]) hx hb dX7_flow_134 rfl hl (by decide) rfl (fun ls hl => ?_)
          refine lv_aload_n hx hb dX7_flow_135 rfl (lv_at hl 1 rfl) ?_
          refine gf7_84 X w dX7_flow_136 ?_
          refine lv_iload_n hx hb dX7_flow_139 rfl (lv_at hl 0 rfl) ?_
          refine ia (f := 35) (n := 16) X w m4_35 rfl (by rw [ezv134]; exact ix2s (q9.v (by decide) (by decide)) (q12.v (by decide) (by decide))) dX7_flow_140 ?_
          refine lv_i2l hx hb dX7_flow_141 rfl ?_
          refine lv_aload_n hx hb dX7_flow_142 rfl (lv_at hl 1 rfl) ?_
          refine gf7_43 X w dX7_flow_143 ?_
          refine lv_iload_n hx hb dX7_flow_146 rfl (lv_at hl 3 rfl) ?_
          refine ia (f := 13) (n := 24) X w m4_13 rfl (vp_in_nI (by omega) (by decide)) dX7_flow_147 ?_
          refine lv_i2l hx hb dX7_flow_148 rfl ?_
          refine lv_lmul hx hb dX7_flow_149 ?_
          change W _ _ _ _ _ _ _ _ _ _ _ _ _ _ _ (F0 m 150 ls _)
          refine lv_ldc2 hx hb X.1.2.2.2.1 (X.1.2.2.2.2 _ kw998) dX7_flow_150 ?_
          refine lv_ldiv hx hb dX7_flow_153 (by decide) ?_
          refine lv_l2i hx hb dX7_flow_154 rfl ?_
          refine lv_topi (fun zv155 ezv155 => ?_)
          refine lv_istore (lv' := [(4, .int zv155), (3, .int zv134), (0, .ref (aa G 4 0)), (1, .int y1), (2, .int (nI k))]) hx hb dX7_flow_155 hl (by decide) rfl (fun ls hl => ?_)
          refine lv_aload_n hx hb dX7_flow_157 rfl (lv_at hl 2 rfl) ?_
          refine gf7_25 X w dX7_flow_158 ?_
          refine lv_iload_n hx hb dX7_flow_161 rfl (lv_at hl 1 rfl) ?_
          refine lv_dup2_11 hx hb dX7_flow_162 rfl rfl ?_
          refine ia (f := 6) (n := 16) X w m4_6 rfl (by rw [ezv134]; exact ix2s (q9.v (by decide) (by decide)) (q12.v (by decide) (by decide))) dX7_flow_163 ?_
          refine lv_iload hx hb dX7_flow_164 (lv_at hl 0 rfl) ?_
          refine lv_isub hx hb dX7_flow_166 ?_
          refine iS (f := 6) (n := 16) X w m4_6 rfl (by rw [ezv134]; exact ix2s (q9.v (by decide) (by decide)) (q12.v (by decide) (by decide))) dX7_flow_167 (fun zs167 H locs ezs167 w => ?_)
          change W _ _ _ _ _ _ _ _ _ _ _ _ _ _ _ (F0 m 168 ls _)
          refine lv_aload_n hx hb dX7_flow_168 rfl (lv_at hl 2 rfl) ?_
          refine gf7_34 X w dX7_flow_169 ?_
          refine lv_iload_n hx hb dX7_flow_172 rfl (lv_at hl 4 rfl) ?_
          refine ia (f := 10) (n := 24) X w m4_10 rfl (vp_in_nI (by omega) (by decide)) dX7_flow_173 ?_
          refine lv_bipush (v := 8) hx hb dX7_flow_174 (by decide) ?_
          refine lv_icmp_ne (tgt := 193) hx hb dX7_flow_176 (by decide) (fun zc176 => ?_) (fun zc176 => ?_)
          · -- 193
            refine lv_aload_n hx hb dX7_flow_193 rfl (lv_at hl 2 rfl) ?_
            refine gf7_25 X w dX7_flow_194 ?_
            refine lv_iconst (v := 2) hx hb dX7_flow_197 (by decide) ?_
            refine lv_aload_n hx hb dX7_flow_198 rfl (lv_at hl 2 rfl) ?_
            refine gf7_34 X w dX7_flow_199 ?_
            refine lv_iload_n hx hb dX7_flow_202 rfl (lv_at hl 4 rfl) ?_
            refine ia (f := 10) (n := 24) X w m4_10 rfl (vp_in_nI (by omega) (by decide)) dX7_flow_203 ?_
            refine lv_imul hx hb dX7_flow_204 ?_
            refine lv_aload_n hx hb dX7_flow_205 rfl (lv_at hl 2 rfl) ?_
            refine gf7_40 X w dX7_flow_206 ?_
            refine lv_iload_n hx hb dX7_flow_209 rfl (lv_at hl 4 rfl) ?_
            change W _ _ _ _ _ _ _ _ _ _ _ _ _ _ _ (F0 m 210 ls _)
            refine ia (f := 12) (n := 24) X w m4_12 rfl (vp_in_nI (by omega) (by decide)) dX7_flow_210 ?_
            refine lv_iadd hx hb dX7_flow_211 ?_
            refine lv_dup2_11 hx hb dX7_flow_212 rfl rfl ?_
            refine ia (f := 6) (n := 16) X w m4_6 rfl (by replace ezs167 := ezs167.symm; subst ezs167; replace ezv155 := ezv155.symm; subst ezv155; replace ezv134 := ezv134.symm; subst ezv134; exact ix2s ((rg.ne (hi := 7) q10 zc176).v (by decide) (by decide)) (q12.v (by decide) (by decide))) dX7_flow_213 ?_
            refine lv_iload hx hb dX7_flow_214 (lv_at hl 0 rfl) ?_
            refine lv_iadd hx hb dX7_flow_216 ?_
            refine iS (f := 6) (n := 16) X w m4_6 rfl (by replace ezs167 := ezs167.symm; subst ezs167; replace ezv155 := ezv155.symm; subst ezv155; replace ezv134 := ezv134.symm; subst ezv134; exact ix2s ((rg.ne (hi := 7) q10 zc176).v (by decide) (by decide)) (q12.v (by decide) (by decide))) dX7_flow_217 (fun zs217 H locs ezs217 w => ?_)
            refine lv_iinc (v := nI (k + 1)) (lv' := [(2, .int (nI (k + 1))), (4, .int zv155), (3, .int zv134), (0, .ref (aa G 4 0)), (1, .int y1)]) hx hb dX7_flow_218 hl (k := 4) rfl (nI_1 _) (by decide) rfl (fun ls hl => ?_)
            refine lv_goto (tgt := 92) hx hb dX7_flow_221 (by decide) ?_
            exact ih (k + 1) zs217 (by omega) (by omega) (by replace ezs217 := ezs217.symm; subst ezs217; replace ezs167 := ezs167.symm; subst ezs167; replace ezv155 := ezv155.symm; subst ezv155; replace ezv134 := ezv134.symm; subst ezv134; simp only [itn, ← ev, b_X7_flow_92, if_pos zc107, if_pos zc116, if_neg zc176]) (by replace ezs217 := ezs217.symm; subst ezs217; replace ezs167 := ezs167.symm; subst ezs167; replace ezv155 := ezv155.symm; subst ezv155; replace ezv134 := ezv134.symm; subst ezv134; first | exact hv | exact (hv.trans Fm.u6).trans (Fm.u0 22 x22) | exact (hv.trans Fm.u6).trans Fm.u6) _ _ _ w (lv_sub hl [3, 4, 0] rfl)
          · -- 179
            refine lv_aload_n hx hb dX7_flow_179 rfl (lv_at hl 2 rfl) ?_
            refine lv_dup hx hb dX7_flow_180 rfl ?_
            refine gf7_194 X w dX7_flow_181 ?_
            refine lv_iload hx hb dX7_flow_184 (lv_at hl 0 rfl) ?_
            refine lv_iadd hx hb dX7_flow_186 ?_
            refine pf7_194 X w dX7_flow_187 (fun zs187 H locs ezs187 w => ?_)
            refine lv_goto (tgt := 218) hx hb dX7_flow_190 (by decide) ?_
            refine lv_iinc (v := nI (k + 1)) (lv' := [(2, .int (nI (k + 1))), (4, .int zv155), (3, .int zv134), (0, .ref (aa G 4 0)), (1, .int y1)]) hx hb dX7_flow_218 hl (k := 4) rfl (nI_1 _) (by decide) rfl (fun ls hl => ?_)
            refine lv_goto (tgt := 92) hx hb dX7_flow_221 (by decide) ?_
            exact ih (k + 1) zs187 (by omega) (by omega) (by replace ezs187 := ezs187.symm; subst ezs187; replace ezs167 := ezs167.symm; subst ezs167; replace ezv155 := ezv155.symm; subst ezv155; replace ezv134 := ezv134.symm; subst ezv134; simp only [itn, ← ev, b_X7_flow_92, if_pos zc107, if_pos zc116, if_pos zc176]) (by replace ezs187 := ezs187.symm; subst ezs187; replace ezs167 := ezs167.symm; subst ezs167; replace ezv155 := ezv155.symm; subst ezv155; replace ezv134 := ezv134.symm; subst ezv134; first | exact hv | exact (hv.trans Fm.u6).trans (Fm.u0 22 x22) | exact (hv.trans Fm.u6).trans Fm.u6) _ _ _ w (lv_sub hl [3, 4, 0] rfl)
set_option maxRecDepth 100000 in
set_option maxHeartbeats 4000000 in
theorem lp_X7_flow_226 {l : Launch} {G : GG} {p : Program} {e : Env} {s : State} {m : MethodId} {args : Array Value} {below : List Frame} {meth : Method} {c : Code} {Q : State → Prop} {σ : St} (X : Cx p m c cX7_flow 5 s args RX7 G)  (v0 : Gr) (B : Nat) (hm : WFm B v0)
    (kk : ∀ (H : Heap) (locs : List Loc) (ls : Array Slot), Wh G s σ 4 (l_X7_flow_226 v0) H locs → lv_has ls 5 [(0, .ref (aa G 4 0)), (2, .int (nI ((v0 0 15).toNatClampNeg)))] → W p l e (rmv 1 21) s m args below meth c H locs 0 0 Q (F0 m 281 ls [])) :
    ∀ (n k : Nat) (v : Gr), k ≤ (v0 0 15).toNatClampNeg → (v0 0 15).toNatClampNeg - k < n → v = itn (b_X7_flow_226) k v0 → (Fm v0 v) → ∀ (H : Heap) (locs : List Loc) (ls : Array Slot), Wh G s σ 4 v H locs → lv_has ls 5 [(0, .ref (aa G 4 0)), (2, .int (nI k))] → W p l e (rmv 1 21) s m args below meth c H locs 0 0 Q (F0 m 226 ls []) := by
  have hx := X.1.1
  have hb := X.1.2.1
  intro n
  induction n with
  | zero => intro k v _ h; omega
  | succ n ih =>
    intro k v hkN hn ev hv H locs ls w hl
    refine lv_iload_n hx hb dX7_flow_226 rfl (lv_at hl 1 rfl) ?_
    refine lv_aload_n hx hb dX7_flow_227 rfl (lv_at hl 0 rfl) ?_
    refine gf7_147 X w dX7_flow_228 ?_
    refine lv_icmp_ge (tgt := 281) hx hb dX7_flow_231 (by decide) (fun zc231 => ?_) (fun zc231 => ?_)
    · -- 281
      have hkE : k = (v0 0 15).toNatClampNeg := lp_eq hkN (by rw [← hv.s 15 (by decide)]; exact zc231)
      have ev2 : l_X7_flow_226 v0 = v := by unfold l_X7_flow_226; rw [← hkE]; exact ev.symm
      rw [ev2] at kk
      rw [hkE] at hl
      exact kk _ _ _ w (lv_sub hl [0, 1] rfl)
    · -- 234
      have hk : k < (v0 0 15).toNatClampNeg := lp_lt hkN (by rw [← hv.s 15 (by decide)]; exact zc231)
      have h8 := hm.r
      have q16 : rg (v 16 (nI k).toNatClampNeg) 0 7 := by rw [hv.c 16 (by decide), nI_clamp (by omega)]; exact (hm.rivers k hk).1
      have q17 : rg (v 17 (nI k).toNatClampNeg) 0 1 := by rw [hv.c 17 (by decide), nI_clamp (by omega)]; exact (hm.rivers k hk).2
      refine lv_aload_n hx hb dX7_flow_234 rfl (lv_at hl 0 rfl) ?_
      refine gf7_25 X w dX7_flow_235 ?_
      refine lv_iconst (v := 2) hx hb dX7_flow_238 (by decide) ?_
      refine lv_aload_n hx hb dX7_flow_239 rfl (lv_at hl 0 rfl) ?_
      refine gf7_50 X w dX7_flow_240 ?_
      refine lv_iload_n hx hb dX7_flow_243 rfl (lv_at hl 1 rfl) ?_
      refine ia (f := 16) (n := 8) X w m4_16 rfl (vp_in_nI (by omega) (by decide)) dX7_flow_244 ?_
      refine lv_imul hx hb dX7_flow_245 ?_
      refine lv_aload_n hx hb dX7_flow_246 rfl (lv_at hl 0 rfl) ?_
      refine gf7_53 X w dX7_flow_247 ?_
      refine lv_iload_n hx hb dX7_flow_250 rfl (lv_at hl 1 rfl) ?_
      change W _ _ _ _ _ _ _ _ _ _ _ _ _ _ _ (F0 m 251 ls _)
      refine ia (f := 17) (n := 8) X w m4_17 rfl (vp_in_nI (by omega) (by decide)) dX7_flow_251 ?_
      refine lv_iadd hx hb dX7_flow_252 ?_
      refine lv_dup2_11 hx hb dX7_flow_253 rfl rfl ?_
      refine ia (f := 6) (n := 16) X w m4_6 rfl (ix2s (q16.v (by decide) (by decide)) (q17.v (by decide) (by decide))) dX7_flow_254 ?_
      refine lv_iload_n hx hb dX7_flow_255 rfl (lv_at hl 1 rfl) ?_
      refine lv_aload_n hx hb dX7_flow_256 rfl (lv_at hl 0 rfl) ?_
      refine gf7_81 X w dX7_flow_257 ?_
      refine lv_icmp_ne (tgt := 267) hx hb dX7_flow_260 (by decide) (fun zc260 => ?_) (fun zc260 => ?_)
      · -- 267
        refine lv_aload_n hx hb dX7_flow_267 rfl (lv_at hl 0 rfl) ?_
        refine gf7_56 X w dX7_flow_268 ?_
        refine lv_iload_n hx hb dX7_flow_271 rfl (lv_at hl 1 rfl) ?_
        refine ia (f := 18) (n := 8) X w m4_18 rfl (vp_in_nI (by omega) (by decide)) dX7_flow_272 ?_
        refine lv_iadd hx hb dX7_flow_273 ?_
        refine iS (f := 6) (n := 16) X w m4_6 rfl (ix2s (q16.v (by decide) (by decide)) (q17.v (by decide) (by decide))) dX7_flow_274 (fun zs274 H locs ezs274 w => ?_)
        refine lv_iinc (v := nI (k + 1)) (lv' := [(2, .int (nI (k + 1))), (0, .ref (aa G 4 0))]) hx hb dX7_flow_275 hl (k := 1) rfl (nI_1 _) (by decide) rfl (fun ls hl => ?_)
        refine lv_goto (tgt := 226) hx hb dX7_flow_278 (by decide) ?_
        exact ih (k + 1) zs274 (by omega) (by omega) (by replace ezs274 := ezs274.symm; subst ezs274; simp only [itn, ← ev, b_X7_flow_226, if_neg zc260]) (by replace ezs274 := ezs274.symm; subst ezs274; exact hv.trans Fm.u6) _ _ _ w (lv_sub hl [1, 0] rfl)
      · -- 263
        refine lv_iconst (v := 0) hx hb dX7_flow_263 (by decide) ?_
        refine lv_goto (tgt := 273) hx hb dX7_flow_264 (by decide) ?_
        refine lv_iadd hx hb dX7_flow_273 ?_
        refine iS (f := 6) (n := 16) X w m4_6 rfl (ix2s (q16.v (by decide) (by decide)) (q17.v (by decide) (by decide))) dX7_flow_274 (fun zs274_2 H locs ezs274_2 w => ?_)
        refine lv_iinc (v := nI (k + 1)) (lv' := [(2, .int (nI (k + 1))), (0, .ref (aa G 4 0))]) hx hb dX7_flow_275 hl (k := 1) rfl (nI_1 _) (by decide) rfl (fun ls hl => ?_)
        refine lv_goto (tgt := 226) hx hb dX7_flow_278 (by decide) ?_
        exact ih (k + 1) zs274_2 (by omega) (by omega) (by replace ezs274_2 := ezs274_2.symm; subst ezs274_2; simp only [itn, ← ev, b_X7_flow_226, if_pos zc260]) (by replace ezs274_2 := ezs274_2.symm; subst ezs274_2; exact hv.trans Fm.u6) _ _ _ w (lv_sub hl [1, 0] rfl)
set_option maxRecDepth 100000 in
set_option maxHeartbeats 4000000 in
theorem lp_X7_flow_283 {l : Launch} {G : GG} {p : Program} {e : Env} {s : State} {m : MethodId} {args : Array Value} {below : List Frame} {meth : Method} {c : Code} {Q : State → Prop} {σ : St} (X : Cx p m c cX7_flow 5 s args RX7 G)  (v0 : Gr) (h16 : (2 * (v0 0 0)).toNatClampNeg ≤ 16)
    (kk : ∀ (H : Heap) (locs : List Loc) (ls : Array Slot), Wh G s σ 4 (l_X7_flow_283 v0) H locs → lv_has ls 5 [(0, .ref (aa G 4 0)), (2, .int (nI ((2 * (v0 0 0)).toNatClampNeg)))] → W p l e (rmv 1 21) s m args below meth c H locs 0 0 Q (F0 m 342 ls [])) :
    ∀ (n k : Nat) (v : Gr), k ≤ (2 * (v0 0 0)).toNatClampNeg → (2 * (v0 0 0)).toNatClampNeg - k < n → v = itn (b_X7_flow_283) k v0 → (Fm v0 v) → ∀ (H : Heap) (locs : List Loc) (ls : Array Slot), Wh G s σ 4 v H locs → lv_has ls 5 [(0, .ref (aa G 4 0)), (2, .int (nI k))] → W p l e (rmv 1 21) s m args below meth c H locs 0 0 Q (F0 m 283 ls []) := by
  have hx := X.1.1
  have hb := X.1.2.1
  intro n
  induction n with
  | zero => intro k v _ h; omega
  | succ n ih =>
    intro k v hkN hn ev hv H locs ls w hl
    refine lv_iload_n hx hb dX7_flow_283 rfl (lv_at hl 1 rfl) ?_
    refine lv_iconst (v := 2) hx hb dX7_flow_284 (by decide) ?_
    refine lv_aload_n hx hb dX7_flow_285 rfl (lv_at hl 0 rfl) ?_
    refine gf7_111 X w dX7_flow_286 ?_
    refine lv_imul hx hb dX7_flow_289 ?_
    refine lv_icmp_ge (tgt := 342) hx hb dX7_flow_290 (by decide) (fun zc290 => ?_) (fun zc290 => ?_)
    · -- 342
      have hkE : k = (2 * (v0 0 0)).toNatClampNeg := lp_eq hkN (by rw [← hv.s 0 (by decide)]; exact zc290)
      have ev2 : l_X7_flow_283 v0 = v := by unfold l_X7_flow_283; rw [← hkE]; exact ev.symm
      rw [ev2] at kk
      rw [hkE] at hl
      exact kk _ _ _ w (lv_sub hl [0, 1] rfl)
    · -- 293
      have hk : k < (2 * (v0 0 0)).toNatClampNeg := lp_lt hkN (by rw [← hv.s 0 (by decide)]; exact zc290)
      refine lv_aload_n hx hb dX7_flow_293 rfl (lv_at hl 0 rfl) ?_
      refine gf7_25 X w dX7_flow_294 ?_
      refine lv_iload_n hx hb dX7_flow_297 rfl (lv_at hl 1 rfl) ?_
      refine ia (f := 6) (n := 16) X w m4_6 rfl (vp_in_nI (by omega) (by decide)) dX7_flow_298 ?_
      refine lv_i2l hx hb dX7_flow_299 rfl ?_
      refine lv_aload_n hx hb dX7_flow_300 rfl (lv_at hl 0 rfl) ?_
      refine gf7_16 X w dX7_flow_301 ?_
      refine lv_iload_n hx hb dX7_flow_304 rfl (lv_at hl 1 rfl) ?_
      refine lv_iconst (v := 2) hx hb dX7_flow_305 (by decide) ?_
      refine lv_idiv hx hb dX7_flow_306 (by decide) ?_
      refine ia (f := 3) (n := 8) X w m4_3 rfl (half_in (by omega)) dX7_flow_307 ?_
      change W _ _ _ _ _ _ _ _ _ _ _ _ _ _ _ (F0 m 308 ls _)
      refine lv_i2l hx hb dX7_flow_308 rfl ?_
      refine lv_lmul hx hb dX7_flow_309 ?_
      refine lv_ldc2 hx hb X.1.2.2.2.1 (X.1.2.2.2.2 _ kw998) dX7_flow_310 ?_
      refine lv_ldiv hx hb dX7_flow_313 (by decide) ?_
      refine lv_l2i hx hb dX7_flow_314 rfl ?_
      refine lv_topi (fun zv315 ezv315 => ?_)
      refine lv_istore_n (lv' := [(3, .int zv315), (0, .ref (aa G 4 0)), (2, .int (nI k))]) hx hb dX7_flow_315 rfl hl (by decide) rfl (fun ls hl => ?_)
      refine lv_aload_n hx hb dX7_flow_316 rfl (lv_at hl 1 rfl) ?_
      refine gf7_25 X w dX7_flow_317 ?_
      refine lv_iload_n hx hb dX7_flow_320 rfl (lv_at hl 2 rfl) ?_
      refine lv_dup2_11 hx hb dX7_flow_321 rfl rfl ?_
      refine ia (f := 6) (n := 16) X w m4_6 rfl (vp_in_nI (by omega) (by decide)) dX7_flow_322 ?_
      refine lv_iload_n hx hb dX7_flow_323 rfl (lv_at hl 0 rfl) ?_
      change W _ _ _ _ _ _ _ _ _ _ _ _ _ _ _ (F0 m 324 ls _)
      refine lv_isub hx hb dX7_flow_324 ?_
      refine iS (f := 6) (n := 16) X w m4_6 rfl (vp_in_nI (by omega) (by decide)) dX7_flow_325 (fun zs325 H locs ezs325 w => ?_)
      refine lv_aload_n hx hb dX7_flow_326 rfl (lv_at hl 1 rfl) ?_
      refine gf7_28 X w dX7_flow_327 ?_
      refine lv_iload_n hx hb dX7_flow_330 rfl (lv_at hl 2 rfl) ?_
      refine lv_dup2_11 hx hb dX7_flow_331 rfl rfl ?_
      refine ia (f := 7) (n := 16) X w m4_7 rfl (vp_in_nI (by omega) (by decide)) dX7_flow_332 ?_
      refine lv_iload_n hx hb dX7_flow_333 rfl (lv_at hl 0 rfl) ?_
      refine lv_iadd hx hb dX7_flow_334 ?_
      refine iS (f := 7) (n := 16) X w m4_7 rfl (vp_in_nI (by omega) (by decide)) dX7_flow_335 (fun zs335 H locs ezs335 w => ?_)
      refine lv_iinc (v := nI (k + 1)) (lv' := [(2, .int (nI (k + 1))), (3, .int zv315), (0, .ref (aa G 4 0))]) hx hb dX7_flow_336 hl (k := 2) rfl (nI_1 _) (by decide) rfl (fun ls hl => ?_)
      refine lv_goto (tgt := 283) hx hb dX7_flow_339 (by decide) ?_
      exact ih (k + 1) zs335 (by omega) (by omega) (by replace ezs335 := ezs335.symm; subst ezs335; replace ezs325 := ezs325.symm; subst ezs325; replace ezv315 := ezv315.symm; subst ezv315; simp only [itn, ← ev, b_X7_flow_283]) (by replace ezs335 := ezs335.symm; subst ezs335; replace ezs325 := ezs325.symm; subst ezs325; replace ezv315 := ezv315.symm; subst ezv315; exact (hv.trans Fm.u6).trans Fm.u7) _ _ _ w (lv_sub hl [2, 0] rfl)
set_option maxRecDepth 100000 in
set_option maxHeartbeats 4000000 in
theorem c_X7_flow {l : Launch} {G : GG} {σ : St} {ρ : Gr}  (B : Nat) (hB : B < 2 ^ 31) (hm : WFm B ρ) : MM l G yX7_flow cX7_flow 5 1 21 none [.ref (aa G 4 0)] (setG σ 4 ρ) (Qv G (setG σ 4 (g_X7_flow ρ))) := by
  refine MM.of (by decide) (Nat.le_of_ble_eq_true rfl) ?_
  intro p e s m below meth c ls X hr hlk w hl
  have hx := X.1.1
  have hb := X.1.2.1
  have hl : lv_has ls 5 [(0, .ref (aa G 4 0))] := hl
  refine lv_aload_n hx hb dX7_flow_0 rfl (lv_at hl 0 rfl) ?_
  refine lv_aload_n hx hb dX7_flow_1 rfl (lv_at hl 0 rfl) ?_
  refine gf7_186 X w dX7_flow_2 ?_
  refine k_i (rr_v (rest := []) X w mX7_kindAt kw966 (c_X7_kindAt (ρ 0 21) hm.m (hm.t (by omega))) m4_0 rfl rfl ⟨Nat.le_of_ble_eq_true rfl, Nat.le_of_ble_eq_true rfl⟩ rfl hl.1 rfl (Nat.le_of_ble_eq_true rfl) dX7_flow_5 ⟨Nat.zero_le _, Nat.zero_le _⟩) w (fun H locs w => ?_)
  refine lv_topi (fun zv8 ezv8 => ?_)
  refine lv_istore_n (lv' := [(1, .int zv8), (0, .ref (aa G 4 0))]) hx hb dX7_flow_8 rfl hl (by decide) rfl (fun ls hl => ?_)
  refine lv_iconst (v := 0) hx hb dX7_flow_9 (by decide) ?_
  refine lv_istore_n (lv' := [(2, .int 0), (1, .int zv8), (0, .ref (aa G 4 0))]) hx hb dX7_flow_10 rfl hl (by decide) rfl (fun ls hl => ?_)
  refine lp_X7_flow_11 X zv8 ρ hm.n2 (fun H locs ls w hl => ?_) ((2 * (ρ 0 0)).toNatClampNeg + 1) 0 _ (Nat.zero_le _) (Nat.lt_succ_of_le (Nat.sub_le _ _)) rfl Fm.rf _ _ _ w (lv_sub hl [2, 1, 0] rfl)
  obtain ⟨zl11, ezl11⟩ : ∃ y : Gr, y = (l_X7_flow_11 zv8 ρ) := ⟨_, rfl⟩
  rw [← ezl11] at w
  have hm : WFm B zl11 := by rw [ezl11]; exact hm.fr (flow11_Fm _ _)
  refine lv_iconst (v := 0) hx hb dX7_flow_90 (by decide) ?_
  refine lv_istore_n (lv' := [(2, .int 0), (0, .ref (aa G 4 0)), (1, .int zv8)]) hx hb dX7_flow_91 rfl hl (by decide) rfl (fun ls hl => ?_)
  refine lp_X7_flow_92 X zv8 zl11 B hm (fun H locs ls w hl => ?_) ((zl11 0 8).toNatClampNeg + 1) 0 _ (Nat.zero_le _) (Nat.lt_succ_of_le (Nat.sub_le _ _)) rfl Fm.rf _ _ _ w (lv_sub hl [1, 2, 0] rfl)
  obtain ⟨zl92, ezl92⟩ : ∃ y : Gr, y = (l_X7_flow_92 zv8 zl11) := ⟨_, rfl⟩
  rw [← ezl92] at w
  have hm : WFm B zl92 := by rw [ezl92]; exact hm.fr (flow92_Fm _ _)
  refine lv_iconst (v := 0) hx hb dX7_flow_224 (by decide) ?_
  refine lv_istore_n (lv' := [(2, .int 0), (0, .ref (aa G 4 0)), (1, .int zv8)]) hx hb dX7_flow_225 rfl hl (by decide) rfl (fun ls hl => ?_)
  refine lp_X7_flow_226 X  zl92 B hm (fun H locs ls w hl => ?_) ((zl92 0 15).toNatClampNeg + 1) 0 _ (Nat.zero_le _) (Nat.lt_succ_of_le (Nat.sub_le _ _)) rfl Fm.rf _ _ _ w (lv_sub hl [1, 0] rfl)
  obtain ⟨zl226, ezl226⟩ : ∃ y : Gr, y = (l_X7_flow_226 zl92) := ⟨_, rfl⟩
  rw [← ezl226] at w
  have hm : WFm B zl226 := by rw [ezl226]; exact hm.fr (flow226_Fm _)
  refine lv_iconst (v := 0) hx hb dX7_flow_281 (by decide) ?_
  refine lv_istore_n (lv' := [(2, .int 0), (0, .ref (aa G 4 0))]) hx hb dX7_flow_282 rfl hl (by decide) rfl (fun ls hl => ?_)
  refine lp_X7_flow_283 X  zl226 hm.n2 (fun H locs ls w hl => ?_) ((2 * (zl226 0 0)).toNatClampNeg + 1) 0 _ (Nat.zero_le _) (Nat.lt_succ_of_le (Nat.sub_le _ _)) rfl Fm.rf _ _ _ w (lv_sub hl [1, 0] rfl)
  obtain ⟨zl283, ezl283⟩ : ∃ y : Gr, y = (l_X7_flow_283 zl226) := ⟨_, rfl⟩
  rw [← ezl283] at w
  exact t_v X w hr hlk dX7_flow_342 (by replace ezl283 := ezl283.symm; subst ezl283; replace ezl226 := ezl226.symm; subst ezl226; replace ezl92 := ezl92.symm; subst ezl92; replace ezl11 := ezl11.symm; subst ezl11; replace ezv8 := ezv8.symm; subst ezv8; simp only [g_X7_flow])

theorem flow_Fm (ρ : Gr) : Fm ρ (g_X7_flow ρ) := (((flow11_Fm _ _).trans (flow92_Fm _ _)).trans (flow226_Fm _)).trans (flow283_Fm _)
