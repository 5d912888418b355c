noncomputable def b_X3_goOn_2 (y1 : Int32) (y2 : Int32) (k : Nat) (v : Gr) : Gr :=
  let zs9 : Gr := g_X3_goBy v y2
  zs9
noncomputable def l_X3_goOn_2 (y1 : Int32) (y2 : Int32) (v0 : Gr) : Gr := itn (b_X3_goOn_2 y1 y2) y1.toNatClampNeg v0
noncomputable def g_X3_goOn (ρ : Gr) (x1 : Int32) (x2 : Int32) : Gr :=
  let zl2 : Gr := (l_X3_goOn_2 x1 x2 ρ)
  zl2
set_option maxRecDepth 100000 in
set_option maxHeartbeats 4000000 in
theorem lp_X3_goOn_2 {l : Launch} {G : GG} {p : Program} {e : Env} {s : State} {m : MethodId} {args : Array Value} {below : List Frame} {meth : Method} {c : Code} {Q : State → Prop} {σ : St} {g : Nat} (hg : HG g) (X : Cx p m c cX3_goOn 4 s args RX3 G) (y1 : Int32) (y2 : Int32) (v0 : Gr) 
    (kk : ∀ (H : Heap) (locs : List Loc) (ls : Array Slot), Wh G s σ g (l_X3_goOn_2 y1 y2 v0) H locs → lv_has ls 4 [(0, .ref (aa G g 0)), (1, .int y1), (2, .int y2), (3, .int (nI (y1.toNatClampNeg)))] → W p l e (rmv 6 122) s m args below meth c H locs 0 0 Q (F0 m 18 ls [])) :
    ∀ (n k : Nat) (v : Gr), k ≤ y1.toNatClampNeg → y1.toNatClampNeg - k < n → v = itn (b_X3_goOn_2 y1 y2) k v0 → (WFh v) → ∀ (H : Heap) (locs : List Loc) (ls : Array Slot), Wh G s σ g v H locs → lv_has ls 4 [(0, .ref (aa G g 0)), (1, .int y1), (2, .int y2), (3, .int (nI k))] → W p l e (rmv 6 122) s m args below meth c H locs 0 0 Q (F0 m 2 ls []) := by
  have hx := X.1.1
  have hb := X.1.2.1
  intro n
  induction n with
  | zero => intro k v _ h; omega
  | succ n ih =>
    intro k v hkN hn ev hf H locs ls w hl
    refine lv_iload_n hx hb dX3_goOn_2 rfl (lv_at hl 3 rfl) ?_
    refine lv_iload_n hx hb dX3_goOn_3 rfl (lv_at hl 1 rfl) ?_
    refine lv_icmp_ge (tgt := 18) hx hb dX3_goOn_4 (by decide) (fun zc4 => ?_) (fun zc4 => ?_)
    · -- 18
      have hkE : k = y1.toNatClampNeg := lp_eq hkN zc4
      have ev2 : l_X3_goOn_2 y1 y2 v0 = v := by unfold l_X3_goOn_2; rw [← hkE]; exact ev.symm
      rw [ev2] at kk
      rw [hkE] at hl
      exact kk _ _ _ w (lv_sub hl [0, 1, 2, 3] rfl)
    · -- 7
      have hk : k < y1.toNatClampNeg := lp_lt hkN zc4
      refine lv_aload_n hx hb dX3_goOn_7 rfl (lv_at hl 0 rfl) ?_
      refine lv_iload_n hx hb dX3_goOn_8 rfl (lv_at hl 2 rfl) ?_
      refine k_v (rr_v (rest := []) X w mX3_goBy kw536 (c_X3_goBy hg y2 (by assumption)) (hg.in (by decide)) hg.sh rfl ⟨Nat.le_of_ble_eq_true rfl, Nat.le_of_ble_eq_true rfl⟩ rfl hl.1 rfl (Nat.le_of_ble_eq_true rfl) dX3_goOn_9 ⟨Nat.zero_le _, Nat.zero_le _⟩) w (fun H locs w => ?_)
      obtain ⟨zs9, ezs9⟩ : ∃ y : Gr, y = g_X3_goBy v y2 := ⟨_, rfl⟩; rw [← ezs9] at w
      refine lv_iinc (v := nI (k + 1)) (lv' := [(3, .int (nI (k + 1))), (0, .ref (aa G g 0)), (1, .int y1), (2, .int y2)]) hx hb dX3_goOn_12 hl (k := 3) rfl (nI_1 _) (by decide) rfl (fun ls hl => ?_)
      refine lv_goto (tgt := 2) hx hb dX3_goOn_15 (by decide) ?_
      exact ih (k + 1) zs9 (by omega) (by omega) (by replace ezs9 := ezs9.symm; subst ezs9; simp only [itn, ← ev, b_X3_goOn_2]) (by replace ezs9 := ezs9.symm; subst ezs9; exact hf.fr (goBy_Fr _ _)) _ _ _ w (lv_sub hl [1, 2, 3, 0] rfl)
set_option maxRecDepth 100000 in
set_option maxHeartbeats 4000000 in
theorem c_X3_goOn {l : Launch} {G : GG} {σ : St} {g : Nat} {ρ : Gr} (hg : HG g)  (x1 : Int32) (x2 : Int32) (hf : WFh ρ) : MM l G yX3_goOn cX3_goOn 4 6 122 none [.ref (aa G g 0), .int x1, .int x2] (setG σ g ρ) (Qv G (setG σ g (g_X3_goOn ρ x1 x2))) := by
  refine MM.of (by decide) (Nat.le_of_ble_eq_true rfl) ?_
  intro p e s m below meth c ls X hr hlk w hl
  have hx := X.1.1
  have hb := X.1.2.1
  have hl : lv_has ls 4 [(0, .ref (aa G g 0)), (1, .int x1), (2, .int x2)] := hl
  refine lv_iconst (v := 0) hx hb dX3_goOn_0 (by decide) ?_
  refine lv_istore_n (lv' := [(3, .int 0), (0, .ref (aa G g 0)), (1, .int x1), (2, .int x2)]) hx hb dX3_goOn_1 rfl hl (by decide) rfl (fun ls hl => ?_)
  refine lp_X3_goOn_2 hg X x1 x2 ρ  (fun H locs ls w hl => ?_) (x1.toNatClampNeg + 1) 0 _ (Nat.zero_le _) (Nat.lt_succ_of_le (Nat.sub_le _ _)) rfl hf _ _ _ w (lv_sub hl [1, 2, 3, 0] rfl)
  obtain ⟨zl2, ezl2⟩ : ∃ y : Gr, y = (l_X3_goOn_2 x1 x2 ρ) := ⟨_, rfl⟩
  rw [← ezl2] at w
  exact t_v X w hr hlk dX3_goOn_18 (by replace ezl2 := ezl2.symm; subst ezl2; simp only [g_X3_goOn])

theorem goOn_Fr (ρ : Gr) (n x : Int32) : Fr ρ (g_X3_goOn ρ n x) := itn_Fr (fun k v => goBy_Fr _ _) _ _

noncomputable def f_X3_tideCosts (ρ : Gr)  : Int64 :=
  ((f_X0_priceOfLacks ρ) + (((ρ 0 9).toInt64) * ((ρ 19 4).toInt64))) + (2 * ((ρ 0 10).toInt64))
set_option maxRecDepth 100000 in
set_option maxHeartbeats 4000000 in
theorem c_X3_tideCosts {l : Launch} {G : GG} {σ : St} {g : Nat} {ρ : Gr} (hg : HG g)  (hf : WFh ρ) : MM l G yX3_tideCosts cX3_tideCosts 1 4 78 (some .long) [.ref (aa G g 0)] (setG σ g ρ) (Ql G (f_X3_tideCosts ρ) (setG σ g ρ)) := by
  refine MM.of (by decide) (Nat.le_of_ble_eq_true rfl) ?_
  intro p e s m below meth c ls X hr hlk w hl
  have hx := X.1.1
  have hb := X.1.2.1
  have hl : lv_has ls 1 [(0, .ref (aa G g 0))] := hl
  refine lv_aload_n hx hb dX3_tideCosts_0 rfl (lv_at hl 0 rfl) ?_
  refine gf3_12 hg X w dX3_tideCosts_1 ?_
  refine k_l (rr_v (rest := []) X w mX0_priceOfLacks kw596 (c_X0_priceOfLacks hg hf.1) (hg.in (by decide)) hg.sh rfl ⟨Nat.le_of_ble_eq_true rfl, Nat.le_of_ble_eq_true rfl⟩ rfl hl.1 rfl (Nat.le_of_ble_eq_true rfl) dX3_tideCosts_4 ⟨Nat.zero_le _, Nat.zero_le _⟩) w (fun H locs w => ?_)
  refine lv_aload_n hx hb dX3_tideCosts_7 rfl (lv_at hl 0 rfl) ?_
  refine gf3_55 hg X w dX3_tideCosts_8 ?_
  refine lv_i2l hx hb dX3_tideCosts_11 rfl ?_
  refine lv_aload_n hx hb dX3_tideCosts_12 rfl (lv_at hl 0 rfl) ?_
  refine gf3_35 hg X w dX3_tideCosts_13 ?_
  refine gf3_212 hg X w dX3_tideCosts_16 ?_
  refine lv_i2l hx hb dX3_tideCosts_19 rfl ?_
  refine lv_lmul hx hb dX3_tideCosts_20 ?_
  change W _ _ _ _ _ _ _ _ _ _ _ _ _ _ _ (F0 m 21 ls _)
  refine lv_ladd hx hb dX3_tideCosts_21 ?_
  refine lv_ldc2 hx hb X.1.2.2.2.1 (X.1.2.2.2.2 _ kw601) dX3_tideCosts_22 ?_
  refine lv_aload_n hx hb dX3_tideCosts_25 rfl (lv_at hl 0 rfl) ?_
  refine gf3_58 hg X w dX3_tideCosts_26 ?_
  refine lv_i2l hx hb dX3_tideCosts_29 rfl ?_
  refine lv_lmul hx hb dX3_tideCosts_30 ?_
  refine lv_ladd hx hb dX3_tideCosts_31 ?_
  exact t_l X w hr hlk dX3_tideCosts_32 (by simp only [f_X3_tideCosts]) rfl

noncomputable def b_X3_runCosts_6 (y1 : Int32) (y2 : Int64) (k : Nat) (v : Int64 × Gr) : Bool × Nat × Int32 × Int64 × Gr :=
  if y1 ≤ (nI k) then
    (false, 39, 0, (v.1, v.2))
  else
    if 0 ≤ (lg_cmp v.1 y2) then
      (false, 39, 0, (v.1, v.2))
    else
      let zs21 : Gr := g_X3_goBy v.2 (-1)
      let zv31 : Int64 := v.1 + (f_X3_tideCosts zs21)
      (true, 0, 0, (zv31, zs21))
noncomputable def l_X3_runCosts_6 (y1 : Int32) (y2 : Int64) (v0 : Int64 × Gr) : Nat × Int32 × Int64 × Gr   := wl (b_X3_runCosts_6 y1 y2) (nn (y1.toNatClampNeg + 1)) 0 v0
noncomputable def f_X3_runCosts (ρ : Gr) (x1 : Int32) (x2 : Int64) : Int64 :=
  let zl6 : Nat × Int32 × Int64 × Gr := (l_X3_runCosts_6 x1 x2 (0, ρ))
  zl6.2.2.1
noncomputable def g_X3_runCosts (ρ : Gr) (x1 : Int32) (x2 : Int64) : Gr :=
  let zl6 : Nat × Int32 × Int64 × Gr := (l_X3_runCosts_6 x1 x2 (0, ρ))
  zl6.2.2.2
set_option maxRecDepth 100000 in
set_option maxHeartbeats 4000000 in
theorem lp_X3_runCosts_6 {l : Launch} {G : GG} {p : Program} {e : Env} {s : State} {m : MethodId} {args : Array Value} {below : List Frame} {meth : Method} {c : Code} {Q : State → Prop} {σ : St} {g : Nat} (hg : HG g) (X : Cx p m c cX3_runCosts 7 s args RX3 G) (y1 : Int32) (y2 : Int64)  (z : Nat × Int32 × Int64 × Gr)
    (kk39 : z.1 = 39 → ∀ (H : Heap) (locs : List Loc) (ls : Array Slot), Wh G s σ g z.2.2.2 H locs → lv_has ls 7 [(0, .ref (aa G g 0)), (1, .int y1), (2, .long y2), (4, .long z.2.2.1)] → W p l e (rmv 6 122) s m args below meth c H locs 0 0 Q (F0 m 39 ls [])) :
    ∀ (n k : Nat) (v : Int64 × Gr), k ≤ y1.toNatClampNeg → y1.toNatClampNeg - k < n → wl (b_X3_runCosts_6 y1 y2) n k v = z → (WFh v.2) → ∀ (H : Heap) (locs : List Loc) (ls : Array Slot), Wh G s σ g v.2 H locs → lv_has ls 7 [(0, .ref (aa G g 0)), (1, .int y1), (2, .long y2), (4, .long v.1), (6, .int (nI k))] → W p l e (rmv 6 122) s m args below meth c H locs 0 0 Q (F0 m 6 ls []) := by
  have hx := X.1.1
  have hb := X.1.2.1
  intro n
  induction n with
  | zero => intro k v _ h; omega
  | succ n ih =>
    intro k v hkN hn hz hf H locs ls w hl
    refine lv_iload hx hb dX3_runCosts_6 (lv_at hl 4 rfl) ?_
    refine lv_iload_n hx hb dX3_runCosts_8 rfl (lv_at hl 1 rfl) ?_
    refine lv_icmp_ge (tgt := 39) hx hb dX3_runCosts_9 (by decide) (fun zc9 => ?_) (fun zc9 => ?_)
    · -- 39
      have hz1 : z = ((39, 0, (v.1, v.2)) : Nat × Int32 × Int64 × Gr) := by rw [← hz]; exact wl_out (by simp only [b_X3_runCosts_6, if_pos zc9])
      subst hz1
      exact kk39 rfl _ _ _ w (lv_sub hl [0, 1, 2, 3] rfl)
    · -- 12
      have hk : k < y1.toNatClampNeg := (lp_lt hkN zc9)
      refine lv_lload hx hb dX3_runCosts_12 (lv_at hl 3 rfl) ?_
      refine lv_lload_n hx hb dX3_runCosts_14 rfl (lv_at hl 2 rfl) ?_
      refine W.lcmp hx hb dX3_runCosts_15 ?_
      refine lv_if_ge (tgt := 39) hx hb dX3_runCosts_16 (by decide) (fun zc16 => ?_) (fun zc16 => ?_)
      · -- 39
        have hz1 : z = ((39, 0, (v.1, v.2)) : Nat × Int32 × Int64 × Gr) := by rw [← hz]; exact wl_out (by simp only [b_X3_runCosts_6, if_neg zc9, if_pos zc16])
        subst hz1
        exact kk39 rfl _ _ _ w (lv_sub hl [0, 1, 2, 3] rfl)
      · -- 19
        refine lv_aload_n hx hb dX3_runCosts_19 rfl (lv_at hl 0 rfl) ?_
        refine lv_iconst (v := (-1)) hx hb dX3_runCosts_20 (by decide) ?_
        refine k_v (rr_v (rest := []) X w mX3_goBy kw536 (c_X3_goBy hg (-1) (by assumption)) (hg.in (by decide)) hg.sh rfl ⟨Nat.le_of_ble_eq_true rfl, Nat.le_of_ble_eq_true rfl⟩ rfl hl.1 rfl (Nat.le_of_ble_eq_true rfl) dX3_runCosts_21 ⟨Nat.zero_le _, Nat.zero_le _⟩) w (fun H locs w => ?_)
        obtain ⟨zs21, ezs21⟩ : ∃ y : Gr, y = g_X3_goBy v.2 (-1) := ⟨_, rfl⟩; rw [← ezs21] at w
        have hf : WFh zs21 := by rw [ezs21]; exact hf.fr (goBy_Fr _ _)
        refine lv_lload hx hb dX3_runCosts_24 (lv_at hl 3 rfl) ?_
        refine lv_aload_n hx hb dX3_runCosts_26 rfl (lv_at hl 0 rfl) ?_
        refine k_l (rr_v (rest := [.long v.1]) X w mX3_tideCosts kw592 (c_X3_tideCosts hg (by assumption)) (hg.in (by decide)) hg.sh rfl ⟨Nat.le_of_ble_eq_true rfl, Nat.le_of_ble_eq_true rfl⟩ rfl hl.1 rfl (Nat.le_of_ble_eq_true rfl) dX3_runCosts_27 ⟨Nat.zero_le _, Nat.zero_le _⟩) w (fun H locs w => ?_)
        refine lv_ladd hx hb dX3_runCosts_30 ?_
        refine lv_topl (fun zv31 ezv31 => ?_)
        refine lv_lstore (lv' := [(4, .long zv31), (0, .ref (aa G g 0)), (1, .int y1), (2, .long y2), (6, .int (nI k))]) hx hb dX3_runCosts_31 hl (by decide) rfl (fun ls hl => ?_)
        refine lv_iinc (v := nI (k + 1)) (lv' := [(6, .int (nI (k + 1))), (4, .long zv31), (0, .ref (aa G g 0)), (1, .int y1), (2, .long y2)]) hx hb dX3_runCosts_33 hl (k := 4) rfl (nI_1 _) (by decide) rfl (fun ls hl => ?_)
        refine lv_goto (tgt := 6) hx hb dX3_runCosts_36 (by decide) ?_
        have hk : k < y1.toNatClampNeg := (lp_lt hkN zc9)
        exact ih (k + 1) (zv31, zs21) (by omega) (by omega) (by rw [← hz]; replace ezv31 := ezv31.symm; subst ezv31; replace ezs21 := ezs21.symm; subst ezs21; exact (wl_go (t := 0) (r := 0) (by simp only [b_X3_runCosts_6, if_neg zc9, if_neg zc16])).symm) hf _ _ _ w (lv_sub hl [2, 3, 4, 1, 0] rfl)
set_option maxRecDepth 100000 in
set_option maxHeartbeats 4000000 in
theorem c_X3_runCosts {l : Launch} {G : GG} {σ : St} {g : Nat} {ρ : Gr} (hg : HG g)  (x1 : Int32) (x2 : Int64) (hf : WFh ρ) : MM l G yX3_runCosts cX3_runCosts 7 6 122 (some .long) [.ref (aa G g 0), .int x1, .long x2] (setG σ g ρ) (Ql G (f_X3_runCosts ρ x1 x2) (setG σ g (g_X3_runCosts ρ x1 x2))) := by
  refine MM.of (by decide) (Nat.le_of_ble_eq_true rfl) ?_
  intro p e s m below meth c ls X hr hlk w hl
  have hx := X.1.1
  have hb := X.1.2.1
  have hl : lv_has ls 7 [(0, .ref (aa G g 0)), (1, .int x1), (2, .long x2)] := hl
  refine lv_lconst (v := 0) hx hb dX3_runCosts_0 (by decide) ?_
  refine lv_lstore (lv' := [(4, .long 0), (0, .ref (aa G g 0)), (1, .int x1), (2, .long x2)]) hx hb dX3_runCosts_1 hl (by decide) rfl (fun ls hl => ?_)
  refine lv_iconst (v := 0) hx hb dX3_runCosts_3 (by decide) ?_
  refine lv_istore (lv' := [(6, .int 0), (4, .long 0), (0, .ref (aa G g 0)), (1, .int x1), (2, .long x2)]) hx hb dX3_runCosts_4 hl (by decide) rfl (fun ls hl => ?_)
  obtain ⟨zl6, ezl6⟩ : ∃ y : Nat × Int32 × Int64 × Gr, y = (l_X3_runCosts_6 x1 x2 (0, ρ)) := ⟨_, rfl⟩
  refine lp_X3_runCosts_6 hg X x1 x2  zl6 (fun hz39 H locs ls w hl => ?_) (nn (x1.toNatClampNeg + 1)) 0 (0, ρ) (Nat.zero_le _) (by rw [nn_eq]; exact Nat.lt_succ_of_le (Nat.sub_le _ _)) ezl6.symm hf _ _ _ w (lv_sub hl [2, 3, 4, 1, 0] rfl)
  · -- leaves at 39
    refine lv_lload hx hb dX3_runCosts_39 (lv_at hl 3 rfl) ?_
    exact t_l X w hr hlk dX3_runCosts_41 (by replace ezl6 := ezl6.symm; subst ezl6; simp only [f_X3_runCosts]) (by replace ezl6 := ezl6.symm; subst ezl6; simp only [g_X3_runCosts])

noncomputable def b_X3_firstLack_2 (y1 : Int32) (y2 : Int32) (k : Nat) (v : Gr) : Bool × Nat × Int32 × Gr :=
  if y1 ≤ (nI k) then
    (false, 30, 0, v)
  else
    let zs9 : Gr := g_X3_goBy v y2
    if (f_X0_someLack zs9) = 0 then
      (true, 0, 0, zs9)
    else
      (false, 23, nI k, zs9)
noncomputable def l_X3_firstLack_2 (y1 : Int32) (y2 : Int32) (v0 : Gr) : Nat × Int32 × Gr   := wl (b_X3_firstLack_2 y1 y2) (nn (y1.toNatClampNeg + 1)) 0 v0
noncomputable def f_X3_firstLack (ρ : Gr) (x1 : Int32) (x2 : Int32) : Int32 :=
  let zl2 : Nat × Int32 × Gr := (l_X3_firstLack_2 x1 x2 ρ)
  if zl2.1 = 30 then
    (-9)
  else
    zl2.2.1
noncomputable def g_X3_firstLack (ρ : Gr) (x1 : Int32) (x2 : Int32) : Gr :=
  let zl2 : Nat × Int32 × Gr := (l_X3_firstLack_2 x1 x2 ρ)
  zl2.2.2
set_option maxRecDepth 100000 in
set_option maxHeartbeats 4000000 in
theorem lp_X3_firstLack_2 {l : Launch} {G : GG} {p : Program} {e : Env} {s : State} {m : MethodId} {args : Array Value} {below : List Frame} {meth : Method} {c : Code} {Q : State → Prop} {σ : St} {g : Nat} (hg : HG g) (X : Cx p m c cX3_firstLack 4 s args RX3 G) (y1 : Int32) (y2 : Int32)  (z : Nat × Int32 × Gr)
    (kk30 : z.1 = 30 → ∀ (H : Heap) (locs : List Loc) (ls : Array Slot), Wh G s σ g z.2.2 H locs → lv_has ls 4 [(0, .ref (aa G g 0)), (1, .int y1), (2, .int y2)] → W p l e (rmv 6 122) s m args below meth c H locs 0 0 Q (F0 m 30 ls []))
    (kk23 : z.1 = 23 → ∀ (H : Heap) (locs : List Loc) (ls : Array Slot), Wh G s σ g z.2.2 H locs → lv_has ls 4 [(0, .ref (aa G g 0)), (1, .int y1), (2, .int y2)] → W p l e (rmv 6 122) s m args below meth c H locs 0 0 Q (F0 m 23 ls [.int z.2.1])) :
    ∀ (n k : Nat) (v : Gr), k ≤ y1.toNatClampNeg → y1.toNatClampNeg - k < n → wl (b_X3_firstLack_2 y1 y2) n k v = z → (WFh v) → ∀ (H : Heap) (locs : List Loc) (ls : Array Slot), Wh G s σ g v H locs → lv_has ls 4 [(0, .ref (aa G g 0)), (1, .int y1), (2, .int y2), (3, .int (nI k))] → W p l e (rmv 6 122) s m args below meth c H locs 0 0 Q (F0 m 2 ls []) := by
  have hx := X.1.1
  have hb := X.1.2.1
  intro n
  induction n with
  | zero => intro k v _ h; omega
  | succ n ih =>
    intro k v hkN hn hz hf H locs ls w hl
    refine lv_iload_n hx hb dX3_firstLack_2 rfl (lv_at hl 3 rfl) ?_
    refine lv_iload_n hx hb dX3_firstLack_3 rfl (lv_at hl 1 rfl) ?_
    refine lv_icmp_ge (tgt := 30) hx hb dX3_firstLack_4 (by decide) (fun zc4 => ?_) (fun zc4 => ?_)
    · -- 30
      have hz1 : z = ((30, 0, v) : Nat × Int32 × Gr) := by rw [← hz]; exact wl_out (by simp only [b_X3_firstLack_2, if_pos zc4])
      subst hz1
      exact kk30 rfl _ _ _ w (lv_sub hl [0, 1, 2] rfl)
    · -- 7
      have hk : k < y1.toNatClampNeg := (lp_lt hkN zc4)
      refine lv_aload_n hx hb dX3_firstLack_7 rfl (lv_at hl 0 rfl) ?_
      refine lv_iload_n hx hb dX3_firstLack_8 rfl (lv_at hl 2 rfl) ?_
      refine k_v (rr_v (rest := []) X w mX3_goBy kw536 (c_X3_goBy hg y2 (by assumption)) (hg.in (by decide)) hg.sh rfl ⟨Nat.le_of_ble_eq_true rfl, Nat.le_of_ble_eq_true rfl⟩ rfl hl.1 rfl (Nat.le_of_ble_eq_true rfl) dX3_firstLack_9 ⟨Nat.zero_le _, Nat.zero_le _⟩) w (fun H locs w => ?_)
      obtain ⟨zs9, ezs9⟩ : ∃ y : Gr, y = g_X3_goBy v y2 := ⟨_, rfl⟩; rw [← ezs9] at w
      refine lv_aload_n hx hb dX3_firstLack_12 rfl (lv_at hl 0 rfl) ?_
      refine gf3_12 hg X w dX3_firstLack_13 ?_
      refine k_i (rr_v (rest := []) X w mX0_someLack kw610 (c_X0_someLack hg ) (hg.in (by decide)) hg.sh rfl ⟨Nat.le_of_ble_eq_true rfl, Nat.le_of_ble_eq_true rfl⟩ rfl hl.1 rfl (Nat.le_of_ble_eq_true rfl) dX3_firstLack_16 ⟨Nat.zero_le _, Nat.zero_le _⟩) w (fun H locs w => ?_)
      refine lv_if_eq (tgt := 24) hx hb dX3_firstLack_19 (by decide) (fun zc19 => ?_) (fun zc19 => ?_)
      · -- 24
        refine lv_iinc (v := nI (k + 1)) (lv' := [(3, .int (nI (k + 1))), (0, .ref (aa G g 0)), (1, .int y1), (2, .int y2)]) hx hb dX3_firstLack_24 hl (k := 3) rfl (nI_1 _) (by decide) rfl (fun ls hl => ?_)
        refine lv_goto (tgt := 2) hx hb dX3_firstLack_27 (by decide) ?_
        have hk : k < y1.toNatClampNeg := (lp_lt hkN zc4)
        exact ih (k + 1) zs9 (by omega) (by omega) (by rw [← hz]; replace ezs9 := ezs9.symm; subst ezs9; exact (wl_go (t := 0) (r := 0) (by simp only [b_X3_firstLack_2, if_neg zc4, if_pos zc19])).symm) (by replace ezs9 := ezs9.symm; subst ezs9; exact hf.fr (goBy_Fr _ _)) _ _ _ w (lv_sub hl [1, 2, 3, 0] rfl)
      · -- 22
        refine lv_iload_n hx hb dX3_firstLack_22 rfl (lv_at hl 3 rfl) ?_
        have hz1 : z = ((23, nI k, zs9) : Nat × Int32 × Gr) := by rw [← hz]; replace ezs9 := ezs9.symm; subst ezs9; exact wl_out (by simp only [b_X3_firstLack_2, if_neg zc4, if_neg zc19])
        subst hz1
        exact kk23 rfl _ _ _ w (lv_sub hl [0, 1, 2] rfl)
set_option maxRecDepth 100000 in
set_option maxHeartbeats 4000000 in
theorem c_X3_firstLack {l : Launch} {G : GG} {σ : St} {g : Nat} {ρ : Gr} (hg : HG g)  (x1 : Int32) (x2 : Int32) (hf : WFh ρ) : MM l G yX3_firstLack cX3_firstLack 4 6 122 (some .int) [.ref (aa G g 0), .int x1, .int x2] (setG σ g ρ) (Qi G (f_X3_firstLack ρ x1 x2) (setG σ g (g_X3_firstLack ρ x1 x2))) := by
  refine MM.of (by decide) (Nat.le_of_ble_eq_true rfl) ?_
  intro p e s m below meth c ls X hr hlk w hl
  have hx := X.1.1
  have hb := X.1.2.1
  have hl : lv_has ls 4 [(0, .ref (aa G g 0)), (1, .int x1), (2, .int x2)] := hl
  refine lv_iconst (v := 0) hx hb dX3_firstLack_0 (by decide) ?_
  refine lv_istore_n (lv' := [(3, .int 0), (0, .ref (aa G g 0)), (1, .int x1), (2, .int x2)]) hx hb dX3_firstLack_1 rfl hl (by decide) rfl (fun ls hl => ?_)
  obtain ⟨zl2, ezl2⟩ : ∃ y : Nat × Int32 × Gr, y = (l_X3_firstLack_2 x1 x2 ρ) := ⟨_, rfl⟩
  refine lp_X3_firstLack_2 hg X x1 x2  zl2 (fun hz30 H locs ls w hl => ?_) (fun hz23 H locs ls w hl => ?_) (nn (x1.toNatClampNeg + 1)) 0 ρ (Nat.zero_le _) (by rw [nn_eq]; exact Nat.lt_succ_of_le (Nat.sub_le _ _)) ezl2.symm hf _ _ _ w (lv_sub hl [1, 2, 3, 0] rfl)
  · -- leaves at 30
    refine lv_bipush (v := (-9)) hx hb dX3_firstLack_30 (by decide) ?_
    exact t_i X w hr hlk dX3_firstLack_32 (by replace ezl2 := ezl2.symm; subst ezl2; simp only [f_X3_firstLack, if_pos hz30]) (by replace ezl2 := ezl2.symm; subst ezl2; simp only [g_X3_firstLack, if_pos hz30])
  · -- leaves at 23
    have hn30 : ¬ zl2.1 = 30 := by rw [hz23]; decide
    exact t_i X w hr hlk dX3_firstLack_23 (by replace ezl2 := ezl2.symm; subst ezl2; simp only [f_X3_firstLack, if_neg hn30]) (by replace ezl2 := ezl2.symm; subst ezl2; simp only [g_X3_firstLack, if_neg hn30])
