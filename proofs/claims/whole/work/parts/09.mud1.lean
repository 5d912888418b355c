noncomputable def b_X6_feed_42 (y1 : Int32) (y2 : Int64) (k : Nat) (v : St) : St :=
  let zs64 : St := setG v 0 (g_X1_append (v 0) ((((y2.toUInt64 >>> ((8 * (nI k)).toInt64.toUInt64 &&& Int64.toUInt64 63)).toInt64).toInt32) &&& 255))
  zs64
noncomputable def l_X6_feed_42 (y1 : Int32) (y2 : Int64) (v0 : St) : St := itn (b_X6_feed_42 y1 y2) y1.toNatClampNeg v0
noncomputable def f_X6_feed (σ : St) (x1 : Int32) (x2 : Int64) : Int32 :=
  if 1 ≤ x1 then
    if 8 < x1 then
      let zs35 : St := setG σ 0 (g_X6_refuse (σ 0) (-6))
      f_X6_refuse (σ 0) (-6)
    else
      if ((σ 0 1 0) + x1) ≤ 96 then
        let zl42 : St := (l_X6_feed_42 x1 x2 σ)
        zl42 0 1 0
      else
        let zs35_2 : St := setG σ 0 (g_X6_refuse (σ 0) (-6))
        f_X6_refuse (σ 0) (-6)
  else
    let zs8 : St := setG σ 0 (g_X6_refuse (σ 0) (-4))
    f_X6_refuse (σ 0) (-4)
noncomputable def g_X6_feed (σ : St) (x1 : Int32) (x2 : Int64) : St :=
  if 1 ≤ x1 then
    if 8 < x1 then
      let zs35 : St := setG σ 0 (g_X6_refuse (σ 0) (-6))
      zs35
    else
      if ((σ 0 1 0) + x1) ≤ 96 then
        let zl42 : St := (l_X6_feed_42 x1 x2 σ)
        zl42
      else
        let zs35_2 : St := setG σ 0 (g_X6_refuse (σ 0) (-6))
        zs35_2
  else
    let zs8 : St := setG σ 0 (g_X6_refuse (σ 0) (-4))
    zs8
set_option maxRecDepth 100000 in
set_option maxHeartbeats 4000000 in
theorem lp_X6_feed_42 {l : Launch} {G : GG} {p : Program} {e : Env} {s : State} {m : MethodId} {args : Array Value} {below : List Frame} {meth : Method} {c : Code} {Q : State → Prop} (X : Cx p m c cX6_feed 5 s args RX6 G) (y1 : Int32) (y2 : Int64) (v0 : St) 
    (kk : ∀ (H : Heap) (locs : List Loc) (ls : Array Slot), Wd G s (l_X6_feed_42 y1 y2 v0) H locs → lv_has ls 5 [(0, .ref (aa G 0 0)), (1, .int y1), (2, .long y2), (4, .int (nI (y1.toNatClampNeg)))] → W p l e (rmv 1 22) s m args below meth c H locs 0 0 Q (F0 m 73 ls [])) :
    ∀ (n k : Nat) (v : St), k ≤ y1.toNatClampNeg → y1.toNatClampNeg - k < n → v = itn (b_X6_feed_42 y1 y2) k v0 → ∀ (H : Heap) (locs : List Loc) (ls : Array Slot), Wd G s v H locs → lv_has ls 5 [(0, .ref (aa G 0 0)), (1, .int y1), (2, .long y2), (4, .int (nI k))] → W p l e (rmv 1 22) s m args below meth c H locs 0 0 Q (F0 m 42 ls []) := by
  have hx := X.1.1
  have hb := X.1.2.1
  intro n
  induction n with
  | zero => intro k v _ h; omega
  | succ n ih =>
    intro k v hkN hn ev H locs ls w hl
    refine lv_iload hx hb dX6_feed_42 (lv_at hl 3 rfl) ?_
    refine lv_iload_n hx hb dX6_feed_44 rfl (lv_at hl 1 rfl) ?_
    refine lv_icmp_ge (tgt := 73) hx hb dX6_feed_45 (by decide) (fun zc45 => ?_) (fun zc45 => ?_)
    · -- 73
      have hkE : k = y1.toNatClampNeg := lp_eq hkN zc45
      have ev2 : l_X6_feed_42 y1 y2 v0 = v := by unfold l_X6_feed_42; rw [← hkE]; exact ev.symm
      rw [ev2] at kk
      rw [hkE] at hl
      exact kk _ _ _ w (lv_sub hl [0, 1, 2, 3] rfl)
    · -- 48
      have hk : k < y1.toNatClampNeg := lp_lt hkN zc45
      refine lv_aload_n hx hb dX6_feed_48 rfl (lv_at hl 0 rfl) ?_
      refine gf6_29 X (w.at 0) dX6_feed_49 ?_
      refine lv_lload_n hx hb dX6_feed_52 rfl (lv_at hl 2 rfl) ?_
      refine lv_bipush (v := 8) hx hb dX6_feed_53 (by decide) ?_
      refine lv_iload hx hb dX6_feed_55 (lv_at hl 3 rfl) ?_
      refine lv_imul hx hb dX6_feed_57 ?_
      refine lv_lushr hx hb dX6_feed_58 rfl ?_
      refine lv_l2i hx hb dX6_feed_59 rfl ?_
      refine lv_sipush (v := 255) hx hb dX6_feed_60 (by decide) ?_
      refine lv_iand hx hb dX6_feed_63 ?_
      refine k_v (rr_v (rest := []) X (w.at 0) mX1_append kw274 (c_X1_append ((((y2.toUInt64 >>> ((8 * (nI k)).toInt64.toUInt64 &&& Int64.toUInt64 63)).toInt64).toInt32) &&& 255)) m0_1 rfl rfl ⟨Nat.le_of_ble_eq_true rfl, Nat.le_of_ble_eq_true rfl⟩ rfl hl.1 rfl (Nat.le_of_ble_eq_true rfl) dX6_feed_64 ⟨Nat.zero_le _, Nat.zero_le _⟩) (w.at 0) (fun H locs w => ?_)
      obtain ⟨zs64, ezs64⟩ : ∃ y : St, y = setG v 0 (g_X1_append (v 0) ((((y2.toUInt64 >>> ((8 * (nI k)).toInt64.toUInt64 &&& Int64.toUInt64 63)).toInt64).toInt32) &&& 255)) := ⟨_, rfl⟩; rw [← ezs64] at w
      change W _ _ _ _ _ _ _ _ _ _ _ _ _ _ _ (F0 m 67 ls _)
      refine lv_iinc (v := nI (k + 1)) (lv' := [(4, .int (nI (k + 1))), (0, .ref (aa G 0 0)), (1, .int y1), (2, .long y2)]) hx hb dX6_feed_67 hl (k := 3) rfl (nI_1 _) (by decide) rfl (fun ls hl => ?_)
      refine lv_goto (tgt := 42) hx hb dX6_feed_70 (by decide) ?_
      exact ih (k + 1) zs64 (by omega) (by omega) (by replace ezs64 := ezs64.symm; subst ezs64; simp only [itn, ← ev, b_X6_feed_42])  _ _ _ w (lv_sub hl [1, 2, 3, 0] rfl)
set_option maxRecDepth 100000 in
set_option maxHeartbeats 4000000 in
theorem c_X6_feed {l : Launch} {G : GG} {σ : St}  (x1 : Int32) (x2 : Int64) : MM l G yX6_feed cX6_feed 5 1 22 (some .int) [.ref (aa G 0 0), .int x1, .long x2] σ (Qi G (f_X6_feed σ x1 x2) (g_X6_feed σ x1 x2)) := by
  refine MM.of (by decide) (Nat.le_of_ble_eq_true rfl) ?_
  intro p e s m below meth c ls X hr hlk w hl
  have hx := X.1.1
  have hb := X.1.2.1
  have hl : lv_has ls 5 [(0, .ref (aa G 0 0)), (1, .int x1), (2, .long x2)] := hl
  refine lv_iload_n hx hb dX6_feed_0 rfl (lv_at hl 1 rfl) ?_
  refine lv_iconst (v := 1) hx hb dX6_feed_1 (by decide) ?_
  refine lv_icmp_ge (tgt := 12) hx hb dX6_feed_2 (by decide) (fun zc2 => ?_) (fun zc2 => ?_)
  · -- 12
    refine lv_iload_n hx hb dX6_feed_12 rfl (lv_at hl 1 rfl) ?_
    refine lv_bipush (v := 8) hx hb dX6_feed_13 (by decide) ?_
    refine lv_icmp_gt (tgt := 32) hx hb dX6_feed_15 (by decide) (fun zc15 => ?_) (fun zc15 => ?_)
    · -- 32
      refine lv_aload_n hx hb dX6_feed_32 rfl (lv_at hl 0 rfl) ?_
      refine lv_bipush (v := (-6)) hx hb dX6_feed_33 (by decide) ?_
      refine k_i (rr_v (rest := []) X (w.at 0) mX6_refuse kw270 (c_X6_refuse (-6)) m0_0 rfl rfl ⟨Nat.le_of_ble_eq_true rfl, Nat.le_of_ble_eq_true rfl⟩ rfl hl.1 rfl (Nat.le_of_ble_eq_true rfl) dX6_feed_35 ⟨Nat.zero_le _, Nat.zero_le _⟩) (w.at 0) (fun H locs w => ?_)
      obtain ⟨zs35, ezs35⟩ : ∃ y : St, y = setG σ 0 (g_X6_refuse (σ 0) (-6)) := ⟨_, rfl⟩; rw [← ezs35] at w
      exact t_i X w hr hlk dX6_feed_38 (by replace ezs35 := ezs35.symm; subst ezs35; simp only [f_X6_feed, if_pos zc2, if_pos zc15]) (by replace ezs35 := ezs35.symm; subst ezs35; simp only [g_X6_feed, if_pos zc2, if_pos zc15])
    · -- 18
      refine lv_aload_n hx hb dX6_feed_18 rfl (lv_at hl 0 rfl) ?_
      refine gf6_29 X (w.at 0) dX6_feed_19 ?_
      refine gf6_48 X (w.at 0) dX6_feed_22 ?_
      refine lv_iload_n hx hb dX6_feed_25 rfl (lv_at hl 1 rfl) ?_
      refine lv_iadd hx hb dX6_feed_26 ?_
      refine lv_bipush (v := 96) hx hb dX6_feed_27 (by decide) ?_
      refine lv_icmp_le (tgt := 39) hx hb dX6_feed_29 (by decide) (fun zc29 => ?_) (fun zc29 => ?_)
      · -- 39
        refine lv_iconst (v := 0) hx hb dX6_feed_39 (by decide) ?_
        refine lv_istore (lv' := [(4, .int 0), (0, .ref (aa G 0 0)), (1, .int x1), (2, .long x2)]) hx hb dX6_feed_40 hl (by decide) rfl (fun ls hl => ?_)
        refine lp_X6_feed_42 X x1 x2 σ  (fun H locs ls w hl => ?_) (x1.toNatClampNeg + 1) 0 _ (Nat.zero_le _) (Nat.lt_succ_of_le (Nat.sub_le _ _)) rfl  _ _ _ w (lv_sub hl [1, 2, 3, 0] rfl)
        obtain ⟨zl42, ezl42⟩ : ∃ y : St, y = (l_X6_feed_42 x1 x2 σ) := ⟨_, rfl⟩
        rw [← ezl42] at w
        refine lv_aload_n hx hb dX6_feed_73 rfl (lv_at hl 0 rfl) ?_
        refine gf6_29 X (w.at 0) dX6_feed_74 ?_
        refine gf6_48 X (w.at 0) dX6_feed_77 ?_
        exact t_i X w hr hlk dX6_feed_80 (by replace ezl42 := ezl42.symm; subst ezl42; simp only [f_X6_feed, if_pos zc2, if_neg zc15, if_pos zc29]) (by replace ezl42 := ezl42.symm; subst ezl42; simp only [g_X6_feed, if_pos zc2, if_neg zc15, if_pos zc29])
      · -- 32
        refine lv_aload_n hx hb dX6_feed_32 rfl (lv_at hl 0 rfl) ?_
        refine lv_bipush (v := (-6)) hx hb dX6_feed_33 (by decide) ?_
        refine k_i (rr_v (rest := []) X (w.at 0) mX6_refuse kw270 (c_X6_refuse (-6)) m0_0 rfl rfl ⟨Nat.le_of_ble_eq_true rfl, Nat.le_of_ble_eq_true rfl⟩ rfl hl.1 rfl (Nat.le_of_ble_eq_true rfl) dX6_feed_35 ⟨Nat.zero_le _, Nat.zero_le _⟩) (w.at 0) (fun H locs w => ?_)
        obtain ⟨zs35_2, ezs35_2⟩ : ∃ y : St, y = setG σ 0 (g_X6_refuse (σ 0) (-6)) := ⟨_, rfl⟩; rw [← ezs35_2] at w
        exact t_i X w hr hlk dX6_feed_38 (by replace ezs35_2 := ezs35_2.symm; subst ezs35_2; simp only [f_X6_feed, if_pos zc2, if_neg zc15, if_neg zc29]) (by replace ezs35_2 := ezs35_2.symm; subst ezs35_2; simp only [g_X6_feed, if_pos zc2, if_neg zc15, if_neg zc29])
  · -- 5
    refine lv_aload_n hx hb dX6_feed_5 rfl (lv_at hl 0 rfl) ?_
    refine lv_bipush (v := (-4)) hx hb dX6_feed_6 (by decide) ?_
    refine k_i (rr_v (rest := []) X (w.at 0) mX6_refuse kw270 (c_X6_refuse (-4)) m0_0 rfl rfl ⟨Nat.le_of_ble_eq_true rfl, Nat.le_of_ble_eq_true rfl⟩ rfl hl.1 rfl (Nat.le_of_ble_eq_true rfl) dX6_feed_8 ⟨Nat.zero_le _, Nat.zero_le _⟩) (w.at 0) (fun H locs w => ?_)
    obtain ⟨zs8, ezs8⟩ : ∃ y : St, y = setG σ 0 (g_X6_refuse (σ 0) (-4)) := ⟨_, rfl⟩; rw [← ezs8] at w
    exact t_i X w hr hlk dX6_feed_11 (by replace ezs8 := ezs8.symm; subst ezs8; simp only [f_X6_feed, if_neg zc2]) (by replace ezs8 := ezs8.symm; subst ezs8; simp only [g_X6_feed, if_neg zc2])

noncomputable def f_X6_coast (σ : St)  : Int32 :=
  let zs8 : St := setG σ 2 (g_X3_become (σ 2) (σ 1))
  let zs19 : St := g_X1_readInto zs8
  let zv22 : Int32 := f_X1_readInto zs8
  let zs28 : St := setG zs19 0 (up (zs19 0) 1 0 0)
  if zv22 < 0 then
    zv22
  else
    let zs43 : St := setG zs28 1 (g_X3_become (zs28 1) (zs28 2))
    zv22
noncomputable def g_X6_coast (σ : St)  : St :=
  let zs8 : St := setG σ 2 (g_X3_become (σ 2) (σ 1))
  let zs19 : St := g_X1_readInto zs8
  let zv22 : Int32 := f_X1_readInto zs8
  let zs28 : St := setG zs19 0 (up (zs19 0) 1 0 0)
  if zv22 < 0 then
    zs28
  else
    let zs43 : St := setG zs28 1 (g_X3_become (zs28 1) (zs28 2))
    zs43
set_option maxRecDepth 100000 in
set_option maxHeartbeats 4000000 in
theorem c_X6_coast {l : Launch} {G : GG} {σ : St}  (hf : WFh (σ 1)) : MM l G yX6_coast cX6_coast 2 6 126 (some .int) [.ref (aa G 0 0)] σ (Qi G (f_X6_coast σ) (g_X6_coast σ)) := by
  refine MM.of (by decide) (Nat.le_of_ble_eq_true rfl) ?_
  intro p e s m below meth c ls X hr hlk w hl
  have hx := X.1.1
  have hb := X.1.2.1
  have hl : lv_has ls 2 [(0, .ref (aa G 0 0))] := hl
  refine lv_aload_n hx hb dX6_coast_0 rfl (lv_at hl 0 rfl) ?_
  refine gf6_16 X (w.at 0) dX6_coast_1 ?_
  refine lv_aload_n hx hb dX6_coast_4 rfl (lv_at hl 0 rfl) ?_
  refine gf6_10 X (w.at 0) dX6_coast_5 ?_
  refine k_v (rr_v (rest := []) X (w.at 2) mX3_become kw282 (c_X3_become HG2 HG1 (by decide) rfl ) (HG2.in (by decide)) rfl rfl ⟨Nat.le_of_ble_eq_true rfl, Nat.le_of_ble_eq_true rfl⟩ rfl hl.1 rfl (Nat.le_of_ble_eq_true rfl) dX6_coast_8 ⟨Nat.zero_le _, Nat.zero_le _⟩) (w.at 2) (fun H locs w => ?_)
  obtain ⟨zs8, ezs8⟩ : ∃ y : St, y = setG σ 2 (g_X3_become (σ 2) (σ 1)) := ⟨_, rfl⟩; rw [← ezs8] at w
  have hm : WFh (zs8 2) := by rw [ezs8]; exact become_WF hf
  refine lv_aload_n hx hb dX6_coast_11 rfl (lv_at hl 0 rfl) ?_
  refine gf6_29 X (w.at 0) dX6_coast_12 ?_
  refine lv_aload_n hx hb dX6_coast_15 rfl (lv_at hl 0 rfl) ?_
  refine gf6_16 X (w.at 0) dX6_coast_16 ?_
  refine k_i (rr_v (rest := []) X w mX1_readInto kw307 (c_X1_readInto (by assumption)) m0_1 rfl rfl ⟨Nat.le_of_ble_eq_true rfl, Nat.le_of_ble_eq_true rfl⟩ rfl hl.1 rfl (Nat.le_of_ble_eq_true rfl) dX6_coast_19 ⟨Nat.zero_le _, Nat.zero_le _⟩) w (fun H locs w => ?_)
  obtain ⟨zs19, ezs19⟩ : ∃ y : St, y = g_X1_readInto zs8 := ⟨_, rfl⟩; rw [← ezs19] at w
  refine lv_topi (fun zv22 ezv22 => ?_)
  refine lv_istore_n (lv' := [(1, .int zv22), (0, .ref (aa G 0 0))]) hx hb dX6_coast_22 rfl hl (by decide) rfl (fun ls hl => ?_)
  change W _ _ _ _ _ _ _ _ _ _ _ _ _ _ _ (F0 m 23 ls _)
  refine lv_aload_n hx hb dX6_coast_23 rfl (lv_at hl 1 rfl) ?_
  refine gf6_29 X (w.at 0) dX6_coast_24 ?_
  refine lv_iconst (v := 0) hx hb dX6_coast_27 (by decide) ?_
  refine pf6_48 X (w.at 0) dX6_coast_28 (fun zq H locs ezq w => ?_)
  obtain ⟨zs28, ezs28⟩ : ∃ y : St, y = setG zs19 0 (up (zs19 0) 1 0 0) := ⟨_, rfl⟩; have w : Wd G s zs28 H locs := by rw [ezs28, ← ezq]; exact w
  refine lv_iload_n hx hb dX6_coast_31 rfl (lv_at hl 0 rfl) ?_
  refine lv_if_lt (tgt := 46) hx hb dX6_coast_32 (by decide) (fun zc32 => ?_) (fun zc32 => ?_)
  · -- 46
    refine lv_iload_n hx hb dX6_coast_46 rfl (lv_at hl 0 rfl) ?_
    exact t_i X w hr hlk dX6_coast_47 (by replace ezs28 := ezs28.symm; subst ezs28; replace ezv22 := ezv22.symm; subst ezv22; replace ezs19 := ezs19.symm; subst ezs19; replace ezs8 := ezs8.symm; subst ezs8; simp only [f_X6_coast, if_pos zc32]) (by replace ezs28 := ezs28.symm; subst ezs28; replace ezv22 := ezv22.symm; subst ezv22; replace ezs19 := ezs19.symm; subst ezs19; replace ezs8 := ezs8.symm; subst ezs8; simp only [g_X6_coast, if_pos zc32])
  · -- 35
    refine lv_aload_n hx hb dX6_coast_35 rfl (lv_at hl 1 rfl) ?_
    refine gf6_10 X (w.at 0) dX6_coast_36 ?_
    refine lv_aload_n hx hb dX6_coast_39 rfl (lv_at hl 1 rfl) ?_
    refine gf6_16 X (w.at 0) dX6_coast_40 ?_
    refine k_v (rr_v (rest := []) X (w.at 1) mX3_become kw282 (c_X3_become HG1 HG2 (by decide) rfl ) (HG1.in (by decide)) rfl rfl ⟨Nat.le_of_ble_eq_true rfl, Nat.le_of_ble_eq_true rfl⟩ rfl hl.1 rfl (Nat.le_of_ble_eq_true rfl) dX6_coast_43 ⟨Nat.zero_le _, Nat.zero_le _⟩) (w.at 1) (fun H locs w => ?_)
    obtain ⟨zs43, ezs43⟩ : ∃ y : St, y = setG zs28 1 (g_X3_become (zs28 1) (zs28 2)) := ⟨_, rfl⟩; rw [← ezs43] at w
    refine lv_iload_n hx hb dX6_coast_46 rfl (lv_at hl 0 rfl) ?_
    exact t_i X w hr hlk dX6_coast_47 (by replace ezs43 := ezs43.symm; subst ezs43; replace ezs28 := ezs28.symm; subst ezs28; replace ezv22 := ezv22.symm; subst ezv22; replace ezs19 := ezs19.symm; subst ezs19; replace ezs8 := ezs8.symm; subst ezs8; simp only [f_X6_coast, if_neg zc32]) (by replace ezs43 := ezs43.symm; subst ezs43; replace ezs28 := ezs28.symm; subst ezs28; replace ezv22 := ezv22.symm; subst ezv22; replace ezs19 := ezs19.symm; subst ezs19; replace ezs8 := ezs8.symm; subst ezs8; simp only [g_X6_coast, if_neg zc32])

noncomputable def f_X6_cell (σ : St) (x1 : Int32) (x2 : Int32) : Int32 :=
  let zs10 : St := setG σ 1 (g_X0_add (σ 1) x1 x2)
  let zs13 : St := setG zs10 0 (g_X6_refuseIfBelow0 (zs10 0) (f_X0_add (σ 1) x1 x2))
  f_X6_refuseIfBelow0 (zs10 0) (f_X0_add (σ 1) x1 x2)
noncomputable def g_X6_cell (σ : St) (x1 : Int32) (x2 : Int32) : St :=
  let zs10 : St := setG σ 1 (g_X0_add (σ 1) x1 x2)
  let zs13 : St := setG zs10 0 (g_X6_refuseIfBelow0 (zs10 0) (f_X0_add (σ 1) x1 x2))
  zs13
set_option maxRecDepth 100000 in
set_option maxHeartbeats 4000000 in
theorem c_X6_cell {l : Launch} {G : GG} {σ : St}  (x1 : Int32) (x2 : Int32) : MM l G yX6_cell cX6_cell 3 2 43 (some .int) [.ref (aa G 0 0), .int x1, .int x2] σ (Qi G (f_X6_cell σ x1 x2) (g_X6_cell σ x1 x2)) := by
  refine MM.of (by decide) (Nat.le_of_ble_eq_true rfl) ?_
  intro p e s m below meth c ls X hr hlk w hl
  have hx := X.1.1
  have hb := X.1.2.1
  have hl : lv_has ls 3 [(0, .ref (aa G 0 0)), (1, .int x1), (2, .int x2)] := hl
  refine lv_aload_n hx hb dX6_cell_0 rfl (lv_at hl 0 rfl) ?_
  refine lv_aload_n hx hb dX6_cell_1 rfl (lv_at hl 0 rfl) ?_
  refine gf6_10 X (w.at 0) dX6_cell_2 ?_
  refine gf6_63 HG1 X (w.at 1) dX6_cell_5 ?_
  refine lv_iload_n hx hb dX6_cell_8 rfl (lv_at hl 1 rfl) ?_
  refine lv_iload_n hx hb dX6_cell_9 rfl (lv_at hl 2 rfl) ?_
  refine k_i (rr_v (rest := [.ref (aa G 0 0)]) X (w.at 1) mX0_add kw403 (c_X0_add HG1 x1 x2) (HG1.in (by decide)) rfl rfl ⟨Nat.le_of_ble_eq_true rfl, Nat.le_of_ble_eq_true rfl⟩ rfl hl.1 rfl (Nat.le_of_ble_eq_true rfl) dX6_cell_10 ⟨Nat.zero_le _, Nat.zero_le _⟩) (w.at 1) (fun H locs w => ?_)
  obtain ⟨zs10, ezs10⟩ : ∃ y : St, y = setG σ 1 (g_X0_add (σ 1) x1 x2) := ⟨_, rfl⟩; rw [← ezs10] at w
  refine k_i (rr_v (rest := []) X (w.at 0) mX6_refuseIfBelow0 kw404 (c_X6_refuseIfBelow0 (f_X0_add (σ 1) x1 x2)) m0_0 rfl rfl ⟨Nat.le_of_ble_eq_true rfl, Nat.le_of_ble_eq_true rfl⟩ rfl hl.1 rfl (Nat.le_of_ble_eq_true rfl) dX6_cell_13 ⟨Nat.zero_le _, Nat.zero_le _⟩) (w.at 0) (fun H locs w => ?_)
  obtain ⟨zs13, ezs13⟩ : ∃ y : St, y = setG zs10 0 (g_X6_refuseIfBelow0 (zs10 0) (f_X0_add (σ 1) x1 x2)) := ⟨_, rfl⟩; rw [← ezs13] at w
  exact t_i X w hr hlk dX6_cell_16 (by replace ezs13 := ezs13.symm; subst ezs13; replace ezs10 := ezs10.symm; subst ezs10; simp only [f_X6_cell]) (by replace ezs13 := ezs13.symm; subst ezs13; replace ezs10 := ezs10.symm; subst ezs10; simp only [g_X6_cell])

noncomputable def f_X6_set (σ : St) (x1 : Int32) (x2 : Int32) (x3 : Int32) : Int32 :=
  if (f_X0_has (σ 1) x1) = 0 then
    let zs16 : St := setG σ 0 (g_X6_refuse (σ 0) (-1))
    f_X6_refuse (σ 0) (-1)
  else
    if x2 < 0 then
      let zs32 : St := setG σ 0 (g_X6_refuse (σ 0) (-2))
      f_X6_refuse (σ 0) (-2)
    else
      if x2 ≤ 3 then
        if 0 ≤ x3 then
          if 1 < x2 then
            if x3 ≤ 99 then
              let zv87 : Int32 := σ 1 (f_X0_valuesOf (σ 1) x2) x1.toNatClampNeg
              let zs93 : St := setG σ 1 (up (σ 1) (f_X0_valuesOf (σ 1) x2) x1.toNatClampNeg x3)
              zv87
            else
              let zs66 : St := setG σ 0 (g_X6_refuse (σ 0) (-6))
              f_X6_refuse (σ 0) (-6)
          else
            if x3 ≤ 100 then
              let zv87_2 : Int32 := σ 1 (f_X0_valuesOf (σ 1) x2) x1.toNatClampNeg
              let zs93_2 : St := setG σ 1 (up (σ 1) (f_X0_valuesOf (σ 1) x2) x1.toNatClampNeg x3)
              zv87_2
            else
              let zs66_2 : St := setG σ 0 (g_X6_refuse (σ 0) (-6))
              f_X6_refuse (σ 0) (-6)
        else
          let zs43 : St := setG σ 0 (g_X6_refuse (σ 0) (-4))
          f_X6_refuse (σ 0) (-4)
      else
        let zs32_2 : St := setG σ 0 (g_X6_refuse (σ 0) (-2))
        f_X6_refuse (σ 0) (-2)
noncomputable def g_X6_set (σ : St) (x1 : Int32) (x2 : Int32) (x3 : Int32) : St :=
  if (f_X0_has (σ 1) x1) = 0 then
    let zs16 : St := setG σ 0 (g_X6_refuse (σ 0) (-1))
    zs16
  else
    if x2 < 0 then
      let zs32 : St := setG σ 0 (g_X6_refuse (σ 0) (-2))
      zs32
    else
      if x2 ≤ 3 then
        if 0 ≤ x3 then
          if 1 < x2 then
            if x3 ≤ 99 then
              let zv87 : Int32 := σ 1 (f_X0_valuesOf (σ 1) x2) x1.toNatClampNeg
              let zs93 : St := setG σ 1 (up (σ 1) (f_X0_valuesOf (σ 1) x2) x1.toNatClampNeg x3)
              zs93
            else
              let zs66 : St := setG σ 0 (g_X6_refuse (σ 0) (-6))
              zs66
          else
            if x3 ≤ 100 then
              let zv87_2 : Int32 := σ 1 (f_X0_valuesOf (σ 1) x2) x1.toNatClampNeg
              let zs93_2 : St := setG σ 1 (up (σ 1) (f_X0_valuesOf (σ 1) x2) x1.toNatClampNeg x3)
              zs93_2
            else
              let zs66_2 : St := setG σ 0 (g_X6_refuse (σ 0) (-6))
              zs66_2
        else
          let zs43 : St := setG σ 0 (g_X6_refuse (σ 0) (-4))
          zs43
      else
        let zs32_2 : St := setG σ 0 (g_X6_refuse (σ 0) (-2))
        zs32_2
set_option maxRecDepth 100000 in
set_option maxHeartbeats 4000000 in
theorem c_X6_set {l : Launch} {G : GG} {σ : St}  (x1 : Int32) (x2 : Int32) (x3 : Int32) : MM l G yX6_set cX6_set 6 1 22 (some .int) [.ref (aa G 0 0), .int x1, .int x2, .int x3] σ (Qi G (f_X6_set σ x1 x2 x3) (g_X6_set σ x1 x2 x3)) := by
  refine MM.of (by decide) (Nat.le_of_ble_eq_true rfl) ?_
  intro p e s m below meth c ls X hr hlk w hl
  have hx := X.1.1
  have hb := X.1.2.1
  have hl : lv_has ls 6 [(0, .ref (aa G 0 0)), (1, .int x1), (2, .int x2), (3, .int x3)] := hl
  refine lv_aload_n hx hb dX6_set_0 rfl (lv_at hl 0 rfl) ?_
  refine gf6_10 X (w.at 0) dX6_set_1 ?_
  refine gf6_63 HG1 X (w.at 1) dX6_set_4 ?_
  refine lv_iload_n hx hb dX6_set_7 rfl (lv_at hl 1 rfl) ?_
  refine k_i (rr_v (rest := []) X (w.at 1) mX0_has kw412 (c_X0_has HG1 x1) (HG1.in (by decide)) rfl rfl ⟨Nat.le_of_ble_eq_true rfl, Nat.le_of_ble_eq_true rfl⟩ rfl hl.1 rfl (Nat.le_of_ble_eq_true rfl) dX6_set_8 ⟨Nat.zero_le _, Nat.zero_le _⟩) (w.at 1) (fun H locs w => ?_)
  rw [setG_self] at w
  refine lv_if_ne (tgt := 20) hx hb dX6_set_11 (by decide) (fun zc11 => ?_) (fun zc11 => ?_)
  · -- 20
    refine lv_iload_n hx hb dX6_set_20 rfl (lv_at hl 2 rfl) ?_
    refine lv_if_lt (tgt := 29) hx hb dX6_set_21 (by decide) (fun zc21 => ?_) (fun zc21 => ?_)
    · -- 29
      refine lv_aload_n hx hb dX6_set_29 rfl (lv_at hl 0 rfl) ?_
      refine lv_bipush (v := (-2)) hx hb dX6_set_30 (by decide) ?_
      refine k_i (rr_v (rest := []) X (w.at 0) mX6_refuse kw270 (c_X6_refuse (-2)) m0_0 rfl rfl ⟨Nat.le_of_ble_eq_true rfl, Nat.le_of_ble_eq_true rfl⟩ rfl hl.1 rfl (Nat.le_of_ble_eq_true rfl) dX6_set_32 ⟨Nat.zero_le _, Nat.zero_le _⟩) (w.at 0) (fun H locs w => ?_)
      obtain ⟨zs32, ezs32⟩ : ∃ y : St, y = setG σ 0 (g_X6_refuse (σ 0) (-2)) := ⟨_, rfl⟩; rw [← ezs32] at w
      exact t_i X w hr hlk dX6_set_35 (by replace ezs32 := ezs32.symm; subst ezs32; simp only [f_X6_set, if_neg zc11, if_pos zc21]) (by replace ezs32 := ezs32.symm; subst ezs32; simp only [g_X6_set, if_neg zc11, if_pos zc21])
    · -- 24
      refine lv_iload_n hx hb dX6_set_24 rfl (lv_at hl 2 rfl) ?_
      refine lv_iconst (v := 3) hx hb dX6_set_25 (by decide) ?_
      refine lv_icmp_le (tgt := 36) hx hb dX6_set_26 (by decide) (fun zc26 => ?_) (fun zc26 => ?_)
      · -- 36
        refine lv_iload_n hx hb dX6_set_36 rfl (lv_at hl 3 rfl) ?_
        refine lv_if_ge (tgt := 47) hx hb dX6_set_37 (by decide) (fun zc37 => ?_) (fun zc37 => ?_)
        · -- 47
          refine lv_iload_n hx hb dX6_set_47 rfl (lv_at hl 3 rfl) ?_
          refine lv_iload_n hx hb dX6_set_48 rfl (lv_at hl 2 rfl) ?_
          refine lv_iconst (v := 1) hx hb dX6_set_49 (by decide) ?_
          refine lv_icmp_gt (tgt := 58) hx hb dX6_set_50 (by decide) (fun zc50 => ?_) (fun zc50 => ?_)
          · -- 58
            refine lv_bipush (v := 99) hx hb dX6_set_58 (by decide) ?_
            refine lv_icmp_le (tgt := 70) hx hb dX6_set_60 (by decide) (fun zc60 => ?_) (fun zc60 => ?_)
            · -- 70
              refine lv_aload_n hx hb dX6_set_70 rfl (lv_at hl 0 rfl) ?_
              refine gf6_10 X (w.at 0) dX6_set_71 ?_
              refine gf6_63 HG1 X (w.at 1) dX6_set_74 ?_
              refine lv_iload_n hx hb dX6_set_77 rfl (lv_at hl 2 rfl) ?_
              refine k_r (rr_v (rest := []) X (w.at 1) mX0_valuesOf kw413 (c_X0_valuesOf HG1 x2) (HG1.in (by decide)) rfl rfl ⟨Nat.le_of_ble_eq_true rfl, Nat.le_of_ble_eq_true rfl⟩ rfl hl.1 rfl (Nat.le_of_ble_eq_true rfl) dX6_set_78 ⟨Nat.zero_le _, Nat.zero_le _⟩) (w.at 1) (fun H locs w => ?_)
              rw [setG_self] at w
              refine lv_astore (lv' := [(4, .ref (aa G 1 (f_X0_valuesOf (σ 1) x2))), (0, .ref (aa G 0 0)), (1, .int x1), (2, .int x2), (3, .int x3)]) hx hb dX6_set_81 hl (by decide) rfl (fun ls hl => ?_)
              refine lv_aload hx hb dX6_set_83 (lv_at hl 0 rfl) ?_
              refine lv_iload_n hx hb dX6_set_85 rfl (lv_at hl 2 rfl) ?_
              refine ia (f := (f_X0_valuesOf (σ 1) x2)) (n := 8) X (w.at 1) (vo_mem _ _) (vo_sh _ _) (has_in zc11) dX6_set_86 ?_
              refine lv_topi (fun zv87 ezv87 => ?_)
              refine lv_istore (lv' := [(5, .int zv87), (4, .ref (aa G 1 (f_X0_valuesOf (σ 1) x2))), (0, .ref (aa G 0 0)), (1, .int x1), (2, .int x2), (3, .int x3)]) hx hb dX6_set_87 hl (by decide) rfl (fun ls hl => ?_)
              refine lv_aload hx hb dX6_set_89 (lv_at hl 1 rfl) ?_
              change W _ _ _ _ _ _ _ _ _ _ _ _ _ _ _ (F0 m 91 ls _)
              refine lv_iload_n hx hb dX6_set_91 rfl (lv_at hl 3 rfl) ?_
              refine lv_iload_n hx hb dX6_set_92 rfl (lv_at hl 5 rfl) ?_
              refine iS (f := (f_X0_valuesOf (σ 1) x2)) (n := 8) X (w.at 1) (vo_mem _ _) (vo_sh _ _) (has_in zc11) dX6_set_93 (fun zq H locs ezq w => ?_)
              obtain ⟨zs93, ezs93⟩ : ∃ y : St, y = setG σ 1 (up (σ 1) (f_X0_valuesOf (σ 1) x2) x1.toNatClampNeg x3) := ⟨_, rfl⟩; have w : Wd G s zs93 H locs := by rw [ezs93, ← ezq]; exact w
              refine lv_iload hx hb dX6_set_94 (lv_at hl 0 rfl) ?_
              exact t_i X w hr hlk dX6_set_96 (by replace ezs93 := ezs93.symm; subst ezs93; replace ezv87 := ezv87.symm; subst ezv87; simp only [f_X6_set, if_neg zc11, if_neg zc21, if_pos zc26, if_pos zc37, if_pos zc50, if_pos zc60]) (by replace ezs93 := ezs93.symm; subst ezs93; replace ezv87 := ezv87.symm; subst ezv87; simp only [g_X6_set, if_neg zc11, if_neg zc21, if_pos zc26, if_pos zc37, if_pos zc50, if_pos zc60])
            · -- 63
              refine lv_aload_n hx hb dX6_set_63 rfl (lv_at hl 0 rfl) ?_
              refine lv_bipush (v := (-6)) hx hb dX6_set_64 (by decide) ?_
              refine k_i (rr_v (rest := []) X (w.at 0) mX6_refuse kw270 (c_X6_refuse (-6)) m0_0 rfl rfl ⟨Nat.le_of_ble_eq_true rfl, Nat.le_of_ble_eq_true rfl⟩ rfl hl.1 rfl (Nat.le_of_ble_eq_true rfl) dX6_set_66 ⟨Nat.zero_le _, Nat.zero_le _⟩) (w.at 0) (fun H locs w => ?_)
              obtain ⟨zs66, ezs66⟩ : ∃ y : St, y = setG σ 0 (g_X6_refuse (σ 0) (-6)) := ⟨_, rfl⟩; rw [← ezs66] at w
              exact t_i X w hr hlk dX6_set_69 (by replace ezs66 := ezs66.symm; subst ezs66; simp only [f_X6_set, if_neg zc11, if_neg zc21, if_pos zc26, if_pos zc37, if_pos zc50, if_neg zc60]) (by replace ezs66 := ezs66.symm; subst ezs66; simp only [g_X6_set, if_neg zc11, if_neg zc21, if_pos zc26, if_pos zc37, if_pos zc50, if_neg zc60])
          · -- 53
            refine lv_bipush (v := 100) hx hb dX6_set_53 (by decide) ?_
            refine lv_goto (tgt := 60) hx hb dX6_set_55 (by decide) ?_
            refine lv_icmp_le (tgt := 70) hx hb dX6_set_60 (by decide) (fun zc60 => ?_) (fun zc60 => ?_)
            · -- 70
              refine lv_aload_n hx hb dX6_set_70 rfl (lv_at hl 0 rfl) ?_
              refine gf6_10 X (w.at 0) dX6_set_71 ?_
              refine gf6_63 HG1 X (w.at 1) dX6_set_74 ?_
              refine lv_iload_n hx hb dX6_set_77 rfl (lv_at hl 2 rfl) ?_
              refine k_r (rr_v (rest := []) X (w.at 1) mX0_valuesOf kw413 (c_X0_valuesOf HG1 x2) (HG1.in (by decide)) rfl rfl ⟨Nat.le_of_ble_eq_true rfl, Nat.le_of_ble_eq_true rfl⟩ rfl hl.1 rfl (Nat.le_of_ble_eq_true rfl) dX6_set_78 ⟨Nat.zero_le _, Nat.zero_le _⟩) (w.at 1) (fun H locs w => ?_)
              rw [setG_self] at w
              refine lv_astore (lv' := [(4, .ref (aa G 1 (f_X0_valuesOf (σ 1) x2))), (0, .ref (aa G 0 0)), (1, .int x1), (2, .int x2), (3, .int x3)]) hx hb dX6_set_81 hl (by decide) rfl (fun ls hl => ?_)
              refine lv_aload hx hb dX6_set_83 (lv_at hl 0 rfl) ?_
              refine lv_iload_n hx hb dX6_set_85 rfl (lv_at hl 2 rfl) ?_
              refine ia (f := (f_X0_valuesOf (σ 1) x2)) (n := 8) X (w.at 1) (vo_mem _ _) (vo_sh _ _) (has_in zc11) dX6_set_86 ?_
              refine lv_topi (fun zv87_2 ezv87_2 => ?_)
              refine lv_istore (lv' := [(5, .int zv87_2), (4, .ref (aa G 1 (f_X0_valuesOf (σ 1) x2))), (0, .ref (aa G 0 0)), (1, .int x1), (2, .int x2), (3, .int x3)]) hx hb dX6_set_87 hl (by decide) rfl (fun ls hl => ?_)
              refine lv_aload hx hb dX6_set_89 (lv_at hl 1 rfl) ?_
              change W _ _ _ _ _ _ _ _ _ _ _ _ _ _ _ (F0 m 91 ls _)
              refine lv_iload_n hx hb dX6_set_91 rfl (lv_at hl 3 rfl) ?_
              refine lv_iload_n hx hb dX6_set_92 rfl (lv_at hl 5 rfl) ?_
              refine iS (f := (f_X0_valuesOf (σ 1) x2)) (n := 8) X (w.at 1) (vo_mem _ _) (vo_sh _ _) (has_in zc11) dX6_set_93 (fun zq H locs ezq w => ?_)
              obtain ⟨zs93_2, ezs93_2⟩ : ∃ y : St, y = setG σ 1 (up (σ 1) (f_X0_valuesOf (σ 1) x2) x1.toNatClampNeg x3) := ⟨_, rfl⟩; have w : Wd G s zs93_2 H locs := by rw [ezs93_2, ← ezq]; exact w
              refine lv_iload hx hb dX6_set_94 (lv_at hl 0 rfl) ?_
              exact t_i X w hr hlk dX6_set_96 (by replace ezs93_2 := ezs93_2.symm; subst ezs93_2; replace ezv87_2 := ezv87_2.symm; subst ezv87_2; simp only [f_X6_set, if_neg zc11, if_neg zc21, if_pos zc26, if_pos zc37, if_neg zc50, if_pos zc60]) (by replace ezs93_2 := ezs93_2.symm; subst ezs93_2; replace ezv87_2 := ezv87_2.symm; subst ezv87_2; simp only [g_X6_set, if_neg zc11, if_neg zc21, if_pos zc26, if_pos zc37, if_neg zc50, if_pos zc60])
            · -- 63
              refine lv_aload_n hx hb dX6_set_63 rfl (lv_at hl 0 rfl) ?_
              refine lv_bipush (v := (-6)) hx hb dX6_set_64 (by decide) ?_
              refine k_i (rr_v (rest := []) X (w.at 0) mX6_refuse kw270 (c_X6_refuse (-6)) m0_0 rfl rfl ⟨Nat.le_of_ble_eq_true rfl, Nat.le_of_ble_eq_true rfl⟩ rfl hl.1 rfl (Nat.le_of_ble_eq_true rfl) dX6_set_66 ⟨Nat.zero_le _, Nat.zero_le _⟩) (w.at 0) (fun H locs w => ?_)
              obtain ⟨zs66_2, ezs66_2⟩ : ∃ y : St, y = setG σ 0 (g_X6_refuse (σ 0) (-6)) := ⟨_, rfl⟩; rw [← ezs66_2] at w
              exact t_i X w hr hlk dX6_set_69 (by replace ezs66_2 := ezs66_2.symm; subst ezs66_2; simp only [f_X6_set, if_neg zc11, if_neg zc21, if_pos zc26, if_pos zc37, if_neg zc50, if_neg zc60]) (by replace ezs66_2 := ezs66_2.symm; subst ezs66_2; simp only [g_X6_set, if_neg zc11, if_neg zc21, if_pos zc26, if_pos zc37, if_neg zc50, if_neg zc60])
        · -- 40
          refine lv_aload_n hx hb dX6_set_40 rfl (lv_at hl 0 rfl) ?_
          refine lv_bipush (v := (-4)) hx hb dX6_set_41 (by decide) ?_
          refine k_i (rr_v (rest := []) X (w.at 0) mX6_refuse kw270 (c_X6_refuse (-4)) m0_0 rfl rfl ⟨Nat.le_of_ble_eq_true rfl, Nat.le_of_ble_eq_true rfl⟩ rfl hl.1 rfl (Nat.le_of_ble_eq_true rfl) dX6_set_43 ⟨Nat.zero_le _, Nat.zero_le _⟩) (w.at 0) (fun H locs w => ?_)
          obtain ⟨zs43, ezs43⟩ : ∃ y : St, y = setG σ 0 (g_X6_refuse (σ 0) (-4)) := ⟨_, rfl⟩; rw [← ezs43] at w
          exact t_i X w hr hlk dX6_set_46 (by replace ezs43 := ezs43.symm; subst ezs43; simp only [f_X6_set, if_neg zc11, if_neg zc21, if_pos zc26, if_neg zc37]) (by replace ezs43 := ezs43.symm; subst ezs43; simp only [g_X6_set, if_neg zc11, if_neg zc21, if_pos zc26, if_neg zc37])
      · -- 29
        refine lv_aload_n hx hb dX6_set_29 rfl (lv_at hl 0 rfl) ?_
        refine lv_bipush (v := (-2)) hx hb dX6_set_30 (by decide) ?_
        refine k_i (rr_v (rest := []) X (w.at 0) mX6_refuse kw270 (c_X6_refuse (-2)) m0_0 rfl rfl ⟨Nat.le_of_ble_eq_true rfl, Nat.le_of_ble_eq_true rfl⟩ rfl hl.1 rfl (Nat.le_of_ble_eq_true rfl) dX6_set_32 ⟨Nat.zero_le _, Nat.zero_le _⟩) (w.at 0) (fun H locs w => ?_)
        obtain ⟨zs32_2, ezs32_2⟩ : ∃ y : St, y = setG σ 0 (g_X6_refuse (σ 0) (-2)) := ⟨_, rfl⟩; rw [← ezs32_2] at w
        exact t_i X w hr hlk dX6_set_35 (by replace ezs32_2 := ezs32_2.symm; subst ezs32_2; simp only [f_X6_set, if_neg zc11, if_neg zc21, if_neg zc26]) (by replace ezs32_2 := ezs32_2.symm; subst ezs32_2; simp only [g_X6_set, if_neg zc11, if_neg zc21, if_neg zc26])
  · -- 14
    refine lv_aload_n hx hb dX6_set_14 rfl (lv_at hl 0 rfl) ?_
    refine lv_iconst (v := (-1)) hx hb dX6_set_15 (by decide) ?_
    refine k_i (rr_v (rest := []) X (w.at 0) mX6_refuse kw270 (c_X6_refuse (-1)) m0_0 rfl rfl ⟨Nat.le_of_ble_eq_true rfl, Nat.le_of_ble_eq_true rfl⟩ rfl hl.1 rfl (Nat.le_of_ble_eq_true rfl) dX6_set_16 ⟨Nat.zero_le _, Nat.zero_le _⟩) (w.at 0) (fun H locs w => ?_)
    obtain ⟨zs16, ezs16⟩ : ∃ y : St, y = setG σ 0 (g_X6_refuse (σ 0) (-1)) := ⟨_, rfl⟩; rw [← ezs16] at w
    exact t_i X w hr hlk dX6_set_19 (by replace ezs16 := ezs16.symm; subst ezs16; simp only [f_X6_set, if_pos zc11]) (by replace ezs16 := ezs16.symm; subst ezs16; simp only [g_X6_set, if_pos zc11])

noncomputable def f_X6_way (σ : St) (x1 : Int32) (x2 : Int32) (x3 : Int32) (x4 : Int32) : Int32 :=
  if (x3 - x3 / 10 * 10) = 0 then
    let zs33 : St := setG σ 1 (g_X3_addWay (σ 1) x1 x2 (x3 / 100) ((x3 / 10) - (x3 / 10) / 10 * 10) x4)
    let zs36 : St := setG zs33 0 (g_X6_refuseIfBelow0 (zs33 0) (f_X3_addWay (σ 1) x1 x2 (x3 / 100) ((x3 / 10) - (x3 / 10) / 10 * 10) x4))
    f_X6_refuseIfBelow0 (zs33 0) (f_X3_addWay (σ 1) x1 x2 (x3 / 100) ((x3 / 10) - (x3 / 10) / 10 * 10) x4)
  else
    let zs9 : St := setG σ 0 (g_X6_refuse (σ 0) (-1))
    f_X6_refuse (σ 0) (-1)
noncomputable def g_X6_way (σ : St) (x1 : Int32) (x2 : Int32) (x3 : Int32) (x4 : Int32) : St :=
  if (x3 - x3 / 10 * 10) = 0 then
    let zs33 : St := setG σ 1 (g_X3_addWay (σ 1) x1 x2 (x3 / 100) ((x3 / 10) - (x3 / 10) / 10 * 10) x4)
    let zs36 : St := setG zs33 0 (g_X6_refuseIfBelow0 (zs33 0) (f_X3_addWay (σ 1) x1 x2 (x3 / 100) ((x3 / 10) - (x3 / 10) / 10 * 10) x4))
    zs36
  else
    let zs9 : St := setG σ 0 (g_X6_refuse (σ 0) (-1))
    zs9
set_option maxRecDepth 100000 in
set_option maxHeartbeats 4000000 in
theorem c_X6_way {l : Launch} {G : GG} {σ : St}  (x1 : Int32) (x2 : Int32) (x3 : Int32) (x4 : Int32) (hf : WFh (σ 1)) : MM l G yX6_way cX6_way 5 3 71 (some .int) [.ref (aa G 0 0), .int x1, .int x2, .int x3, .int x4] σ (Qi G (f_X6_way σ x1 x2 x3 x4) (g_X6_way σ x1 x2 x3 x4)) := by
  refine MM.of (by decide) (Nat.le_of_ble_eq_true rfl) ?_
  intro p e s m below meth c ls X hr hlk w hl
  have hx := X.1.1
  have hb := X.1.2.1
  have hl : lv_has ls 5 [(0, .ref (aa G 0 0)), (1, .int x1), (2, .int x2), (3, .int x3), (4, .int x4)] := hl
  refine lv_iload_n hx hb dX6_way_0 rfl (lv_at hl 3 rfl) ?_
  refine lv_bipush (v := 10) hx hb dX6_way_1 (by decide) ?_
  refine lv_irem hx hb dX6_way_3 (by decide) ?_
  refine lv_if_eq (tgt := 13) hx hb dX6_way_4 (by decide) (fun zc4 => ?_) (fun zc4 => ?_)
  · -- 13
    refine lv_aload_n hx hb dX6_way_13 rfl (lv_at hl 0 rfl) ?_
    refine lv_aload_n hx hb dX6_way_14 rfl (lv_at hl 0 rfl) ?_
    refine gf6_10 X (w.at 0) dX6_way_15 ?_
    refine lv_iload_n hx hb dX6_way_18 rfl (lv_at hl 1 rfl) ?_
    refine lv_iload_n hx hb dX6_way_19 rfl (lv_at hl 2 rfl) ?_
    refine lv_iload_n hx hb dX6_way_20 rfl (lv_at hl 3 rfl) ?_
    refine lv_bipush (v := 100) hx hb dX6_way_21 (by decide) ?_
    refine lv_idiv hx hb dX6_way_23 (by decide) ?_
    refine lv_iload_n hx hb dX6_way_24 rfl (lv_at hl 3 rfl) ?_
    refine lv_bipush (v := 10) hx hb dX6_way_25 (by decide) ?_
    refine lv_idiv hx hb dX6_way_27 (by decide) ?_
    change W _ _ _ _ _ _ _ _ _ _ _ _ _ _ _ (F0 m 28 ls _)
    refine lv_bipush (v := 10) hx hb dX6_way_28 (by decide) ?_
    refine lv_irem hx hb dX6_way_30 (by decide) ?_
    refine lv_iload hx hb dX6_way_31 (lv_at hl 4 rfl) ?_
    refine k_i (rr_v (rest := [.ref (aa G 0 0)]) X (w.at 1) mX3_addWay kw421 (c_X3_addWay HG1 x1 x2 (x3 / 100) ((x3 / 10) - (x3 / 10) / 10 * 10) x4 (by assumption)) (HG1.in (by decide)) rfl rfl ⟨Nat.le_of_ble_eq_true rfl, Nat.le_of_ble_eq_true rfl⟩ rfl hl.1 rfl (Nat.le_of_ble_eq_true rfl) dX6_way_33 ⟨Nat.zero_le _, Nat.zero_le _⟩) (w.at 1) (fun H locs w => ?_)
    obtain ⟨zs33, ezs33⟩ : ∃ y : St, y = setG σ 1 (g_X3_addWay (σ 1) x1 x2 (x3 / 100) ((x3 / 10) - (x3 / 10) / 10 * 10) x4) := ⟨_, rfl⟩; rw [← ezs33] at w
    refine k_i (rr_v (rest := []) X (w.at 0) mX6_refuseIfBelow0 kw404 (c_X6_refuseIfBelow0 (f_X3_addWay (σ 1) x1 x2 (x3 / 100) ((x3 / 10) - (x3 / 10) / 10 * 10) x4)) m0_0 rfl rfl ⟨Nat.le_of_ble_eq_true rfl, Nat.le_of_ble_eq_true rfl⟩ rfl hl.1 rfl (Nat.le_of_ble_eq_true rfl) dX6_way_36 ⟨Nat.zero_le _, Nat.zero_le _⟩) (w.at 0) (fun H locs w => ?_)
    obtain ⟨zs36, ezs36⟩ : ∃ y : St, y = setG zs33 0 (g_X6_refuseIfBelow0 (zs33 0) (f_X3_addWay (σ 1) x1 x2 (x3 / 100) ((x3 / 10) - (x3 / 10) / 10 * 10) x4)) := ⟨_, rfl⟩; rw [← ezs36] at w
    exact t_i X w hr hlk dX6_way_39 (by replace ezs36 := ezs36.symm; subst ezs36; replace ezs33 := ezs33.symm; subst ezs33; simp only [f_X6_way, if_pos zc4]) (by replace ezs36 := ezs36.symm; subst ezs36; replace ezs33 := ezs33.symm; subst ezs33; simp only [g_X6_way, if_pos zc4])
  · -- 7
    refine lv_aload_n hx hb dX6_way_7 rfl (lv_at hl 0 rfl) ?_
    refine lv_iconst (v := (-1)) hx hb dX6_way_8 (by decide) ?_
    refine k_i (rr_v (rest := []) X (w.at 0) mX6_refuse kw270 (c_X6_refuse (-1)) m0_0 rfl rfl ⟨Nat.le_of_ble_eq_true rfl, Nat.le_of_ble_eq_true rfl⟩ rfl hl.1 rfl (Nat.le_of_ble_eq_true rfl) dX6_way_9 ⟨Nat.zero_le _, Nat.zero_le _⟩) (w.at 0) (fun H locs w => ?_)
    obtain ⟨zs9, ezs9⟩ : ∃ y : St, y = setG σ 0 (g_X6_refuse (σ 0) (-1)) := ⟨_, rfl⟩; rw [← ezs9] at w
    exact t_i X w hr hlk dX6_way_12 (by replace ezs9 := ezs9.symm; subst ezs9; simp only [f_X6_way, if_neg zc4]) (by replace ezs9 := ezs9.symm; subst ezs9; simp only [g_X6_way, if_neg zc4])

noncomputable def f_X6_shut (σ : St) (x1 : Int32) (x2 : Int32) : Int32 :=
  if (f_X5_has (σ 1) x1) = 0 then
    let zs16 : St := setG σ 0 (g_X6_refuse (σ 0) (-1))
    f_X6_refuse (σ 0) (-1)
  else
    if (f_X5_isShut (σ 1) x1) = x2 then
      0
    else
      let zs45 : St := setG σ 1 (g_X5_turn (σ 1) x1)
      1
noncomputable def g_X6_shut (σ : St) (x1 : Int32) (x2 : Int32) : St :=
  if (f_X5_has (σ 1) x1) = 0 then
    let zs16 : St := setG σ 0 (g_X6_refuse (σ 0) (-1))
    zs16
  else
    if (f_X5_isShut (σ 1) x1) = x2 then
      σ
    else
      let zs45 : St := setG σ 1 (g_X5_turn (σ 1) x1)
      zs45
set_option maxRecDepth 100000 in
set_option maxHeartbeats 4000000 in
theorem c_X6_shut {l : Launch} {G : GG} {σ : St}  (x1 : Int32) (x2 : Int32) : MM l G yX6_shut cX6_shut 3 1 22 (some .int) [.ref (aa G 0 0), .int x1, .int x2] σ (Qi G (f_X6_shut σ x1 x2) (g_X6_shut σ x1 x2)) := by
  refine MM.of (by decide) (Nat.le_of_ble_eq_true rfl) ?_
  intro p e s m below meth c ls X hr hlk w hl
  have hx := X.1.1
  have hb := X.1.2.1
  have hl : lv_has ls 3 [(0, .ref (aa G 0 0)), (1, .int x1), (2, .int x2)] := hl
  refine lv_aload_n hx hb dX6_shut_0 rfl (lv_at hl 0 rfl) ?_
  refine gf6_10 X (w.at 0) dX6_shut_1 ?_
  refine gf6_88 HG1 X (w.at 1) dX6_shut_4 ?_
  refine lv_iload_n hx hb dX6_shut_7 rfl (lv_at hl 1 rfl) ?_
  refine k_i (rr_v (rest := []) X (w.at 1) mX5_has kw426 (c_X5_has HG1 x1) (HG1.in (by decide)) rfl rfl ⟨Nat.le_of_ble_eq_true rfl, Nat.le_of_ble_eq_true rfl⟩ rfl hl.1 rfl (Nat.le_of_ble_eq_true rfl) dX6_shut_8 ⟨Nat.zero_le _, Nat.zero_le _⟩) (w.at 1) (fun H locs w => ?_)
  rw [setG_self] at w
  refine lv_if_ne (tgt := 20) hx hb dX6_shut_11 (by decide) (fun zc11 => ?_) (fun zc11 => ?_)
  · -- 20
    refine lv_aload_n hx hb dX6_shut_20 rfl (lv_at hl 0 rfl) ?_
    refine gf6_10 X (w.at 0) dX6_shut_21 ?_
    refine gf6_88 HG1 X (w.at 1) dX6_shut_24 ?_
    refine lv_iload_n hx hb dX6_shut_27 rfl (lv_at hl 1 rfl) ?_
    refine k_i (rr_v (rest := []) X (w.at 1) mX5_isShut kw430 (c_X5_isShut HG1 x1) (HG1.in (by decide)) rfl rfl ⟨Nat.le_of_ble_eq_true rfl, Nat.le_of_ble_eq_true rfl⟩ rfl hl.1 rfl (Nat.le_of_ble_eq_true rfl) dX6_shut_28 ⟨Nat.zero_le _, Nat.zero_le _⟩) (w.at 1) (fun H locs w => ?_)
    rw [setG_self] at w
    refine lv_iload_n hx hb dX6_shut_31 rfl (lv_at hl 2 rfl) ?_
    refine lv_icmp_ne (tgt := 37) hx hb dX6_shut_32 (by decide) (fun zc32 => ?_) (fun zc32 => ?_)
    · -- 37
      refine lv_aload_n hx hb dX6_shut_37 rfl (lv_at hl 0 rfl) ?_
      refine gf6_10 X (w.at 0) dX6_shut_38 ?_
      refine gf6_88 HG1 X (w.at 1) dX6_shut_41 ?_
      refine lv_iload_n hx hb dX6_shut_44 rfl (lv_at hl 1 rfl) ?_
      refine k_v (rr_v (rest := []) X (w.at 1) mX5_turn kw434 (c_X5_turn HG1 x1) (HG1.in (by decide)) rfl rfl ⟨Nat.le_of_ble_eq_true rfl, Nat.le_of_ble_eq_true rfl⟩ rfl hl.1 rfl (Nat.le_of_ble_eq_true rfl) dX6_shut_45 ⟨Nat.zero_le _, Nat.zero_le _⟩) (w.at 1) (fun H locs w => ?_)
      obtain ⟨zs45, ezs45⟩ : ∃ y : St, y = setG σ 1 (g_X5_turn (σ 1) x1) := ⟨_, rfl⟩; rw [← ezs45] at w
      refine lv_iconst (v := 1) hx hb dX6_shut_48 (by decide) ?_
      exact t_i X w hr hlk dX6_shut_49 (by replace ezs45 := ezs45.symm; subst ezs45; simp only [f_X6_shut, if_neg zc11, if_neg zc32]) (by replace ezs45 := ezs45.symm; subst ezs45; simp only [g_X6_shut, if_neg zc11, if_neg zc32])
    · -- 35
      refine lv_iconst (v := 0) hx hb dX6_shut_35 (by decide) ?_
      exact t_i X w hr hlk dX6_shut_36 (by simp only [f_X6_shut, if_neg zc11, if_pos zc32]) (by simp only [g_X6_shut, if_neg zc11, if_pos zc32])
  · -- 14
    refine lv_aload_n hx hb dX6_shut_14 rfl (lv_at hl 0 rfl) ?_
    refine lv_iconst (v := (-1)) hx hb dX6_shut_15 (by decide) ?_
    refine k_i (rr_v (rest := []) X (w.at 0) mX6_refuse kw270 (c_X6_refuse (-1)) m0_0 rfl rfl ⟨Nat.le_of_ble_eq_true rfl, Nat.le_of_ble_eq_true rfl⟩ rfl hl.1 rfl (Nat.le_of_ble_eq_true rfl) dX6_shut_16 ⟨Nat.zero_le _, Nat.zero_le _⟩) (w.at 0) (fun H locs w => ?_)
    obtain ⟨zs16, ezs16⟩ : ∃ y : St, y = setG σ 0 (g_X6_refuse (σ 0) (-1)) := ⟨_, rfl⟩; rw [← ezs16] at w
    exact t_i X w hr hlk dX6_shut_19 (by replace ezs16 := ezs16.symm; subst ezs16; simp only [f_X6_shut, if_pos zc11]) (by replace ezs16 := ezs16.symm; subst ezs16; simp only [g_X6_shut, if_pos zc11])

noncomputable def f_X6_river (σ : St) (x1 : Int32) (x2 : Int32) (x3 : Int32) : Int32 :=
  let zs8 : St := setG σ 1 (g_X3_addRiver (σ 1) x1 x2 x3)
  let zs11 : St := setG zs8 0 (g_X6_refuseIfBelow0 (zs8 0) (f_X3_addRiver (σ 1) x1 x2 x3))
  f_X6_refuseIfBelow0 (zs8 0) (f_X3_addRiver (σ 1) x1 x2 x3)
noncomputable def g_X6_river (σ : St) (x1 : Int32) (x2 : Int32) (x3 : Int32) : St :=
  let zs8 : St := setG σ 1 (g_X3_addRiver (σ 1) x1 x2 x3)
  let zs11 : St := setG zs8 0 (g_X6_refuseIfBelow0 (zs8 0) (f_X3_addRiver (σ 1) x1 x2 x3))
  zs11
set_option maxRecDepth 100000 in
set_option maxHeartbeats 4000000 in
theorem c_X6_river {l : Launch} {G : GG} {σ : St}  (x1 : Int32) (x2 : Int32) (x3 : Int32) : MM l G yX6_river cX6_river 4 3 67 (some .int) [.ref (aa G 0 0), .int x1, .int x2, .int x3] σ (Qi G (f_X6_river σ x1 x2 x3) (g_X6_river σ x1 x2 x3)) := by
  refine MM.of (by decide) (Nat.le_of_ble_eq_true rfl) ?_
  intro p e s m below meth c ls X hr hlk w hl
  have hx := X.1.1
  have hb := X.1.2.1
  have hl : lv_has ls 4 [(0, .ref (aa G 0 0)), (1, .int x1), (2, .int x2), (3, .int x3)] := hl
  refine lv_aload_n hx hb dX6_river_0 rfl (lv_at hl 0 rfl) ?_
  refine lv_aload_n hx hb dX6_river_1 rfl (lv_at hl 0 rfl) ?_
  refine gf6_10 X (w.at 0) dX6_river_2 ?_
  refine lv_iload_n hx hb dX6_river_5 rfl (lv_at hl 1 rfl) ?_
  refine lv_iload_n hx hb dX6_river_6 rfl (lv_at hl 2 rfl) ?_
  refine lv_iload_n hx hb dX6_river_7 rfl (lv_at hl 3 rfl) ?_
  refine k_i (rr_v (rest := [.ref (aa G 0 0)]) X (w.at 1) mX3_addRiver kw442 (c_X3_addRiver HG1 x1 x2 x3) (HG1.in (by decide)) rfl rfl ⟨Nat.le_of_ble_eq_true rfl, Nat.le_of_ble_eq_true rfl⟩ rfl hl.1 rfl (Nat.le_of_ble_eq_true rfl) dX6_river_8 ⟨Nat.zero_le _, Nat.zero_le _⟩) (w.at 1) (fun H locs w => ?_)
  obtain ⟨zs8, ezs8⟩ : ∃ y : St, y = setG σ 1 (g_X3_addRiver (σ 1) x1 x2 x3) := ⟨_, rfl⟩; rw [← ezs8] at w
  refine k_i (rr_v (rest := []) X (w.at 0) mX6_refuseIfBelow0 kw404 (c_X6_refuseIfBelow0 (f_X3_addRiver (σ 1) x1 x2 x3)) m0_0 rfl rfl ⟨Nat.le_of_ble_eq_true rfl, Nat.le_of_ble_eq_true rfl⟩ rfl hl.1 rfl (Nat.le_of_ble_eq_true rfl) dX6_river_11 ⟨Nat.zero_le _, Nat.zero_le _⟩) (w.at 0) (fun H locs w => ?_)
  obtain ⟨zs11, ezs11⟩ : ∃ y : St, y = setG zs8 0 (g_X6_refuseIfBelow0 (zs8 0) (f_X3_addRiver (σ 1) x1 x2 x3)) := ⟨_, rfl⟩; rw [← ezs11] at w
  exact t_i X w hr hlk dX6_river_14 (by replace ezs11 := ezs11.symm; subst ezs11; replace ezs8 := ezs8.symm; subst ezs8; simp only [f_X6_river]) (by replace ezs11 := ezs11.symm; subst ezs11; replace ezs8 := ezs8.symm; subst ezs8; simp only [g_X6_river])

noncomputable def f_X6_moon (σ : St) (x1 : Int32) (x2 : Int32) : Int32 :=
  if 1 ≤ x1 then
    if x1 ≤ 28 then
      let zv32 : Int32 := σ 1 0 4
      let zs39 : St := setG σ 1 (g_X3_changeMoon (σ 1) x1 x2)
      zv32
    else
      let zs21 : St := setG σ 0 (g_X6_refuse (σ 0) (-6))
      f_X6_refuse (σ 0) (-6)
  else
    let zs8 : St := setG σ 0 (g_X6_refuse (σ 0) (-4))
    f_X6_refuse (σ 0) (-4)
noncomputable def g_X6_moon (σ : St) (x1 : Int32) (x2 : Int32) : St :=
  if 1 ≤ x1 then
    if x1 ≤ 28 then
      let zv32 : Int32 := σ 1 0 4
      let zs39 : St := setG σ 1 (g_X3_changeMoon (σ 1) x1 x2)
      zs39
    else
      let zs21 : St := setG σ 0 (g_X6_refuse (σ 0) (-6))
      zs21
  else
    let zs8 : St := setG σ 0 (g_X6_refuse (σ 0) (-4))
    zs8
set_option maxRecDepth 100000 in
set_option maxHeartbeats 4000000 in
theorem c_X6_moon {l : Launch} {G : GG} {σ : St}  (x1 : Int32) (x2 : Int32) : MM l G yX6_moon cX6_moon 4 1 22 (some .int) [.ref (aa G 0 0), .int x1, .int x2] σ (Qi G (f_X6_moon σ x1 x2) (g_X6_moon σ x1 x2)) := by
  refine MM.of (by decide) (Nat.le_of_ble_eq_true rfl) ?_
  intro p e s m below meth c ls X hr hlk w hl
  have hx := X.1.1
  have hb := X.1.2.1
  have hl : lv_has ls 4 [(0, .ref (aa G 0 0)), (1, .int x1), (2, .int x2)] := hl
  refine lv_iload_n hx hb dX6_moon_0 rfl (lv_at hl 1 rfl) ?_
  refine lv_iconst (v := 1) hx hb dX6_moon_1 (by decide) ?_
  refine lv_icmp_ge (tgt := 12) hx hb dX6_moon_2 (by decide) (fun zc2 => ?_) (fun zc2 => ?_)
  · -- 12
    refine lv_iload_n hx hb dX6_moon_12 rfl (lv_at hl 1 rfl) ?_
    refine lv_bipush (v := 28) hx hb dX6_moon_13 (by decide) ?_
    refine lv_icmp_le (tgt := 25) hx hb dX6_moon_15 (by decide) (fun zc15 => ?_) (fun zc15 => ?_)
    · -- 25
      refine lv_aload_n hx hb dX6_moon_25 rfl (lv_at hl 0 rfl) ?_
      refine gf6_10 X (w.at 0) dX6_moon_26 ?_
      refine gf6_105 HG1 X (w.at 1) dX6_moon_29 ?_
      refine lv_topi (fun zv32 ezv32 => ?_)
      refine lv_istore_n (lv' := [(3, .int zv32), (0, .ref (aa G 0 0)), (1, .int x1), (2, .int x2)]) hx hb dX6_moon_32 rfl hl (by decide) rfl (fun ls hl => ?_)
      refine lv_aload_n hx hb dX6_moon_33 rfl (lv_at hl 1 rfl) ?_
      refine gf6_10 X (w.at 0) dX6_moon_34 ?_
      refine lv_iload_n hx hb dX6_moon_37 rfl (lv_at hl 2 rfl) ?_
      refine lv_iload_n hx hb dX6_moon_38 rfl (lv_at hl 3 rfl) ?_
      refine k_v (rr_v (rest := []) X (w.at 1) mX3_changeMoon kw447 (c_X3_changeMoon HG1 x1 x2) (HG1.in (by decide)) rfl rfl ⟨Nat.le_of_ble_eq_true rfl, Nat.le_of_ble_eq_true rfl⟩ rfl hl.1 rfl (Nat.le_of_ble_eq_true rfl) dX6_moon_39 ⟨Nat.zero_le _, Nat.zero_le _⟩) (w.at 1) (fun H locs w => ?_)
      obtain ⟨zs39, ezs39⟩ : ∃ y : St, y = setG σ 1 (g_X3_changeMoon (σ 1) x1 x2) := ⟨_, rfl⟩; rw [← ezs39] at w
      refine lv_iload_n hx hb dX6_moon_42 rfl (lv_at hl 0 rfl) ?_
      exact t_i X w hr hlk dX6_moon_43 (by replace ezs39 := ezs39.symm; subst ezs39; replace ezv32 := ezv32.symm; subst ezv32; simp only [f_X6_moon, if_pos zc2, if_pos zc15]) (by replace ezs39 := ezs39.symm; subst ezs39; replace ezv32 := ezv32.symm; subst ezv32; simp only [g_X6_moon, if_pos zc2, if_pos zc15])
    · -- 18
      refine lv_aload_n hx hb dX6_moon_18 rfl (lv_at hl 0 rfl) ?_
      refine lv_bipush (v := (-6)) hx hb dX6_moon_19 (by decide) ?_
      refine k_i (rr_v (rest := []) X (w.at 0) mX6_refuse kw270 (c_X6_refuse (-6)) m0_0 rfl rfl ⟨Nat.le_of_ble_eq_true rfl, Nat.le_of_ble_eq_true rfl⟩ rfl hl.1 rfl (Nat.le_of_ble_eq_true rfl) dX6_moon_21 ⟨Nat.zero_le _, Nat.zero_le _⟩) (w.at 0) (fun H locs w => ?_)
      obtain ⟨zs21, ezs21⟩ : ∃ y : St, y = setG σ 0 (g_X6_refuse (σ 0) (-6)) := ⟨_, rfl⟩; rw [← ezs21] at w
      exact t_i X w hr hlk dX6_moon_24 (by replace ezs21 := ezs21.symm; subst ezs21; simp only [f_X6_moon, if_pos zc2, if_neg zc15]) (by replace ezs21 := ezs21.symm; subst ezs21; simp only [g_X6_moon, if_pos zc2, if_neg zc15])
  · -- 5
    refine lv_aload_n hx hb dX6_moon_5 rfl (lv_at hl 0 rfl) ?_
    refine lv_bipush (v := (-4)) hx hb dX6_moon_6 (by decide) ?_
    refine k_i (rr_v (rest := []) X (w.at 0) mX6_refuse kw270 (c_X6_refuse (-4)) m0_0 rfl rfl ⟨Nat.le_of_ble_eq_true rfl, Nat.le_of_ble_eq_true rfl⟩ rfl hl.1 rfl (Nat.le_of_ble_eq_true rfl) dX6_moon_8 ⟨Nat.zero_le _, Nat.zero_le _⟩) (w.at 0) (fun H locs w => ?_)
    obtain ⟨zs8, ezs8⟩ : ∃ y : St, y = setG σ 0 (g_X6_refuse (σ 0) (-4)) := ⟨_, rfl⟩; rw [← ezs8] at w
    exact t_i X w hr hlk dX6_moon_11 (by replace ezs8 := ezs8.symm; subst ezs8; simp only [f_X6_moon, if_neg zc2]) (by replace ezs8 := ezs8.symm; subst ezs8; simp only [g_X6_moon, if_neg zc2])

noncomputable def f_X6_put (σ : St) (x1 : Int32) (x2 : Int32) (x3 : Int32) (x4 : Int32) : Int32 :=
  if (f_X0_has (σ 1) x1) = 0 then
    let zs23 : St := setG σ 0 (g_X6_refuse (σ 0) (-1))
    f_X6_refuse (σ 0) (-1)
  else
    if (f_X6_isStuff x2) = 0 then
      let zs23_2 : St := setG σ 0 (g_X6_refuse (σ 0) (-1))
      f_X6_refuse (σ 0) (-1)
    else
      if (-9999) ≤ x4 then
        if x4 ≤ 9999 then
          let zv75 : Int32 := f_X6_heapOf x1 x2
          let zv89 : Int32 := if 0 < ((σ 1 (f_X0_heapsOf (σ 1) x3) zv75.toNatClampNeg) + x4) then ((σ 1 (f_X0_heapsOf (σ 1) x3) zv75.toNatClampNeg) + x4) else 0
          if zv89 ≤ 1000000 then
            let zs111 : St := setG σ 1 (up (σ 1) (f_X0_heapsOf (σ 1) x3) zv75.toNatClampNeg zv89)
            zv89
          else
            let zs101 : St := setG σ 0 (g_X6_refuse (σ 0) (-6))
            f_X6_refuse (σ 0) (-6)
        else
          let zs53 : St := setG σ 0 (g_X6_refuse (σ 0) (-6))
          f_X6_refuse (σ 0) (-6)
      else
        let zs38 : St := setG σ 0 (g_X6_refuse (σ 0) (-4))
        f_X6_refuse (σ 0) (-4)
noncomputable def g_X6_put (σ : St) (x1 : Int32) (x2 : Int32) (x3 : Int32) (x4 : Int32) : St :=
  if (f_X0_has (σ 1) x1) = 0 then
    let zs23 : St := setG σ 0 (g_X6_refuse (σ 0) (-1))
    zs23
  else
    if (f_X6_isStuff x2) = 0 then
      let zs23_2 : St := setG σ 0 (g_X6_refuse (σ 0) (-1))
      zs23_2
    else
      if (-9999) ≤ x4 then
        if x4 ≤ 9999 then
          let zv75 : Int32 := f_X6_heapOf x1 x2
          let zv89 : Int32 := if 0 < ((σ 1 (f_X0_heapsOf (σ 1) x3) zv75.toNatClampNeg) + x4) then ((σ 1 (f_X0_heapsOf (σ 1) x3) zv75.toNatClampNeg) + x4) else 0
          if zv89 ≤ 1000000 then
            let zs111 : St := setG σ 1 (up (σ 1) (f_X0_heapsOf (σ 1) x3) zv75.toNatClampNeg zv89)
            zs111
          else
            let zs101 : St := setG σ 0 (g_X6_refuse (σ 0) (-6))
            zs101
        else
          let zs53 : St := setG σ 0 (g_X6_refuse (σ 0) (-6))
          zs53
      else
        let zs38 : St := setG σ 0 (g_X6_refuse (σ 0) (-4))
        zs38
set_option maxRecDepth 100000 in
set_option maxHeartbeats 4000000 in
theorem c_X6_put {l : Launch} {G : GG} {σ : St}  (x1 : Int32) (x2 : Int32) (x3 : Int32) (x4 : Int32) : MM l G yX6_put cX6_put 8 1 22 (some .int) [.ref (aa G 0 0), .int x1, .int x2, .int x3, .int x4] σ (Qi G (f_X6_put σ x1 x2 x3 x4) (g_X6_put σ x1 x2 x3 x4)) := by
  refine MM.of (by decide) (Nat.le_of_ble_eq_true rfl) ?_
  intro p e s m below meth c ls X hr hlk w hl
  have hx := X.1.1
  have hb := X.1.2.1
  have hl : lv_has ls 8 [(0, .ref (aa G 0 0)), (1, .int x1), (2, .int x2), (3, .int x3), (4, .int x4)] := hl
  refine lv_aload_n hx hb dX6_put_0 rfl (lv_at hl 0 rfl) ?_
  refine gf6_10 X (w.at 0) dX6_put_1 ?_
  refine gf6_63 HG1 X (w.at 1) dX6_put_4 ?_
  refine lv_iload_n hx hb dX6_put_7 rfl (lv_at hl 1 rfl) ?_
  refine k_i (rr_v (rest := []) X (w.at 1) mX0_has kw412 (c_X0_has HG1 x1) (HG1.in (by decide)) rfl rfl ⟨Nat.le_of_ble_eq_true rfl, Nat.le_of_ble_eq_true rfl⟩ rfl hl.1 rfl (Nat.le_of_ble_eq_true rfl) dX6_put_8 ⟨Nat.zero_le _, Nat.zero_le _⟩) (w.at 1) (fun H locs w => ?_)
  rw [setG_self] at w
  refine lv_if_eq (tgt := 21) hx hb dX6_put_11 (by decide) (fun zc11 => ?_) (fun zc11 => ?_)
  · -- 21
    refine lv_aload_n hx hb dX6_put_21 rfl (lv_at hl 0 rfl) ?_
    refine lv_iconst (v := (-1)) hx hb dX6_put_22 (by decide) ?_
    refine k_i (rr_v (rest := []) X (w.at 0) mX6_refuse kw270 (c_X6_refuse (-1)) m0_0 rfl rfl ⟨Nat.le_of_ble_eq_true rfl, Nat.le_of_ble_eq_true rfl⟩ rfl hl.1 rfl (Nat.le_of_ble_eq_true rfl) dX6_put_23 ⟨Nat.zero_le _, Nat.zero_le _⟩) (w.at 0) (fun H locs w => ?_)
    obtain ⟨zs23, ezs23⟩ : ∃ y : St, y = setG σ 0 (g_X6_refuse (σ 0) (-1)) := ⟨_, rfl⟩; rw [← ezs23] at w
    exact t_i X w hr hlk dX6_put_26 (by replace ezs23 := ezs23.symm; subst ezs23; simp only [f_X6_put, if_pos zc11]) (by replace ezs23 := ezs23.symm; subst ezs23; simp only [g_X6_put, if_pos zc11])
  · -- 14
    refine lv_iload_n hx hb dX6_put_14 rfl (lv_at hl 2 rfl) ?_
    refine k_i (rr_s (rest := []) X w mX6_isStuff kw452 (c_X6_isStuff x2) ⟨Nat.le_of_ble_eq_true rfl, Nat.le_of_ble_eq_true rfl⟩ rfl hl.1 rfl (Nat.le_of_ble_eq_true rfl) dX6_put_15 ⟨Nat.zero_le _, Nat.zero_le _⟩) w (fun H locs w => ?_)
    refine lv_if_ne (tgt := 27) hx hb dX6_put_18 (by decide) (fun zc18 => ?_) (fun zc18 => ?_)
    · -- 27
      refine lv_iload hx hb dX6_put_27 (lv_at hl 4 rfl) ?_
      refine lv_sipush (v := (-9999)) hx hb dX6_put_29 (by decide) ?_
      refine lv_icmp_ge (tgt := 42) hx hb dX6_put_32 (by decide) (fun zc32 => ?_) (fun zc32 => ?_)
      · -- 42
        refine lv_iload hx hb dX6_put_42 (lv_at hl 4 rfl) ?_
        refine lv_sipush (v := 9999) hx hb dX6_put_44 (by decide) ?_
        refine lv_icmp_le (tgt := 57) hx hb dX6_put_47 (by decide) (fun zc47 => ?_) (fun zc47 => ?_)
        · -- 57
          refine lv_aload_n hx hb dX6_put_57 rfl (lv_at hl 0 rfl) ?_
          refine gf6_10 X (w.at 0) dX6_put_58 ?_
          refine gf6_63 HG1 X (w.at 1) dX6_put_61 ?_
          refine lv_iload_n hx hb dX6_put_64 rfl (lv_at hl 3 rfl) ?_
          refine k_r (rr_v (rest := []) X (w.at 1) mX0_heapsOf kw453 (c_X0_heapsOf HG1 x3) (HG1.in (by decide)) rfl rfl ⟨Nat.le_of_ble_eq_true rfl, Nat.le_of_ble_eq_true rfl⟩ rfl hl.1 rfl (Nat.le_of_ble_eq_true rfl) dX6_put_65 ⟨Nat.zero_le _, Nat.zero_le _⟩) (w.at 1) (fun H locs w => ?_)
          rw [setG_self] at w
          refine lv_astore (lv' := [(5, .ref (aa G 1 (f_X0_heapsOf (σ 1) x3))), (0, .ref (aa G 0 0)), (1, .int x1), (2, .int x2), (3, .int x3), (4, .int x4)]) hx hb dX6_put_68 hl (by decide) rfl (fun ls hl => ?_)
          refine lv_iload_n hx hb dX6_put_70 rfl (lv_at hl 2 rfl) ?_
          refine lv_iload_n hx hb dX6_put_71 rfl (lv_at hl 3 rfl) ?_
          refine k_i (rr_s (rest := []) X w mX6_heapOf kw457 (c_X6_heapOf x1 x2) ⟨Nat.le_of_ble_eq_true rfl, Nat.le_of_ble_eq_true rfl⟩ rfl hl.1 rfl (Nat.le_of_ble_eq_true rfl) dX6_put_72 ⟨Nat.zero_le _, Nat.zero_le _⟩) w (fun H locs w => ?_)
          refine lv_topi (fun zv75 ezv75 => ?_)
          refine lv_istore (lv' := [(6, .int zv75), (5, .ref (aa G 1 (f_X0_heapsOf (σ 1) x3))), (0, .ref (aa G 0 0)), (1, .int x1), (2, .int x2), (3, .int x3), (4, .int x4)]) hx hb dX6_put_75 hl (by decide) rfl (fun ls hl => ?_)
          refine lv_iconst (v := 0) hx hb dX6_put_77 (by decide) ?_
          change W _ _ _ _ _ _ _ _ _ _ _ _ _ _ _ (F0 m 78 ls _)
          refine lv_aload hx hb dX6_put_78 (lv_at hl 1 rfl) ?_
          refine lv_iload hx hb dX6_put_80 (lv_at hl 0 rfl) ?_
          refine ia (f := (f_X0_heapsOf (σ 1) x3)) (n := 16) X (w.at 1) (ho_mem _ _) (ho_sh _ _) (by rw [ezv75]; exact (heap_in _ _)) dX6_put_82 ?_
          refine lv_iload hx hb dX6_put_83 (lv_at hl 6 rfl) ?_
          refine lv_iadd hx hb dX6_put_85 ?_
          refine mmax X hl.1 kw460 (Nat.le_of_ble_eq_true rfl) (Nat.le_of_ble_eq_true rfl) (Nat.zero_le _) (Nat.zero_le _) dX6_put_86 ?_
          refine lv_topi (fun zv89 ezv89 => ?_)
          refine lv_istore (lv' := [(7, .int zv89), (6, .int zv75), (5, .ref (aa G 1 (f_X0_heapsOf (σ 1) x3))), (0, .ref (aa G 0 0)), (1, .int x1), (2, .int x2), (3, .int x3), (4, .int x4)]) hx hb dX6_put_89 hl (by decide) rfl (fun ls hl => ?_)
          refine lv_iload hx hb dX6_put_91 (lv_at hl 0 rfl) ?_
          refine lv_ldc hx hb X.1.2.2.2.1 (X.1.2.2.2.2 _ kw463) dX6_put_93 ?_
          refine lv_icmp_le (tgt := 105) hx hb dX6_put_95 (by decide) (fun zc95 => ?_) (fun zc95 => ?_)
          · -- 105
            refine lv_aload hx hb dX6_put_105 (lv_at hl 2 rfl) ?_
            refine lv_iload hx hb dX6_put_107 (lv_at hl 1 rfl) ?_
            refine lv_iload hx hb dX6_put_109 (lv_at hl 0 rfl) ?_
            refine iS (f := (f_X0_heapsOf (σ 1) x3)) (n := 16) X (w.at 1) (ho_mem _ _) (ho_sh _ _) (by rw [ezv75]; exact (heap_in _ _)) dX6_put_111 (fun zq H locs ezq w => ?_)
            obtain ⟨zs111, ezs111⟩ : ∃ y : St, y = setG σ 1 (up (σ 1) (f_X0_heapsOf (σ 1) x3) zv75.toNatClampNeg zv89) := ⟨_, rfl⟩; have w : Wd G s zs111 H locs := by rw [ezs111, ← ezq]; exact w
            refine lv_iload hx hb dX6_put_112 (lv_at hl 0 rfl) ?_
            exact t_i X w hr hlk dX6_put_114 (by replace ezs111 := ezs111.symm; subst ezs111; replace ezv89 := ezv89.symm; subst ezv89; replace ezv75 := ezv75.symm; subst ezv75; simp only [f_X6_put, if_neg zc11, if_neg zc18, if_pos zc32, if_pos zc47, if_pos zc95]) (by replace ezs111 := ezs111.symm; subst ezs111; replace ezv89 := ezv89.symm; subst ezv89; replace ezv75 := ezv75.symm; subst ezv75; simp only [g_X6_put, if_neg zc11, if_neg zc18, if_pos zc32, if_pos zc47, if_pos zc95])
          · -- 98
            refine lv_aload_n hx hb dX6_put_98 rfl (lv_at hl 3 rfl) ?_
            refine lv_bipush (v := (-6)) hx hb dX6_put_99 (by decide) ?_
            refine k_i (rr_v (rest := []) X (w.at 0) mX6_refuse kw270 (c_X6_refuse (-6)) m0_0 rfl rfl ⟨Nat.le_of_ble_eq_true rfl, Nat.le_of_ble_eq_true rfl⟩ rfl hl.1 rfl (Nat.le_of_ble_eq_true rfl) dX6_put_101 ⟨Nat.zero_le _, Nat.zero_le _⟩) (w.at 0) (fun H locs w => ?_)
            obtain ⟨zs101, ezs101⟩ : ∃ y : St, y = setG σ 0 (g_X6_refuse (σ 0) (-6)) := ⟨_, rfl⟩; rw [← ezs101] at w
            exact t_i X w hr hlk dX6_put_104 (by replace ezs101 := ezs101.symm; subst ezs101; replace ezv89 := ezv89.symm; subst ezv89; replace ezv75 := ezv75.symm; subst ezv75; simp only [f_X6_put, if_neg zc11, if_neg zc18, if_pos zc32, if_pos zc47, if_neg zc95]) (by replace ezs101 := ezs101.symm; subst ezs101; replace ezv89 := ezv89.symm; subst ezv89; replace ezv75 := ezv75.symm; subst ezv75; simp only [g_X6_put, if_neg zc11, if_neg zc18, if_pos zc32, if_pos zc47, if_neg zc95])
        · -- 50
          refine lv_aload_n hx hb dX6_put_50 rfl (lv_at hl 0 rfl) ?_
          refine lv_bipush (v := (-6)) hx hb dX6_put_51 (by decide) ?_
          refine k_i (rr_v (rest := []) X (w.at 0) mX6_refuse kw270 (c_X6_refuse (-6)) m0_0 rfl rfl ⟨Nat.le_of_ble_eq_true rfl, Nat.le_of_ble_eq_true rfl⟩ rfl hl.1 rfl (Nat.le_of_ble_eq_true rfl) dX6_put_53 ⟨Nat.zero_le _, Nat.zero_le _⟩) (w.at 0) (fun H locs w => ?_)
          obtain ⟨zs53, ezs53⟩ : ∃ y : St, y = setG σ 0 (g_X6_refuse (σ 0) (-6)) := ⟨_, rfl⟩; rw [← ezs53] at w
          exact t_i X w hr hlk dX6_put_56 (by replace ezs53 := ezs53.symm; subst ezs53; simp only [f_X6_put, if_neg zc11, if_neg zc18, if_pos zc32, if_neg zc47]) (by replace ezs53 := ezs53.symm; subst ezs53; simp only [g_X6_put, if_neg zc11, if_neg zc18, if_pos zc32, if_neg zc47])
      · -- 35
        refine lv_aload_n hx hb dX6_put_35 rfl (lv_at hl 0 rfl) ?_
        refine lv_bipush (v := (-4)) hx hb dX6_put_36 (by decide) ?_
        refine k_i (rr_v (rest := []) X (w.at 0) mX6_refuse kw270 (c_X6_refuse (-4)) m0_0 rfl rfl ⟨Nat.le_of_ble_eq_true rfl, Nat.le_of_ble_eq_true rfl⟩ rfl hl.1 rfl (Nat.le_of_ble_eq_true rfl) dX6_put_38 ⟨Nat.zero_le _, Nat.zero_le _⟩) (w.at 0) (fun H locs w => ?_)
        obtain ⟨zs38, ezs38⟩ : ∃ y : St, y = setG σ 0 (g_X6_refuse (σ 0) (-4)) := ⟨_, rfl⟩; rw [← ezs38] at w
        exact t_i X w hr hlk dX6_put_41 (by replace ezs38 := ezs38.symm; subst ezs38; simp only [f_X6_put, if_neg zc11, if_neg zc18, if_neg zc32]) (by replace ezs38 := ezs38.symm; subst ezs38; simp only [g_X6_put, if_neg zc11, if_neg zc18, if_neg zc32])
    · -- 21
      refine lv_aload_n hx hb dX6_put_21 rfl (lv_at hl 0 rfl) ?_
      refine lv_iconst (v := (-1)) hx hb dX6_put_22 (by decide) ?_
      refine k_i (rr_v (rest := []) X (w.at 0) mX6_refuse kw270 (c_X6_refuse (-1)) m0_0 rfl rfl ⟨Nat.le_of_ble_eq_true rfl, Nat.le_of_ble_eq_true rfl⟩ rfl hl.1 rfl (Nat.le_of_ble_eq_true rfl) dX6_put_23 ⟨Nat.zero_le _, Nat.zero_le _⟩) (w.at 0) (fun H locs w => ?_)
      obtain ⟨zs23_2, ezs23_2⟩ : ∃ y : St, y = setG σ 0 (g_X6_refuse (σ 0) (-1)) := ⟨_, rfl⟩; rw [← ezs23_2] at w
      exact t_i X w hr hlk dX6_put_26 (by replace ezs23_2 := ezs23_2.symm; subst ezs23_2; simp only [f_X6_put, if_neg zc11, if_pos zc18]) (by replace ezs23_2 := ezs23_2.symm; subst ezs23_2; simp only [g_X6_put, if_neg zc11, if_pos zc18])

noncomputable def f_X6_tons (σ : St) (x1 : Int32) (x2 : Int32) (x3 : Int32) : Int32 :=
  if (f_X0_has (σ 1) x1) = 0 then
    let zs23 : St := setG σ 0 (g_X6_refuse (σ 0) (-1))
    f_X6_refuse (σ 0) (-1)
  else
    if (f_X6_isStuff x2) = 0 then
      let zs23_2 : St := setG σ 0 (g_X6_refuse (σ 0) (-1))
      f_X6_refuse (σ 0) (-1)
    else
      σ 1 (f_X0_heapsOf (σ 1) x3) (f_X6_heapOf x1 x2).toNatClampNeg
noncomputable def g_X6_tons (σ : St) (x1 : Int32) (x2 : Int32) (x3 : Int32) : St :=
  if (f_X0_has (σ 1) x1) = 0 then
    let zs23 : St := setG σ 0 (g_X6_refuse (σ 0) (-1))
    zs23
  else
    if (f_X6_isStuff x2) = 0 then
      let zs23_2 : St := setG σ 0 (g_X6_refuse (σ 0) (-1))
      zs23_2
    else
      σ
set_option maxRecDepth 100000 in
set_option maxHeartbeats 4000000 in
theorem c_X6_tons {l : Launch} {G : GG} {σ : St}  (x1 : Int32) (x2 : Int32) (x3 : Int32) : MM l G yX6_tons cX6_tons 4 1 22 (some .int) [.ref (aa G 0 0), .int x1, .int x2, .int x3] σ (Qi G (f_X6_tons σ x1 x2 x3) (g_X6_tons σ x1 x2 x3)) := by
  refine MM.of (by decide) (Nat.le_of_ble_eq_true rfl) ?_
  intro p e s m below meth c ls X hr hlk w hl
  have hx := X.1.1
  have hb := X.1.2.1
  have hl : lv_has ls 4 [(0, .ref (aa G 0 0)), (1, .int x1), (2, .int x2), (3, .int x3)] := hl
  refine lv_aload_n hx hb dX6_tons_0 rfl (lv_at hl 0 rfl) ?_
  refine gf6_10 X (w.at 0) dX6_tons_1 ?_
  refine gf6_63 HG1 X (w.at 1) dX6_tons_4 ?_
  refine lv_iload_n hx hb dX6_tons_7 rfl (lv_at hl 1 rfl) ?_
  refine k_i (rr_v (rest := []) X (w.at 1) mX0_has kw412 (c_X0_has HG1 x1) (HG1.in (by decide)) rfl rfl ⟨Nat.le_of_ble_eq_true rfl, Nat.le_of_ble_eq_true rfl⟩ rfl hl.1 rfl (Nat.le_of_ble_eq_true rfl) dX6_tons_8 ⟨Nat.zero_le _, Nat.zero_le _⟩) (w.at 1) (fun H locs w => ?_)
  rw [setG_self] at w
  refine lv_if_eq (tgt := 21) hx hb dX6_tons_11 (by decide) (fun zc11 => ?_) (fun zc11 => ?_)
  · -- 21
    refine lv_aload_n hx hb dX6_tons_21 rfl (lv_at hl 0 rfl) ?_
    refine lv_iconst (v := (-1)) hx hb dX6_tons_22 (by decide) ?_
    refine k_i (rr_v (rest := []) X (w.at 0) mX6_refuse kw270 (c_X6_refuse (-1)) m0_0 rfl rfl ⟨Nat.le_of_ble_eq_true rfl, Nat.le_of_ble_eq_true rfl⟩ rfl hl.1 rfl (Nat.le_of_ble_eq_true rfl) dX6_tons_23 ⟨Nat.zero_le _, Nat.zero_le _⟩) (w.at 0) (fun H locs w => ?_)
    obtain ⟨zs23, ezs23⟩ : ∃ y : St, y = setG σ 0 (g_X6_refuse (σ 0) (-1)) := ⟨_, rfl⟩; rw [← ezs23] at w
    exact t_i X w hr hlk dX6_tons_26 (by replace ezs23 := ezs23.symm; subst ezs23; simp only [f_X6_tons, if_pos zc11]) (by replace ezs23 := ezs23.symm; subst ezs23; simp only [g_X6_tons, if_pos zc11])
  · -- 14
    refine lv_iload_n hx hb dX6_tons_14 rfl (lv_at hl 2 rfl) ?_
    refine k_i (rr_s (rest := []) X w mX6_isStuff kw452 (c_X6_isStuff x2) ⟨Nat.le_of_ble_eq_true rfl, Nat.le_of_ble_eq_true rfl⟩ rfl hl.1 rfl (Nat.le_of_ble_eq_true rfl) dX6_tons_15 ⟨Nat.zero_le _, Nat.zero_le _⟩) w (fun H locs w => ?_)
    refine lv_if_ne (tgt := 27) hx hb dX6_tons_18 (by decide) (fun zc18 => ?_) (fun zc18 => ?_)
    · -- 27
      refine lv_aload_n hx hb dX6_tons_27 rfl (lv_at hl 0 rfl) ?_
      refine gf6_10 X (w.at 0) dX6_tons_28 ?_
      refine gf6_63 HG1 X (w.at 1) dX6_tons_31 ?_
      refine lv_iload_n hx hb dX6_tons_34 rfl (lv_at hl 3 rfl) ?_
      refine k_r (rr_v (rest := []) X (w.at 1) mX0_heapsOf kw453 (c_X0_heapsOf HG1 x3) (HG1.in (by decide)) rfl rfl ⟨Nat.le_of_ble_eq_true rfl, Nat.le_of_ble_eq_true rfl⟩ rfl hl.1 rfl (Nat.le_of_ble_eq_true rfl) dX6_tons_35 ⟨Nat.zero_le _, Nat.zero_le _⟩) (w.at 1) (fun H locs w => ?_)
      rw [setG_self] at w
      refine lv_iload_n hx hb dX6_tons_38 rfl (lv_at hl 1 rfl) ?_
      refine lv_iload_n hx hb dX6_tons_39 rfl (lv_at hl 2 rfl) ?_
      refine k_i (rr_s (rest := [.ref (aa G 1 (f_X0_heapsOf (σ 1) x3))]) X w mX6_heapOf kw457 (c_X6_heapOf x1 x2) ⟨Nat.le_of_ble_eq_true rfl, Nat.le_of_ble_eq_true rfl⟩ rfl hl.1 rfl (Nat.le_of_ble_eq_true rfl) dX6_tons_40 ⟨Nat.zero_le _, Nat.zero_le _⟩) w (fun H locs w => ?_)
      refine ia (f := (f_X0_heapsOf (σ 1) x3)) (n := 16) X (w.at 1) (ho_mem _ _) (ho_sh _ _) (heap_in _ _) dX6_tons_43 ?_
      exact t_i X w hr hlk dX6_tons_44 (by simp only [f_X6_tons, if_neg zc11, if_neg zc18]) (by simp only [g_X6_tons, if_neg zc11, if_neg zc18])
    · -- 21
      refine lv_aload_n hx hb dX6_tons_21 rfl (lv_at hl 0 rfl) ?_
      refine lv_iconst (v := (-1)) hx hb dX6_tons_22 (by decide) ?_
      refine k_i (rr_v (rest := []) X (w.at 0) mX6_refuse kw270 (c_X6_refuse (-1)) m0_0 rfl rfl ⟨Nat.le_of_ble_eq_true rfl, Nat.le_of_ble_eq_true rfl⟩ rfl hl.1 rfl (Nat.le_of_ble_eq_true rfl) dX6_tons_23 ⟨Nat.zero_le _, Nat.zero_le _⟩) (w.at 0) (fun H locs w => ?_)
      obtain ⟨zs23_2, ezs23_2⟩ : ∃ y : St, y = setG σ 0 (g_X6_refuse (σ 0) (-1)) := ⟨_, rfl⟩; rw [← ezs23_2] at w
      exact t_i X w hr hlk dX6_tons_26 (by replace ezs23_2 := ezs23_2.symm; subst ezs23_2; simp only [f_X6_tons, if_neg zc11, if_pos zc18]) (by replace ezs23_2 := ezs23_2.symm; subst ezs23_2; simp only [g_X6_tons, if_neg zc11, if_pos zc18])

noncomputable def f_X6_depth (σ : St) (x1 : Int32) : Int32 :=
  if (f_X0_has (σ 1) x1) = 0 then
    let zs16 : St := setG σ 0 (g_X6_refuse (σ 0) (-1))
    f_X6_refuse (σ 0) (-1)
  else
    f_X0_depthOf (σ 1) x1
noncomputable def g_X6_depth (σ : St) (x1 : Int32) : St :=
  if (f_X0_has (σ 1) x1) = 0 then
    let zs16 : St := setG σ 0 (g_X6_refuse (σ 0) (-1))
    zs16
  else
    σ
set_option maxRecDepth 100000 in
set_option maxHeartbeats 4000000 in
theorem c_X6_depth {l : Launch} {G : GG} {σ : St}  (x1 : Int32) : MM l G yX6_depth cX6_depth 2 3 55 (some .int) [.ref (aa G 0 0), .int x1] σ (Qi G (f_X6_depth σ x1) (g_X6_depth σ x1)) := by
  refine MM.of (by decide) (Nat.le_of_ble_eq_true rfl) ?_
  intro p e s m below meth c ls X hr hlk w hl
  have hx := X.1.1
  have hb := X.1.2.1
  have hl : lv_has ls 2 [(0, .ref (aa G 0 0)), (1, .int x1)] := hl
  refine lv_aload_n hx hb dX6_depth_0 rfl (lv_at hl 0 rfl) ?_
  refine gf6_10 X (w.at 0) dX6_depth_1 ?_
  refine gf6_63 HG1 X (w.at 1) dX6_depth_4 ?_
  refine lv_iload_n hx hb dX6_depth_7 rfl (lv_at hl 1 rfl) ?_
  refine k_i (rr_v (rest := []) X (w.at 1) mX0_has kw412 (c_X0_has HG1 x1) (HG1.in (by decide)) rfl rfl ⟨Nat.le_of_ble_eq_true rfl, Nat.le_of_ble_eq_true rfl⟩ rfl hl.1 rfl (Nat.le_of_ble_eq_true rfl) dX6_depth_8 ⟨Nat.zero_le _, Nat.zero_le _⟩) (w.at 1) (fun H locs w => ?_)
  rw [setG_self] at w
  refine lv_if_ne (tgt := 20) hx hb dX6_depth_11 (by decide) (fun zc11 => ?_) (fun zc11 => ?_)
  · -- 20
    refine lv_aload_n hx hb dX6_depth_20 rfl (lv_at hl 0 rfl) ?_
    refine gf6_10 X (w.at 0) dX6_depth_21 ?_
    refine gf6_63 HG1 X (w.at 1) dX6_depth_24 ?_
    refine lv_iload_n hx hb dX6_depth_27 rfl (lv_at hl 1 rfl) ?_
    refine k_i (rr_v (rest := []) X (w.at 1) mX0_depthOf kw472 (c_X0_depthOf HG1 x1) (HG1.in (by decide)) rfl rfl ⟨Nat.le_of_ble_eq_true rfl, Nat.le_of_ble_eq_true rfl⟩ rfl hl.1 rfl (Nat.le_of_ble_eq_true rfl) dX6_depth_28 ⟨Nat.zero_le _, Nat.zero_le _⟩) (w.at 1) (fun H locs w => ?_)
    rw [setG_self] at w
    exact t_i X w hr hlk dX6_depth_31 (by simp only [f_X6_depth, if_neg zc11]) (by simp only [g_X6_depth, if_neg zc11])
  · -- 14
    refine lv_aload_n hx hb dX6_depth_14 rfl (lv_at hl 0 rfl) ?_
    refine lv_iconst (v := (-1)) hx hb dX6_depth_15 (by decide) ?_
    refine k_i (rr_v (rest := []) X (w.at 0) mX6_refuse kw270 (c_X6_refuse (-1)) m0_0 rfl rfl ⟨Nat.le_of_ble_eq_true rfl, Nat.le_of_ble_eq_true rfl⟩ rfl hl.1 rfl (Nat.le_of_ble_eq_true rfl) dX6_depth_16 ⟨Nat.zero_le _, Nat.zero_le _⟩) (w.at 0) (fun H locs w => ?_)
    obtain ⟨zs16, ezs16⟩ : ∃ y : St, y = setG σ 0 (g_X6_refuse (σ 0) (-1)) := ⟨_, rfl⟩; rw [← ezs16] at w
    exact t_i X w hr hlk dX6_depth_19 (by replace ezs16 := ezs16.symm; subst ezs16; simp only [f_X6_depth, if_pos zc11]) (by replace ezs16 := ezs16.symm; subst ezs16; simp only [g_X6_depth, if_pos zc11])

noncomputable def f_X6_lacks (σ : St) (x1 : Int32) : Int32 :=
  if (f_X0_has (σ 1) x1) = 0 then
    let zs18 : St := setG σ 0 (g_X6_refuse (σ 0) (-1))
    (-1000000000) + (f_X6_refuse (σ 0) (-1))
  else
    f_X0_lackOf (σ 1) x1
noncomputable def g_X6_lacks (σ : St) (x1 : Int32) : St :=
  if (f_X0_has (σ 1) x1) = 0 then
    let zs18 : St := setG σ 0 (g_X6_refuse (σ 0) (-1))
    zs18
  else
    σ
set_option maxRecDepth 100000 in
set_option maxHeartbeats 4000000 in
theorem c_X6_lacks {l : Launch} {G : GG} {σ : St}  (x1 : Int32) : MM l G yX6_lacks cX6_lacks 2 3 55 (some .int) [.ref (aa G 0 0), .int x1] σ (Qi G (f_X6_lacks σ x1) (g_X6_lacks σ x1)) := by
  refine MM.of (by decide) (Nat.le_of_ble_eq_true rfl) ?_
  intro p e s m below meth c ls X hr hlk w hl
  have hx := X.1.1
  have hb := X.1.2.1
  have hl : lv_has ls 2 [(0, .ref (aa G 0 0)), (1, .int x1)] := hl
  refine lv_aload_n hx hb dX6_lacks_0 rfl (lv_at hl 0 rfl) ?_
  refine gf6_10 X (w.at 0) dX6_lacks_1 ?_
  refine gf6_63 HG1 X (w.at 1) dX6_lacks_4 ?_
  refine lv_iload_n hx hb dX6_lacks_7 rfl (lv_at hl 1 rfl) ?_
  refine k_i (rr_v (rest := []) X (w.at 1) mX0_has kw412 (c_X0_has HG1 x1) (HG1.in (by decide)) rfl rfl ⟨Nat.le_of_ble_eq_true rfl, Nat.le_of_ble_eq_true rfl⟩ rfl hl.1 rfl (Nat.le_of_ble_eq_true rfl) dX6_lacks_8 ⟨Nat.zero_le _, Nat.zero_le _⟩) (w.at 1) (fun H locs w => ?_)
  rw [setG_self] at w
  refine lv_if_ne (tgt := 23) hx hb dX6_lacks_11 (by decide) (fun zc11 => ?_) (fun zc11 => ?_)
  · -- 23
    refine lv_aload_n hx hb dX6_lacks_23 rfl (lv_at hl 0 rfl) ?_
    refine gf6_10 X (w.at 0) dX6_lacks_24 ?_
    refine gf6_63 HG1 X (w.at 1) dX6_lacks_27 ?_
    refine lv_iload_n hx hb dX6_lacks_30 rfl (lv_at hl 1 rfl) ?_
    refine k_i (rr_v (rest := []) X (w.at 1) mX0_lackOf kw488 (c_X0_lackOf HG1 x1) (HG1.in (by decide)) rfl rfl ⟨Nat.le_of_ble_eq_true rfl, Nat.le_of_ble_eq_true rfl⟩ rfl hl.1 rfl (Nat.le_of_ble_eq_true rfl) dX6_lacks_31 ⟨Nat.zero_le _, Nat.zero_le _⟩) (w.at 1) (fun H locs w => ?_)
    rw [setG_self] at w
    exact t_i X w hr hlk dX6_lacks_34 (by simp only [f_X6_lacks, if_neg zc11]) (by simp only [g_X6_lacks, if_neg zc11])
  · -- 14
    refine lv_ldc hx hb X.1.2.2.2.1 (X.1.2.2.2.2 _ kw487) dX6_lacks_14 ?_
    refine lv_aload_n hx hb dX6_lacks_16 rfl (lv_at hl 0 rfl) ?_
    refine lv_iconst (v := (-1)) hx hb dX6_lacks_17 (by decide) ?_
    refine k_i (rr_v (rest := [.int (-1000000000)]) X (w.at 0) mX6_refuse kw270 (c_X6_refuse (-1)) m0_0 rfl rfl ⟨Nat.le_of_ble_eq_true rfl, Nat.le_of_ble_eq_true rfl⟩ rfl hl.1 rfl (Nat.le_of_ble_eq_true rfl) dX6_lacks_18 ⟨Nat.zero_le _, Nat.zero_le _⟩) (w.at 0) (fun H locs w => ?_)
    obtain ⟨zs18, ezs18⟩ : ∃ y : St, y = setG σ 0 (g_X6_refuse (σ 0) (-1)) := ⟨_, rfl⟩; rw [← ezs18] at w
    refine lv_iadd hx hb dX6_lacks_21 ?_
    exact t_i X w hr hlk dX6_lacks_22 (by replace ezs18 := ezs18.symm; subst ezs18; simp only [f_X6_lacks, if_pos zc11]) (by replace ezs18 := ezs18.symm; subst ezs18; simp only [g_X6_lacks, if_pos zc11])

noncomputable def f_X6_dredger (σ : St) (x1 : Int32) (x2 : Int32) : Int32 :=
  if x1 < 0 then
    let zs12 : St := setG σ 0 (g_X6_refuse (σ 0) (-2))
    f_X6_refuse (σ 0) (-2)
  else
    if x1 ≤ 4 then
      if x1 = 1 then
        if (f_X0_has (σ 1) x2) = 0 then
          if x2 = 8 then
            let zs70_2 : St := setG σ 1 (g_X2_change (σ 1) x1 x2)
            f_X2_change (σ 1) x1 x2
          else
            let zs78 : St := setG σ 0 (g_X6_refuse (σ 0) (-1))
            f_X6_refuse (σ 0) (-1)
        else
          let zs70 : St := setG σ 1 (g_X2_change (σ 1) x1 x2)
          f_X2_change (σ 1) x1 x2
      else
        if x1 = 3 then
          if (f_X0_has (σ 1) x2) = 0 then
            let zs78_2 : St := setG σ 0 (g_X6_refuse (σ 0) (-1))
            f_X6_refuse (σ 0) (-1)
          else
            let zs70_3 : St := setG σ 1 (g_X2_change (σ 1) x1 x2)
            f_X2_change (σ 1) x1 x2
        else
          if 0 ≤ x2 then
            if x2 ≤ (f_X2_greatest x1) then
              let zs117 : St := setG σ 1 (g_X2_change (σ 1) x1 x2)
              f_X2_change (σ 1) x1 x2
            else
              let zs104 : St := setG σ 0 (g_X6_refuse (σ 0) (-6))
              f_X6_refuse (σ 0) (-6)
          else
            let zs89 : St := setG σ 0 (g_X6_refuse (σ 0) (-4))
            f_X6_refuse (σ 0) (-4)
    else
      let zs12_2 : St := setG σ 0 (g_X6_refuse (σ 0) (-2))
      f_X6_refuse (σ 0) (-2)
noncomputable def g_X6_dredger (σ : St) (x1 : Int32) (x2 : Int32) : St :=
  if x1 < 0 then
    let zs12 : St := setG σ 0 (g_X6_refuse (σ 0) (-2))
    zs12
  else
    if x1 ≤ 4 then
      if x1 = 1 then
        if (f_X0_has (σ 1) x2) = 0 then
          if x2 = 8 then
            let zs70_2 : St := setG σ 1 (g_X2_change (σ 1) x1 x2)
            zs70_2
          else
            let zs78 : St := setG σ 0 (g_X6_refuse (σ 0) (-1))
            zs78
        else
          let zs70 : St := setG σ 1 (g_X2_change (σ 1) x1 x2)
          zs70
      else
        if x1 = 3 then
          if (f_X0_has (σ 1) x2) = 0 then
            let zs78_2 : St := setG σ 0 (g_X6_refuse (σ 0) (-1))
            zs78_2
          else
            let zs70_3 : St := setG σ 1 (g_X2_change (σ 1) x1 x2)
            zs70_3
        else
          if 0 ≤ x2 then
            if x2 ≤ (f_X2_greatest x1) then
              let zs117 : St := setG σ 1 (g_X2_change (σ 1) x1 x2)
              zs117
            else
              let zs104 : St := setG σ 0 (g_X6_refuse (σ 0) (-6))
              zs104
          else
            let zs89 : St := setG σ 0 (g_X6_refuse (σ 0) (-4))
            zs89
    else
      let zs12_2 : St := setG σ 0 (g_X6_refuse (σ 0) (-2))
      zs12_2
set_option maxRecDepth 100000 in
set_option maxHeartbeats 4000000 in
theorem c_X6_dredger {l : Launch} {G : GG} {σ : St}  (x1 : Int32) (x2 : Int32) : MM l G yX6_dredger cX6_dredger 4 1 23 (some .int) [.ref (aa G 0 0), .int x1, .int x2] σ (Qi G (f_X6_dredger σ x1 x2) (g_X6_dredger σ x1 x2)) := by
  refine MM.of (by decide) (Nat.le_of_ble_eq_true rfl) ?_
  intro p e s m below meth c ls X hr hlk w hl
  have hx := X.1.1
  have hb := X.1.2.1
  have hl : lv_has ls 4 [(0, .ref (aa G 0 0)), (1, .int x1), (2, .int x2)] := hl
  refine lv_iload_n hx hb dX6_dredger_0 rfl (lv_at hl 1 rfl) ?_
  refine lv_if_lt (tgt := 9) hx hb dX6_dredger_1 (by decide) (fun zc1 => ?_) (fun zc1 => ?_)
  · -- 9
    refine lv_aload_n hx hb dX6_dredger_9 rfl (lv_at hl 0 rfl) ?_
    refine lv_bipush (v := (-2)) hx hb dX6_dredger_10 (by decide) ?_
    refine k_i (rr_v (rest := []) X (w.at 0) mX6_refuse kw270 (c_X6_refuse (-2)) m0_0 rfl rfl ⟨Nat.le_of_ble_eq_true rfl, Nat.le_of_ble_eq_true rfl⟩ rfl hl.1 rfl (Nat.le_of_ble_eq_true rfl) dX6_dredger_12 ⟨Nat.zero_le _, Nat.zero_le _⟩) (w.at 0) (fun H locs w => ?_)
    obtain ⟨zs12, ezs12⟩ : ∃ y : St, y = setG σ 0 (g_X6_refuse (σ 0) (-2)) := ⟨_, rfl⟩; rw [← ezs12] at w
    exact t_i X w hr hlk dX6_dredger_15 (by replace ezs12 := ezs12.symm; subst ezs12; simp only [f_X6_dredger, if_pos zc1]) (by replace ezs12 := ezs12.symm; subst ezs12; simp only [g_X6_dredger, if_pos zc1])
  · -- 4
    refine lv_iload_n hx hb dX6_dredger_4 rfl (lv_at hl 1 rfl) ?_
    refine lv_iconst (v := 4) hx hb dX6_dredger_5 (by decide) ?_
    refine lv_icmp_le (tgt := 16) hx hb dX6_dredger_6 (by decide) (fun zc6 => ?_) (fun zc6 => ?_)
    · -- 16
      refine lv_iload_n hx hb dX6_dredger_16 rfl (lv_at hl 1 rfl) ?_
      refine lv_iconst (v := 1) hx hb dX6_dredger_17 (by decide) ?_
      refine lv_icmp_eq (tgt := 26) hx hb dX6_dredger_18 (by decide) (fun zc18 => ?_) (fun zc18 => ?_)
      · -- 26
        refine lv_aload_n hx hb dX6_dredger_26 rfl (lv_at hl 0 rfl) ?_
        refine gf6_10 X (w.at 0) dX6_dredger_27 ?_
        refine gf6_63 HG1 X (w.at 1) dX6_dredger_30 ?_
        refine lv_iload_n hx hb dX6_dredger_33 rfl (lv_at hl 2 rfl) ?_
        refine k_i (rr_v (rest := []) X (w.at 1) mX0_has kw412 (c_X0_has HG1 x2) (HG1.in (by decide)) rfl rfl ⟨Nat.le_of_ble_eq_true rfl, Nat.le_of_ble_eq_true rfl⟩ rfl hl.1 rfl (Nat.le_of_ble_eq_true rfl) dX6_dredger_34 ⟨Nat.zero_le _, Nat.zero_le _⟩) (w.at 1) (fun H locs w => ?_)
        rw [setG_self] at w
        refine lv_if_ne (tgt := 51) hx hb dX6_dredger_37 (by decide) (fun zc37 => ?_) (fun zc37 => ?_)
        · -- 51
          refine lv_iconst (v := 1) hx hb dX6_dredger_51 (by decide) ?_
          refine lv_goto (tgt := 56) hx hb dX6_dredger_52 (by decide) ?_
          refine lv_istore_n (lv' := [(3, .int 1), (0, .ref (aa G 0 0)), (1, .int x1), (2, .int x2)]) hx hb dX6_dredger_56 rfl hl (by decide) rfl (fun ls hl => ?_)
          refine lv_iload_n hx hb dX6_dredger_57 rfl (lv_at hl 0 rfl) ?_
          refine lv_if_eq (tgt := 76) hx hb dX6_dredger_58 (by decide) (fun zc58 => absurd zc58 (by decide)) (fun _ => ?_)
          refine lv_aload_n hx hb dX6_dredger_61 rfl (lv_at hl 1 rfl) ?_
          refine gf6_10 X (w.at 0) dX6_dredger_62 ?_
          refine gf6_137 HG1 X (w.at 1) dX6_dredger_65 ?_
          refine lv_iload_n hx hb dX6_dredger_68 rfl (lv_at hl 2 rfl) ?_
          refine lv_iload_n hx hb dX6_dredger_69 rfl (lv_at hl 3 rfl) ?_
          refine k_i (rr_v (rest := []) X (w.at 1) mX2_change kw496 (c_X2_change HG1 x1 x2) (HG1.in (by decide)) rfl rfl ⟨Nat.le_of_ble_eq_true rfl, Nat.le_of_ble_eq_true rfl⟩ rfl hl.1 rfl (Nat.le_of_ble_eq_true rfl) dX6_dredger_70 ⟨Nat.zero_le _, Nat.zero_le _⟩) (w.at 1) (fun H locs w => ?_)
          obtain ⟨zs70, ezs70⟩ : ∃ y : St, y = setG σ 1 (g_X2_change (σ 1) x1 x2) := ⟨_, rfl⟩; rw [← ezs70] at w
          change W _ _ _ _ _ _ _ _ _ _ _ _ _ _ _ (F0 m 73 ls _)
          refine lv_goto (tgt := 81) hx hb dX6_dredger_73 (by decide) ?_
          exact t_i X w hr hlk dX6_dredger_81 (by replace ezs70 := ezs70.symm; subst ezs70; simp only [f_X6_dredger, if_neg zc1, if_pos zc6, if_pos zc18, if_neg zc37]) (by replace ezs70 := ezs70.symm; subst ezs70; simp only [g_X6_dredger, if_neg zc1, if_pos zc6, if_pos zc18, if_neg zc37])
        · -- 40
          refine lv_iload_n hx hb dX6_dredger_40 rfl (lv_at hl 1 rfl) ?_
          refine lv_iconst (v := 1) hx hb dX6_dredger_41 (by decide) ?_
          refine lv_icmp_ne (tgt := 55) hx hb dX6_dredger_42 (by decide) (fun zc42 => absurd zc18 zc42) (fun _ => ?_)
          refine lv_iload_n hx hb dX6_dredger_45 rfl (lv_at hl 2 rfl) ?_
          refine lv_bipush (v := 8) hx hb dX6_dredger_46 (by decide) ?_
          refine lv_icmp_ne (tgt := 55) hx hb dX6_dredger_48 (by decide) (fun zc48 => ?_) (fun zc48 => ?_)
          · -- 55
            refine lv_iconst (v := 0) hx hb dX6_dredger_55 (by decide) ?_
            refine lv_istore_n (lv' := [(3, .int 0), (0, .ref (aa G 0 0)), (1, .int x1), (2, .int x2)]) hx hb dX6_dredger_56 rfl hl (by decide) rfl (fun ls hl => ?_)
            refine lv_iload_n hx hb dX6_dredger_57 rfl (lv_at hl 0 rfl) ?_
            refine lv_if_eq (tgt := 76) hx hb dX6_dredger_58 (by decide) (fun _ => ?_) (fun zc58 => absurd (by decide) zc58)
            refine lv_aload_n hx hb dX6_dredger_76 rfl (lv_at hl 1 rfl) ?_
            refine lv_iconst (v := (-1)) hx hb dX6_dredger_77 (by decide) ?_
            refine k_i (rr_v (rest := []) X (w.at 0) mX6_refuse kw270 (c_X6_refuse (-1)) m0_0 rfl rfl ⟨Nat.le_of_ble_eq_true rfl, Nat.le_of_ble_eq_true rfl⟩ rfl hl.1 rfl (Nat.le_of_ble_eq_true rfl) dX6_dredger_78 ⟨Nat.zero_le _, Nat.zero_le _⟩) (w.at 0) (fun H locs w => ?_)
            obtain ⟨zs78, ezs78⟩ : ∃ y : St, y = setG σ 0 (g_X6_refuse (σ 0) (-1)) := ⟨_, rfl⟩; rw [← ezs78] at w
            exact t_i X w hr hlk dX6_dredger_81 (by replace ezs78 := ezs78.symm; subst ezs78; simp only [f_X6_dredger, if_neg zc1, if_pos zc6, if_pos zc18, if_pos zc37, if_neg zc48]) (by replace ezs78 := ezs78.symm; subst ezs78; simp only [g_X6_dredger, if_neg zc1, if_pos zc6, if_pos zc18, if_pos zc37, if_neg zc48])
          · -- 51
            refine lv_iconst (v := 1) hx hb dX6_dredger_51 (by decide) ?_
            refine lv_goto (tgt := 56) hx hb dX6_dredger_52 (by decide) ?_
            refine lv_istore_n (lv' := [(3, .int 1), (0, .ref (aa G 0 0)), (1, .int x1), (2, .int x2)]) hx hb dX6_dredger_56 rfl hl (by decide) rfl (fun ls hl => ?_)
            refine lv_iload_n hx hb dX6_dredger_57 rfl (lv_at hl 0 rfl) ?_
            refine lv_if_eq (tgt := 76) hx hb dX6_dredger_58 (by decide) (fun zc58 => absurd zc58 (by decide)) (fun _ => ?_)
            refine lv_aload_n hx hb dX6_dredger_61 rfl (lv_at hl 1 rfl) ?_
            refine gf6_10 X (w.at 0) dX6_dredger_62 ?_
            refine gf6_137 HG1 X (w.at 1) dX6_dredger_65 ?_
            refine lv_iload_n hx hb dX6_dredger_68 rfl (lv_at hl 2 rfl) ?_
            refine lv_iload_n hx hb dX6_dredger_69 rfl (lv_at hl 3 rfl) ?_
            refine k_i (rr_v (rest := []) X (w.at 1) mX2_change kw496 (c_X2_change HG1 x1 x2) (HG1.in (by decide)) rfl rfl ⟨Nat.le_of_ble_eq_true rfl, Nat.le_of_ble_eq_true rfl⟩ rfl hl.1 rfl (Nat.le_of_ble_eq_true rfl) dX6_dredger_70 ⟨Nat.zero_le _, Nat.zero_le _⟩) (w.at 1) (fun H locs w => ?_)
            obtain ⟨zs70_2, ezs70_2⟩ : ∃ y : St, y = setG σ 1 (g_X2_change (σ 1) x1 x2) := ⟨_, rfl⟩; rw [← ezs70_2] at w
            change W _ _ _ _ _ _ _ _ _ _ _ _ _ _ _ (F0 m 73 ls _)
            refine lv_goto (tgt := 81) hx hb dX6_dredger_73 (by decide) ?_
            exact t_i X w hr hlk dX6_dredger_81 (by replace ezs70_2 := ezs70_2.symm; subst ezs70_2; simp only [f_X6_dredger, if_neg zc1, if_pos zc6, if_pos zc18, if_pos zc37, if_pos zc48]) (by replace ezs70_2 := ezs70_2.symm; subst ezs70_2; simp only [g_X6_dredger, if_neg zc1, if_pos zc6, if_pos zc18, if_pos zc37, if_pos zc48])
      · -- 21
        refine lv_iload_n hx hb dX6_dredger_21 rfl (lv_at hl 1 rfl) ?_
        refine lv_iconst (v := 3) hx hb dX6_dredger_22 (by decide) ?_
        refine lv_icmp_ne (tgt := 82) hx hb dX6_dredger_23 (by decide) (fun zc23 => ?_) (fun zc23 => ?_)
        · -- 82
          refine lv_iload_n hx hb dX6_dredger_82 rfl (lv_at hl 2 rfl) ?_
          refine lv_if_ge (tgt := 93) hx hb dX6_dredger_83 (by decide) (fun zc83 => ?_) (fun zc83 => ?_)
          · -- 93
            refine lv_iload_n hx hb dX6_dredger_93 rfl (lv_at hl 2 rfl) ?_
            refine lv_iload_n hx hb dX6_dredger_94 rfl (lv_at hl 1 rfl) ?_
            refine k_i (rr_s (rest := [.int x2]) X w mX2_greatest kw500 (c_X2_greatest x1) ⟨Nat.le_of_ble_eq_true rfl, Nat.le_of_ble_eq_true rfl⟩ rfl hl.1 rfl (Nat.le_of_ble_eq_true rfl) dX6_dredger_95 ⟨Nat.zero_le _, Nat.zero_le _⟩) w (fun H locs w => ?_)
            refine lv_icmp_le (tgt := 108) hx hb dX6_dredger_98 (by decide) (fun zc98 => ?_) (fun zc98 => ?_)
            · -- 108
              refine lv_aload_n hx hb dX6_dredger_108 rfl (lv_at hl 0 rfl) ?_
              refine gf6_10 X (w.at 0) dX6_dredger_109 ?_
              refine gf6_137 HG1 X (w.at 1) dX6_dredger_112 ?_
              refine lv_iload_n hx hb dX6_dredger_115 rfl (lv_at hl 1 rfl) ?_
              refine lv_iload_n hx hb dX6_dredger_116 rfl (lv_at hl 2 rfl) ?_
              refine k_i (rr_v (rest := []) X (w.at 1) mX2_change kw496 (c_X2_change HG1 x1 x2) (HG1.in (by decide)) rfl rfl ⟨Nat.le_of_ble_eq_true rfl, Nat.le_of_ble_eq_true rfl⟩ rfl hl.1 rfl (Nat.le_of_ble_eq_true rfl) dX6_dredger_117 ⟨Nat.zero_le _, Nat.zero_le _⟩) (w.at 1) (fun H locs w => ?_)
              obtain ⟨zs117, ezs117⟩ : ∃ y : St, y = setG σ 1 (g_X2_change (σ 1) x1 x2) := ⟨_, rfl⟩; rw [← ezs117] at w
              exact t_i X w hr hlk dX6_dredger_120 (by replace ezs117 := ezs117.symm; subst ezs117; simp only [f_X6_dredger, if_neg zc1, if_pos zc6, if_neg zc18, if_neg zc23, if_pos zc83, if_pos zc98]) (by replace ezs117 := ezs117.symm; subst ezs117; simp only [g_X6_dredger, if_neg zc1, if_pos zc6, if_neg zc18, if_neg zc23, if_pos zc83, if_pos zc98])
            · -- 101
              refine lv_aload_n hx hb dX6_dredger_101 rfl (lv_at hl 0 rfl) ?_
              refine lv_bipush (v := (-6)) hx hb dX6_dredger_102 (by decide) ?_
              refine k_i (rr_v (rest := []) X (w.at 0) mX6_refuse kw270 (c_X6_refuse (-6)) m0_0 rfl rfl ⟨Nat.le_of_ble_eq_true rfl, Nat.le_of_ble_eq_true rfl⟩ rfl hl.1 rfl (Nat.le_of_ble_eq_true rfl) dX6_dredger_104 ⟨Nat.zero_le _, Nat.zero_le _⟩) (w.at 0) (fun H locs w => ?_)
              obtain ⟨zs104, ezs104⟩ : ∃ y : St, y = setG σ 0 (g_X6_refuse (σ 0) (-6)) := ⟨_, rfl⟩; rw [← ezs104] at w
              exact t_i X w hr hlk dX6_dredger_107 (by replace ezs104 := ezs104.symm; subst ezs104; simp only [f_X6_dredger, if_neg zc1, if_pos zc6, if_neg zc18, if_neg zc23, if_pos zc83, if_neg zc98]) (by replace ezs104 := ezs104.symm; subst ezs104; simp only [g_X6_dredger, if_neg zc1, if_pos zc6, if_neg zc18, if_neg zc23, if_pos zc83, if_neg zc98])
          · -- 86
            refine lv_aload_n hx hb dX6_dredger_86 rfl (lv_at hl 0 rfl) ?_
            refine lv_bipush (v := (-4)) hx hb dX6_dredger_87 (by decide) ?_
            refine k_i (rr_v (rest := []) X (w.at 0) mX6_refuse kw270 (c_X6_refuse (-4)) m0_0 rfl rfl ⟨Nat.le_of_ble_eq_true rfl, Nat.le_of_ble_eq_true rfl⟩ rfl hl.1 rfl (Nat.le_of_ble_eq_true rfl) dX6_dredger_89 ⟨Nat.zero_le _, Nat.zero_le _⟩) (w.at 0) (fun H locs w => ?_)
            obtain ⟨zs89, ezs89⟩ : ∃ y : St, y = setG σ 0 (g_X6_refuse (σ 0) (-4)) := ⟨_, rfl⟩; rw [← ezs89] at w
            exact t_i X w hr hlk dX6_dredger_92 (by replace ezs89 := ezs89.symm; subst ezs89; simp only [f_X6_dredger, if_neg zc1, if_pos zc6, if_neg zc18, if_neg zc23, if_neg zc83]) (by replace ezs89 := ezs89.symm; subst ezs89; simp only [g_X6_dredger, if_neg zc1, if_pos zc6, if_neg zc18, if_neg zc23, if_neg zc83])
        · -- 26
          refine lv_aload_n hx hb dX6_dredger_26 rfl (lv_at hl 0 rfl) ?_
          refine gf6_10 X (w.at 0) dX6_dredger_27 ?_
          refine gf6_63 HG1 X (w.at 1) dX6_dredger_30 ?_
          refine lv_iload_n hx hb dX6_dredger_33 rfl (lv_at hl 2 rfl) ?_
          refine k_i (rr_v (rest := []) X (w.at 1) mX0_has kw412 (c_X0_has HG1 x2) (HG1.in (by decide)) rfl rfl ⟨Nat.le_of_ble_eq_true rfl, Nat.le_of_ble_eq_true rfl⟩ rfl hl.1 rfl (Nat.le_of_ble_eq_true rfl) dX6_dredger_34 ⟨Nat.zero_le _, Nat.zero_le _⟩) (w.at 1) (fun H locs w => ?_)
          rw [setG_self] at w
          refine lv_if_ne (tgt := 51) hx hb dX6_dredger_37 (by decide) (fun zc37 => ?_) (fun zc37 => ?_)
          · -- 51
            refine lv_iconst (v := 1) hx hb dX6_dredger_51 (by decide) ?_
            refine lv_goto (tgt := 56) hx hb dX6_dredger_52 (by decide) ?_
            refine lv_istore_n (lv' := [(3, .int 1), (0, .ref (aa G 0 0)), (1, .int x1), (2, .int x2)]) hx hb dX6_dredger_56 rfl hl (by decide) rfl (fun ls hl => ?_)
            refine lv_iload_n hx hb dX6_dredger_57 rfl (lv_at hl 0 rfl) ?_
            refine lv_if_eq (tgt := 76) hx hb dX6_dredger_58 (by decide) (fun zc58 => absurd zc58 (by decide)) (fun _ => ?_)
            refine lv_aload_n hx hb dX6_dredger_61 rfl (lv_at hl 1 rfl) ?_
            refine gf6_10 X (w.at 0) dX6_dredger_62 ?_
            refine gf6_137 HG1 X (w.at 1) dX6_dredger_65 ?_
            refine lv_iload_n hx hb dX6_dredger_68 rfl (lv_at hl 2 rfl) ?_
            refine lv_iload_n hx hb dX6_dredger_69 rfl (lv_at hl 3 rfl) ?_
            refine k_i (rr_v (rest := []) X (w.at 1) mX2_change kw496 (c_X2_change HG1 x1 x2) (HG1.in (by decide)) rfl rfl ⟨Nat.le_of_ble_eq_true rfl, Nat.le_of_ble_eq_true rfl⟩ rfl hl.1 rfl (Nat.le_of_ble_eq_true rfl) dX6_dredger_70 ⟨Nat.zero_le _, Nat.zero_le _⟩) (w.at 1) (fun H locs w => ?_)
            obtain ⟨zs70_3, ezs70_3⟩ : ∃ y : St, y = setG σ 1 (g_X2_change (σ 1) x1 x2) := ⟨_, rfl⟩; rw [← ezs70_3] at w
            change W _ _ _ _ _ _ _ _ _ _ _ _ _ _ _ (F0 m 73 ls _)
            refine lv_goto (tgt := 81) hx hb dX6_dredger_73 (by decide) ?_
            exact t_i X w hr hlk dX6_dredger_81 (by replace ezs70_3 := ezs70_3.symm; subst ezs70_3; simp only [f_X6_dredger, if_neg zc1, if_pos zc6, if_neg zc18, if_pos zc23, if_neg zc37]) (by replace ezs70_3 := ezs70_3.symm; subst ezs70_3; simp only [g_X6_dredger, if_neg zc1, if_pos zc6, if_neg zc18, if_pos zc23, if_neg zc37])
          · -- 40
            refine lv_iload_n hx hb dX6_dredger_40 rfl (lv_at hl 1 rfl) ?_
            refine lv_iconst (v := 1) hx hb dX6_dredger_41 (by decide) ?_
            refine lv_icmp_ne (tgt := 55) hx hb dX6_dredger_42 (by decide) (fun _ => ?_) (fun zc42 => absurd zc42 zc18)
            refine lv_iconst (v := 0) hx hb dX6_dredger_55 (by decide) ?_
            refine lv_istore_n (lv' := [(3, .int 0), (0, .ref (aa G 0 0)), (1, .int x1), (2, .int x2)]) hx hb dX6_dredger_56 rfl hl (by decide) rfl (fun ls hl => ?_)
            refine lv_iload_n hx hb dX6_dredger_57 rfl (lv_at hl 0 rfl) ?_
            refine lv_if_eq (tgt := 76) hx hb dX6_dredger_58 (by decide) (fun _ => ?_) (fun zc58 => absurd (by decide) zc58)
            refine lv_aload_n hx hb dX6_dredger_76 rfl (lv_at hl 1 rfl) ?_
            refine lv_iconst (v := (-1)) hx hb dX6_dredger_77 (by decide) ?_
            refine k_i (rr_v (rest := []) X (w.at 0) mX6_refuse kw270 (c_X6_refuse (-1)) m0_0 rfl rfl ⟨Nat.le_of_ble_eq_true rfl, Nat.le_of_ble_eq_true rfl⟩ rfl hl.1 rfl (Nat.le_of_ble_eq_true rfl) dX6_dredger_78 ⟨Nat.zero_le _, Nat.zero_le _⟩) (w.at 0) (fun H locs w => ?_)
            obtain ⟨zs78_2, ezs78_2⟩ : ∃ y : St, y = setG σ 0 (g_X6_refuse (σ 0) (-1)) := ⟨_, rfl⟩; rw [← ezs78_2] at w
            exact t_i X w hr hlk dX6_dredger_81 (by replace ezs78_2 := ezs78_2.symm; subst ezs78_2; simp only [f_X6_dredger, if_neg zc1, if_pos zc6, if_neg zc18, if_pos zc23, if_pos zc37]) (by replace ezs78_2 := ezs78_2.symm; subst ezs78_2; simp only [g_X6_dredger, if_neg zc1, if_pos zc6, if_neg zc18, if_pos zc23, if_pos zc37])
    · -- 9
      refine lv_aload_n hx hb dX6_dredger_9 rfl (lv_at hl 0 rfl) ?_
      refine lv_bipush (v := (-2)) hx hb dX6_dredger_10 (by decide) ?_
      refine k_i (rr_v (rest := []) X (w.at 0) mX6_refuse kw270 (c_X6_refuse (-2)) m0_0 rfl rfl ⟨Nat.le_of_ble_eq_true rfl, Nat.le_of_ble_eq_true rfl⟩ rfl hl.1 rfl (Nat.le_of_ble_eq_true rfl) dX6_dredger_12 ⟨Nat.zero_le _, Nat.zero_le _⟩) (w.at 0) (fun H locs w => ?_)
      obtain ⟨zs12_2, ezs12_2⟩ : ∃ y : St, y = setG σ 0 (g_X6_refuse (σ 0) (-2)) := ⟨_, rfl⟩; rw [← ezs12_2] at w
      exact t_i X w hr hlk dX6_dredger_15 (by replace ezs12_2 := ezs12_2.symm; subst ezs12_2; simp only [f_X6_dredger, if_neg zc1, if_neg zc6]) (by replace ezs12_2 := ezs12_2.symm; subst ezs12_2; simp only [g_X6_dredger, if_neg zc1, if_neg zc6])

noncomputable def f_X6_takes (σ : St)  : Int32 :=
  if (σ 1 1 0) = 0 then
    let zs16 : St := setG σ 0 (g_X6_refuse (σ 0) (-3))
    f_X6_refuse (σ 0) (-3)
  else
    let zv34 : Int32 := f_X3_plannedCell (σ 1) (f_X3_kindNow (σ 1))
    if zv34 = (σ 1 19 1) then
      (-9)
    else
      zv34
noncomputable def g_X6_takes (σ : St)  : St :=
  if (σ 1 1 0) = 0 then
    let zs16 : St := setG σ 0 (g_X6_refuse (σ 0) (-3))
    zs16
  else
    let zv34 : Int32 := f_X3_plannedCell (σ 1) (f_X3_kindNow (σ 1))
    σ
set_option maxRecDepth 100000 in
set_option maxHeartbeats 4000000 in
theorem c_X6_takes {l : Launch} {G : GG} {σ : St}   : MM l G yX6_takes cX6_takes 2 5 100 (some .int) [.ref (aa G 0 0)] σ (Qi G (f_X6_takes σ) (g_X6_takes σ)) := by
  refine MM.of (by decide) (Nat.le_of_ble_eq_true rfl) ?_
  intro p e s m below meth c ls X hr hlk w hl
  have hx := X.1.1
  have hb := X.1.2.1
  have hl : lv_has ls 2 [(0, .ref (aa G 0 0))] := hl
  refine lv_aload_n hx hb dX6_takes_0 rfl (lv_at hl 0 rfl) ?_
  refine gf6_10 X (w.at 0) dX6_takes_1 ?_
  refine gf6_63 HG1 X (w.at 1) dX6_takes_4 ?_
  refine gf6_147 HG1 X (w.at 1) dX6_takes_7 ?_
  refine lv_if_ne (tgt := 20) hx hb dX6_takes_10 (by decide) (fun zc10 => ?_) (fun zc10 => ?_)
  · -- 20
    refine lv_aload_n hx hb dX6_takes_20 rfl (lv_at hl 0 rfl) ?_
    refine gf6_10 X (w.at 0) dX6_takes_21 ?_
    refine lv_aload_n hx hb dX6_takes_24 rfl (lv_at hl 0 rfl) ?_
    refine gf6_10 X (w.at 0) dX6_takes_25 ?_
    refine k_i (rr_v (rest := [.ref (aa G 1 0)]) X (w.at 1) mX3_kindNow kw507 (c_X3_kindNow HG1 ) (HG1.in (by decide)) rfl rfl ⟨Nat.le_of_ble_eq_true rfl, Nat.le_of_ble_eq_true rfl⟩ rfl hl.1 rfl (Nat.le_of_ble_eq_true rfl) dX6_takes_28 ⟨Nat.zero_le _, Nat.zero_le _⟩) (w.at 1) (fun H locs w => ?_)
    rw [setG_self] at w
    refine k_i (rr_v (rest := []) X (w.at 1) mX3_plannedCell kw511 (c_X3_plannedCell HG1 (f_X3_kindNow (σ 1))) (HG1.in (by decide)) rfl rfl ⟨Nat.le_of_ble_eq_true rfl, Nat.le_of_ble_eq_true rfl⟩ rfl hl.1 rfl (Nat.le_of_ble_eq_true rfl) dX6_takes_31 ⟨Nat.zero_le _, Nat.zero_le _⟩) (w.at 1) (fun H locs w => ?_)
    rw [setG_self] at w
    refine lv_topi (fun zv34 ezv34 => ?_)
    refine lv_istore_n (lv' := [(1, .int zv34), (0, .ref (aa G 0 0))]) hx hb dX6_takes_34 rfl hl (by decide) rfl (fun ls hl => ?_)
    refine lv_iload_n hx hb dX6_takes_35 rfl (lv_at hl 0 rfl) ?_
    refine lv_aload_n hx hb dX6_takes_36 rfl (lv_at hl 1 rfl) ?_
    refine gf6_10 X (w.at 0) dX6_takes_37 ?_
    refine gf6_137 HG1 X (w.at 1) dX6_takes_40 ?_
    change W _ _ _ _ _ _ _ _ _ _ _ _ _ _ _ (F0 m 43 ls _)
    refine gf6_157 HG1 X (w.at 1) dX6_takes_43 ?_
    refine lv_icmp_ne (tgt := 54) hx hb dX6_takes_46 (by decide) (fun zc46 => ?_) (fun zc46 => ?_)
    · -- 54
      refine lv_iload_n hx hb dX6_takes_54 rfl (lv_at hl 0 rfl) ?_
      exact t_i X w hr hlk dX6_takes_55 (by replace ezv34 := ezv34.symm; subst ezv34; simp only [f_X6_takes, if_neg zc10, if_neg zc46]) (by replace ezv34 := ezv34.symm; subst ezv34; simp only [g_X6_takes, if_neg zc10, if_neg zc46])
    · -- 49
      refine lv_bipush (v := (-9)) hx hb dX6_takes_49 (by decide) ?_
      refine lv_goto (tgt := 55) hx hb dX6_takes_51 (by decide) ?_
      exact t_i X w hr hlk dX6_takes_55 (by replace ezv34 := ezv34.symm; subst ezv34; simp only [f_X6_takes, if_neg zc10, if_pos zc46]) (by replace ezv34 := ezv34.symm; subst ezv34; simp only [g_X6_takes, if_neg zc10, if_pos zc46])
  · -- 13
    refine lv_aload_n hx hb dX6_takes_13 rfl (lv_at hl 0 rfl) ?_
    refine lv_bipush (v := (-3)) hx hb dX6_takes_14 (by decide) ?_
    refine k_i (rr_v (rest := []) X (w.at 0) mX6_refuse kw270 (c_X6_refuse (-3)) m0_0 rfl rfl ⟨Nat.le_of_ble_eq_true rfl, Nat.le_of_ble_eq_true rfl⟩ rfl hl.1 rfl (Nat.le_of_ble_eq_true rfl) dX6_takes_16 ⟨Nat.zero_le _, Nat.zero_le _⟩) (w.at 0) (fun H locs w => ?_)
    obtain ⟨zs16, ezs16⟩ : ∃ y : St, y = setG σ 0 (g_X6_refuse (σ 0) (-3)) := ⟨_, rfl⟩; rw [← ezs16] at w
    exact t_i X w hr hlk dX6_takes_19 (by replace ezs16 := ezs16.symm; subst ezs16; simp only [f_X6_takes, if_pos zc10]) (by replace ezs16 := ezs16.symm; subst ezs16; simp only [g_X6_takes, if_pos zc10])
