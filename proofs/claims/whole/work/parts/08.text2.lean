theorem add_n {x : Int32} {n : Nat} (h : vp_in x n) (hn : n < 2 ^ 30) : (x + 1).toNatClampNeg ≤ n := by
  obtain ⟨j, hj, rfl⟩ := vp_in_of h (by omega)
  rw [nI_1, nI_clamp (by omega)]
  omega
theorem add_WF {ρ : Gr} (a b : Int32) (h : WFh ρ) : WFh (g_X0_add ρ a b) := by
  unfold g_X0_add
  repeat' split
  all_goals first | exact h | skip
  rename_i h1 h2 h3 h4 h5 h6
  refine ⟨?_, h.2.1, h.2.2⟩
  exact add_n (n := 8) (vin_l h5 h6 (by decide)) (by decide)
theorem addWay_WF {ρ : Gr} (a b c d e : Int32) (h : WFh ρ) : WFh (g_X3_addWay ρ a b c d e) := by
  have k : WFh (g_X5_add ρ a b c d e) := by
    unfold g_X5_add
    split
    · rename_i h1
      refine ⟨h.1, ?_, h.2.2⟩
      exact add_n (n := 24) (fullX5 h1) (by decide)
    · exact h
  unfold g_X3_addWay
  repeat' split
  all_goals first | exact h | exact k
theorem addRiver_WF {ρ : Gr} (a b c : Int32) (h : WFh ρ) : WFh (g_X3_addRiver ρ a b c) := by
  have k : WFh (g_X4_add ρ a b c) := by
    unfold g_X4_add
    split
    · rename_i h1
      refine ⟨h.1, h.2.1, ?_⟩
      exact add_n (n := 8) (fullX4 h1) (by decide)
    · exact h
  unfold g_X3_addRiver
  repeat' split
  all_goals first | exact h | exact k
theorem changeMoon_WF {ρ : Gr} (a b : Int32) (h : WFh ρ) : WFh (g_X3_changeMoon ρ a b) := h
noncomputable def f_X1_giveTo (σ : St)  : Int32 :=
  if (σ 0 1 3) = 99 then
    let zs52 : St := setG σ 2 (g_X0_add (σ 2) (σ 0 1 9) (σ 0 1 8))
    if (f_X0_add (σ 2) (σ 0 1 9) (σ 0 1 8)) < 0 then
      0
    else
      1
  else
    if (σ 0 1 3) = 114 then
      let zs110 : St := setG σ 2 (g_X3_addRiver (σ 2) (σ 0 1 4) (σ 0 1 7) (σ 0 1 8))
      if (f_X3_addRiver (σ 2) (σ 0 1 4) (σ 0 1 7) (σ 0 1 8)) < 0 then
        0
      else
        1
    else
      if (σ 0 1 3) = 119 then
        let zs85 : St := setG σ 2 (g_X3_addWay (σ 2) (σ 0 1 5) (σ 0 1 4) (σ 0 1 6) (σ 0 1 7) (σ 0 1 8))
        if (f_X3_addWay (σ 2) (σ 0 1 5) (σ 0 1 4) (σ 0 1 6) (σ 0 1 7) (σ 0 1 8)) < 0 then
          0
        else
          1
      else
        let zs131 : St := setG σ 2 (g_X3_changeMoon (σ 2) (σ 0 1 10) (σ 0 1 11))
        1
noncomputable def g_X1_giveTo (σ : St)  : St :=
  if (σ 0 1 3) = 99 then
    let zs52 : St := setG σ 2 (g_X0_add (σ 2) (σ 0 1 9) (σ 0 1 8))
    zs52
  else
    if (σ 0 1 3) = 114 then
      let zs110 : St := setG σ 2 (g_X3_addRiver (σ 2) (σ 0 1 4) (σ 0 1 7) (σ 0 1 8))
      zs110
    else
      if (σ 0 1 3) = 119 then
        let zs85 : St := setG σ 2 (g_X3_addWay (σ 2) (σ 0 1 5) (σ 0 1 4) (σ 0 1 6) (σ 0 1 7) (σ 0 1 8))
        zs85
      else
        let zs131 : St := setG σ 2 (g_X3_changeMoon (σ 2) (σ 0 1 10) (σ 0 1 11))
        zs131
set_option maxRecDepth 100000 in
set_option maxHeartbeats 4000000 in
theorem c_X1_giveTo {l : Launch} {G : GG} {σ : St}  (hf : WFh (σ 2)) : MM l G yX1_giveTo cX1_giveTo 2 3 71 (some .boolean) [.ref (aa G 0 1), .ref (aa G 2 0)] σ (Qi G (f_X1_giveTo σ) (g_X1_giveTo σ)) := by
  refine MM.of (by decide) (Nat.le_of_ble_eq_true rfl) ?_
  intro p e s m below meth c ls X hr hlk w hl
  have hx := X.1.1
  have hb := X.1.2.1
  have hl : lv_has ls 2 [(0, .ref (aa G 0 1)), (1, .ref (aa G 2 0))] := hl
  refine lv_aload_n hx hb dX1_giveTo_0 rfl (lv_at hl 0 rfl) ?_
  refine gf1_22 X (w.at 0) dX1_giveTo_1 ?_
  by_cases zc4_99 : (σ 0 1 3) = 99
  · -- case 99
    refine lv_lookup (off := 36) (tgt := 40) hx hb dX1_giveTo_4 (by decide) (by rw [zc4_99]; rfl) (by decide) ?_
    refine lv_aload_n hx hb dX1_giveTo_40 rfl (lv_at hl 1 rfl) ?_
    refine gf1_57 HG2 X (w.at 2) dX1_giveTo_41 ?_
    refine lv_aload_n hx hb dX1_giveTo_44 rfl (lv_at hl 0 rfl) ?_
    refine gf1_40 X (w.at 0) dX1_giveTo_45 ?_
    refine lv_aload_n hx hb dX1_giveTo_48 rfl (lv_at hl 0 rfl) ?_
    refine gf1_37 X (w.at 0) dX1_giveTo_49 ?_
    refine k_i (rr_v (rest := []) X (w.at 2) mX0_add kw351 (c_X0_add HG2 (σ 0 1 9) (σ 0 1 8)) (HG2.in (by decide)) rfl rfl ⟨Nat.le_of_ble_eq_true rfl, Nat.le_of_ble_eq_true rfl⟩ rfl hl.1 rfl (Nat.le_of_ble_eq_true rfl) dX1_giveTo_52 ⟨Nat.zero_le _, Nat.zero_le _⟩) (w.at 2) (fun H locs w => ?_)
    obtain ⟨zs52, ezs52⟩ : ∃ y : St, y = setG σ 2 (g_X0_add (σ 2) (σ 0 1 9) (σ 0 1 8)) := ⟨_, rfl⟩; rw [← ezs52] at w
    refine lv_if_lt (tgt := 62) hx hb dX1_giveTo_55 (by decide) (fun zc55 => ?_) (fun zc55 => ?_)
    · -- 62
      refine lv_iconst (v := 0) hx hb dX1_giveTo_62 (by decide) ?_
      exact t_z X w hr hlk isB0.n dX1_giveTo_63 (by replace ezs52 := ezs52.symm; subst ezs52; simp only [f_X1_giveTo, if_pos zc4_99, if_pos zc55]) (by replace ezs52 := ezs52.symm; subst ezs52; simp only [g_X1_giveTo, if_pos zc4_99, if_pos zc55])
    · -- 58
      refine lv_iconst (v := 1) hx hb dX1_giveTo_58 (by decide) ?_
      refine lv_goto (tgt := 63) hx hb dX1_giveTo_59 (by decide) ?_
      exact t_z X w hr hlk isB1.n dX1_giveTo_63 (by replace ezs52 := ezs52.symm; subst ezs52; simp only [f_X1_giveTo, if_pos zc4_99, if_neg zc55]) (by replace ezs52 := ezs52.symm; subst ezs52; simp only [g_X1_giveTo, if_pos zc4_99, if_neg zc55])
  · -- not 99
    by_cases zc4_114 : (σ 0 1 3) = 114
    · -- case 114
      refine lv_lookup (off := 93) (tgt := 97) hx hb dX1_giveTo_4 (by decide) (by rw [zc4_114]; rfl) (by decide) ?_
      refine lv_aload_n hx hb dX1_giveTo_97 rfl (lv_at hl 1 rfl) ?_
      refine lv_aload_n hx hb dX1_giveTo_98 rfl (lv_at hl 0 rfl) ?_
      refine gf1_25 X (w.at 0) dX1_giveTo_99 ?_
      refine lv_aload_n hx hb dX1_giveTo_102 rfl (lv_at hl 0 rfl) ?_
      refine gf1_34 X (w.at 0) dX1_giveTo_103 ?_
      refine lv_aload_n hx hb dX1_giveTo_106 rfl (lv_at hl 0 rfl) ?_
      refine gf1_37 X (w.at 0) dX1_giveTo_107 ?_
      refine k_i (rr_v (rest := []) X (w.at 2) mX3_addRiver kw382 (c_X3_addRiver HG2 (σ 0 1 4) (σ 0 1 7) (σ 0 1 8)) (HG2.in (by decide)) rfl rfl ⟨Nat.le_of_ble_eq_true rfl, Nat.le_of_ble_eq_true rfl⟩ rfl hl.1 rfl (Nat.le_of_ble_eq_true rfl) dX1_giveTo_110 ⟨Nat.zero_le _, Nat.zero_le _⟩) (w.at 2) (fun H locs w => ?_)
      obtain ⟨zs110, ezs110⟩ : ∃ y : St, y = setG σ 2 (g_X3_addRiver (σ 2) (σ 0 1 4) (σ 0 1 7) (σ 0 1 8)) := ⟨_, rfl⟩; rw [← ezs110] at w
      refine lv_if_lt (tgt := 120) hx hb dX1_giveTo_113 (by decide) (fun zc113 => ?_) (fun zc113 => ?_)
      · -- 120
        refine lv_iconst (v := 0) hx hb dX1_giveTo_120 (by decide) ?_
        exact t_z X w hr hlk isB0.n dX1_giveTo_121 (by replace ezs110 := ezs110.symm; subst ezs110; simp only [f_X1_giveTo, if_neg zc4_99, if_pos zc4_114, if_pos zc113]) (by replace ezs110 := ezs110.symm; subst ezs110; simp only [g_X1_giveTo, if_neg zc4_99, if_pos zc4_114, if_pos zc113])
      · -- 116
        refine lv_iconst (v := 1) hx hb dX1_giveTo_116 (by decide) ?_
        refine lv_goto (tgt := 121) hx hb dX1_giveTo_117 (by decide) ?_
        exact t_z X w hr hlk isB1.n dX1_giveTo_121 (by replace ezs110 := ezs110.symm; subst ezs110; simp only [f_X1_giveTo, if_neg zc4_99, if_pos zc4_114, if_neg zc113]) (by replace ezs110 := ezs110.symm; subst ezs110; simp only [g_X1_giveTo, if_neg zc4_99, if_pos zc4_114, if_neg zc113])
    · -- not 114
      by_cases zc4_119 : (σ 0 1 3) = 119
      · -- case 119
        refine lv_lookup (off := 60) (tgt := 64) hx hb dX1_giveTo_4 (by decide) (by rw [zc4_119]; rfl) (by decide) ?_
        refine lv_aload_n hx hb dX1_giveTo_64 rfl (lv_at hl 1 rfl) ?_
        refine lv_aload_n hx hb dX1_giveTo_65 rfl (lv_at hl 0 rfl) ?_
        refine gf1_28 X (w.at 0) dX1_giveTo_66 ?_
        refine lv_aload_n hx hb dX1_giveTo_69 rfl (lv_at hl 0 rfl) ?_
        refine gf1_25 X (w.at 0) dX1_giveTo_70 ?_
        refine lv_aload_n hx hb dX1_giveTo_73 rfl (lv_at hl 0 rfl) ?_
        refine gf1_31 X (w.at 0) dX1_giveTo_74 ?_
        refine lv_aload_n hx hb dX1_giveTo_77 rfl (lv_at hl 0 rfl) ?_
        refine gf1_34 X (w.at 0) dX1_giveTo_78 ?_
        refine lv_aload_n hx hb dX1_giveTo_81 rfl (lv_at hl 0 rfl) ?_
        refine gf1_37 X (w.at 0) dX1_giveTo_82 ?_
        change W _ _ _ _ _ _ _ _ _ _ _ _ _ _ _ (F0 m 85 ls _)
        refine k_i (rr_v (rest := []) X (w.at 2) mX3_addWay kw355 (c_X3_addWay HG2 (σ 0 1 5) (σ 0 1 4) (σ 0 1 6) (σ 0 1 7) (σ 0 1 8) (by assumption)) (HG2.in (by decide)) rfl rfl ⟨Nat.le_of_ble_eq_true rfl, Nat.le_of_ble_eq_true rfl⟩ rfl hl.1 rfl (Nat.le_of_ble_eq_true rfl) dX1_giveTo_85 ⟨Nat.zero_le _, Nat.zero_le _⟩) (w.at 2) (fun H locs w => ?_)
        obtain ⟨zs85, ezs85⟩ : ∃ y : St, y = setG σ 2 (g_X3_addWay (σ 2) (σ 0 1 5) (σ 0 1 4) (σ 0 1 6) (σ 0 1 7) (σ 0 1 8)) := ⟨_, rfl⟩; rw [← ezs85] at w
        refine lv_if_lt (tgt := 95) hx hb dX1_giveTo_88 (by decide) (fun zc88 => ?_) (fun zc88 => ?_)
        · -- 95
          refine lv_iconst (v := 0) hx hb dX1_giveTo_95 (by decide) ?_
          exact t_z X w hr hlk isB0.n dX1_giveTo_96 (by replace ezs85 := ezs85.symm; subst ezs85; simp only [f_X1_giveTo, if_neg zc4_99, if_neg zc4_114, if_pos zc4_119, if_pos zc88]) (by replace ezs85 := ezs85.symm; subst ezs85; simp only [g_X1_giveTo, if_neg zc4_99, if_neg zc4_114, if_pos zc4_119, if_pos zc88])
        · -- 91
          refine lv_iconst (v := 1) hx hb dX1_giveTo_91 (by decide) ?_
          refine lv_goto (tgt := 96) hx hb dX1_giveTo_92 (by decide) ?_
          exact t_z X w hr hlk isB1.n dX1_giveTo_96 (by replace ezs85 := ezs85.symm; subst ezs85; simp only [f_X1_giveTo, if_neg zc4_99, if_neg zc4_114, if_pos zc4_119, if_neg zc88]) (by replace ezs85 := ezs85.symm; subst ezs85; simp only [g_X1_giveTo, if_neg zc4_99, if_neg zc4_114, if_pos zc4_119, if_neg zc88])
      · -- not 119
        refine lv_lookup (off := 118) (tgt := 122) hx hb dX1_giveTo_4 (by decide) (by rw [lv_osw zc4_99 (by decide)]; rw [lv_osw zc4_114 (by decide)]; rw [lv_osw zc4_119 (by decide)]; rfl) (by decide) ?_
        refine lv_aload_n hx hb dX1_giveTo_122 rfl (lv_at hl 1 rfl) ?_
        refine lv_aload_n hx hb dX1_giveTo_123 rfl (lv_at hl 0 rfl) ?_
        refine gf1_43 X (w.at 0) dX1_giveTo_124 ?_
        refine lv_aload_n hx hb dX1_giveTo_127 rfl (lv_at hl 0 rfl) ?_
        refine gf1_46 X (w.at 0) dX1_giveTo_128 ?_
        refine k_v (rr_v (rest := []) X (w.at 2) mX3_changeMoon kw395 (c_X3_changeMoon HG2 (σ 0 1 10) (σ 0 1 11)) (HG2.in (by decide)) rfl rfl ⟨Nat.le_of_ble_eq_true rfl, Nat.le_of_ble_eq_true rfl⟩ rfl hl.1 rfl (Nat.le_of_ble_eq_true rfl) dX1_giveTo_131 ⟨Nat.zero_le _, Nat.zero_le _⟩) (w.at 2) (fun H locs w => ?_)
        obtain ⟨zs131, ezs131⟩ : ∃ y : St, y = setG σ 2 (g_X3_changeMoon (σ 2) (σ 0 1 10) (σ 0 1 11)) := ⟨_, rfl⟩; rw [← ezs131] at w
        refine lv_iconst (v := 1) hx hb dX1_giveTo_134 (by decide) ?_
        exact t_z X w hr hlk isB1.n dX1_giveTo_135 (by replace ezs131 := ezs131.symm; subst ezs131; simp only [f_X1_giveTo, if_neg zc4_99, if_neg zc4_114, if_neg zc4_119]) (by replace ezs131 := ezs131.symm; subst ezs131; simp only [g_X1_giveTo, if_neg zc4_99, if_neg zc4_114, if_neg zc4_119])

theorem giveTo_WF {σ : St} (h : WFh (σ 2)) : WFh ((g_X1_giveTo σ) 2) := by
  unfold g_X1_giveTo
  refine ite_P (P := fun s : St => WFh (s 2)) ?_ (ite_P (P := fun s : St => WFh (s 2)) ?_ (ite_P (P := fun s : St => WFh (s 2)) ?_ ?_))
  · exact add_WF _ _ h
  · exact addRiver_WF _ _ _ h
  · exact addWay_WF _ _ _ _ _ h
  · exact changeMoon_WF _ _ h

noncomputable def b_X1_readInto_7  (k : Nat) (v : Int32 × St) : Bool × Nat × Int32 × Int32 × St :=
  let zs8 : St := setG v.2 0 (g_X1_readStatement (v.2 0))
  if (f_X1_readStatement (v.2 0)) = 0 then
    (false, 22, (-1000) - (zs8 0 1 2), (v.1, zs8))
  else
    let zv23 : Int32 := v.1 + 1
    if (zs8 0 1 0) ≤ (zs8 0 1 2) then
      (false, 43, 0, (zv23, zs8))
    else
      if zv23 < 96 then
        (true, 0, 0, (zv23, zs8))
      else
        (false, 43, 0, (zv23, zs8))
noncomputable def l_X1_readInto_7  (v0 : Int32 × St) : Nat × Int32 × Int32 × St   := wl (b_X1_readInto_7) (nn (96 + 1)) 0 v0
noncomputable def b_X1_readInto_50 (y2 : Int32) (k : Nat) (v : St) : Bool × Nat × Int32 × St :=
  if y2 ≤ (nI k) then
    (false, 89, 0, v)
  else
    let zv59 : Int32 := v 0 1 2
    let zs62 : St := setG v 0 (g_X1_readStatement (v 0))
    if (f_X1_readStatement (v 0)) = 0 then
      (false, 82, (-2000) - zv59, zs62)
    else
      let zs70 : St := g_X1_giveTo zs62
      if (f_X1_giveTo zs62) = 0 then
        (false, 82, (-2000) - zv59, zs70)
      else
        (true, 0, 0, zs70)
noncomputable def l_X1_readInto_50 (y2 : Int32) (v0 : St) : Nat × Int32 × St   := wl (b_X1_readInto_50 y2) (nn (y2.toNatClampNeg + 1)) 0 v0
noncomputable def f_X1_readInto (σ : St)  : Int32 :=
  let zs4 : St := setG σ 0 (up (σ 0) 1 2 0)
  let zl7 : Nat × Int32 × Int32 × St := (l_X1_readInto_7 (0, zs4))
  if zl7.1 = 43 then
    let zs45 : St := setG zl7.2.2.2 0 (up (zl7.2.2.2 0) 1 2 0)
    let zl50 : Nat × Int32 × St := (l_X1_readInto_50 zl7.2.2.1 zs45)
    if zl50.1 = 89 then
      zl7.2.2.1
    else
      zl50.2.1
  else
    zl7.2.1
noncomputable def g_X1_readInto (σ : St)  : St :=
  let zs4 : St := setG σ 0 (up (σ 0) 1 2 0)
  let zl7 : Nat × Int32 × Int32 × St := (l_X1_readInto_7 (0, zs4))
  if zl7.1 = 43 then
    let zs45 : St := setG zl7.2.2.2 0 (up (zl7.2.2.2 0) 1 2 0)
    let zl50 : Nat × Int32 × St := (l_X1_readInto_50 zl7.2.2.1 zs45)
    zl50.2.2
  else
    zl7.2.2.2
set_option maxRecDepth 100000 in
set_option maxHeartbeats 4000000 in
theorem lp_X1_readInto_7 {l : Launch} {G : GG} {p : Program} {e : Env} {s : State} {m : MethodId} {args : Array Value} {below : List Frame} {meth : Method} {c : Code} {Q : State → Prop} (X : Cx p m c cX1_readInto 5 s args RX1 G)   (z : Nat × Int32 × Int32 × St)
    (kk43 : z.1 = 43 → WFh (z.2.2.2 2) → ∀ (H : Heap) (locs : List Loc) (ls : Array Slot), Wd G s z.2.2.2 H locs → lv_has ls 5 [(0, .ref (aa G 0 1)), (1, .ref (aa G 2 0)), (2, .int z.2.2.1)] → W p l e (rmv 5 102) s m args below meth c H locs 0 0 Q (F0 m 43 ls []))
    (kk22 : z.1 = 22 → WFh (z.2.2.2 2) → ∀ (H : Heap) (locs : List Loc) (ls : Array Slot), Wd G s z.2.2.2 H locs → lv_has ls 5 [(0, .ref (aa G 0 1)), (1, .ref (aa G 2 0)), (2, .int z.2.2.1)] → W p l e (rmv 5 102) s m args below meth c H locs 0 0 Q (F0 m 22 ls [.int z.2.1])) :
    ∀ (n k : Nat) (v : Int32 × St), k ≤ 96 → 96 - k < n → wl (b_X1_readInto_7) n k v = z → (v.1 = nI k) → (WFh (v.2 2)) → ∀ (H : Heap) (locs : List Loc) (ls : Array Slot), Wd G s v.2 H locs → lv_has ls 5 [(0, .ref (aa G 0 1)), (1, .ref (aa G 2 0)), (2, .int v.1)] → W p l e (rmv 5 102) s m args below meth c H locs 0 0 Q (F0 m 7 ls []) := by
  have hx := X.1.1
  have hb := X.1.2.1
  intro n
  induction n with
  | zero => intro k v _ h; omega
  | succ n ih =>
    intro k v hkN hn hz h2 h3 H locs ls w hl
    refine lv_aload_n hx hb dX1_readInto_7 rfl (lv_at hl 0 rfl) ?_
    refine k_i (rr_v (rest := []) X (w.at 0) mX1_readStatement kw311 (c_X1_readStatement ) m0_1 rfl rfl ⟨Nat.le_of_ble_eq_true rfl, Nat.le_of_ble_eq_true rfl⟩ rfl hl.1 rfl (Nat.le_of_ble_eq_true rfl) dX1_readInto_8 ⟨Nat.zero_le _, Nat.zero_le _⟩) (w.at 0) (fun H locs w => ?_)
    obtain ⟨zs8, ezs8⟩ : ∃ y : St, y = setG v.2 0 (g_X1_readStatement (v.2 0)) := ⟨_, rfl⟩; rw [← ezs8] at w
    have h3 : WFh (zs8 2) := by rw [ezs8]; exact h3
    refine lv_if_ne (tgt := 23) hx hb dX1_readInto_11 (by decide) (fun zc11 => ?_) (fun zc11 => ?_)
    · -- 23
      obtain ⟨zv23, ezv23⟩ : ∃ y : Int32, y = v.1 + 1 := ⟨_, rfl⟩
      refine lv_iinc (v := zv23) (lv' := [(2, .int zv23), (0, .ref (aa G 0 1)), (1, .ref (aa G 2 0))]) hx hb dX1_readInto_23 hl (k := 2) rfl (by rw [ezv23]; rfl) (by decide) rfl (fun ls hl => ?_)
      refine lv_aload_n hx hb dX1_readInto_26 rfl (lv_at hl 1 rfl) ?_
      refine gf1_19 X (w.at 0) dX1_readInto_27 ?_
      refine lv_aload_n hx hb dX1_readInto_30 rfl (lv_at hl 1 rfl) ?_
      refine gf1_9 X (w.at 0) dX1_readInto_31 ?_
      refine lv_icmp_ge (tgt := 43) hx hb dX1_readInto_34 (by decide) (fun zc34 => ?_) (fun zc34 => ?_)
      · -- 43
        have hz1 : z = ((43, 0, (zv23, zs8)) : Nat × Int32 × Int32 × St) := by rw [← hz]; replace ezv23 := ezv23.symm; subst ezv23; replace ezs8 := ezs8.symm; subst ezs8; exact wl_out (by simp only [b_X1_readInto_7, if_neg zc11, if_pos zc34])
        subst hz1
        exact kk43 rfl h3 _ _ _ w (lv_sub hl [1, 2, 0] rfl)
      · -- 37
        refine lv_iload_n hx hb dX1_readInto_37 rfl (lv_at hl 0 rfl) ?_
        refine lv_bipush (v := 96) hx hb dX1_readInto_38 (by decide) ?_
        refine lv_icmp_lt (tgt := 7) hx hb dX1_readInto_40 (by decide) (fun zc40 => ?_) (fun zc40 => ?_)
        · -- 7
          have hk : k < 96 := (by rw [ezv23, h2, nI_1] at zc40; have := (nI_ltI (by omega) (by omega)).mp (show nI (k + 1) < nI 96 from zc40); omega)
          exact ih (k + 1) (zv23, zs8) (by omega) (by omega) (by rw [← hz]; replace ezv23 := ezv23.symm; subst ezv23; replace ezs8 := ezs8.symm; subst ezs8; exact (wl_go (t := 0) (r := 0) (by simp only [b_X1_readInto_7, if_neg zc11, if_neg zc34, if_pos zc40])).symm) (by replace ezv23 := ezv23.symm; subst ezv23; replace ezs8 := ezs8.symm; subst ezs8; exact (congrArg (· + 1) h2).trans (nI_1 k)) h3 _ _ _ w (lv_sub hl [1, 2, 0] rfl)
        · -- 43
          have hz1 : z = ((43, 0, (zv23, zs8)) : Nat × Int32 × Int32 × St) := by rw [← hz]; replace ezv23 := ezv23.symm; subst ezv23; replace ezs8 := ezs8.symm; subst ezs8; exact wl_out (by simp only [b_X1_readInto_7, if_neg zc11, if_neg zc34, if_neg zc40])
          subst hz1
          exact kk43 rfl h3 _ _ _ w (lv_sub hl [1, 2, 0] rfl)
    · -- 14
      refine lv_sipush (v := (-1000)) hx hb dX1_readInto_14 (by decide) ?_
      refine lv_aload_n hx hb dX1_readInto_17 rfl (lv_at hl 0 rfl) ?_
      refine gf1_19 X (w.at 0) dX1_readInto_18 ?_
      refine lv_isub hx hb dX1_readInto_21 ?_
      have hz1 : z = ((22, (-1000) - (zs8 0 1 2), (v.1, zs8)) : Nat × Int32 × Int32 × St) := by rw [← hz]; replace ezs8 := ezs8.symm; subst ezs8; exact wl_out (by simp only [b_X1_readInto_7, if_pos zc11])
      subst hz1
      exact kk22 rfl h3 _ _ _ w (lv_sub hl [0, 1, 2] rfl)
set_option maxRecDepth 100000 in
set_option maxHeartbeats 4000000 in
theorem lp_X1_readInto_50 {l : Launch} {G : GG} {p : Program} {e : Env} {s : State} {m : MethodId} {args : Array Value} {below : List Frame} {meth : Method} {c : Code} {Q : State → Prop} (X : Cx p m c cX1_readInto 5 s args RX1 G) (y2 : Int32)  (z : Nat × Int32 × St)
    (kk89 : z.1 = 89 → ∀ (H : Heap) (locs : List Loc) (ls : Array Slot), Wd G s z.2.2 H locs → lv_has ls 5 [(0, .ref (aa G 0 1)), (1, .ref (aa G 2 0)), (2, .int y2)] → W p l e (rmv 5 102) s m args below meth c H locs 0 0 Q (F0 m 89 ls []))
    (kk82 : z.1 = 82 → ∀ (H : Heap) (locs : List Loc) (ls : Array Slot), Wd G s z.2.2 H locs → lv_has ls 5 [(0, .ref (aa G 0 1)), (1, .ref (aa G 2 0)), (2, .int y2)] → W p l e (rmv 5 102) s m args below meth c H locs 0 0 Q (F0 m 82 ls [.int z.2.1])) :
    ∀ (n k : Nat) (v : St), k ≤ y2.toNatClampNeg → y2.toNatClampNeg - k < n → wl (b_X1_readInto_50 y2) n k v = z → (WFh (v 2)) → ∀ (H : Heap) (locs : List Loc) (ls : Array Slot), Wd G s v H locs → lv_has ls 5 [(0, .ref (aa G 0 1)), (1, .ref (aa G 2 0)), (2, .int y2), (3, .int (nI k))] → W p l e (rmv 5 102) s m args below meth c H locs 0 0 Q (F0 m 50 ls []) := by
  have hx := X.1.1
  have hb := X.1.2.1
  intro n
  induction n with
  | zero => intro k v _ h; omega
  | succ n ih =>
    intro k v hkN hn hz h3 H locs ls w hl
    refine lv_iload_n hx hb dX1_readInto_50 rfl (lv_at hl 3 rfl) ?_
    refine lv_iload_n hx hb dX1_readInto_51 rfl (lv_at hl 2 rfl) ?_
    refine lv_icmp_ge (tgt := 89) hx hb dX1_readInto_52 (by decide) (fun zc52 => ?_) (fun zc52 => ?_)
    · -- 89
      have hz1 : z = ((89, 0, v) : Nat × Int32 × St) := by rw [← hz]; exact wl_out (by simp only [b_X1_readInto_50, if_pos zc52])
      subst hz1
      exact kk89 rfl _ _ _ w (lv_sub hl [0, 1, 2] rfl)
    · -- 55
      have hk : k < y2.toNatClampNeg := (lp_lt hkN zc52)
      refine lv_aload_n hx hb dX1_readInto_55 rfl (lv_at hl 0 rfl) ?_
      refine gf1_19 X (w.at 0) dX1_readInto_56 ?_
      refine lv_topi (fun zv59 ezv59 => ?_)
      refine lv_istore (lv' := [(4, .int zv59), (0, .ref (aa G 0 1)), (1, .ref (aa G 2 0)), (2, .int y2), (3, .int (nI k))]) hx hb dX1_readInto_59 hl (by decide) rfl (fun ls hl => ?_)
      refine lv_aload_n hx hb dX1_readInto_61 rfl (lv_at hl 1 rfl) ?_
      refine k_i (rr_v (rest := []) X (w.at 0) mX1_readStatement kw311 (c_X1_readStatement ) m0_1 rfl rfl ⟨Nat.le_of_ble_eq_true rfl, Nat.le_of_ble_eq_true rfl⟩ rfl hl.1 rfl (Nat.le_of_ble_eq_true rfl) dX1_readInto_62 ⟨Nat.zero_le _, Nat.zero_le _⟩) (w.at 0) (fun H locs w => ?_)
      obtain ⟨zs62, ezs62⟩ : ∃ y : St, y = setG v 0 (g_X1_readStatement (v 0)) := ⟨_, rfl⟩; rw [← ezs62] at w
      have h3 : WFh (zs62 2) := by rw [ezs62]; exact h3
      refine lv_if_eq (tgt := 76) hx hb dX1_readInto_65 (by decide) (fun zc65 => ?_) (fun zc65 => ?_)
      · -- 76
        refine lv_sipush (v := (-2000)) hx hb dX1_readInto_76 (by decide) ?_
        refine lv_iload hx hb dX1_readInto_79 (lv_at hl 0 rfl) ?_
        refine lv_isub hx hb dX1_readInto_81 ?_
        have hz1 : z = ((82, (-2000) - zv59, zs62) : Nat × Int32 × St) := by rw [← hz]; replace ezs62 := ezs62.symm; subst ezs62; replace ezv59 := ezv59.symm; subst ezv59; exact wl_out (by simp only [b_X1_readInto_50, if_neg zc52, if_pos zc65])
        subst hz1
        exact kk82 rfl _ _ _ w (lv_sub hl [1, 2, 3] rfl)
      · -- 68
        refine lv_aload_n hx hb dX1_readInto_68 rfl (lv_at hl 1 rfl) ?_
        refine lv_aload_n hx hb dX1_readInto_69 rfl (lv_at hl 2 rfl) ?_
        refine k_i (rr_v (rest := []) X w mX1_giveTo kw347 (c_X1_giveTo (by assumption)) m0_1 rfl rfl ⟨Nat.le_of_ble_eq_true rfl, Nat.le_of_ble_eq_true rfl⟩ rfl hl.1 rfl (Nat.le_of_ble_eq_true rfl) dX1_readInto_70 ⟨Nat.zero_le _, Nat.zero_le _⟩) w (fun H locs w => ?_)
        obtain ⟨zs70, ezs70⟩ : ∃ y : St, y = g_X1_giveTo zs62 := ⟨_, rfl⟩; rw [← ezs70] at w
        refine lv_if_ne (tgt := 83) hx hb dX1_readInto_73 (by decide) (fun zc73 => ?_) (fun zc73 => ?_)
        · -- 83
          refine lv_iinc (v := nI (k + 1)) (lv' := [(3, .int (nI (k + 1))), (4, .int zv59), (0, .ref (aa G 0 1)), (1, .ref (aa G 2 0)), (2, .int y2)]) hx hb dX1_readInto_83 hl (k := 4) rfl (nI_1 _) (by decide) rfl (fun ls hl => ?_)
          refine lv_goto (tgt := 50) hx hb dX1_readInto_86 (by decide) ?_
          have hk : k < y2.toNatClampNeg := (lp_lt hkN zc52)
          exact ih (k + 1) zs70 (by omega) (by omega) (by rw [← hz]; replace ezs70 := ezs70.symm; subst ezs70; replace ezs62 := ezs62.symm; subst ezs62; replace ezv59 := ezv59.symm; subst ezv59; exact (wl_go (t := 0) (r := 0) (by simp only [b_X1_readInto_50, if_neg zc52, if_neg zc65, if_neg zc73])).symm) (by rw [ezs70]; exact giveTo_WF h3) _ _ _ w (lv_sub hl [2, 3, 4, 0] rfl)
        · -- 76
          refine lv_sipush (v := (-2000)) hx hb dX1_readInto_76 (by decide) ?_
          refine lv_iload hx hb dX1_readInto_79 (lv_at hl 0 rfl) ?_
          refine lv_isub hx hb dX1_readInto_81 ?_
          have hz1 : z = ((82, (-2000) - zv59, zs70) : Nat × Int32 × St) := by rw [← hz]; replace ezs70 := ezs70.symm; subst ezs70; replace ezs62 := ezs62.symm; subst ezs62; replace ezv59 := ezv59.symm; subst ezv59; exact wl_out (by simp only [b_X1_readInto_50, if_neg zc52, if_neg zc65, if_pos zc73])
          subst hz1
          exact kk82 rfl _ _ _ w (lv_sub hl [1, 2, 3] rfl)
set_option maxRecDepth 100000 in
set_option maxHeartbeats 4000000 in
theorem c_X1_readInto {l : Launch} {G : GG} {σ : St}  (hf : WFh (σ 2)) : MM l G yX1_readInto cX1_readInto 5 5 102 (some .int) [.ref (aa G 0 1), .ref (aa G 2 0)] σ (Qi G (f_X1_readInto σ) (g_X1_readInto σ)) := by
  refine MM.of (by decide) (Nat.le_of_ble_eq_true rfl) ?_
  intro p e s m below meth c ls X hr hlk w hl
  have hx := X.1.1
  have hb := X.1.2.1
  have hl : lv_has ls 5 [(0, .ref (aa G 0 1)), (1, .ref (aa G 2 0))] := hl
  refine lv_iconst (v := 0) hx hb dX1_readInto_0 (by decide) ?_
  refine lv_istore_n (lv' := [(2, .int 0), (0, .ref (aa G 0 1)), (1, .ref (aa G 2 0))]) hx hb dX1_readInto_1 rfl hl (by decide) rfl (fun ls hl => ?_)
  refine lv_aload_n hx hb dX1_readInto_2 rfl (lv_at hl 1 rfl) ?_
  refine lv_iconst (v := 0) hx hb dX1_readInto_3 (by decide) ?_
  refine pf1_19 X (w.at 0) dX1_readInto_4 (fun zq H locs ezq w => ?_)
  obtain ⟨zs4, ezs4⟩ : ∃ y : St, y = setG σ 0 (up (σ 0) 1 2 0) := ⟨_, rfl⟩; have w : Wd G s zs4 H locs := by rw [ezs4, ← ezq]; exact w
  obtain ⟨zl7, ezl7⟩ : ∃ y : Nat × Int32 × Int32 × St, y = (l_X1_readInto_7 (0, zs4)) := ⟨_, rfl⟩
  refine lp_X1_readInto_7 X   zl7 (fun hz43 hf H locs ls w hl => ?_) (fun hz22 hf H locs ls w hl => ?_) (nn (96 + 1)) 0 (0, zs4) (Nat.zero_le _) (by rw [nn_eq]; exact Nat.lt_succ_of_le (Nat.sub_le _ _)) ezl7.symm nI_0.symm (by rw [ezs4]; exact hf) _ _ _ w (lv_sub hl [1, 2, 0] rfl)
  · -- leaves at 43
    refine lv_aload_n hx hb dX1_readInto_43 rfl (lv_at hl 0 rfl) ?_
    refine lv_iconst (v := 0) hx hb dX1_readInto_44 (by decide) ?_
    refine pf1_19 X (w.at 0) dX1_readInto_45 (fun zq H locs ezq w => ?_)
    obtain ⟨zs45, ezs45⟩ : ∃ y : St, y = setG zl7.2.2.2 0 (up (zl7.2.2.2 0) 1 2 0) := ⟨_, rfl⟩; have w : Wd G s zs45 H locs := by rw [ezs45, ← ezq]; exact w
    refine lv_iconst (v := 0) hx hb dX1_readInto_48 (by decide) ?_
    refine lv_istore_n (lv' := [(3, .int 0), (0, .ref (aa G 0 1)), (1, .ref (aa G 2 0)), (2, .int zl7.2.2.1)]) hx hb dX1_readInto_49 rfl hl (by decide) rfl (fun ls hl => ?_)
    obtain ⟨zl50, ezl50⟩ : ∃ y : Nat × Int32 × St, y = (l_X1_readInto_50 zl7.2.2.1 zs45) := ⟨_, rfl⟩
    refine lp_X1_readInto_50 X zl7.2.2.1  zl50 (fun hz89 H locs ls w hl => ?_) (fun hz82 H locs ls w hl => ?_) (nn (zl7.2.2.1.toNatClampNeg + 1)) 0 zs45 (Nat.zero_le _) (by rw [nn_eq]; exact Nat.lt_succ_of_le (Nat.sub_le _ _)) ezl50.symm (by rw [ezs45]; exact hf) _ _ _ w (lv_sub hl [1, 2, 3, 0] rfl)
    · -- leaves at 89
      refine lv_iload_n hx hb dX1_readInto_89 rfl (lv_at hl 2 rfl) ?_
      exact t_i X w hr hlk dX1_readInto_90 (by replace ezl50 := ezl50.symm; subst ezl50; replace ezs45 := ezs45.symm; subst ezs45; replace ezl7 := ezl7.symm; subst ezl7; replace ezs4 := ezs4.symm; subst ezs4; simp only [f_X1_readInto, if_pos hz43, if_pos hz89]) (by replace ezl50 := ezl50.symm; subst ezl50; replace ezs45 := ezs45.symm; subst ezs45; replace ezl7 := ezl7.symm; subst ezl7; replace ezs4 := ezs4.symm; subst ezs4; simp only [g_X1_readInto, if_pos hz43, if_pos hz89])
    · -- leaves at 82
      have hn89 : ¬ zl50.1 = 89 := by rw [hz82]; decide
      exact t_i X w hr hlk dX1_readInto_82 (by replace ezl50 := ezl50.symm; subst ezl50; replace ezs45 := ezs45.symm; subst ezs45; replace ezl7 := ezl7.symm; subst ezl7; replace ezs4 := ezs4.symm; subst ezs4; simp only [f_X1_readInto, if_pos hz43, if_neg hn89]) (by replace ezl50 := ezl50.symm; subst ezl50; replace ezs45 := ezs45.symm; subst ezs45; replace ezl7 := ezl7.symm; subst ezl7; replace ezs4 := ezs4.symm; subst ezs4; simp only [g_X1_readInto, if_pos hz43, if_neg hn89])
  · -- leaves at 22
    have hn43 : ¬ zl7.1 = 43 := by rw [hz22]; decide
    exact t_i X w hr hlk dX1_readInto_22 (by replace ezl7 := ezl7.symm; subst ezl7; replace ezs4 := ezs4.symm; subst ezs4; simp only [f_X1_readInto, if_neg hn43]) (by replace ezl7 := ezl7.symm; subst ezl7; replace ezs4 := ezs4.symm; subst ezs4; simp only [g_X1_readInto, if_neg hn43])
