noncomputable def f_X6_row (σ : St) (x1 : Int32) : Int32 :=
  if 0 ≤ x1 then
    if 9 < x1 then
      let zs36 : St := setG σ 0 (g_X6_refuse (σ 0) (-6))
      f_X6_refuse (σ 0) (-6)
    else
      if (σ 0 0 6) < 28 then
        let zs49 : St := setG σ 0 (up (σ 0) 3 (σ 0 0 6).toNatClampNeg x1)
        let zs57 : St := setG zs49 0 (up (zs49 0) 0 6 ((zs49 0 0 6) + 1))
        zs57 0 0 6
      else
        let zs36_2 : St := setG σ 0 (g_X6_refuse (σ 0) (-6))
        f_X6_refuse (σ 0) (-6)
  else
    let zs7 : St := setG σ 0 (g_X6_refuse (σ 0) (-4))
    f_X6_refuse (σ 0) (-4)
noncomputable def g_X6_row (σ : St) (x1 : Int32) : St :=
  if 0 ≤ x1 then
    if 9 < x1 then
      let zs36 : St := setG σ 0 (g_X6_refuse (σ 0) (-6))
      zs36
    else
      if (σ 0 0 6) < 28 then
        let zs49 : St := setG σ 0 (up (σ 0) 3 (σ 0 0 6).toNatClampNeg x1)
        let zs57 : St := setG zs49 0 (up (zs49 0) 0 6 ((zs49 0 0 6) + 1))
        zs57
      else
        let zs36_2 : St := setG σ 0 (g_X6_refuse (σ 0) (-6))
        zs36_2
  else
    let zs7 : St := setG σ 0 (g_X6_refuse (σ 0) (-4))
    zs7
set_option maxRecDepth 100000 in
set_option maxHeartbeats 4000000 in
theorem c_X6_row {l : Launch} {G : GG} {σ : St}  (x1 : Int32) (hr0 : ¬ σ 0 0 6 < 0) : MM l G yX6_row cX6_row 2 1 22 (some .int) [.ref (aa G 0 0), .int x1] σ (Qi G (f_X6_row σ x1) (g_X6_row σ x1)) := by
  refine MM.of (by decide) (Nat.le_of_ble_eq_true rfl) ?_
  intro p e s m below meth c ls X hr hlk w hl
  have hx := X.1.1
  have hb := X.1.2.1
  have hl : lv_has ls 2 [(0, .ref (aa G 0 0)), (1, .int x1)] := hl
  refine lv_iload_n hx hb dX6_row_0 rfl (lv_at hl 1 rfl) ?_
  refine lv_if_ge (tgt := 11) hx hb dX6_row_1 (by decide) (fun zc1 => ?_) (fun zc1 => ?_)
  · -- 11
    refine lv_iload_n hx hb dX6_row_11 rfl (lv_at hl 1 rfl) ?_
    refine lv_bipush (v := 9) hx hb dX6_row_12 (by decide) ?_
    refine lv_icmp_gt (tgt := 33) hx hb dX6_row_14 (by decide) (fun zc14 => ?_) (fun zc14 => ?_)
    · -- 33
      refine lv_aload_n hx hb dX6_row_33 rfl (lv_at hl 0 rfl) ?_
      refine lv_bipush (v := (-6)) hx hb dX6_row_34 (by decide) ?_
      refine k_i (rr_v (rest := []) X (w.at 0) mX6_refuse kw270 (c_X6_refuse (-6)) m0_0 rfl rfl ⟨Nat.le_of_ble_eq_true rfl, Nat.le_of_ble_eq_true rfl⟩ rfl hl.1 rfl (Nat.le_of_ble_eq_true rfl) dX6_row_36 ⟨Nat.zero_le _, Nat.zero_le _⟩) (w.at 0) (fun H locs w => ?_)
      obtain ⟨zs36, ezs36⟩ : ∃ y : St, y = setG σ 0 (g_X6_refuse (σ 0) (-6)) := ⟨_, rfl⟩; rw [← ezs36] at w
      exact t_i X w hr hlk dX6_row_39 (by replace ezs36 := ezs36.symm; subst ezs36; simp only [f_X6_row, if_pos zc1, if_pos zc14]) (by replace ezs36 := ezs36.symm; subst ezs36; simp only [g_X6_row, if_pos zc1, if_pos zc14])
    · -- 17
      refine lv_aload_n hx hb dX6_row_17 rfl (lv_at hl 0 rfl) ?_
      refine gf6_37 X (w.at 0) dX6_row_18 ?_
      refine lv_if_lt (tgt := 33) hx hb dX6_row_21 (by decide) (fun zc21 => absurd zc21 hr0) (fun _ => ?_)
      refine lv_aload_n hx hb dX6_row_24 rfl (lv_at hl 0 rfl) ?_
      refine gf6_37 X (w.at 0) dX6_row_25 ?_
      refine lv_bipush (v := 28) hx hb dX6_row_28 (by decide) ?_
      refine lv_icmp_lt (tgt := 40) hx hb dX6_row_30 (by decide) (fun zc30 => ?_) (fun zc30 => ?_)
      · -- 40
        refine lv_aload_n hx hb dX6_row_40 rfl (lv_at hl 0 rfl) ?_
        refine gf6_33 X (w.at 0) dX6_row_41 ?_
        refine lv_aload_n hx hb dX6_row_44 rfl (lv_at hl 0 rfl) ?_
        refine gf6_37 X (w.at 0) dX6_row_45 ?_
        refine lv_iload_n hx hb dX6_row_48 rfl (lv_at hl 1 rfl) ?_
        refine iS (f := 3) (n := 28) X (w.at 0) m0_3 rfl (vin_l hr0 zc30 (by decide)) dX6_row_49 (fun zq H locs ezq w => ?_)
        obtain ⟨zs49, ezs49⟩ : ∃ y : St, y = setG σ 0 (up (σ 0) 3 (σ 0 0 6).toNatClampNeg x1) := ⟨_, rfl⟩; have w : Wd G s zs49 H locs := by rw [ezs49, ← ezq]; exact w
        refine lv_aload_n hx hb dX6_row_50 rfl (lv_at hl 0 rfl) ?_
        refine lv_dup hx hb dX6_row_51 rfl ?_
        refine gf6_37 X (w.at 0) dX6_row_52 ?_
        refine lv_iconst (v := 1) hx hb dX6_row_55 (by decide) ?_
        refine lv_iadd hx hb dX6_row_56 ?_
        change W _ _ _ _ _ _ _ _ _ _ _ _ _ _ _ (F0 m 57 ls _)
        refine pf6_37 X (w.at 0) dX6_row_57 (fun zq H locs ezq w => ?_)
        obtain ⟨zs57, ezs57⟩ : ∃ y : St, y = setG zs49 0 (up (zs49 0) 0 6 ((zs49 0 0 6) + 1)) := ⟨_, rfl⟩; have w : Wd G s zs57 H locs := by rw [ezs57, ← ezq]; exact w
        refine lv_aload_n hx hb dX6_row_60 rfl (lv_at hl 0 rfl) ?_
        refine gf6_37 X (w.at 0) dX6_row_61 ?_
        exact t_i X w hr hlk dX6_row_64 (by replace ezs57 := ezs57.symm; subst ezs57; replace ezs49 := ezs49.symm; subst ezs49; simp only [f_X6_row, if_pos zc1, if_neg zc14, if_pos zc30]) (by replace ezs57 := ezs57.symm; subst ezs57; replace ezs49 := ezs49.symm; subst ezs49; simp only [g_X6_row, if_pos zc1, if_neg zc14, if_pos zc30])
      · -- 33
        refine lv_aload_n hx hb dX6_row_33 rfl (lv_at hl 0 rfl) ?_
        refine lv_bipush (v := (-6)) hx hb dX6_row_34 (by decide) ?_
        refine k_i (rr_v (rest := []) X (w.at 0) mX6_refuse kw270 (c_X6_refuse (-6)) m0_0 rfl rfl ⟨Nat.le_of_ble_eq_true rfl, Nat.le_of_ble_eq_true rfl⟩ rfl hl.1 rfl (Nat.le_of_ble_eq_true rfl) dX6_row_36 ⟨Nat.zero_le _, Nat.zero_le _⟩) (w.at 0) (fun H locs w => ?_)
        obtain ⟨zs36_2, ezs36_2⟩ : ∃ y : St, y = setG σ 0 (g_X6_refuse (σ 0) (-6)) := ⟨_, rfl⟩; rw [← ezs36_2] at w
        exact t_i X w hr hlk dX6_row_39 (by replace ezs36_2 := ezs36_2.symm; subst ezs36_2; simp only [f_X6_row, if_pos zc1, if_neg zc14, if_neg zc30]) (by replace ezs36_2 := ezs36_2.symm; subst ezs36_2; simp only [g_X6_row, if_pos zc1, if_neg zc14, if_neg zc30])
  · -- 4
    refine lv_aload_n hx hb dX6_row_4 rfl (lv_at hl 0 rfl) ?_
    refine lv_bipush (v := (-4)) hx hb dX6_row_5 (by decide) ?_
    refine k_i (rr_v (rest := []) X (w.at 0) mX6_refuse kw270 (c_X6_refuse (-4)) m0_0 rfl rfl ⟨Nat.le_of_ble_eq_true rfl, Nat.le_of_ble_eq_true rfl⟩ rfl hl.1 rfl (Nat.le_of_ble_eq_true rfl) dX6_row_7 ⟨Nat.zero_le _, Nat.zero_le _⟩) (w.at 0) (fun H locs w => ?_)
    obtain ⟨zs7, ezs7⟩ : ∃ y : St, y = setG σ 0 (g_X6_refuse (σ 0) (-4)) := ⟨_, rfl⟩; rw [← ezs7] at w
    exact t_i X w hr hlk dX6_row_10 (by replace ezs7 := ezs7.symm; subst ezs7; simp only [f_X6_row, if_neg zc1]) (by replace ezs7 := ezs7.symm; subst ezs7; simp only [g_X6_row, if_neg zc1])

noncomputable def b_X6_judge_68 (y1 : Int32) (k : Nat) (v : Int32 × Int64 × St) : Int32 × Int64 × St :=
  let zs95 : St := setG v.2.2 2 (g_X3_goBy (v.2.2 2) (v.2.2 0 3 (nI k).toNatClampNeg))
  let zv107 : Int64 := v.2.1 + (f_X3_tideCosts (zs95 2))
  if v.1 = (-9) then
    if (zs95 0 3 (nI k).toNatClampNeg) = 9 then
      (v.1, zv107, zs95)
    else
      if (zs95 2 0 9) = 0 then
        let zv138 : Int32 := nI k
        (zv138, zv107, zs95)
      else
        (v.1, zv107, zs95)
  else
    (v.1, zv107, zs95)
noncomputable def l_X6_judge_68 (y1 : Int32) (v0 : Int32 × Int64 × St) : Int32 × Int64 × St := itn (b_X6_judge_68 y1) (v0.2.2 0 0 6).toNatClampNeg v0
noncomputable def f_X6_judge (σ : St) (x1 : Int32) : Int32 :=
  if x1 < 0 then
    let zs12 : St := setG σ 0 (g_X6_refuse (σ 0) (-2))
    f_X6_refuse (σ 0) (-2)
  else
    if x1 ≤ 2 then
      if (f_X6_rowIsOfCells σ) = 0 then
        let zs25 : St := setG σ 0 (g_X6_refuse (σ 0) (-1))
        f_X6_refuse (σ 0) (-1)
      else
        if (σ 1 1 0) = 0 then
          let zs45 : St := setG σ 0 (g_X6_refuse (σ 0) (-3))
          f_X6_refuse (σ 0) (-3)
        else
          let zs57 : St := setG σ 2 (g_X3_become (σ 2) (σ 1))
          let zl68 : Int32 × Int64 × St := (l_X6_judge_68 x1 ((-9), 0, zs57))
          let zs147 : St := setG zl68.2.2 0 (up (zl68.2.2 0) 0 6 0)
          if x1 = 0 then
            zl68.1
          else
            if x1 = 1 then
              zl68.2.1.toInt32
            else
              f_X0_feetLacked (zs147 2)
    else
      let zs12_2 : St := setG σ 0 (g_X6_refuse (σ 0) (-2))
      f_X6_refuse (σ 0) (-2)
noncomputable def g_X6_judge (σ : St) (x1 : Int32) : St :=
  if x1 < 0 then
    let zs12 : St := setG σ 0 (g_X6_refuse (σ 0) (-2))
    zs12
  else
    if x1 ≤ 2 then
      if (f_X6_rowIsOfCells σ) = 0 then
        let zs25 : St := setG σ 0 (g_X6_refuse (σ 0) (-1))
        zs25
      else
        if (σ 1 1 0) = 0 then
          let zs45 : St := setG σ 0 (g_X6_refuse (σ 0) (-3))
          zs45
        else
          let zs57 : St := setG σ 2 (g_X3_become (σ 2) (σ 1))
          let zl68 : Int32 × Int64 × St := (l_X6_judge_68 x1 ((-9), 0, zs57))
          let zs147 : St := setG zl68.2.2 0 (up (zl68.2.2 0) 0 6 0)
          zs147
    else
      let zs12_2 : St := setG σ 0 (g_X6_refuse (σ 0) (-2))
      zs12_2
set_option maxRecDepth 100000 in
set_option maxHeartbeats 4000000 in
theorem lp_X6_judge_68 {l : Launch} {G : GG} {p : Program} {e : Env} {s : State} {m : MethodId} {args : Array Value} {below : List Frame} {meth : Method} {c : Code} {Q : State → Prop} (X : Cx p m c cX6_judge 6 s args RX6 G) (y1 : Int32) (v0 : Int32 × Int64 × St) (hrw : (v0.2.2 0 0 6).toNatClampNeg ≤ 28)
    (kk : ∀ (H : Heap) (locs : List Loc) (ls : Array Slot), Wd G s ((l_X6_judge_68 y1 v0).2.2) H locs → lv_has ls 6 [(0, .ref (aa G 0 0)), (1, .int y1), (2, .int ((l_X6_judge_68 y1 v0).1)), (3, .long ((l_X6_judge_68 y1 v0).2.1)), (5, .int (nI ((v0.2.2 0 0 6).toNatClampNeg)))] → W p l e (rmv 6 122) s m args below meth c H locs 0 0 Q (F0 m 145 ls [])) :
    ∀ (n k : Nat) (v : Int32 × Int64 × St), k ≤ (v0.2.2 0 0 6).toNatClampNeg → (v0.2.2 0 0 6).toNatClampNeg - k < n → v = itn (b_X6_judge_68 y1) k v0 → (v.2.2 0 = v0.2.2 0) → (WFh (v.2.2 2)) → ∀ (H : Heap) (locs : List Loc) (ls : Array Slot), Wd G s v.2.2 H locs → lv_has ls 6 [(0, .ref (aa G 0 0)), (1, .int y1), (2, .int v.1), (3, .long v.2.1), (5, .int (nI k))] → W p l e (rmv 6 122) s m args below meth c H locs 0 0 Q (F0 m 68 ls []) := by
  have hx := X.1.1
  have hb := X.1.2.1
  intro n
  induction n with
  | zero => intro k v _ h; omega
  | succ n ih =>
    intro k v hkN hn ev h0 hm H locs ls w hl
    refine lv_iload hx hb dX6_judge_68 (lv_at hl 4 rfl) ?_
    refine lv_aload_n hx hb dX6_judge_70 rfl (lv_at hl 0 rfl) ?_
    refine gf6_37 X (w.at 0) dX6_judge_71 ?_
    refine lv_icmp_ge (tgt := 145) hx hb dX6_judge_74 (by decide) (fun zc74 => ?_) (fun zc74 => ?_)
    · -- 145
      have hkE : k = (v0.2.2 0 0 6).toNatClampNeg := lp_eq hkN (by rw [← h0]; exact zc74)
      have ev2 : l_X6_judge_68 y1 v0 = v := by unfold l_X6_judge_68; rw [← hkE]; exact ev.symm
      rw [ev2] at kk
      rw [hkE] at hl
      exact kk _ _ _ w (lv_sub hl [0, 1, 2, 3, 4] rfl)
    · -- 77
      have hk : k < (v0.2.2 0 0 6).toNatClampNeg := lp_lt hkN (by rw [← h0]; exact zc74)
      refine lv_iload hx hb dX6_judge_77 (lv_at hl 4 rfl) ?_
      refine lv_bipush (v := 28) hx hb dX6_judge_79 (by decide) ?_
      refine lv_icmp_ge (tgt := 145) hx hb dX6_judge_81 (by decide) (fun zc81 => absurd zc81 (kn28 (by omega))) (fun _ => ?_)
      refine lv_aload_n hx hb dX6_judge_84 rfl (lv_at hl 0 rfl) ?_
      refine gf6_16 X (w.at 0) dX6_judge_85 ?_
      refine lv_aload_n hx hb dX6_judge_88 rfl (lv_at hl 0 rfl) ?_
      refine gf6_33 X (w.at 0) dX6_judge_89 ?_
      refine lv_iload hx hb dX6_judge_92 (lv_at hl 4 rfl) ?_
      refine ia (f := 3) (n := 28) X (w.at 0) m0_3 rfl (vp_in_nI (by omega) (by decide)) dX6_judge_94 ?_
      refine k_v (rr_v (rest := []) X (w.at 2) mX3_goBy kw672 (c_X3_goBy HG2 (v.2.2 0 3 (nI k).toNatClampNeg) (by assumption)) (HG2.in (by decide)) rfl rfl ⟨Nat.le_of_ble_eq_true rfl, Nat.le_of_ble_eq_true rfl⟩ rfl hl.1 rfl (Nat.le_of_ble_eq_true rfl) dX6_judge_95 ⟨Nat.zero_le _, Nat.zero_le _⟩) (w.at 2) (fun H locs w => ?_)
      obtain ⟨zs95, ezs95⟩ : ∃ y : St, y = setG v.2.2 2 (g_X3_goBy (v.2.2 2) (v.2.2 0 3 (nI k).toNatClampNeg)) := ⟨_, rfl⟩; rw [← ezs95] at w
      have hm : WFh (zs95 2) := by rw [ezs95]; exact hm.fr (goBy_Fr _ _)
      refine lv_lload_n hx hb dX6_judge_98 rfl (lv_at hl 3 rfl) ?_
      change W _ _ _ _ _ _ _ _ _ _ _ _ _ _ _ (F0 m 99 ls _)
      refine lv_aload_n hx hb dX6_judge_99 rfl (lv_at hl 0 rfl) ?_
      refine gf6_16 X (w.at 0) dX6_judge_100 ?_
      refine k_l (rr_v (rest := [.long v.2.1]) X (w.at 2) mX3_tideCosts kw673 (c_X3_tideCosts HG2 (by assumption)) (HG2.in (by decide)) rfl rfl ⟨Nat.le_of_ble_eq_true rfl, Nat.le_of_ble_eq_true rfl⟩ rfl hl.1 rfl (Nat.le_of_ble_eq_true rfl) dX6_judge_103 ⟨Nat.zero_le _, Nat.zero_le _⟩) (w.at 2) (fun H locs w => ?_)
      rw [setG_self] at w
      refine lv_ladd hx hb dX6_judge_106 ?_
      refine lv_topl (fun zv107 ezv107 => ?_)
      refine lv_lstore_n (lv' := [(3, .long zv107), (0, .ref (aa G 0 0)), (1, .int y1), (2, .int v.1), (5, .int (nI k))]) hx hb dX6_judge_107 rfl hl (by decide) rfl (fun ls hl => ?_)
      refine lv_iload_n hx hb dX6_judge_108 rfl (lv_at hl 3 rfl) ?_
      refine lv_bipush (v := (-9)) hx hb dX6_judge_109 (by decide) ?_
      refine lv_icmp_ne (tgt := 139) hx hb dX6_judge_111 (by decide) (fun zc111 => ?_) (fun zc111 => ?_)
      · -- 139
        refine lv_iinc (v := nI (k + 1)) (lv' := [(5, .int (nI (k + 1))), (3, .long zv107), (0, .ref (aa G 0 0)), (1, .int y1), (2, .int v.1)]) hx hb dX6_judge_139 hl (k := 4) rfl (nI_1 _) (by decide) rfl (fun ls hl => ?_)
        refine lv_goto (tgt := 68) hx hb dX6_judge_142 (by decide) ?_
        exact ih (k + 1) (v.1, zv107, zs95) (by omega) (by omega) (by replace ezv107 := ezv107.symm; subst ezv107; replace ezs95 := ezs95.symm; subst ezs95; simp only [itn, ← ev, b_X6_judge_68, if_neg zc111]) (by replace ezv107 := ezv107.symm; subst ezv107; replace ezs95 := ezs95.symm; subst ezs95; exact h0) hm _ _ _ w (lv_sub hl [2, 3, 4, 1, 0] rfl)
      · -- 114
        refine lv_aload_n hx hb dX6_judge_114 rfl (lv_at hl 1 rfl) ?_
        refine gf6_33 X (w.at 0) dX6_judge_115 ?_
        refine lv_iload hx hb dX6_judge_118 (lv_at hl 4 rfl) ?_
        refine ia (f := 3) (n := 28) X (w.at 0) m0_3 rfl (vp_in_nI (by omega) (by decide)) dX6_judge_120 ?_
        refine lv_bipush (v := 9) hx hb dX6_judge_121 (by decide) ?_
        refine lv_icmp_eq (tgt := 139) hx hb dX6_judge_123 (by decide) (fun zc123 => ?_) (fun zc123 => ?_)
        · -- 139
          refine lv_iinc (v := nI (k + 1)) (lv' := [(5, .int (nI (k + 1))), (3, .long zv107), (0, .ref (aa G 0 0)), (1, .int y1), (2, .int v.1)]) hx hb dX6_judge_139 hl (k := 4) rfl (nI_1 _) (by decide) rfl (fun ls hl => ?_)
          refine lv_goto (tgt := 68) hx hb dX6_judge_142 (by decide) ?_
          exact ih (k + 1) (v.1, zv107, zs95) (by omega) (by omega) (by replace ezv107 := ezv107.symm; subst ezv107; replace ezs95 := ezs95.symm; subst ezs95; simp only [itn, ← ev, b_X6_judge_68, if_pos zc111, if_pos zc123]) (by replace ezv107 := ezv107.symm; subst ezv107; replace ezs95 := ezs95.symm; subst ezs95; exact h0) hm _ _ _ w (lv_sub hl [2, 3, 4, 1, 0] rfl)
        · -- 126
          refine lv_aload_n hx hb dX6_judge_126 rfl (lv_at hl 1 rfl) ?_
          refine gf6_16 X (w.at 0) dX6_judge_127 ?_
          refine gf6_220 HG2 X (w.at 2) dX6_judge_130 ?_
          refine lv_if_ne (tgt := 139) hx hb dX6_judge_133 (by decide) (fun zc133 => ?_) (fun zc133 => ?_)
          · -- 139
            refine lv_iinc (v := nI (k + 1)) (lv' := [(5, .int (nI (k + 1))), (3, .long zv107), (0, .ref (aa G 0 0)), (1, .int y1), (2, .int v.1)]) hx hb dX6_judge_139 hl (k := 4) rfl (nI_1 _) (by decide) rfl (fun ls hl => ?_)
            refine lv_goto (tgt := 68) hx hb dX6_judge_142 (by decide) ?_
            exact ih (k + 1) (v.1, zv107, zs95) (by omega) (by omega) (by replace ezv107 := ezv107.symm; subst ezv107; replace ezs95 := ezs95.symm; subst ezs95; simp only [itn, ← ev, b_X6_judge_68, if_pos zc111, if_neg zc123, if_neg zc133]) (by replace ezv107 := ezv107.symm; subst ezv107; replace ezs95 := ezs95.symm; subst ezs95; exact h0) hm _ _ _ w (lv_sub hl [2, 3, 4, 1, 0] rfl)
          · -- 136
            refine lv_iload hx hb dX6_judge_136 (lv_at hl 4 rfl) ?_
            refine lv_topi (fun zv138 ezv138 => ?_)
            refine lv_istore_n (lv' := [(2, .int zv138), (3, .long zv107), (0, .ref (aa G 0 0)), (1, .int y1), (5, .int (nI k))]) hx hb dX6_judge_138 rfl hl (by decide) rfl (fun ls hl => ?_)
            refine lv_iinc (v := nI (k + 1)) (lv' := [(5, .int (nI (k + 1))), (2, .int zv138), (3, .long zv107), (0, .ref (aa G 0 0)), (1, .int y1)]) hx hb dX6_judge_139 hl (k := 4) rfl (nI_1 _) (by decide) rfl (fun ls hl => ?_)
            refine lv_goto (tgt := 68) hx hb dX6_judge_142 (by decide) ?_
            exact ih (k + 1) (zv138, zv107, zs95) (by omega) (by omega) (by replace ezv138 := ezv138.symm; subst ezv138; replace ezv107 := ezv107.symm; subst ezv107; replace ezs95 := ezs95.symm; subst ezs95; simp only [itn, ← ev, b_X6_judge_68, if_pos zc111, if_neg zc123, if_pos zc133]) (by replace ezv138 := ezv138.symm; subst ezv138; replace ezv107 := ezv107.symm; subst ezv107; replace ezs95 := ezs95.symm; subst ezs95; exact h0) hm _ _ _ w (lv_sub hl [3, 4, 1, 2, 0] rfl)
set_option maxRecDepth 100000 in
set_option maxHeartbeats 4000000 in
theorem c_X6_judge {l : Launch} {G : GG} {σ : St}  (x1 : Int32) (hf : WFh (σ 1)) (hrw : (σ 0 0 6).toNatClampNeg ≤ 28) : MM l G yX6_judge cX6_judge 6 6 122 (some .int) [.ref (aa G 0 0), .int x1] σ (Qi G (f_X6_judge σ x1) (g_X6_judge σ x1)) := by
  refine MM.of (by decide) (Nat.le_of_ble_eq_true rfl) ?_
  intro p e s m below meth c ls X hr hlk w hl
  have hx := X.1.1
  have hb := X.1.2.1
  have hl : lv_has ls 6 [(0, .ref (aa G 0 0)), (1, .int x1)] := hl
  refine lv_iload_n hx hb dX6_judge_0 rfl (lv_at hl 1 rfl) ?_
  refine lv_if_lt (tgt := 9) hx hb dX6_judge_1 (by decide) (fun zc1 => ?_) (fun zc1 => ?_)
  · -- 9
    refine lv_aload_n hx hb dX6_judge_9 rfl (lv_at hl 0 rfl) ?_
    refine lv_bipush (v := (-2)) hx hb dX6_judge_10 (by decide) ?_
    refine k_i (rr_v (rest := []) X (w.at 0) mX6_refuse kw270 (c_X6_refuse (-2)) m0_0 rfl rfl ⟨Nat.le_of_ble_eq_true rfl, Nat.le_of_ble_eq_true rfl⟩ rfl hl.1 rfl (Nat.le_of_ble_eq_true rfl) dX6_judge_12 ⟨Nat.zero_le _, Nat.zero_le _⟩) (w.at 0) (fun H locs w => ?_)
    obtain ⟨zs12, ezs12⟩ : ∃ y : St, y = setG σ 0 (g_X6_refuse (σ 0) (-2)) := ⟨_, rfl⟩; rw [← ezs12] at w
    exact t_i X w hr hlk dX6_judge_15 (by replace ezs12 := ezs12.symm; subst ezs12; simp only [f_X6_judge, if_pos zc1]) (by replace ezs12 := ezs12.symm; subst ezs12; simp only [g_X6_judge, if_pos zc1])
  · -- 4
    refine lv_iload_n hx hb dX6_judge_4 rfl (lv_at hl 1 rfl) ?_
    refine lv_iconst (v := 2) hx hb dX6_judge_5 (by decide) ?_
    refine lv_icmp_le (tgt := 16) hx hb dX6_judge_6 (by decide) (fun zc6 => ?_) (fun zc6 => ?_)
    · -- 16
      refine lv_aload_n hx hb dX6_judge_16 rfl (lv_at hl 0 rfl) ?_
      refine k_i (rr_v (rest := []) X w mX6_rowIsOfCells kw668 (c_X6_rowIsOfCells (by assumption)) m0_0 rfl rfl ⟨Nat.le_of_ble_eq_true rfl, Nat.le_of_ble_eq_true rfl⟩ rfl hl.1 rfl (Nat.le_of_ble_eq_true rfl) dX6_judge_17 ⟨Nat.zero_le _, Nat.zero_le _⟩) w (fun H locs w => ?_)
      refine lv_if_ne (tgt := 29) hx hb dX6_judge_20 (by decide) (fun zc20 => ?_) (fun zc20 => ?_)
      · -- 29
        refine lv_aload_n hx hb dX6_judge_29 rfl (lv_at hl 0 rfl) ?_
        refine gf6_10 X (w.at 0) dX6_judge_30 ?_
        refine gf6_63 HG1 X (w.at 1) dX6_judge_33 ?_
        refine gf6_147 HG1 X (w.at 1) dX6_judge_36 ?_
        refine lv_if_ne (tgt := 49) hx hb dX6_judge_39 (by decide) (fun zc39 => ?_) (fun zc39 => ?_)
        · -- 49
          refine lv_aload_n hx hb dX6_judge_49 rfl (lv_at hl 0 rfl) ?_
          refine gf6_16 X (w.at 0) dX6_judge_50 ?_
          refine lv_aload_n hx hb dX6_judge_53 rfl (lv_at hl 0 rfl) ?_
          refine gf6_10 X (w.at 0) dX6_judge_54 ?_
          refine k_v (rr_v (rest := []) X (w.at 2) mX3_become kw282 (c_X3_become HG2 HG1 (by decide) rfl ) (HG2.in (by decide)) rfl rfl ⟨Nat.le_of_ble_eq_true rfl, Nat.le_of_ble_eq_true rfl⟩ rfl hl.1 rfl (Nat.le_of_ble_eq_true rfl) dX6_judge_57 ⟨Nat.zero_le _, Nat.zero_le _⟩) (w.at 2) (fun H locs w => ?_)
          obtain ⟨zs57, ezs57⟩ : ∃ y : St, y = setG σ 2 (g_X3_become (σ 2) (σ 1)) := ⟨_, rfl⟩; rw [← ezs57] at w
          have hm : WFh (zs57 2) := by rw [ezs57]; exact become_WF hf
          refine lv_bipush (v := (-9)) hx hb dX6_judge_60 (by decide) ?_
          refine lv_istore_n (lv' := [(2, .int (-9)), (0, .ref (aa G 0 0)), (1, .int x1)]) hx hb dX6_judge_62 rfl hl (by decide) rfl (fun ls hl => ?_)
          refine lv_lconst (v := 0) hx hb dX6_judge_63 (by decide) ?_
          refine lv_lstore_n (lv' := [(3, .long 0), (2, .int (-9)), (0, .ref (aa G 0 0)), (1, .int x1)]) hx hb dX6_judge_64 rfl hl (by decide) rfl (fun ls hl => ?_)
          refine lv_iconst (v := 0) hx hb dX6_judge_65 (by decide) ?_
          refine lv_istore (lv' := [(5, .int 0), (3, .long 0), (2, .int (-9)), (0, .ref (aa G 0 0)), (1, .int x1)]) hx hb dX6_judge_66 hl (by decide) rfl (fun ls hl => ?_)
          refine lp_X6_judge_68 X x1 ((-9), 0, zs57) (by replace ezs57 := ezs57.symm; subst ezs57; exact hrw) (fun H locs ls w hl => ?_) ((zs57 0 0 6).toNatClampNeg + 1) 0 _ (Nat.zero_le _) (Nat.lt_succ_of_le (Nat.sub_le _ _)) rfl rfl hm _ _ _ w (lv_sub hl [3, 4, 2, 1, 0] rfl)
          obtain ⟨zl68, ezl68⟩ : ∃ y : Int32 × Int64 × St, y = (l_X6_judge_68 x1 ((-9), 0, zs57)) := ⟨_, rfl⟩
          rw [← ezl68] at w hl
          refine lv_aload_n hx hb dX6_judge_145 rfl (lv_at hl 0 rfl) ?_
          refine lv_iconst (v := 0) hx hb dX6_judge_146 (by decide) ?_
          refine pf6_37 X (w.at 0) dX6_judge_147 (fun zq H locs ezq w => ?_)
          obtain ⟨zs147, ezs147⟩ : ∃ y : St, y = setG zl68.2.2 0 (up (zl68.2.2 0) 0 6 0) := ⟨_, rfl⟩; have w : Wd G s zs147 H locs := by rw [ezs147, ← ezq]; exact w
          refine lv_iload_n hx hb dX6_judge_150 rfl (lv_at hl 1 rfl) ?_
          refine lv_if_ne (tgt := 156) hx hb dX6_judge_151 (by decide) (fun zc151 => ?_) (fun zc151 => ?_)
          · -- 156
            refine lv_iload_n hx hb dX6_judge_156 rfl (lv_at hl 1 rfl) ?_
            refine lv_iconst (v := 1) hx hb dX6_judge_157 (by decide) ?_
            refine lv_icmp_ne (tgt := 166) hx hb dX6_judge_158 (by decide) (fun zc158 => ?_) (fun zc158 => ?_)
            · -- 166
              refine lv_aload_n hx hb dX6_judge_166 rfl (lv_at hl 0 rfl) ?_
              refine gf6_16 X (w.at 0) dX6_judge_167 ?_
              refine gf6_63 HG2 X (w.at 2) dX6_judge_170 ?_
              refine k_i (rr_v (rest := []) X (w.at 2) mX0_feetLacked kw674 (c_X0_feetLacked HG2 ) (HG2.in (by decide)) rfl rfl ⟨Nat.le_of_ble_eq_true rfl, Nat.le_of_ble_eq_true rfl⟩ rfl hl.1 rfl (Nat.le_of_ble_eq_true rfl) dX6_judge_173 ⟨Nat.zero_le _, Nat.zero_le _⟩) (w.at 2) (fun H locs w => ?_)
              rw [setG_self] at w
              exact t_i X w hr hlk dX6_judge_176 (by replace ezs147 := ezs147.symm; subst ezs147; replace ezl68 := ezl68.symm; subst ezl68; replace ezs57 := ezs57.symm; subst ezs57; simp only [f_X6_judge, if_neg zc1, if_pos zc6, if_neg zc20, if_neg zc39, if_neg zc151, if_neg zc158]) (by replace ezs147 := ezs147.symm; subst ezs147; replace ezl68 := ezl68.symm; subst ezl68; replace ezs57 := ezs57.symm; subst ezs57; simp only [g_X6_judge, if_neg zc1, if_pos zc6, if_neg zc20, if_neg zc39, if_neg zc151, if_neg zc158])
            · -- 161
              refine lv_lload_n hx hb dX6_judge_161 rfl (lv_at hl 3 rfl) ?_
              refine lv_l2i hx hb dX6_judge_162 rfl ?_
              refine lv_goto (tgt := 176) hx hb dX6_judge_163 (by decide) ?_
              exact t_i X w hr hlk dX6_judge_176 (by replace ezs147 := ezs147.symm; subst ezs147; replace ezl68 := ezl68.symm; subst ezl68; replace ezs57 := ezs57.symm; subst ezs57; simp only [f_X6_judge, if_neg zc1, if_pos zc6, if_neg zc20, if_neg zc39, if_neg zc151, if_pos zc158]) (by replace ezs147 := ezs147.symm; subst ezs147; replace ezl68 := ezl68.symm; subst ezl68; replace ezs57 := ezs57.symm; subst ezs57; simp only [g_X6_judge, if_neg zc1, if_pos zc6, if_neg zc20, if_neg zc39, if_neg zc151, if_pos zc158])
          · -- 154
            refine lv_iload_n hx hb dX6_judge_154 rfl (lv_at hl 2 rfl) ?_
            exact t_i X w hr hlk dX6_judge_155 (by replace ezs147 := ezs147.symm; subst ezs147; replace ezl68 := ezl68.symm; subst ezl68; replace ezs57 := ezs57.symm; subst ezs57; simp only [f_X6_judge, if_neg zc1, if_pos zc6, if_neg zc20, if_neg zc39, if_pos zc151]) (by replace ezs147 := ezs147.symm; subst ezs147; replace ezl68 := ezl68.symm; subst ezl68; replace ezs57 := ezs57.symm; subst ezs57; simp only [g_X6_judge, if_neg zc1, if_pos zc6, if_neg zc20, if_neg zc39, if_pos zc151])
        · -- 42
          refine lv_aload_n hx hb dX6_judge_42 rfl (lv_at hl 0 rfl) ?_
          refine lv_bipush (v := (-3)) hx hb dX6_judge_43 (by decide) ?_
          refine k_i (rr_v (rest := []) X (w.at 0) mX6_refuse kw270 (c_X6_refuse (-3)) m0_0 rfl rfl ⟨Nat.le_of_ble_eq_true rfl, Nat.le_of_ble_eq_true rfl⟩ rfl hl.1 rfl (Nat.le_of_ble_eq_true rfl) dX6_judge_45 ⟨Nat.zero_le _, Nat.zero_le _⟩) (w.at 0) (fun H locs w => ?_)
          obtain ⟨zs45, ezs45⟩ : ∃ y : St, y = setG σ 0 (g_X6_refuse (σ 0) (-3)) := ⟨_, rfl⟩; rw [← ezs45] at w
          exact t_i X w hr hlk dX6_judge_48 (by replace ezs45 := ezs45.symm; subst ezs45; simp only [f_X6_judge, if_neg zc1, if_pos zc6, if_neg zc20, if_pos zc39]) (by replace ezs45 := ezs45.symm; subst ezs45; simp only [g_X6_judge, if_neg zc1, if_pos zc6, if_neg zc20, if_pos zc39])
      · -- 23
        refine lv_aload_n hx hb dX6_judge_23 rfl (lv_at hl 0 rfl) ?_
        refine lv_iconst (v := (-1)) hx hb dX6_judge_24 (by decide) ?_
        refine k_i (rr_v (rest := []) X (w.at 0) mX6_refuse kw270 (c_X6_refuse (-1)) m0_0 rfl rfl ⟨Nat.le_of_ble_eq_true rfl, Nat.le_of_ble_eq_true rfl⟩ rfl hl.1 rfl (Nat.le_of_ble_eq_true rfl) dX6_judge_25 ⟨Nat.zero_le _, Nat.zero_le _⟩) (w.at 0) (fun H locs w => ?_)
        obtain ⟨zs25, ezs25⟩ : ∃ y : St, y = setG σ 0 (g_X6_refuse (σ 0) (-1)) := ⟨_, rfl⟩; rw [← ezs25] at w
        exact t_i X w hr hlk dX6_judge_28 (by replace ezs25 := ezs25.symm; subst ezs25; simp only [f_X6_judge, if_neg zc1, if_pos zc6, if_pos zc20]) (by replace ezs25 := ezs25.symm; subst ezs25; simp only [g_X6_judge, if_neg zc1, if_pos zc6, if_pos zc20])
    · -- 9
      refine lv_aload_n hx hb dX6_judge_9 rfl (lv_at hl 0 rfl) ?_
      refine lv_bipush (v := (-2)) hx hb dX6_judge_10 (by decide) ?_
      refine k_i (rr_v (rest := []) X (w.at 0) mX6_refuse kw270 (c_X6_refuse (-2)) m0_0 rfl rfl ⟨Nat.le_of_ble_eq_true rfl, Nat.le_of_ble_eq_true rfl⟩ rfl hl.1 rfl (Nat.le_of_ble_eq_true rfl) dX6_judge_12 ⟨Nat.zero_le _, Nat.zero_le _⟩) (w.at 0) (fun H locs w => ?_)
      obtain ⟨zs12_2, ezs12_2⟩ : ∃ y : St, y = setG σ 0 (g_X6_refuse (σ 0) (-2)) := ⟨_, rfl⟩; rw [← ezs12_2] at w
      exact t_i X w hr hlk dX6_judge_15 (by replace ezs12_2 := ezs12_2.symm; subst ezs12_2; simp only [f_X6_judge, if_neg zc1, if_neg zc6]) (by replace ezs12_2 := ezs12_2.symm; subst ezs12_2; simp only [g_X6_judge, if_neg zc1, if_neg zc6])

noncomputable def f_X6_image (σ : St)  : Int32 :=
  let zs8 : St := setG σ 3 (g_X3_become (σ 3) (σ 1))
  let zs13 : St := setG zs8 0 (up (zs8 0) 0 3 1)
  zs13 3 1 0
noncomputable def g_X6_image (σ : St)  : St :=
  let zs8 : St := setG σ 3 (g_X3_become (σ 3) (σ 1))
  let zs13 : St := setG zs8 0 (up (zs8 0) 0 3 1)
  zs13
set_option maxRecDepth 100000 in
set_option maxHeartbeats 4000000 in
theorem c_X6_image {l : Launch} {G : GG} {σ : St}   : MM l G yX6_image cX6_image 1 3 82 (some .int) [.ref (aa G 0 0)] σ (Qi G (f_X6_image σ) (g_X6_image σ)) := by
  refine MM.of (by decide) (Nat.le_of_ble_eq_true rfl) ?_
  intro p e s m below meth c ls X hr hlk w hl
  have hx := X.1.1
  have hb := X.1.2.1
  have hl : lv_has ls 1 [(0, .ref (aa G 0 0))] := hl
  refine lv_aload_n hx hb dX6_image_0 rfl (lv_at hl 0 rfl) ?_
  refine gf6_19 X (w.at 0) dX6_image_1 ?_
  refine lv_aload_n hx hb dX6_image_4 rfl (lv_at hl 0 rfl) ?_
  refine gf6_10 X (w.at 0) dX6_image_5 ?_
  refine k_v (rr_v (rest := []) X (w.at 3) mX3_become kw282 (c_X3_become HG3 HG1 (by decide) rfl ) (HG3.in (by decide)) rfl rfl ⟨Nat.le_of_ble_eq_true rfl, Nat.le_of_ble_eq_true rfl⟩ rfl hl.1 rfl (Nat.le_of_ble_eq_true rfl) dX6_image_8 ⟨Nat.zero_le _, Nat.zero_le _⟩) (w.at 3) (fun H locs w => ?_)
  obtain ⟨zs8, ezs8⟩ : ∃ y : St, y = setG σ 3 (g_X3_become (σ 3) (σ 1)) := ⟨_, rfl⟩; rw [← ezs8] at w
  refine lv_aload_n hx hb dX6_image_11 rfl (lv_at hl 0 rfl) ?_
  refine lv_iconst (v := 1) hx hb dX6_image_12 (by decide) ?_
  refine pf6_22 X (w.at 0) isB1 dX6_image_13 (fun zq H locs ezq w => ?_)
  obtain ⟨zs13, ezs13⟩ : ∃ y : St, y = setG zs8 0 (up (zs8 0) 0 3 1) := ⟨_, rfl⟩; have w : Wd G s zs13 H locs := by rw [ezs13, ← ezq]; exact w
  refine lv_aload_n hx hb dX6_image_16 rfl (lv_at hl 0 rfl) ?_
  refine gf6_19 X (w.at 0) dX6_image_17 ?_
  refine gf6_63 HG3 X (w.at 3) dX6_image_20 ?_
  change W _ _ _ _ _ _ _ _ _ _ _ _ _ _ _ (F0 m 23 ls _)
  refine gf6_147 HG3 X (w.at 3) dX6_image_23 ?_
  exact t_i X w hr hlk dX6_image_26 (by replace ezs13 := ezs13.symm; subst ezs13; replace ezs8 := ezs8.symm; subst ezs8; simp only [f_X6_image]) (by replace ezs13 := ezs13.symm; subst ezs13; replace ezs8 := ezs8.symm; subst ezs8; simp only [g_X6_image])

noncomputable def f_X6_restore (σ : St)  : Int32 :=
  if (σ 0 0 3) = 0 then
    let zs10 : St := setG σ 0 (g_X6_refuse (σ 0) (-3))
    f_X6_refuse (σ 0) (-3)
  else
    let zs22 : St := setG σ 1 (g_X3_become (σ 1) (σ 3))
    zs22 1 1 0
noncomputable def g_X6_restore (σ : St)  : St :=
  if (σ 0 0 3) = 0 then
    let zs10 : St := setG σ 0 (g_X6_refuse (σ 0) (-3))
    zs10
  else
    let zs22 : St := setG σ 1 (g_X3_become (σ 1) (σ 3))
    zs22
set_option maxRecDepth 100000 in
set_option maxHeartbeats 4000000 in
theorem c_X6_restore {l : Launch} {G : GG} {σ : St}   : MM l G yX6_restore cX6_restore 1 3 82 (some .int) [.ref (aa G 0 0)] σ (Qi G (f_X6_restore σ) (g_X6_restore σ)) := by
  refine MM.of (by decide) (Nat.le_of_ble_eq_true rfl) ?_
  intro p e s m below meth c ls X hr hlk w hl
  have hx := X.1.1
  have hb := X.1.2.1
  have hl : lv_has ls 1 [(0, .ref (aa G 0 0))] := hl
  refine lv_aload_n hx hb dX6_restore_0 rfl (lv_at hl 0 rfl) ?_
  refine gf6_22 X (w.at 0) dX6_restore_1 ?_
  refine lv_if_ne (tgt := 14) hx hb dX6_restore_4 (by decide) (fun zc4 => ?_) (fun zc4 => ?_)
  · -- 14
    refine lv_aload_n hx hb dX6_restore_14 rfl (lv_at hl 0 rfl) ?_
    refine gf6_10 X (w.at 0) dX6_restore_15 ?_
    refine lv_aload_n hx hb dX6_restore_18 rfl (lv_at hl 0 rfl) ?_
    refine gf6_19 X (w.at 0) dX6_restore_19 ?_
    refine k_v (rr_v (rest := []) X (w.at 1) mX3_become kw282 (c_X3_become HG1 HG3 (by decide) rfl ) (HG1.in (by decide)) rfl rfl ⟨Nat.le_of_ble_eq_true rfl, Nat.le_of_ble_eq_true rfl⟩ rfl hl.1 rfl (Nat.le_of_ble_eq_true rfl) dX6_restore_22 ⟨Nat.zero_le _, Nat.zero_le _⟩) (w.at 1) (fun H locs w => ?_)
    obtain ⟨zs22, ezs22⟩ : ∃ y : St, y = setG σ 1 (g_X3_become (σ 1) (σ 3)) := ⟨_, rfl⟩; rw [← ezs22] at w
    refine lv_aload_n hx hb dX6_restore_25 rfl (lv_at hl 0 rfl) ?_
    refine gf6_10 X (w.at 0) dX6_restore_26 ?_
    refine gf6_63 HG1 X (w.at 1) dX6_restore_29 ?_
    refine gf6_147 HG1 X (w.at 1) dX6_restore_32 ?_
    exact t_i X w hr hlk dX6_restore_35 (by replace ezs22 := ezs22.symm; subst ezs22; simp only [f_X6_restore, if_neg zc4]) (by replace ezs22 := ezs22.symm; subst ezs22; simp only [g_X6_restore, if_neg zc4])
  · -- 7
    refine lv_aload_n hx hb dX6_restore_7 rfl (lv_at hl 0 rfl) ?_
    refine lv_bipush (v := (-3)) hx hb dX6_restore_8 (by decide) ?_
    refine k_i (rr_v (rest := []) X (w.at 0) mX6_refuse kw270 (c_X6_refuse (-3)) m0_0 rfl rfl ⟨Nat.le_of_ble_eq_true rfl, Nat.le_of_ble_eq_true rfl⟩ rfl hl.1 rfl (Nat.le_of_ble_eq_true rfl) dX6_restore_10 ⟨Nat.zero_le _, Nat.zero_le _⟩) (w.at 0) (fun H locs w => ?_)
    obtain ⟨zs10, ezs10⟩ : ∃ y : St, y = setG σ 0 (g_X6_refuse (σ 0) (-3)) := ⟨_, rfl⟩; rw [← ezs10] at w
    exact t_i X w hr hlk dX6_restore_13 (by replace ezs10 := ezs10.symm; subst ezs10; simp only [f_X6_restore, if_pos zc4]) (by replace ezs10 := ezs10.symm; subst ezs10; simp only [g_X6_restore, if_pos zc4])

noncomputable def f_X6_count (σ : St) (x1 : Int32) : Int32 :=
  if x1 < 11 then
    if x1 = 0 then
      σ 1 1 0
    else
      if x1 = 1 then
        σ 1 9 0
      else
        if x1 = 2 then
          σ 1 15 0
        else
          if x1 = 3 then
            σ 1 0 6
          else
            if x1 = 4 then
              f_X0_tonsInAll (σ 1)
            else
              if x1 = 5 then
                σ 1 0 7
              else
                if x1 = 6 then
                  σ 1 0 8
                else
                  if x1 = 7 then
                    σ 0 1 0
                  else
                    if x1 = 8 then
                      σ 0 0 6
                    else
                      if x1 = 9 then
                        σ 1 0 4
                      else
                        (-9)
  else
    if 16 < x1 then
      if x1 = 0 then
        σ 1 1 0
      else
        if x1 = 1 then
          σ 1 9 0
        else
          if x1 = 2 then
            σ 1 15 0
          else
            if x1 = 3 then
              σ 1 0 6
            else
              if x1 = 4 then
                f_X0_tonsInAll (σ 1)
              else
                if x1 = 5 then
                  σ 1 0 7
                else
                  if x1 = 6 then
                    σ 1 0 8
                  else
                    if x1 = 7 then
                      σ 0 1 0
                    else
                      if x1 = 8 then
                        σ 0 0 6
                      else
                        if x1 = 9 then
                          σ 1 0 4
                        else
                          (-9)
    else
      σ 0 4 (x1 - 10).toNatClampNeg
set_option maxRecDepth 100000 in
set_option maxHeartbeats 4000000 in
theorem c_X6_count {l : Launch} {G : GG} {σ : St}  (x1 : Int32) : MM l G yX6_count cX6_count 2 3 67 (some .int) [.ref (aa G 0 0), .int x1] σ (Qi G (f_X6_count σ x1) σ) := by
  refine MM.of (by decide) (Nat.le_of_ble_eq_true rfl) ?_
  intro p e s m below meth c ls X hr hlk w hl
  have hx := X.1.1
  have hb := X.1.2.1
  have hl : lv_has ls 2 [(0, .ref (aa G 0 0)), (1, .int x1)] := hl
  refine lv_iload_n hx hb dX6_count_0 rfl (lv_at hl 1 rfl) ?_
  refine lv_bipush (v := 11) hx hb dX6_count_1 (by decide) ?_
  refine lv_icmp_lt (tgt := 22) hx hb dX6_count_3 (by decide) (fun zc3 => ?_) (fun zc3 => ?_)
  · -- 22
    refine lv_iload_n hx hb dX6_count_22 rfl (lv_at hl 1 rfl) ?_
    by_cases zc23_0 : x1 = 0
    · -- case 0
      refine lv_tableIn (off := 53) (tgt := 76) hx hb dX6_count_23 (by rw [zc23_0]; decide) (by rw [zc23_0]; decide) (by rw [zc23_0]; rfl) (by decide) ?_
      refine lv_aload_n hx hb dX6_count_76 rfl (lv_at hl 0 rfl) ?_
      refine gf6_10 X (w.at 0) dX6_count_77 ?_
      refine gf6_63 HG1 X (w.at 1) dX6_count_80 ?_
      refine gf6_147 HG1 X (w.at 1) dX6_count_83 ?_
      exact t_i X w hr hlk dX6_count_86 (by simp only [f_X6_count, if_pos zc3, if_pos zc23_0]) rfl
    · -- not 0
      by_cases zc23_1 : x1 = 1
      · -- case 1
        refine lv_tableIn (off := 64) (tgt := 87) hx hb dX6_count_23 (by rw [zc23_1]; decide) (by rw [zc23_1]; decide) (by rw [zc23_1]; rfl) (by decide) ?_
        refine lv_aload_n hx hb dX6_count_87 rfl (lv_at hl 0 rfl) ?_
        refine gf6_10 X (w.at 0) dX6_count_88 ?_
        refine gf6_88 HG1 X (w.at 1) dX6_count_91 ?_
        refine gf6_195 HG1 X (w.at 1) dX6_count_94 ?_
        exact t_i X w hr hlk dX6_count_97 (by simp only [f_X6_count, if_pos zc3, if_neg zc23_0, if_pos zc23_1]) rfl
      · -- not 1
        by_cases zc23_2 : x1 = 2
        · -- case 2
          refine lv_tableIn (off := 75) (tgt := 98) hx hb dX6_count_23 (by rw [zc23_2]; decide) (by rw [zc23_2]; decide) (by rw [zc23_2]; rfl) (by decide) ?_
          refine lv_aload_n hx hb dX6_count_98 rfl (lv_at hl 0 rfl) ?_
          refine gf6_10 X (w.at 0) dX6_count_99 ?_
          refine gf6_196 HG1 X (w.at 1) dX6_count_102 ?_
          refine gf6_226 HG1 X (w.at 1) dX6_count_105 ?_
          exact t_i X w hr hlk dX6_count_108 (by simp only [f_X6_count, if_pos zc3, if_neg zc23_0, if_neg zc23_1, if_pos zc23_2]) rfl
        · -- not 2
          by_cases zc23_3 : x1 = 3
          · -- case 3
            refine lv_tableIn (off := 86) (tgt := 109) hx hb dX6_count_23 (by rw [zc23_3]; decide) (by rw [zc23_3]; decide) (by rw [zc23_3]; rfl) (by decide) ?_
            refine lv_aload_n hx hb dX6_count_109 rfl (lv_at hl 0 rfl) ?_
            refine gf6_10 X (w.at 0) dX6_count_110 ?_
            refine gf6_166 HG1 X (w.at 1) dX6_count_113 ?_
            exact t_i X w hr hlk dX6_count_116 (by simp only [f_X6_count, if_pos zc3, if_neg zc23_0, if_neg zc23_1, if_neg zc23_2, if_pos zc23_3]) rfl
          · -- not 3
            by_cases zc23_4 : x1 = 4
            · -- case 4
              refine lv_tableIn (off := 94) (tgt := 117) hx hb dX6_count_23 (by rw [zc23_4]; decide) (by rw [zc23_4]; decide) (by rw [zc23_4]; rfl) (by decide) ?_
              refine lv_aload_n hx hb dX6_count_117 rfl (lv_at hl 0 rfl) ?_
              refine gf6_10 X (w.at 0) dX6_count_118 ?_
              refine gf6_63 HG1 X (w.at 1) dX6_count_121 ?_
              refine k_i (rr_v (rest := []) X (w.at 1) mX0_tonsInAll kw690 (c_X0_tonsInAll HG1 ) (HG1.in (by decide)) rfl rfl ⟨Nat.le_of_ble_eq_true rfl, Nat.le_of_ble_eq_true rfl⟩ rfl hl.1 rfl (Nat.le_of_ble_eq_true rfl) dX6_count_124 ⟨Nat.zero_le _, Nat.zero_le _⟩) (w.at 1) (fun H locs w => ?_)
              rw [setG_self] at w
              exact t_i X w hr hlk dX6_count_127 (by simp only [f_X6_count, if_pos zc3, if_neg zc23_0, if_neg zc23_1, if_neg zc23_2, if_neg zc23_3, if_pos zc23_4]) rfl
            · -- not 4
              by_cases zc23_5 : x1 = 5
              · -- case 5
                refine lv_tableIn (off := 105) (tgt := 128) hx hb dX6_count_23 (by rw [zc23_5]; decide) (by rw [zc23_5]; decide) (by rw [zc23_5]; rfl) (by decide) ?_
                refine lv_aload_n hx hb dX6_count_128 rfl (lv_at hl 0 rfl) ?_
                refine gf6_10 X (w.at 0) dX6_count_129 ?_
                refine gf6_230 HG1 X (w.at 1) dX6_count_132 ?_
                exact t_i X w hr hlk dX6_count_135 (by simp only [f_X6_count, if_pos zc3, if_neg zc23_0, if_neg zc23_1, if_neg zc23_2, if_neg zc23_3, if_neg zc23_4, if_pos zc23_5]) rfl
              · -- not 5
                by_cases zc23_6 : x1 = 6
                · -- case 6
                  refine lv_tableIn (off := 113) (tgt := 136) hx hb dX6_count_23 (by rw [zc23_6]; decide) (by rw [zc23_6]; decide) (by rw [zc23_6]; rfl) (by decide) ?_
                  refine lv_aload_n hx hb dX6_count_136 rfl (lv_at hl 0 rfl) ?_
                  refine gf6_10 X (w.at 0) dX6_count_137 ?_
                  refine gf6_233 HG1 X (w.at 1) dX6_count_140 ?_
                  exact t_i X w hr hlk dX6_count_143 (by simp only [f_X6_count, if_pos zc3, if_neg zc23_0, if_neg zc23_1, if_neg zc23_2, if_neg zc23_3, if_neg zc23_4, if_neg zc23_5, if_pos zc23_6]) rfl
                · -- not 6
                  by_cases zc23_7 : x1 = 7
                  · -- case 7
                    refine lv_tableIn (off := 121) (tgt := 144) hx hb dX6_count_23 (by rw [zc23_7]; decide) (by rw [zc23_7]; decide) (by rw [zc23_7]; rfl) (by decide) ?_
                    refine lv_aload_n hx hb dX6_count_144 rfl (lv_at hl 0 rfl) ?_
                    refine gf6_29 X (w.at 0) dX6_count_145 ?_
                    refine gf6_48 X (w.at 0) dX6_count_148 ?_
                    exact t_i X w hr hlk dX6_count_151 (by simp only [f_X6_count, if_pos zc3, if_neg zc23_0, if_neg zc23_1, if_neg zc23_2, if_neg zc23_3, if_neg zc23_4, if_neg zc23_5, if_neg zc23_6, if_pos zc23_7]) rfl
                  · -- not 7
                    by_cases zc23_8 : x1 = 8
                    · -- case 8
                      refine lv_tableIn (off := 129) (tgt := 152) hx hb dX6_count_23 (by rw [zc23_8]; decide) (by rw [zc23_8]; decide) (by rw [zc23_8]; rfl) (by decide) ?_
                      refine lv_aload_n hx hb dX6_count_152 rfl (lv_at hl 0 rfl) ?_
                      refine gf6_37 X (w.at 0) dX6_count_153 ?_
                      exact t_i X w hr hlk dX6_count_156 (by simp only [f_X6_count, if_pos zc3, if_neg zc23_0, if_neg zc23_1, if_neg zc23_2, if_neg zc23_3, if_neg zc23_4, if_neg zc23_5, if_neg zc23_6, if_neg zc23_7, if_pos zc23_8]) rfl
                    · -- not 8
                      by_cases zc23_9 : x1 = 9
                      · -- case 9
                        refine lv_tableIn (off := 134) (tgt := 157) hx hb dX6_count_23 (by rw [zc23_9]; decide) (by rw [zc23_9]; decide) (by rw [zc23_9]; rfl) (by decide) ?_
                        refine lv_aload_n hx hb dX6_count_157 rfl (lv_at hl 0 rfl) ?_
                        refine gf6_10 X (w.at 0) dX6_count_158 ?_
                        refine gf6_105 HG1 X (w.at 1) dX6_count_161 ?_
                        exact t_i X w hr hlk dX6_count_164 (by simp only [f_X6_count, if_pos zc3, if_neg zc23_0, if_neg zc23_1, if_neg zc23_2, if_neg zc23_3, if_neg zc23_4, if_neg zc23_5, if_neg zc23_6, if_neg zc23_7, if_neg zc23_8, if_pos zc23_9]) rfl
                      · -- not 9
                        refine lv_tableOut (tgt := 165) hx hb dX6_count_23 (by have hzc23_0 := lv_neT zc23_0 (a := 0) (by decide); have hzc23_1 := lv_neT zc23_1 (a := 1) (by decide); have hzc23_2 := lv_neT zc23_2 (a := 2) (by decide); have hzc23_3 := lv_neT zc23_3 (a := 3) (by decide); have hzc23_4 := lv_neT zc23_4 (a := 4) (by decide); have hzc23_5 := lv_neT zc23_5 (a := 5) (by decide); have hzc23_6 := lv_neT zc23_6 (a := 6) (by decide); have hzc23_7 := lv_neT zc23_7 (a := 7) (by decide); have hzc23_8 := lv_neT zc23_8 (a := 8) (by decide); have hzc23_9 := lv_neT zc23_9 (a := 9) (by decide); omega) (by decide) ?_
                        refine lv_bipush (v := (-9)) hx hb dX6_count_165 (by decide) ?_
                        exact t_i X w hr hlk dX6_count_167 (by simp only [f_X6_count, if_pos zc3, if_neg zc23_0, if_neg zc23_1, if_neg zc23_2, if_neg zc23_3, if_neg zc23_4, if_neg zc23_5, if_neg zc23_6, if_neg zc23_7, if_neg zc23_8, if_neg zc23_9]) rfl
  · -- 6
    refine lv_iload_n hx hb dX6_count_6 rfl (lv_at hl 1 rfl) ?_
    refine lv_bipush (v := 16) hx hb dX6_count_7 (by decide) ?_
    refine lv_icmp_gt (tgt := 22) hx hb dX6_count_9 (by decide) (fun zc9 => ?_) (fun zc9 => ?_)
    · -- 22
      refine lv_iload_n hx hb dX6_count_22 rfl (lv_at hl 1 rfl) ?_
      by_cases zc23_0 : x1 = 0
      · -- case 0
        refine lv_tableIn (off := 53) (tgt := 76) hx hb dX6_count_23 (by rw [zc23_0]; decide) (by rw [zc23_0]; decide) (by rw [zc23_0]; rfl) (by decide) ?_
        refine lv_aload_n hx hb dX6_count_76 rfl (lv_at hl 0 rfl) ?_
        refine gf6_10 X (w.at 0) dX6_count_77 ?_
        refine gf6_63 HG1 X (w.at 1) dX6_count_80 ?_
        refine gf6_147 HG1 X (w.at 1) dX6_count_83 ?_
        exact t_i X w hr hlk dX6_count_86 (by simp only [f_X6_count, if_neg zc3, if_pos zc9, if_pos zc23_0]) rfl
      · -- not 0
        by_cases zc23_1 : x1 = 1
        · -- case 1
          refine lv_tableIn (off := 64) (tgt := 87) hx hb dX6_count_23 (by rw [zc23_1]; decide) (by rw [zc23_1]; decide) (by rw [zc23_1]; rfl) (by decide) ?_
          refine lv_aload_n hx hb dX6_count_87 rfl (lv_at hl 0 rfl) ?_
          refine gf6_10 X (w.at 0) dX6_count_88 ?_
          refine gf6_88 HG1 X (w.at 1) dX6_count_91 ?_
          refine gf6_195 HG1 X (w.at 1) dX6_count_94 ?_
          exact t_i X w hr hlk dX6_count_97 (by simp only [f_X6_count, if_neg zc3, if_pos zc9, if_neg zc23_0, if_pos zc23_1]) rfl
        · -- not 1
          by_cases zc23_2 : x1 = 2
          · -- case 2
            refine lv_tableIn (off := 75) (tgt := 98) hx hb dX6_count_23 (by rw [zc23_2]; decide) (by rw [zc23_2]; decide) (by rw [zc23_2]; rfl) (by decide) ?_
            refine lv_aload_n hx hb dX6_count_98 rfl (lv_at hl 0 rfl) ?_
            refine gf6_10 X (w.at 0) dX6_count_99 ?_
            refine gf6_196 HG1 X (w.at 1) dX6_count_102 ?_
            refine gf6_226 HG1 X (w.at 1) dX6_count_105 ?_
            exact t_i X w hr hlk dX6_count_108 (by simp only [f_X6_count, if_neg zc3, if_pos zc9, if_neg zc23_0, if_neg zc23_1, if_pos zc23_2]) rfl
          · -- not 2
            by_cases zc23_3 : x1 = 3
            · -- case 3
              refine lv_tableIn (off := 86) (tgt := 109) hx hb dX6_count_23 (by rw [zc23_3]; decide) (by rw [zc23_3]; decide) (by rw [zc23_3]; rfl) (by decide) ?_
              refine lv_aload_n hx hb dX6_count_109 rfl (lv_at hl 0 rfl) ?_
              refine gf6_10 X (w.at 0) dX6_count_110 ?_
              refine gf6_166 HG1 X (w.at 1) dX6_count_113 ?_
              exact t_i X w hr hlk dX6_count_116 (by simp only [f_X6_count, if_neg zc3, if_pos zc9, if_neg zc23_0, if_neg zc23_1, if_neg zc23_2, if_pos zc23_3]) rfl
            · -- not 3
              by_cases zc23_4 : x1 = 4
              · -- case 4
                refine lv_tableIn (off := 94) (tgt := 117) hx hb dX6_count_23 (by rw [zc23_4]; decide) (by rw [zc23_4]; decide) (by rw [zc23_4]; rfl) (by decide) ?_
                refine lv_aload_n hx hb dX6_count_117 rfl (lv_at hl 0 rfl) ?_
                refine gf6_10 X (w.at 0) dX6_count_118 ?_
                refine gf6_63 HG1 X (w.at 1) dX6_count_121 ?_
                refine k_i (rr_v (rest := []) X (w.at 1) mX0_tonsInAll kw690 (c_X0_tonsInAll HG1 ) (HG1.in (by decide)) rfl rfl ⟨Nat.le_of_ble_eq_true rfl, Nat.le_of_ble_eq_true rfl⟩ rfl hl.1 rfl (Nat.le_of_ble_eq_true rfl) dX6_count_124 ⟨Nat.zero_le _, Nat.zero_le _⟩) (w.at 1) (fun H locs w => ?_)
                rw [setG_self] at w
                exact t_i X w hr hlk dX6_count_127 (by simp only [f_X6_count, if_neg zc3, if_pos zc9, if_neg zc23_0, if_neg zc23_1, if_neg zc23_2, if_neg zc23_3, if_pos zc23_4]) rfl
              · -- not 4
                by_cases zc23_5 : x1 = 5
                · -- case 5
                  refine lv_tableIn (off := 105) (tgt := 128) hx hb dX6_count_23 (by rw [zc23_5]; decide) (by rw [zc23_5]; decide) (by rw [zc23_5]; rfl) (by decide) ?_
                  refine lv_aload_n hx hb dX6_count_128 rfl (lv_at hl 0 rfl) ?_
                  refine gf6_10 X (w.at 0) dX6_count_129 ?_
                  refine gf6_230 HG1 X (w.at 1) dX6_count_132 ?_
                  exact t_i X w hr hlk dX6_count_135 (by simp only [f_X6_count, if_neg zc3, if_pos zc9, if_neg zc23_0, if_neg zc23_1, if_neg zc23_2, if_neg zc23_3, if_neg zc23_4, if_pos zc23_5]) rfl
                · -- not 5
                  by_cases zc23_6 : x1 = 6
                  · -- case 6
                    refine lv_tableIn (off := 113) (tgt := 136) hx hb dX6_count_23 (by rw [zc23_6]; decide) (by rw [zc23_6]; decide) (by rw [zc23_6]; rfl) (by decide) ?_
                    refine lv_aload_n hx hb dX6_count_136 rfl (lv_at hl 0 rfl) ?_
                    refine gf6_10 X (w.at 0) dX6_count_137 ?_
                    refine gf6_233 HG1 X (w.at 1) dX6_count_140 ?_
                    exact t_i X w hr hlk dX6_count_143 (by simp only [f_X6_count, if_neg zc3, if_pos zc9, if_neg zc23_0, if_neg zc23_1, if_neg zc23_2, if_neg zc23_3, if_neg zc23_4, if_neg zc23_5, if_pos zc23_6]) rfl
                  · -- not 6
                    by_cases zc23_7 : x1 = 7
                    · -- case 7
                      refine lv_tableIn (off := 121) (tgt := 144) hx hb dX6_count_23 (by rw [zc23_7]; decide) (by rw [zc23_7]; decide) (by rw [zc23_7]; rfl) (by decide) ?_
                      refine lv_aload_n hx hb dX6_count_144 rfl (lv_at hl 0 rfl) ?_
                      refine gf6_29 X (w.at 0) dX6_count_145 ?_
                      refine gf6_48 X (w.at 0) dX6_count_148 ?_
                      exact t_i X w hr hlk dX6_count_151 (by simp only [f_X6_count, if_neg zc3, if_pos zc9, if_neg zc23_0, if_neg zc23_1, if_neg zc23_2, if_neg zc23_3, if_neg zc23_4, if_neg zc23_5, if_neg zc23_6, if_pos zc23_7]) rfl
                    · -- not 7
                      by_cases zc23_8 : x1 = 8
                      · -- case 8
                        refine lv_tableIn (off := 129) (tgt := 152) hx hb dX6_count_23 (by rw [zc23_8]; decide) (by rw [zc23_8]; decide) (by rw [zc23_8]; rfl) (by decide) ?_
                        refine lv_aload_n hx hb dX6_count_152 rfl (lv_at hl 0 rfl) ?_
                        refine gf6_37 X (w.at 0) dX6_count_153 ?_
                        exact t_i X w hr hlk dX6_count_156 (by simp only [f_X6_count, if_neg zc3, if_pos zc9, if_neg zc23_0, if_neg zc23_1, if_neg zc23_2, if_neg zc23_3, if_neg zc23_4, if_neg zc23_5, if_neg zc23_6, if_neg zc23_7, if_pos zc23_8]) rfl
                      · -- not 8
                        by_cases zc23_9 : x1 = 9
                        · -- case 9
                          refine lv_tableIn (off := 134) (tgt := 157) hx hb dX6_count_23 (by rw [zc23_9]; decide) (by rw [zc23_9]; decide) (by rw [zc23_9]; rfl) (by decide) ?_
                          refine lv_aload_n hx hb dX6_count_157 rfl (lv_at hl 0 rfl) ?_
                          refine gf6_10 X (w.at 0) dX6_count_158 ?_
                          refine gf6_105 HG1 X (w.at 1) dX6_count_161 ?_
                          exact t_i X w hr hlk dX6_count_164 (by simp only [f_X6_count, if_neg zc3, if_pos zc9, if_neg zc23_0, if_neg zc23_1, if_neg zc23_2, if_neg zc23_3, if_neg zc23_4, if_neg zc23_5, if_neg zc23_6, if_neg zc23_7, if_neg zc23_8, if_pos zc23_9]) rfl
                        · -- not 9
                          refine lv_tableOut (tgt := 165) hx hb dX6_count_23 (by have hzc23_0 := lv_neT zc23_0 (a := 0) (by decide); have hzc23_1 := lv_neT zc23_1 (a := 1) (by decide); have hzc23_2 := lv_neT zc23_2 (a := 2) (by decide); have hzc23_3 := lv_neT zc23_3 (a := 3) (by decide); have hzc23_4 := lv_neT zc23_4 (a := 4) (by decide); have hzc23_5 := lv_neT zc23_5 (a := 5) (by decide); have hzc23_6 := lv_neT zc23_6 (a := 6) (by decide); have hzc23_7 := lv_neT zc23_7 (a := 7) (by decide); have hzc23_8 := lv_neT zc23_8 (a := 8) (by decide); have hzc23_9 := lv_neT zc23_9 (a := 9) (by decide); omega) (by decide) ?_
                          refine lv_bipush (v := (-9)) hx hb dX6_count_165 (by decide) ?_
                          exact t_i X w hr hlk dX6_count_167 (by simp only [f_X6_count, if_neg zc3, if_pos zc9, if_neg zc23_0, if_neg zc23_1, if_neg zc23_2, if_neg zc23_3, if_neg zc23_4, if_neg zc23_5, if_neg zc23_6, if_neg zc23_7, if_neg zc23_8, if_neg zc23_9]) rfl
    · -- 12
      refine lv_aload_n hx hb dX6_count_12 rfl (lv_at hl 0 rfl) ?_
      refine gf6_41 X (w.at 0) dX6_count_13 ?_
      refine lv_iload_n hx hb dX6_count_16 rfl (lv_at hl 1 rfl) ?_
      refine lv_bipush (v := 10) hx hb dX6_count_17 (by decide) ?_
      refine lv_isub hx hb dX6_count_19 ?_
      refine ia (f := 4) (n := 7) X (w.at 0) m0_4 rfl (cnt_in zc3 (Int32.not_lt.mp zc9)) dX6_count_20 ?_
      exact t_i X w hr hlk dX6_count_21 (by simp only [f_X6_count, if_neg zc3, if_neg zc9]) rfl
