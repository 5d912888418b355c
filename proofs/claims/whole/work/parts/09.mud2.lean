noncomputable def f_X6_go (σ : St) (x1 : Int32) : Int32 :=
  let zv5 : Int32 := f_X6_whyNoRun σ x1
  if 0 ≤ zv5 then
    let zs22 : St := setG σ 1 (g_X3_goOn (σ 1) x1 (-1))
    zs22 1 0 6
  else
    let zs12 : St := setG σ 0 (g_X6_refuse (σ 0) zv5)
    f_X6_refuse (σ 0) zv5
noncomputable def g_X6_go (σ : St) (x1 : Int32) : St :=
  let zv5 : Int32 := f_X6_whyNoRun σ x1
  if 0 ≤ zv5 then
    let zs22 : St := setG σ 1 (g_X3_goOn (σ 1) x1 (-1))
    zs22
  else
    let zs12 : St := setG σ 0 (g_X6_refuse (σ 0) zv5)
    zs12
set_option maxRecDepth 100000 in
set_option maxHeartbeats 4000000 in
theorem c_X6_go {l : Launch} {G : GG} {σ : St}  (x1 : Int32) (hf : WFh (σ 1)) : MM l G yX6_go cX6_go 3 7 145 (some .int) [.ref (aa G 0 0), .int x1] σ (Qi G (f_X6_go σ x1) (g_X6_go σ x1)) := by
  refine MM.of (by decide) (Nat.le_of_ble_eq_true rfl) ?_
  intro p e s m below meth c ls X hr hlk w hl
  have hx := X.1.1
  have hb := X.1.2.1
  have hl : lv_has ls 3 [(0, .ref (aa G 0 0)), (1, .int x1)] := hl
  refine lv_aload_n hx hb dX6_go_0 rfl (lv_at hl 0 rfl) ?_
  refine lv_iload_n hx hb dX6_go_1 rfl (lv_at hl 1 rfl) ?_
  refine k_i (rr_v (rest := []) X w mX6_whyNoRun kw528 (c_X6_whyNoRun x1) m0_0 rfl rfl ⟨Nat.le_of_ble_eq_true rfl, Nat.le_of_ble_eq_true rfl⟩ rfl hl.1 rfl (Nat.le_of_ble_eq_true rfl) dX6_go_2 ⟨Nat.zero_le _, Nat.zero_le _⟩) w (fun H locs w => ?_)
  refine lv_topi (fun zv5 ezv5 => ?_)
  refine lv_istore_n (lv' := [(2, .int zv5), (0, .ref (aa G 0 0)), (1, .int x1)]) hx hb dX6_go_5 rfl hl (by decide) rfl (fun ls hl => ?_)
  refine lv_iload_n hx hb dX6_go_6 rfl (lv_at hl 0 rfl) ?_
  refine lv_if_ge (tgt := 16) hx hb dX6_go_7 (by decide) (fun zc7 => ?_) (fun zc7 => ?_)
  · -- 16
    refine lv_aload_n hx hb dX6_go_16 rfl (lv_at hl 1 rfl) ?_
    refine gf6_10 X (w.at 0) dX6_go_17 ?_
    refine lv_iload_n hx hb dX6_go_20 rfl (lv_at hl 2 rfl) ?_
    refine lv_iconst (v := (-1)) hx hb dX6_go_21 (by decide) ?_
    refine k_v (rr_v (rest := []) X (w.at 1) mX3_goOn kw532 (c_X3_goOn HG1 x1 (-1) (by assumption)) (HG1.in (by decide)) rfl rfl ⟨Nat.le_of_ble_eq_true rfl, Nat.le_of_ble_eq_true rfl⟩ rfl hl.1 rfl (Nat.le_of_ble_eq_true rfl) dX6_go_22 ⟨Nat.zero_le _, Nat.zero_le _⟩) (w.at 1) (fun H locs w => ?_)
    obtain ⟨zs22, ezs22⟩ : ∃ y : St, y = setG σ 1 (g_X3_goOn (σ 1) x1 (-1)) := ⟨_, rfl⟩; rw [← ezs22] at w
    refine lv_aload_n hx hb dX6_go_25 rfl (lv_at hl 1 rfl) ?_
    refine gf6_10 X (w.at 0) dX6_go_26 ?_
    refine gf6_166 HG1 X (w.at 1) dX6_go_29 ?_
    exact t_i X w hr hlk dX6_go_32 (by replace ezs22 := ezs22.symm; subst ezs22; replace ezv5 := ezv5.symm; subst ezv5; simp only [f_X6_go, if_pos zc7]) (by replace ezs22 := ezs22.symm; subst ezs22; replace ezv5 := ezv5.symm; subst ezv5; simp only [g_X6_go, if_pos zc7])
  · -- 10
    refine lv_aload_n hx hb dX6_go_10 rfl (lv_at hl 1 rfl) ?_
    refine lv_iload_n hx hb dX6_go_11 rfl (lv_at hl 0 rfl) ?_
    refine k_i (rr_v (rest := []) X (w.at 0) mX6_refuse kw270 (c_X6_refuse zv5) m0_0 rfl rfl ⟨Nat.le_of_ble_eq_true rfl, Nat.le_of_ble_eq_true rfl⟩ rfl hl.1 rfl (Nat.le_of_ble_eq_true rfl) dX6_go_12 ⟨Nat.zero_le _, Nat.zero_le _⟩) (w.at 0) (fun H locs w => ?_)
    obtain ⟨zs12, ezs12⟩ : ∃ y : St, y = setG σ 0 (g_X6_refuse (σ 0) zv5) := ⟨_, rfl⟩; rw [← ezs12] at w
    exact t_i X w hr hlk dX6_go_15 (by replace ezs12 := ezs12.symm; subst ezs12; replace ezv5 := ezv5.symm; subst ezv5; simp only [f_X6_go, if_neg zc7]) (by replace ezs12 := ezs12.symm; subst ezs12; replace ezv5 := ezv5.symm; subst ezv5; simp only [g_X6_go, if_neg zc7])

noncomputable def f_X6_cost (σ : St) (x1 : Int32) : Int64 :=
  let zv5 : Int32 := f_X6_whyNoRun σ x1
  if 0 ≤ zv5 then
    let zs29 : St := setG σ 2 (g_X3_become (σ 2) (σ 1))
    let zs40 : St := setG zs29 2 (g_X3_runCosts (zs29 2) x1 4000000000000000000)
    f_X3_runCosts (zs29 2) x1 4000000000000000000
  else
    let zs15 : St := setG σ 0 (g_X6_refuse (σ 0) zv5)
    (-4000000000000000000) + ((f_X6_refuse (σ 0) zv5).toInt64)
noncomputable def g_X6_cost (σ : St) (x1 : Int32) : St :=
  let zv5 : Int32 := f_X6_whyNoRun σ x1
  if 0 ≤ zv5 then
    let zs29 : St := setG σ 2 (g_X3_become (σ 2) (σ 1))
    let zs40 : St := setG zs29 2 (g_X3_runCosts (zs29 2) x1 4000000000000000000)
    zs40
  else
    let zs15 : St := setG σ 0 (g_X6_refuse (σ 0) zv5)
    zs15
set_option maxRecDepth 100000 in
set_option maxHeartbeats 4000000 in
theorem c_X6_cost {l : Launch} {G : GG} {σ : St}  (x1 : Int32) (hf : WFh (σ 1)) : MM l G yX6_cost cX6_cost 3 7 148 (some .long) [.ref (aa G 0 0), .int x1] σ (Ql G (f_X6_cost σ x1) (g_X6_cost σ x1)) := by
  refine MM.of (by decide) (Nat.le_of_ble_eq_true rfl) ?_
  intro p e s m below meth c ls X hr hlk w hl
  have hx := X.1.1
  have hb := X.1.2.1
  have hl : lv_has ls 3 [(0, .ref (aa G 0 0)), (1, .int x1)] := hl
  refine lv_aload_n hx hb dX6_cost_0 rfl (lv_at hl 0 rfl) ?_
  refine lv_iload_n hx hb dX6_cost_1 rfl (lv_at hl 1 rfl) ?_
  refine k_i (rr_v (rest := []) X w mX6_whyNoRun kw528 (c_X6_whyNoRun x1) m0_0 rfl rfl ⟨Nat.le_of_ble_eq_true rfl, Nat.le_of_ble_eq_true rfl⟩ rfl hl.1 rfl (Nat.le_of_ble_eq_true rfl) dX6_cost_2 ⟨Nat.zero_le _, Nat.zero_le _⟩) w (fun H locs w => ?_)
  refine lv_topi (fun zv5 ezv5 => ?_)
  refine lv_istore_n (lv' := [(2, .int zv5), (0, .ref (aa G 0 0)), (1, .int x1)]) hx hb dX6_cost_5 rfl hl (by decide) rfl (fun ls hl => ?_)
  refine lv_iload_n hx hb dX6_cost_6 rfl (lv_at hl 0 rfl) ?_
  refine lv_if_ge (tgt := 21) hx hb dX6_cost_7 (by decide) (fun zc7 => ?_) (fun zc7 => ?_)
  · -- 21
    refine lv_aload_n hx hb dX6_cost_21 rfl (lv_at hl 1 rfl) ?_
    refine gf6_16 X (w.at 0) dX6_cost_22 ?_
    refine lv_aload_n hx hb dX6_cost_25 rfl (lv_at hl 1 rfl) ?_
    refine gf6_10 X (w.at 0) dX6_cost_26 ?_
    refine k_v (rr_v (rest := []) X (w.at 2) mX3_become kw282 (c_X3_become HG2 HG1 (by decide) rfl ) (HG2.in (by decide)) rfl rfl ⟨Nat.le_of_ble_eq_true rfl, Nat.le_of_ble_eq_true rfl⟩ rfl hl.1 rfl (Nat.le_of_ble_eq_true rfl) dX6_cost_29 ⟨Nat.zero_le _, Nat.zero_le _⟩) (w.at 2) (fun H locs w => ?_)
    obtain ⟨zs29, ezs29⟩ : ∃ y : St, y = setG σ 2 (g_X3_become (σ 2) (σ 1)) := ⟨_, rfl⟩; rw [← ezs29] at w
    have hm : WFh (zs29 2) := by rw [ezs29]; exact become_WF hf
    refine lv_aload_n hx hb dX6_cost_32 rfl (lv_at hl 1 rfl) ?_
    refine gf6_16 X (w.at 0) dX6_cost_33 ?_
    refine lv_iload_n hx hb dX6_cost_36 rfl (lv_at hl 2 rfl) ?_
    refine lv_ldc2 hx hb X.1.2.2.2.1 (X.1.2.2.2.2 _ kw587) dX6_cost_37 ?_
    refine k_l (rr_v (rest := []) X (w.at 2) mX3_runCosts kw588 (c_X3_runCosts HG2 x1 4000000000000000000 (by assumption)) (HG2.in (by decide)) rfl rfl ⟨Nat.le_of_ble_eq_true rfl, Nat.le_of_ble_eq_true rfl⟩ rfl hl.1 rfl (Nat.le_of_ble_eq_true rfl) dX6_cost_40 ⟨Nat.zero_le _, Nat.zero_le _⟩) (w.at 2) (fun H locs w => ?_)
    obtain ⟨zs40, ezs40⟩ : ∃ y : St, y = setG zs29 2 (g_X3_runCosts (zs29 2) x1 4000000000000000000) := ⟨_, rfl⟩; rw [← ezs40] at w
    exact t_l X w hr hlk dX6_cost_43 (by replace ezs40 := ezs40.symm; subst ezs40; replace ezs29 := ezs29.symm; subst ezs29; replace ezv5 := ezv5.symm; subst ezv5; simp only [f_X6_cost, if_pos zc7]) (by replace ezs40 := ezs40.symm; subst ezs40; replace ezs29 := ezs29.symm; subst ezs29; replace ezv5 := ezv5.symm; subst ezv5; simp only [g_X6_cost, if_pos zc7])
  · -- 10
    refine lv_ldc2 hx hb X.1.2.2.2.1 (X.1.2.2.2.2 _ kw586) dX6_cost_10 ?_
    refine lv_aload_n hx hb dX6_cost_13 rfl (lv_at hl 1 rfl) ?_
    refine lv_iload_n hx hb dX6_cost_14 rfl (lv_at hl 0 rfl) ?_
    refine k_i (rr_v (rest := [.long (-4000000000000000000)]) X (w.at 0) mX6_refuse kw270 (c_X6_refuse zv5) m0_0 rfl rfl ⟨Nat.le_of_ble_eq_true rfl, Nat.le_of_ble_eq_true rfl⟩ rfl hl.1 rfl (Nat.le_of_ble_eq_true rfl) dX6_cost_15 ⟨Nat.zero_le _, Nat.zero_le _⟩) (w.at 0) (fun H locs w => ?_)
    obtain ⟨zs15, ezs15⟩ : ∃ y : St, y = setG σ 0 (g_X6_refuse (σ 0) zv5) := ⟨_, rfl⟩; rw [← ezs15] at w
    refine lv_i2l hx hb dX6_cost_18 rfl ?_
    refine lv_ladd hx hb dX6_cost_19 ?_
    exact t_l X w hr hlk dX6_cost_20 (by replace ezs15 := ezs15.symm; subst ezs15; replace ezv5 := ezv5.symm; subst ezv5; simp only [f_X6_cost, if_neg zc7]) (by replace ezs15 := ezs15.symm; subst ezs15; replace ezv5 := ezv5.symm; subst ezv5; simp only [g_X6_cost, if_neg zc7])

noncomputable def f_X6_holds (σ : St) (x1 : Int32) : Int32 :=
  let zv5 : Int32 := f_X6_whyNoRun σ x1
  if 0 ≤ zv5 then
    let zs24 : St := setG σ 2 (g_X3_become (σ 2) (σ 1))
    let zs33 : St := setG zs24 2 (g_X3_firstLack (zs24 2) x1 (-1))
    f_X3_firstLack (zs24 2) x1 (-1)
  else
    let zs12 : St := setG σ 0 (g_X6_refuse (σ 0) zv5)
    f_X6_refuse (σ 0) zv5
noncomputable def g_X6_holds (σ : St) (x1 : Int32) : St :=
  let zv5 : Int32 := f_X6_whyNoRun σ x1
  if 0 ≤ zv5 then
    let zs24 : St := setG σ 2 (g_X3_become (σ 2) (σ 1))
    let zs33 : St := setG zs24 2 (g_X3_firstLack (zs24 2) x1 (-1))
    zs33
  else
    let zs12 : St := setG σ 0 (g_X6_refuse (σ 0) zv5)
    zs12
set_option maxRecDepth 100000 in
set_option maxHeartbeats 4000000 in
theorem c_X6_holds {l : Launch} {G : GG} {σ : St}  (x1 : Int32) (hf : WFh (σ 1)) : MM l G yX6_holds cX6_holds 3 7 145 (some .int) [.ref (aa G 0 0), .int x1] σ (Qi G (f_X6_holds σ x1) (g_X6_holds σ x1)) := by
  refine MM.of (by decide) (Nat.le_of_ble_eq_true rfl) ?_
  intro p e s m below meth c ls X hr hlk w hl
  have hx := X.1.1
  have hb := X.1.2.1
  have hl : lv_has ls 3 [(0, .ref (aa G 0 0)), (1, .int x1)] := hl
  refine lv_aload_n hx hb dX6_holds_0 rfl (lv_at hl 0 rfl) ?_
  refine lv_iload_n hx hb dX6_holds_1 rfl (lv_at hl 1 rfl) ?_
  refine k_i (rr_v (rest := []) X w mX6_whyNoRun kw528 (c_X6_whyNoRun x1) m0_0 rfl rfl ⟨Nat.le_of_ble_eq_true rfl, Nat.le_of_ble_eq_true rfl⟩ rfl hl.1 rfl (Nat.le_of_ble_eq_true rfl) dX6_holds_2 ⟨Nat.zero_le _, Nat.zero_le _⟩) w (fun H locs w => ?_)
  refine lv_topi (fun zv5 ezv5 => ?_)
  refine lv_istore_n (lv' := [(2, .int zv5), (0, .ref (aa G 0 0)), (1, .int x1)]) hx hb dX6_holds_5 rfl hl (by decide) rfl (fun ls hl => ?_)
  refine lv_iload_n hx hb dX6_holds_6 rfl (lv_at hl 0 rfl) ?_
  refine lv_if_ge (tgt := 16) hx hb dX6_holds_7 (by decide) (fun zc7 => ?_) (fun zc7 => ?_)
  · -- 16
    refine lv_aload_n hx hb dX6_holds_16 rfl (lv_at hl 1 rfl) ?_
    refine gf6_16 X (w.at 0) dX6_holds_17 ?_
    refine lv_aload_n hx hb dX6_holds_20 rfl (lv_at hl 1 rfl) ?_
    refine gf6_10 X (w.at 0) dX6_holds_21 ?_
    refine k_v (rr_v (rest := []) X (w.at 2) mX3_become kw282 (c_X3_become HG2 HG1 (by decide) rfl ) (HG2.in (by decide)) rfl rfl ⟨Nat.le_of_ble_eq_true rfl, Nat.le_of_ble_eq_true rfl⟩ rfl hl.1 rfl (Nat.le_of_ble_eq_true rfl) dX6_holds_24 ⟨Nat.zero_le _, Nat.zero_le _⟩) (w.at 2) (fun H locs w => ?_)
    obtain ⟨zs24, ezs24⟩ : ∃ y : St, y = setG σ 2 (g_X3_become (σ 2) (σ 1)) := ⟨_, rfl⟩; rw [← ezs24] at w
    have hm : WFh (zs24 2) := by rw [ezs24]; exact become_WF hf
    refine lv_aload_n hx hb dX6_holds_27 rfl (lv_at hl 1 rfl) ?_
    refine gf6_16 X (w.at 0) dX6_holds_28 ?_
    refine lv_iload_n hx hb dX6_holds_31 rfl (lv_at hl 2 rfl) ?_
    refine lv_iconst (v := (-1)) hx hb dX6_holds_32 (by decide) ?_
    refine k_i (rr_v (rest := []) X (w.at 2) mX3_firstLack kw606 (c_X3_firstLack HG2 x1 (-1) (by assumption)) (HG2.in (by decide)) rfl rfl ⟨Nat.le_of_ble_eq_true rfl, Nat.le_of_ble_eq_true rfl⟩ rfl hl.1 rfl (Nat.le_of_ble_eq_true rfl) dX6_holds_33 ⟨Nat.zero_le _, Nat.zero_le _⟩) (w.at 2) (fun H locs w => ?_)
    obtain ⟨zs33, ezs33⟩ : ∃ y : St, y = setG zs24 2 (g_X3_firstLack (zs24 2) x1 (-1)) := ⟨_, rfl⟩; rw [← ezs33] at w
    exact t_i X w hr hlk dX6_holds_36 (by replace ezs33 := ezs33.symm; subst ezs33; replace ezs24 := ezs24.symm; subst ezs24; replace ezv5 := ezv5.symm; subst ezv5; simp only [f_X6_holds, if_pos zc7]) (by replace ezs33 := ezs33.symm; subst ezs33; replace ezs24 := ezs24.symm; subst ezs24; replace ezv5 := ezv5.symm; subst ezv5; simp only [g_X6_holds, if_pos zc7])
  · -- 10
    refine lv_aload_n hx hb dX6_holds_10 rfl (lv_at hl 1 rfl) ?_
    refine lv_iload_n hx hb dX6_holds_11 rfl (lv_at hl 0 rfl) ?_
    refine k_i (rr_v (rest := []) X (w.at 0) mX6_refuse kw270 (c_X6_refuse zv5) m0_0 rfl rfl ⟨Nat.le_of_ble_eq_true rfl, Nat.le_of_ble_eq_true rfl⟩ rfl hl.1 rfl (Nat.le_of_ble_eq_true rfl) dX6_holds_12 ⟨Nat.zero_le _, Nat.zero_le _⟩) (w.at 0) (fun H locs w => ?_)
    obtain ⟨zs12, ezs12⟩ : ∃ y : St, y = setG σ 0 (g_X6_refuse (σ 0) zv5) := ⟨_, rfl⟩; rw [← ezs12] at w
    exact t_i X w hr hlk dX6_holds_15 (by replace ezs12 := ezs12.symm; subst ezs12; replace ezv5 := ezv5.symm; subst ezv5; simp only [f_X6_holds, if_neg zc7]) (by replace ezs12 := ezs12.symm; subst ezs12; replace ezv5 := ezv5.symm; subst ezv5; simp only [g_X6_holds, if_neg zc7])

noncomputable def f_X6_alone (σ : St) (x1 : Int32) : Int32 :=
  let zv5 : Int32 := f_X6_whyNoRun σ x1
  if 0 ≤ zv5 then
    let zs24 : St := setG σ 2 (g_X3_become (σ 2) (σ 1))
    let zs34 : St := setG zs24 2 (g_X3_firstLack (zs24 2) x1 9)
    f_X3_firstLack (zs24 2) x1 9
  else
    let zs12 : St := setG σ 0 (g_X6_refuse (σ 0) zv5)
    f_X6_refuse (σ 0) zv5
noncomputable def g_X6_alone (σ : St) (x1 : Int32) : St :=
  let zv5 : Int32 := f_X6_whyNoRun σ x1
  if 0 ≤ zv5 then
    let zs24 : St := setG σ 2 (g_X3_become (σ 2) (σ 1))
    let zs34 : St := setG zs24 2 (g_X3_firstLack (zs24 2) x1 9)
    zs34
  else
    let zs12 : St := setG σ 0 (g_X6_refuse (σ 0) zv5)
    zs12
set_option maxRecDepth 100000 in
set_option maxHeartbeats 4000000 in
theorem c_X6_alone {l : Launch} {G : GG} {σ : St}  (x1 : Int32) (hf : WFh (σ 1)) : MM l G yX6_alone cX6_alone 3 7 145 (some .int) [.ref (aa G 0 0), .int x1] σ (Qi G (f_X6_alone σ x1) (g_X6_alone σ x1)) := by
  refine MM.of (by decide) (Nat.le_of_ble_eq_true rfl) ?_
  intro p e s m below meth c ls X hr hlk w hl
  have hx := X.1.1
  have hb := X.1.2.1
  have hl : lv_has ls 3 [(0, .ref (aa G 0 0)), (1, .int x1)] := hl
  refine lv_aload_n hx hb dX6_alone_0 rfl (lv_at hl 0 rfl) ?_
  refine lv_iload_n hx hb dX6_alone_1 rfl (lv_at hl 1 rfl) ?_
  refine k_i (rr_v (rest := []) X w mX6_whyNoRun kw528 (c_X6_whyNoRun x1) m0_0 rfl rfl ⟨Nat.le_of_ble_eq_true rfl, Nat.le_of_ble_eq_true rfl⟩ rfl hl.1 rfl (Nat.le_of_ble_eq_true rfl) dX6_alone_2 ⟨Nat.zero_le _, Nat.zero_le _⟩) w (fun H locs w => ?_)
  refine lv_topi (fun zv5 ezv5 => ?_)
  refine lv_istore_n (lv' := [(2, .int zv5), (0, .ref (aa G 0 0)), (1, .int x1)]) hx hb dX6_alone_5 rfl hl (by decide) rfl (fun ls hl => ?_)
  refine lv_iload_n hx hb dX6_alone_6 rfl (lv_at hl 0 rfl) ?_
  refine lv_if_ge (tgt := 16) hx hb dX6_alone_7 (by decide) (fun zc7 => ?_) (fun zc7 => ?_)
  · -- 16
    refine lv_aload_n hx hb dX6_alone_16 rfl (lv_at hl 1 rfl) ?_
    refine gf6_16 X (w.at 0) dX6_alone_17 ?_
    refine lv_aload_n hx hb dX6_alone_20 rfl (lv_at hl 1 rfl) ?_
    refine gf6_10 X (w.at 0) dX6_alone_21 ?_
    refine k_v (rr_v (rest := []) X (w.at 2) mX3_become kw282 (c_X3_become HG2 HG1 (by decide) rfl ) (HG2.in (by decide)) rfl rfl ⟨Nat.le_of_ble_eq_true rfl, Nat.le_of_ble_eq_true rfl⟩ rfl hl.1 rfl (Nat.le_of_ble_eq_true rfl) dX6_alone_24 ⟨Nat.zero_le _, Nat.zero_le _⟩) (w.at 2) (fun H locs w => ?_)
    obtain ⟨zs24, ezs24⟩ : ∃ y : St, y = setG σ 2 (g_X3_become (σ 2) (σ 1)) := ⟨_, rfl⟩; rw [← ezs24] at w
    have hm : WFh (zs24 2) := by rw [ezs24]; exact become_WF hf
    refine lv_aload_n hx hb dX6_alone_27 rfl (lv_at hl 1 rfl) ?_
    refine gf6_16 X (w.at 0) dX6_alone_28 ?_
    refine lv_iload_n hx hb dX6_alone_31 rfl (lv_at hl 2 rfl) ?_
    refine lv_bipush (v := 9) hx hb dX6_alone_32 (by decide) ?_
    refine k_i (rr_v (rest := []) X (w.at 2) mX3_firstLack kw606 (c_X3_firstLack HG2 x1 9 (by assumption)) (HG2.in (by decide)) rfl rfl ⟨Nat.le_of_ble_eq_true rfl, Nat.le_of_ble_eq_true rfl⟩ rfl hl.1 rfl (Nat.le_of_ble_eq_true rfl) dX6_alone_34 ⟨Nat.zero_le _, Nat.zero_le _⟩) (w.at 2) (fun H locs w => ?_)
    obtain ⟨zs34, ezs34⟩ : ∃ y : St, y = setG zs24 2 (g_X3_firstLack (zs24 2) x1 9) := ⟨_, rfl⟩; rw [← ezs34] at w
    exact t_i X w hr hlk dX6_alone_37 (by replace ezs34 := ezs34.symm; subst ezs34; replace ezs24 := ezs24.symm; subst ezs24; replace ezv5 := ezv5.symm; subst ezv5; simp only [f_X6_alone, if_pos zc7]) (by replace ezs34 := ezs34.symm; subst ezs34; replace ezs24 := ezs24.symm; subst ezs24; replace ezv5 := ezv5.symm; subst ezv5; simp only [g_X6_alone, if_pos zc7])
  · -- 10
    refine lv_aload_n hx hb dX6_alone_10 rfl (lv_at hl 1 rfl) ?_
    refine lv_iload_n hx hb dX6_alone_11 rfl (lv_at hl 0 rfl) ?_
    refine k_i (rr_v (rest := []) X (w.at 0) mX6_refuse kw270 (c_X6_refuse zv5) m0_0 rfl rfl ⟨Nat.le_of_ble_eq_true rfl, Nat.le_of_ble_eq_true rfl⟩ rfl hl.1 rfl (Nat.le_of_ble_eq_true rfl) dX6_alone_12 ⟨Nat.zero_le _, Nat.zero_le _⟩) (w.at 0) (fun H locs w => ?_)
    obtain ⟨zs12, ezs12⟩ : ∃ y : St, y = setG σ 0 (g_X6_refuse (σ 0) zv5) := ⟨_, rfl⟩; rw [← ezs12] at w
    exact t_i X w hr hlk dX6_alone_15 (by replace ezs12 := ezs12.symm; subst ezs12; replace ezv5 := ezv5.symm; subst ezv5; simp only [f_X6_alone, if_neg zc7]) (by replace ezs12 := ezs12.symm; subst ezs12; replace ezv5 := ezv5.symm; subst ezv5; simp only [g_X6_alone, if_neg zc7])

noncomputable def f_X6_back (σ : St) (x1 : Int32) (x2 : Int32) (x3 : Int32) (x4 : Int32) (x5 : Int32) : Int32 :=
  if (f_X0_has (σ 1) x1) = 0 then
    let zs40 : St := setG σ 0 (g_X6_refuse (σ 0) (-1))
    (-1000000000) + (f_X6_refuse (σ 0) (-1))
  else
    if (f_X6_isStuff x2) = 0 then
      let zs40_2 : St := setG σ 0 (g_X6_refuse (σ 0) (-1))
      (-1000000000) + (f_X6_refuse (σ 0) (-1))
    else
      if (f_X0_hasAll (σ 1) x4) = 0 then
        let zs40_3 : St := setG σ 0 (g_X6_refuse (σ 0) (-1))
        (-1000000000) + (f_X6_refuse (σ 0) (-1))
      else
        if x3 < 1 then
          let zs61 : St := setG σ 0 (g_X6_refuse (σ 0) (-4))
          (-1000000000) + (f_X6_refuse (σ 0) (-4))
        else
          if 1 ≤ x5 then
            if 9999 < x3 then
              let zs86 : St := setG σ 0 (g_X6_refuse (σ 0) (-6))
              (-1000000000) + (f_X6_refuse (σ 0) (-6))
            else
              if x5 ≤ 200 then
                let zs99 : St := setG σ 2 (g_X3_become (σ 2) (σ 1))
                let zs110 : St := setG zs99 2 (g_X3_goOn (zs99 2) x5 9)
                let zv126 : Int32 := f_X0_tonsInSet (zs110 2) x4 x2
                let zs136 : St := setG zs110 2 (g_X3_become (zs110 2) (zs110 1))
                let zs146 : St := setG zs136 2 (g_X3_drop (zs136 2) x1 x2 x3)
                let zs157 : St := setG zs146 2 (g_X3_goOn (zs146 2) x5 9)
                (f_X0_tonsInSet (zs157 2) x4 x2) - zv126
              else
                let zs86_2 : St := setG σ 0 (g_X6_refuse (σ 0) (-6))
                (-1000000000) + (f_X6_refuse (σ 0) (-6))
          else
            let zs61_2 : St := setG σ 0 (g_X6_refuse (σ 0) (-4))
            (-1000000000) + (f_X6_refuse (σ 0) (-4))
noncomputable def g_X6_back (σ : St) (x1 : Int32) (x2 : Int32) (x3 : Int32) (x4 : Int32) (x5 : Int32) : St :=
  if (f_X0_has (σ 1) x1) = 0 then
    let zs40 : St := setG σ 0 (g_X6_refuse (σ 0) (-1))
    zs40
  else
    if (f_X6_isStuff x2) = 0 then
      let zs40_2 : St := setG σ 0 (g_X6_refuse (σ 0) (-1))
      zs40_2
    else
      if (f_X0_hasAll (σ 1) x4) = 0 then
        let zs40_3 : St := setG σ 0 (g_X6_refuse (σ 0) (-1))
        zs40_3
      else
        if x3 < 1 then
          let zs61 : St := setG σ 0 (g_X6_refuse (σ 0) (-4))
          zs61
        else
          if 1 ≤ x5 then
            if 9999 < x3 then
              let zs86 : St := setG σ 0 (g_X6_refuse (σ 0) (-6))
              zs86
            else
              if x5 ≤ 200 then
                let zs99 : St := setG σ 2 (g_X3_become (σ 2) (σ 1))
                let zs110 : St := setG zs99 2 (g_X3_goOn (zs99 2) x5 9)
                let zv126 : Int32 := f_X0_tonsInSet (zs110 2) x4 x2
                let zs136 : St := setG zs110 2 (g_X3_become (zs110 2) (zs110 1))
                let zs146 : St := setG zs136 2 (g_X3_drop (zs136 2) x1 x2 x3)
                let zs157 : St := setG zs146 2 (g_X3_goOn (zs146 2) x5 9)
                zs157
              else
                let zs86_2 : St := setG σ 0 (g_X6_refuse (σ 0) (-6))
                zs86_2
          else
            let zs61_2 : St := setG σ 0 (g_X6_refuse (σ 0) (-4))
            zs61_2
set_option maxRecDepth 100000 in
set_option maxHeartbeats 4000000 in
theorem c_X6_back {l : Launch} {G : GG} {σ : St}  (x1 : Int32) (x2 : Int32) (x3 : Int32) (x4 : Int32) (x5 : Int32) (hf : WFh (σ 1)) : MM l G yX6_back cX6_back 7 7 145 (some .int) [.ref (aa G 0 0), .int x1, .int x2, .int x3, .int x4, .int x5] σ (Qi G (f_X6_back σ x1 x2 x3 x4 x5) (g_X6_back σ x1 x2 x3 x4 x5)) := by
  refine MM.of (by decide) (Nat.le_of_ble_eq_true rfl) ?_
  intro p e s m below meth c ls X hr hlk w hl
  have hx := X.1.1
  have hb := X.1.2.1
  have hl : lv_has ls 7 [(0, .ref (aa G 0 0)), (1, .int x1), (2, .int x2), (3, .int x3), (4, .int x4), (5, .int x5)] := hl
  refine lv_aload_n hx hb dX6_back_0 rfl (lv_at hl 0 rfl) ?_
  refine gf6_10 X (w.at 0) dX6_back_1 ?_
  refine gf6_63 HG1 X (w.at 1) dX6_back_4 ?_
  refine lv_iload_n hx hb dX6_back_7 rfl (lv_at hl 1 rfl) ?_
  refine k_i (rr_v (rest := []) X (w.at 1) mX0_has kw412 (c_X0_has HG1 x1) (HG1.in (by decide)) rfl rfl ⟨Nat.le_of_ble_eq_true rfl, Nat.le_of_ble_eq_true rfl⟩ rfl hl.1 rfl (Nat.le_of_ble_eq_true rfl) dX6_back_8 ⟨Nat.zero_le _, Nat.zero_le _⟩) (w.at 1) (fun H locs w => ?_)
  rw [setG_self] at w
  refine lv_if_eq (tgt := 36) hx hb dX6_back_11 (by decide) (fun zc11 => ?_) (fun zc11 => ?_)
  · -- 36
    refine lv_ldc hx hb X.1.2.2.2.1 (X.1.2.2.2.2 _ kw487) dX6_back_36 ?_
    refine lv_aload_n hx hb dX6_back_38 rfl (lv_at hl 0 rfl) ?_
    refine lv_iconst (v := (-1)) hx hb dX6_back_39 (by decide) ?_
    refine k_i (rr_v (rest := [.int (-1000000000)]) X (w.at 0) mX6_refuse kw270 (c_X6_refuse (-1)) m0_0 rfl rfl ⟨Nat.le_of_ble_eq_true rfl, Nat.le_of_ble_eq_true rfl⟩ rfl hl.1 rfl (Nat.le_of_ble_eq_true rfl) dX6_back_40 ⟨Nat.zero_le _, Nat.zero_le _⟩) (w.at 0) (fun H locs w => ?_)
    obtain ⟨zs40, ezs40⟩ : ∃ y : St, y = setG σ 0 (g_X6_refuse (σ 0) (-1)) := ⟨_, rfl⟩; rw [← ezs40] at w
    refine lv_iadd hx hb dX6_back_43 ?_
    exact t_i X w hr hlk dX6_back_44 (by replace ezs40 := ezs40.symm; subst ezs40; simp only [f_X6_back, if_pos zc11]) (by replace ezs40 := ezs40.symm; subst ezs40; simp only [g_X6_back, if_pos zc11])
  · -- 14
    refine lv_iload_n hx hb dX6_back_14 rfl (lv_at hl 2 rfl) ?_
    refine k_i (rr_s (rest := []) X w mX6_isStuff kw452 (c_X6_isStuff x2) ⟨Nat.le_of_ble_eq_true rfl, Nat.le_of_ble_eq_true rfl⟩ rfl hl.1 rfl (Nat.le_of_ble_eq_true rfl) dX6_back_15 ⟨Nat.zero_le _, Nat.zero_le _⟩) w (fun H locs w => ?_)
    refine lv_if_eq (tgt := 36) hx hb dX6_back_18 (by decide) (fun zc18 => ?_) (fun zc18 => ?_)
    · -- 36
      refine lv_ldc hx hb X.1.2.2.2.1 (X.1.2.2.2.2 _ kw487) dX6_back_36 ?_
      refine lv_aload_n hx hb dX6_back_38 rfl (lv_at hl 0 rfl) ?_
      refine lv_iconst (v := (-1)) hx hb dX6_back_39 (by decide) ?_
      refine k_i (rr_v (rest := [.int (-1000000000)]) X (w.at 0) mX6_refuse kw270 (c_X6_refuse (-1)) m0_0 rfl rfl ⟨Nat.le_of_ble_eq_true rfl, Nat.le_of_ble_eq_true rfl⟩ rfl hl.1 rfl (Nat.le_of_ble_eq_true rfl) dX6_back_40 ⟨Nat.zero_le _, Nat.zero_le _⟩) (w.at 0) (fun H locs w => ?_)
      obtain ⟨zs40_2, ezs40_2⟩ : ∃ y : St, y = setG σ 0 (g_X6_refuse (σ 0) (-1)) := ⟨_, rfl⟩; rw [← ezs40_2] at w
      refine lv_iadd hx hb dX6_back_43 ?_
      exact t_i X w hr hlk dX6_back_44 (by replace ezs40_2 := ezs40_2.symm; subst ezs40_2; simp only [f_X6_back, if_neg zc11, if_pos zc18]) (by replace ezs40_2 := ezs40_2.symm; subst ezs40_2; simp only [g_X6_back, if_neg zc11, if_pos zc18])
    · -- 21
      refine lv_aload_n hx hb dX6_back_21 rfl (lv_at hl 0 rfl) ?_
      refine gf6_10 X (w.at 0) dX6_back_22 ?_
      refine gf6_63 HG1 X (w.at 1) dX6_back_25 ?_
      refine lv_iload hx hb dX6_back_28 (lv_at hl 4 rfl) ?_
      refine k_i (rr_v (rest := []) X (w.at 1) mX0_hasAll kw622 (c_X0_hasAll HG1 x4) (HG1.in (by decide)) rfl rfl ⟨Nat.le_of_ble_eq_true rfl, Nat.le_of_ble_eq_true rfl⟩ rfl hl.1 rfl (Nat.le_of_ble_eq_true rfl) dX6_back_30 ⟨Nat.zero_le _, Nat.zero_le _⟩) (w.at 1) (fun H locs w => ?_)
      rw [setG_self] at w
      refine lv_if_ne (tgt := 45) hx hb dX6_back_33 (by decide) (fun zc33 => ?_) (fun zc33 => ?_)
      · -- 45
        refine lv_iload_n hx hb dX6_back_45 rfl (lv_at hl 3 rfl) ?_
        refine lv_iconst (v := 1) hx hb dX6_back_46 (by decide) ?_
        refine lv_icmp_lt (tgt := 56) hx hb dX6_back_47 (by decide) (fun zc47 => ?_) (fun zc47 => ?_)
        · -- 56
          refine lv_ldc hx hb X.1.2.2.2.1 (X.1.2.2.2.2 _ kw487) dX6_back_56 ?_
          refine lv_aload_n hx hb dX6_back_58 rfl (lv_at hl 0 rfl) ?_
          refine lv_bipush (v := (-4)) hx hb dX6_back_59 (by decide) ?_
          refine k_i (rr_v (rest := [.int (-1000000000)]) X (w.at 0) mX6_refuse kw270 (c_X6_refuse (-4)) m0_0 rfl rfl ⟨Nat.le_of_ble_eq_true rfl, Nat.le_of_ble_eq_true rfl⟩ rfl hl.1 rfl (Nat.le_of_ble_eq_true rfl) dX6_back_61 ⟨Nat.zero_le _, Nat.zero_le _⟩) (w.at 0) (fun H locs w => ?_)
          obtain ⟨zs61, ezs61⟩ : ∃ y : St, y = setG σ 0 (g_X6_refuse (σ 0) (-4)) := ⟨_, rfl⟩; rw [← ezs61] at w
          refine lv_iadd hx hb dX6_back_64 ?_
          exact t_i X w hr hlk dX6_back_65 (by replace ezs61 := ezs61.symm; subst ezs61; simp only [f_X6_back, if_neg zc11, if_neg zc18, if_neg zc33, if_pos zc47]) (by replace ezs61 := ezs61.symm; subst ezs61; simp only [g_X6_back, if_neg zc11, if_neg zc18, if_neg zc33, if_pos zc47])
        · -- 50
          refine lv_iload hx hb dX6_back_50 (lv_at hl 5 rfl) ?_
          refine lv_iconst (v := 1) hx hb dX6_back_52 (by decide) ?_
          refine lv_icmp_ge (tgt := 66) hx hb dX6_back_53 (by decide) (fun zc53 => ?_) (fun zc53 => ?_)
          · -- 66
            refine lv_iload_n hx hb dX6_back_66 rfl (lv_at hl 3 rfl) ?_
            refine lv_sipush (v := 9999) hx hb dX6_back_67 (by decide) ?_
            refine lv_icmp_gt (tgt := 81) hx hb dX6_back_70 (by decide) (fun zc70 => ?_) (fun zc70 => ?_)
            · -- 81
              refine lv_ldc hx hb X.1.2.2.2.1 (X.1.2.2.2.2 _ kw487) dX6_back_81 ?_
              refine lv_aload_n hx hb dX6_back_83 rfl (lv_at hl 0 rfl) ?_
              refine lv_bipush (v := (-6)) hx hb dX6_back_84 (by decide) ?_
              refine k_i (rr_v (rest := [.int (-1000000000)]) X (w.at 0) mX6_refuse kw270 (c_X6_refuse (-6)) m0_0 rfl rfl ⟨Nat.le_of_ble_eq_true rfl, Nat.le_of_ble_eq_true rfl⟩ rfl hl.1 rfl (Nat.le_of_ble_eq_true rfl) dX6_back_86 ⟨Nat.zero_le _, Nat.zero_le _⟩) (w.at 0) (fun H locs w => ?_)
              obtain ⟨zs86, ezs86⟩ : ∃ y : St, y = setG σ 0 (g_X6_refuse (σ 0) (-6)) := ⟨_, rfl⟩; rw [← ezs86] at w
              refine lv_iadd hx hb dX6_back_89 ?_
              exact t_i X w hr hlk dX6_back_90 (by replace ezs86 := ezs86.symm; subst ezs86; simp only [f_X6_back, if_neg zc11, if_neg zc18, if_neg zc33, if_neg zc47, if_pos zc53, if_pos zc70]) (by replace ezs86 := ezs86.symm; subst ezs86; simp only [g_X6_back, if_neg zc11, if_neg zc18, if_neg zc33, if_neg zc47, if_pos zc53, if_pos zc70])
            · -- 73
              refine lv_iload hx hb dX6_back_73 (lv_at hl 5 rfl) ?_
              refine lv_sipush (v := 200) hx hb dX6_back_75 (by decide) ?_
              refine lv_icmp_le (tgt := 91) hx hb dX6_back_78 (by decide) (fun zc78 => ?_) (fun zc78 => ?_)
              · -- 91
                refine lv_aload_n hx hb dX6_back_91 rfl (lv_at hl 0 rfl) ?_
                refine gf6_16 X (w.at 0) dX6_back_92 ?_
                refine lv_aload_n hx hb dX6_back_95 rfl (lv_at hl 0 rfl) ?_
                refine gf6_10 X (w.at 0) dX6_back_96 ?_
                refine k_v (rr_v (rest := []) X (w.at 2) mX3_become kw282 (c_X3_become HG2 HG1 (by decide) rfl ) (HG2.in (by decide)) rfl rfl ⟨Nat.le_of_ble_eq_true rfl, Nat.le_of_ble_eq_true rfl⟩ rfl hl.1 rfl (Nat.le_of_ble_eq_true rfl) dX6_back_99 ⟨Nat.zero_le _, Nat.zero_le _⟩) (w.at 2) (fun H locs w => ?_)
                obtain ⟨zs99, ezs99⟩ : ∃ y : St, y = setG σ 2 (g_X3_become (σ 2) (σ 1)) := ⟨_, rfl⟩; rw [← ezs99] at w
                have hm : WFh (zs99 2) := by rw [ezs99]; exact become_WF hf
                have hf : WFh (zs99 1) := by rw [ezs99]; exact hf
                refine lv_aload_n hx hb dX6_back_102 rfl (lv_at hl 0 rfl) ?_
                refine gf6_16 X (w.at 0) dX6_back_103 ?_
                refine lv_iload hx hb dX6_back_106 (lv_at hl 5 rfl) ?_
                refine lv_bipush (v := 9) hx hb dX6_back_108 (by decide) ?_
                refine k_v (rr_v (rest := []) X (w.at 2) mX3_goOn kw532 (c_X3_goOn HG2 x5 9 (by assumption)) (HG2.in (by decide)) rfl rfl ⟨Nat.le_of_ble_eq_true rfl, Nat.le_of_ble_eq_true rfl⟩ rfl hl.1 rfl (Nat.le_of_ble_eq_true rfl) dX6_back_110 ⟨Nat.zero_le _, Nat.zero_le _⟩) (w.at 2) (fun H locs w => ?_)
                obtain ⟨zs110, ezs110⟩ : ∃ y : St, y = setG zs99 2 (g_X3_goOn (zs99 2) x5 9) := ⟨_, rfl⟩; rw [← ezs110] at w
                have hf : WFh (zs110 1) := by rw [ezs110]; exact hf
                refine lv_aload_n hx hb dX6_back_113 rfl (lv_at hl 0 rfl) ?_
                change W _ _ _ _ _ _ _ _ _ _ _ _ _ _ _ (F0 m 114 ls _)
                refine gf6_16 X (w.at 0) dX6_back_114 ?_
                refine gf6_63 HG2 X (w.at 2) dX6_back_117 ?_
                refine lv_iload hx hb dX6_back_120 (lv_at hl 4 rfl) ?_
                refine lv_iload_n hx hb dX6_back_122 rfl (lv_at hl 2 rfl) ?_
                refine k_i (rr_v (rest := []) X (w.at 2) mX0_tonsInSet kw626 (c_X0_tonsInSet HG2 x4 x2) (HG2.in (by decide)) rfl rfl ⟨Nat.le_of_ble_eq_true rfl, Nat.le_of_ble_eq_true rfl⟩ rfl hl.1 rfl (Nat.le_of_ble_eq_true rfl) dX6_back_123 ⟨Nat.zero_le _, Nat.zero_le _⟩) (w.at 2) (fun H locs w => ?_)
                rw [setG_self] at w
                refine lv_topi (fun zv126 ezv126 => ?_)
                refine lv_istore (lv' := [(6, .int zv126), (0, .ref (aa G 0 0)), (1, .int x1), (2, .int x2), (3, .int x3), (4, .int x4), (5, .int x5)]) hx hb dX6_back_126 hl (by decide) rfl (fun ls hl => ?_)
                refine lv_aload_n hx hb dX6_back_128 rfl (lv_at hl 1 rfl) ?_
                refine gf6_16 X (w.at 0) dX6_back_129 ?_
                refine lv_aload_n hx hb dX6_back_132 rfl (lv_at hl 1 rfl) ?_
                refine gf6_10 X (w.at 0) dX6_back_133 ?_
                refine k_v (rr_v (rest := []) X (w.at 2) mX3_become kw282 (c_X3_become HG2 HG1 (by decide) rfl ) (HG2.in (by decide)) rfl rfl ⟨Nat.le_of_ble_eq_true rfl, Nat.le_of_ble_eq_true rfl⟩ rfl hl.1 rfl (Nat.le_of_ble_eq_true rfl) dX6_back_136 ⟨Nat.zero_le _, Nat.zero_le _⟩) (w.at 2) (fun H locs w => ?_)
                obtain ⟨zs136, ezs136⟩ : ∃ y : St, y = setG zs110 2 (g_X3_become (zs110 2) (zs110 1)) := ⟨_, rfl⟩; rw [← ezs136] at w
                have hm : WFh (zs136 2) := by rw [ezs136]; exact become_WF hf
                have hf : WFh (zs136 1) := by rw [ezs136]; exact hf
                refine lv_aload_n hx hb dX6_back_139 rfl (lv_at hl 1 rfl) ?_
                change W _ _ _ _ _ _ _ _ _ _ _ _ _ _ _ (F0 m 140 ls _)
                refine gf6_16 X (w.at 0) dX6_back_140 ?_
                refine lv_iload_n hx hb dX6_back_143 rfl (lv_at hl 2 rfl) ?_
                refine lv_iload_n hx hb dX6_back_144 rfl (lv_at hl 3 rfl) ?_
                refine lv_iload_n hx hb dX6_back_145 rfl (lv_at hl 4 rfl) ?_
                refine k_v (rr_v (rest := []) X (w.at 2) mX3_drop kw631 (c_X3_drop HG2 x1 x2 x3) (HG2.in (by decide)) rfl rfl ⟨Nat.le_of_ble_eq_true rfl, Nat.le_of_ble_eq_true rfl⟩ rfl hl.1 rfl (Nat.le_of_ble_eq_true rfl) dX6_back_146 ⟨Nat.zero_le _, Nat.zero_le _⟩) (w.at 2) (fun H locs w => ?_)
                obtain ⟨zs146, ezs146⟩ : ∃ y : St, y = setG zs136 2 (g_X3_drop (zs136 2) x1 x2 x3) := ⟨_, rfl⟩; rw [← ezs146] at w
                have hm : WFh (zs146 2) := by rw [ezs146]; exact hm.fr (drop_Fr _ _ _ _)
                have hf : WFh (zs146 1) := by rw [ezs146]; exact hf
                refine lv_aload_n hx hb dX6_back_149 rfl (lv_at hl 1 rfl) ?_
                refine gf6_16 X (w.at 0) dX6_back_150 ?_
                refine lv_iload hx hb dX6_back_153 (lv_at hl 6 rfl) ?_
                refine lv_bipush (v := 9) hx hb dX6_back_155 (by decide) ?_
                refine k_v (rr_v (rest := []) X (w.at 2) mX3_goOn kw532 (c_X3_goOn HG2 x5 9 (by assumption)) (HG2.in (by decide)) rfl rfl ⟨Nat.le_of_ble_eq_true rfl, Nat.le_of_ble_eq_true rfl⟩ rfl hl.1 rfl (Nat.le_of_ble_eq_true rfl) dX6_back_157 ⟨Nat.zero_le _, Nat.zero_le _⟩) (w.at 2) (fun H locs w => ?_)
                obtain ⟨zs157, ezs157⟩ : ∃ y : St, y = setG zs146 2 (g_X3_goOn (zs146 2) x5 9) := ⟨_, rfl⟩; rw [← ezs157] at w
                have hf : WFh (zs157 1) := by rw [ezs157]; exact hf
                refine lv_aload_n hx hb dX6_back_160 rfl (lv_at hl 1 rfl) ?_
                refine gf6_16 X (w.at 0) dX6_back_161 ?_
                change W _ _ _ _ _ _ _ _ _ _ _ _ _ _ _ (F0 m 164 ls _)
                refine gf6_63 HG2 X (w.at 2) dX6_back_164 ?_
                refine lv_iload hx hb dX6_back_167 (lv_at hl 5 rfl) ?_
                refine lv_iload_n hx hb dX6_back_169 rfl (lv_at hl 3 rfl) ?_
                refine k_i (rr_v (rest := []) X (w.at 2) mX0_tonsInSet kw626 (c_X0_tonsInSet HG2 x4 x2) (HG2.in (by decide)) rfl rfl ⟨Nat.le_of_ble_eq_true rfl, Nat.le_of_ble_eq_true rfl⟩ rfl hl.1 rfl (Nat.le_of_ble_eq_true rfl) dX6_back_170 ⟨Nat.zero_le _, Nat.zero_le _⟩) (w.at 2) (fun H locs w => ?_)
                rw [setG_self] at w
                refine lv_iload hx hb dX6_back_173 (lv_at hl 0 rfl) ?_
                refine lv_isub hx hb dX6_back_175 ?_
                exact t_i X w hr hlk dX6_back_176 (by replace ezs157 := ezs157.symm; subst ezs157; replace ezs146 := ezs146.symm; subst ezs146; replace ezs136 := ezs136.symm; subst ezs136; replace ezv126 := ezv126.symm; subst ezv126; replace ezs110 := ezs110.symm; subst ezs110; replace ezs99 := ezs99.symm; subst ezs99; simp only [f_X6_back, if_neg zc11, if_neg zc18, if_neg zc33, if_neg zc47, if_pos zc53, if_neg zc70, if_pos zc78]) (by replace ezs157 := ezs157.symm; subst ezs157; replace ezs146 := ezs146.symm; subst ezs146; replace ezs136 := ezs136.symm; subst ezs136; replace ezv126 := ezv126.symm; subst ezv126; replace ezs110 := ezs110.symm; subst ezs110; replace ezs99 := ezs99.symm; subst ezs99; simp only [g_X6_back, if_neg zc11, if_neg zc18, if_neg zc33, if_neg zc47, if_pos zc53, if_neg zc70, if_pos zc78])
              · -- 81
                refine lv_ldc hx hb X.1.2.2.2.1 (X.1.2.2.2.2 _ kw487) dX6_back_81 ?_
                refine lv_aload_n hx hb dX6_back_83 rfl (lv_at hl 0 rfl) ?_
                refine lv_bipush (v := (-6)) hx hb dX6_back_84 (by decide) ?_
                refine k_i (rr_v (rest := [.int (-1000000000)]) X (w.at 0) mX6_refuse kw270 (c_X6_refuse (-6)) m0_0 rfl rfl ⟨Nat.le_of_ble_eq_true rfl, Nat.le_of_ble_eq_true rfl⟩ rfl hl.1 rfl (Nat.le_of_ble_eq_true rfl) dX6_back_86 ⟨Nat.zero_le _, Nat.zero_le _⟩) (w.at 0) (fun H locs w => ?_)
                obtain ⟨zs86_2, ezs86_2⟩ : ∃ y : St, y = setG σ 0 (g_X6_refuse (σ 0) (-6)) := ⟨_, rfl⟩; rw [← ezs86_2] at w
                refine lv_iadd hx hb dX6_back_89 ?_
                exact t_i X w hr hlk dX6_back_90 (by replace ezs86_2 := ezs86_2.symm; subst ezs86_2; simp only [f_X6_back, if_neg zc11, if_neg zc18, if_neg zc33, if_neg zc47, if_pos zc53, if_neg zc70, if_neg zc78]) (by replace ezs86_2 := ezs86_2.symm; subst ezs86_2; simp only [g_X6_back, if_neg zc11, if_neg zc18, if_neg zc33, if_neg zc47, if_pos zc53, if_neg zc70, if_neg zc78])
          · -- 56
            refine lv_ldc hx hb X.1.2.2.2.1 (X.1.2.2.2.2 _ kw487) dX6_back_56 ?_
            refine lv_aload_n hx hb dX6_back_58 rfl (lv_at hl 0 rfl) ?_
            refine lv_bipush (v := (-4)) hx hb dX6_back_59 (by decide) ?_
            refine k_i (rr_v (rest := [.int (-1000000000)]) X (w.at 0) mX6_refuse kw270 (c_X6_refuse (-4)) m0_0 rfl rfl ⟨Nat.le_of_ble_eq_true rfl, Nat.le_of_ble_eq_true rfl⟩ rfl hl.1 rfl (Nat.le_of_ble_eq_true rfl) dX6_back_61 ⟨Nat.zero_le _, Nat.zero_le _⟩) (w.at 0) (fun H locs w => ?_)
            obtain ⟨zs61_2, ezs61_2⟩ : ∃ y : St, y = setG σ 0 (g_X6_refuse (σ 0) (-4)) := ⟨_, rfl⟩; rw [← ezs61_2] at w
            refine lv_iadd hx hb dX6_back_64 ?_
            exact t_i X w hr hlk dX6_back_65 (by replace ezs61_2 := ezs61_2.symm; subst ezs61_2; simp only [f_X6_back, if_neg zc11, if_neg zc18, if_neg zc33, if_neg zc47, if_neg zc53]) (by replace ezs61_2 := ezs61_2.symm; subst ezs61_2; simp only [g_X6_back, if_neg zc11, if_neg zc18, if_neg zc33, if_neg zc47, if_neg zc53])
      · -- 36
        refine lv_ldc hx hb X.1.2.2.2.1 (X.1.2.2.2.2 _ kw487) dX6_back_36 ?_
        refine lv_aload_n hx hb dX6_back_38 rfl (lv_at hl 0 rfl) ?_
        refine lv_iconst (v := (-1)) hx hb dX6_back_39 (by decide) ?_
        refine k_i (rr_v (rest := [.int (-1000000000)]) X (w.at 0) mX6_refuse kw270 (c_X6_refuse (-1)) m0_0 rfl rfl ⟨Nat.le_of_ble_eq_true rfl, Nat.le_of_ble_eq_true rfl⟩ rfl hl.1 rfl (Nat.le_of_ble_eq_true rfl) dX6_back_40 ⟨Nat.zero_le _, Nat.zero_le _⟩) (w.at 0) (fun H locs w => ?_)
        obtain ⟨zs40_3, ezs40_3⟩ : ∃ y : St, y = setG σ 0 (g_X6_refuse (σ 0) (-1)) := ⟨_, rfl⟩; rw [← ezs40_3] at w
        refine lv_iadd hx hb dX6_back_43 ?_
        exact t_i X w hr hlk dX6_back_44 (by replace ezs40_3 := ezs40_3.symm; subst ezs40_3; simp only [f_X6_back, if_neg zc11, if_neg zc18, if_pos zc33]) (by replace ezs40_3 := ezs40_3.symm; subst ezs40_3; simp only [g_X6_back, if_neg zc11, if_neg zc18, if_pos zc33])

noncomputable def b_X6_bestDrop_27 (y1 : Int32) (y2 : Int32) (k : Nat) (v : Int64 × Int32 × St) : Int64 × Int32 × St :=
  if (nI k) = 8 then
    let zs64 : St := setG v.2.2 2 (g_X3_become (v.2.2 2) (v.2.2 1))
    let zs76 : St := setG zs64 2 (up (zs64 2) 19 1 (nI k))
    let zs85 : St := setG zs76 2 (g_X3_runCosts (zs76 2) y1 v.1)
    let zv88 : Int64 := f_X3_runCosts (zs76 2) y1 v.1
    if 0 ≤ (lg_cmp zv88 v.1) then
      (v.1, v.2.1, zs85)
    else
      let zv102 : Int32 := nI k
      (zv88, zv102, zs85)
  else
    if (f_X0_has (v.2.2 1) (nI k)) = 0 then
      (v.1, v.2.1, v.2.2)
    else
      let zs64_2 : St := setG v.2.2 2 (g_X3_become (v.2.2 2) (v.2.2 1))
      let zs76_2 : St := setG zs64_2 2 (up (zs64_2 2) 19 1 (nI k))
      let zs85_2 : St := setG zs76_2 2 (g_X3_runCosts (zs76_2 2) y1 v.1)
      let zv88_2 : Int64 := f_X3_runCosts (zs76_2 2) y1 v.1
      if 0 ≤ (lg_cmp zv88_2 v.1) then
        (v.1, v.2.1, zs85_2)
      else
        let zv102_2 : Int32 := nI k
        (zv88_2, zv102_2, zs85_2)
noncomputable def l_X6_bestDrop_27 (y1 : Int32) (y2 : Int32) (v0 : Int64 × Int32 × St) : Int64 × Int32 × St := itn (b_X6_bestDrop_27 y1 y2) (nn 9) v0
noncomputable def f_X6_bestDrop (σ : St) (x1 : Int32) : Int32 :=
  let zv5 : Int32 := f_X6_whyNoRun σ x1
  if 0 ≤ zv5 then
    let zl27 : Int64 × Int32 × St := (l_X6_bestDrop_27 x1 zv5 (4000000000000000000, (-9), σ))
    zl27.2.1
  else
    let zs12 : St := setG σ 0 (g_X6_refuse (σ 0) zv5)
    f_X6_refuse (σ 0) zv5
noncomputable def g_X6_bestDrop (σ : St) (x1 : Int32) : St :=
  let zv5 : Int32 := f_X6_whyNoRun σ x1
  if 0 ≤ zv5 then
    let zl27 : Int64 × Int32 × St := (l_X6_bestDrop_27 x1 zv5 (4000000000000000000, (-9), σ))
    zl27.2.2
  else
    let zs12 : St := setG σ 0 (g_X6_refuse (σ 0) zv5)
    zs12
set_option maxRecDepth 100000 in
set_option maxHeartbeats 4000000 in
theorem lp_X6_bestDrop_27 {l : Launch} {G : GG} {p : Program} {e : Env} {s : State} {m : MethodId} {args : Array Value} {below : List Frame} {meth : Method} {c : Code} {Q : State → Prop} (X : Cx p m c cX6_bestDrop 9 s args RX6 G) (y1 : Int32) (y2 : Int32) (v0 : Int64 × Int32 × St) 
    (kk : ∀ (H : Heap) (locs : List Loc) (ls : Array Slot), Wd G s ((l_X6_bestDrop_27 y1 y2 v0).2.2) H locs → lv_has ls 9 [(0, .ref (aa G 0 0)), (1, .int y1), (2, .int y2), (3, .long ((l_X6_bestDrop_27 y1 y2 v0).1)), (5, .int ((l_X6_bestDrop_27 y1 y2 v0).2.1)), (6, .int (nI (9)))] → W p l e (rmv 7 148) s m args below meth c H locs 0 0 Q (F0 m 110 ls [])) :
    ∀ (n k : Nat) (v : Int64 × Int32 × St), k ≤ 9 → 9 - k < n → v = itn (b_X6_bestDrop_27 y1 y2) k v0 → (WFh (v.2.2 1)) → ∀ (H : Heap) (locs : List Loc) (ls : Array Slot), Wd G s v.2.2 H locs → lv_has ls 9 [(0, .ref (aa G 0 0)), (1, .int y1), (2, .int y2), (3, .long v.1), (5, .int v.2.1), (6, .int (nI k))] → W p l e (rmv 7 148) s m args below meth c H locs 0 0 Q (F0 m 27 ls []) := by
  have hx := X.1.1
  have hb := X.1.2.1
  intro n
  induction n with
  | zero => intro k v _ h; omega
  | succ n ih =>
    intro k v hkN hn ev hf H locs ls w hl
    refine lv_iload hx hb dX6_bestDrop_27 (lv_at hl 5 rfl) ?_
    refine lv_bipush (v := 8) hx hb dX6_bestDrop_29 (by decide) ?_
    refine lv_icmp_gt (tgt := 110) hx hb dX6_bestDrop_31 (by decide) (fun zc31 => ?_) (fun zc31 => ?_)
    · -- 110
      have hkE : k = 9 := lp_eqG hkN (by decide) (by decide) (by decide) zc31
      have ev2 : l_X6_bestDrop_27 y1 y2 v0 = v := by unfold l_X6_bestDrop_27; rw [nn_eq, ← hkE]; exact ev.symm
      rw [ev2] at kk
      rw [hkE] at hl
      exact kk _ _ _ w (lv_sub hl [0, 1, 2, 3, 4, 5] rfl)
    · -- 34
      have hk : k < 9 := lp_ltG hkN (by decide) (by decide) (by decide) zc31
      refine lv_iload hx hb dX6_bestDrop_34 (lv_at hl 5 rfl) ?_
      refine lv_bipush (v := 8) hx hb dX6_bestDrop_36 (by decide) ?_
      refine lv_icmp_eq (tgt := 56) hx hb dX6_bestDrop_38 (by decide) (fun zc38 => ?_) (fun zc38 => ?_)
      · -- 56
        refine lv_aload_n hx hb dX6_bestDrop_56 rfl (lv_at hl 0 rfl) ?_
        refine gf6_16 X (w.at 0) dX6_bestDrop_57 ?_
        refine lv_aload_n hx hb dX6_bestDrop_60 rfl (lv_at hl 0 rfl) ?_
        refine gf6_10 X (w.at 0) dX6_bestDrop_61 ?_
        refine k_v (rr_v (rest := []) X (w.at 2) mX3_become kw282 (c_X3_become HG2 HG1 (by decide) rfl ) (HG2.in (by decide)) rfl rfl ⟨Nat.le_of_ble_eq_true rfl, Nat.le_of_ble_eq_true rfl⟩ rfl hl.1 rfl (Nat.le_of_ble_eq_true rfl) dX6_bestDrop_64 ⟨Nat.zero_le _, Nat.zero_le _⟩) (w.at 2) (fun H locs w => ?_)
        obtain ⟨zs64, ezs64⟩ : ∃ y : St, y = setG v.2.2 2 (g_X3_become (v.2.2 2) (v.2.2 1)) := ⟨_, rfl⟩; rw [← ezs64] at w
        have hm : WFh (zs64 2) := by rw [ezs64]; exact become_WF hf
        refine lv_aload_n hx hb dX6_bestDrop_67 rfl (lv_at hl 0 rfl) ?_
        refine gf6_16 X (w.at 0) dX6_bestDrop_68 ?_
        refine gf6_137 HG2 X (w.at 2) dX6_bestDrop_71 ?_
        refine lv_iload hx hb dX6_bestDrop_74 (lv_at hl 5 rfl) ?_
        refine pf6_157 HG2 X (w.at 2) dX6_bestDrop_76 (fun zq H locs ezq w => ?_)
        obtain ⟨zs76, ezs76⟩ : ∃ y : St, y = setG zs64 2 (up (zs64 2) 19 1 (nI k)) := ⟨_, rfl⟩; have w : Wd G s zs76 H locs := by rw [ezs76, ← ezq]; exact w
        have hm : WFh (zs76 2) := by rw [ezs76]; exact hm
        refine lv_aload_n hx hb dX6_bestDrop_79 rfl (lv_at hl 0 rfl) ?_
        change W _ _ _ _ _ _ _ _ _ _ _ _ _ _ _ (F0 m 80 ls _)
        refine gf6_16 X (w.at 0) dX6_bestDrop_80 ?_
        refine lv_iload_n hx hb dX6_bestDrop_83 rfl (lv_at hl 1 rfl) ?_
        refine lv_lload_n hx hb dX6_bestDrop_84 rfl (lv_at hl 3 rfl) ?_
        refine k_l (rr_v (rest := []) X (w.at 2) mX3_runCosts kw588 (c_X3_runCosts HG2 y1 v.1 (by assumption)) (HG2.in (by decide)) rfl rfl ⟨Nat.le_of_ble_eq_true rfl, Nat.le_of_ble_eq_true rfl⟩ rfl hl.1 rfl (Nat.le_of_ble_eq_true rfl) dX6_bestDrop_85 ⟨Nat.zero_le _, Nat.zero_le _⟩) (w.at 2) (fun H locs w => ?_)
        obtain ⟨zs85, ezs85⟩ : ∃ y : St, y = setG zs76 2 (g_X3_runCosts (zs76 2) y1 v.1) := ⟨_, rfl⟩; rw [← ezs85] at w
        refine lv_topl (fun zv88 ezv88 => ?_)
        refine lv_lstore (lv' := [(7, .long zv88), (0, .ref (aa G 0 0)), (1, .int y1), (2, .int y2), (3, .long v.1), (5, .int v.2.1), (6, .int (nI k))]) hx hb dX6_bestDrop_88 hl (by decide) rfl (fun ls hl => ?_)
        refine lv_lload hx hb dX6_bestDrop_90 (lv_at hl 0 rfl) ?_
        refine lv_lload_n hx hb dX6_bestDrop_92 rfl (lv_at hl 4 rfl) ?_
        refine W.lcmp hx hb dX6_bestDrop_93 ?_
        refine lv_if_ge (tgt := 104) hx hb dX6_bestDrop_94 (by decide) (fun zc94 => ?_) (fun zc94 => ?_)
        · -- 104
          refine lv_iinc (v := nI (k + 1)) (lv' := [(6, .int (nI (k + 1))), (7, .long zv88), (0, .ref (aa G 0 0)), (1, .int y1), (2, .int y2), (3, .long v.1), (5, .int v.2.1)]) hx hb dX6_bestDrop_104 hl (k := 6) rfl (nI_1 _) (by decide) rfl (fun ls hl => ?_)
          refine lv_goto (tgt := 27) hx hb dX6_bestDrop_107 (by decide) ?_
          exact ih (k + 1) (v.1, v.2.1, zs85) (by omega) (by omega) (by replace ezv88 := ezv88.symm; subst ezv88; replace ezs85 := ezs85.symm; subst ezs85; replace ezs76 := ezs76.symm; subst ezs76; replace ezs64 := ezs64.symm; subst ezs64; simp only [itn, ← ev, b_X6_bestDrop_27, if_pos zc38, if_pos zc94]) (by replace ezv88 := ezv88.symm; subst ezv88; replace ezs85 := ezs85.symm; subst ezs85; replace ezs76 := ezs76.symm; subst ezs76; replace ezs64 := ezs64.symm; subst ezs64; exact hf) _ _ _ w (lv_sub hl [2, 3, 4, 5, 6, 0] rfl)
        · -- 97
          refine lv_lload hx hb dX6_bestDrop_97 (lv_at hl 0 rfl) ?_
          refine lv_lstore_n (lv' := [(3, .long zv88), (7, .long zv88), (0, .ref (aa G 0 0)), (1, .int y1), (2, .int y2), (5, .int v.2.1), (6, .int (nI k))]) hx hb dX6_bestDrop_99 rfl hl (by decide) rfl (fun ls hl => ?_)
          refine lv_iload hx hb dX6_bestDrop_100 (lv_at hl 6 rfl) ?_
          refine lv_topi (fun zv102 ezv102 => ?_)
          refine lv_istore (lv' := [(5, .int zv102), (3, .long zv88), (7, .long zv88), (0, .ref (aa G 0 0)), (1, .int y1), (2, .int y2), (6, .int (nI k))]) hx hb dX6_bestDrop_102 hl (by decide) rfl (fun ls hl => ?_)
          refine lv_iinc (v := nI (k + 1)) (lv' := [(6, .int (nI (k + 1))), (5, .int zv102), (3, .long zv88), (7, .long zv88), (0, .ref (aa G 0 0)), (1, .int y1), (2, .int y2)]) hx hb dX6_bestDrop_104 hl (k := 6) rfl (nI_1 _) (by decide) rfl (fun ls hl => ?_)
          refine lv_goto (tgt := 27) hx hb dX6_bestDrop_107 (by decide) ?_
          exact ih (k + 1) (zv88, zv102, zs85) (by omega) (by omega) (by replace ezv102 := ezv102.symm; subst ezv102; replace ezv88 := ezv88.symm; subst ezv88; replace ezs85 := ezs85.symm; subst ezs85; replace ezs76 := ezs76.symm; subst ezs76; replace ezs64 := ezs64.symm; subst ezs64; simp only [itn, ← ev, b_X6_bestDrop_27, if_pos zc38, if_neg zc94]) (by replace ezv102 := ezv102.symm; subst ezv102; replace ezv88 := ezv88.symm; subst ezv88; replace ezs85 := ezs85.symm; subst ezs85; replace ezs76 := ezs76.symm; subst ezs76; replace ezs64 := ezs64.symm; subst ezs64; exact hf) _ _ _ w (lv_sub hl [4, 5, 6, 2, 1, 0] rfl)
      · -- 41
        refine lv_aload_n hx hb dX6_bestDrop_41 rfl (lv_at hl 0 rfl) ?_
        refine gf6_10 X (w.at 0) dX6_bestDrop_42 ?_
        refine gf6_63 HG1 X (w.at 1) dX6_bestDrop_45 ?_
        refine lv_iload hx hb dX6_bestDrop_48 (lv_at hl 5 rfl) ?_
        refine k_i (rr_v (rest := []) X (w.at 1) mX0_has kw412 (c_X0_has HG1 (nI k)) (HG1.in (by decide)) rfl rfl ⟨Nat.le_of_ble_eq_true rfl, Nat.le_of_ble_eq_true rfl⟩ rfl hl.1 rfl (Nat.le_of_ble_eq_true rfl) dX6_bestDrop_50 ⟨Nat.zero_le _, Nat.zero_le _⟩) (w.at 1) (fun H locs w => ?_)
        rw [setG_self] at w
        refine lv_if_eq (tgt := 104) hx hb dX6_bestDrop_53 (by decide) (fun zc53 => ?_) (fun zc53 => ?_)
        · -- 104
          refine lv_iinc (v := nI (k + 1)) (lv' := [(6, .int (nI (k + 1))), (0, .ref (aa G 0 0)), (1, .int y1), (2, .int y2), (3, .long v.1), (5, .int v.2.1)]) hx hb dX6_bestDrop_104 hl (k := 5) rfl (nI_1 _) (by decide) rfl (fun ls hl => ?_)
          refine lv_goto (tgt := 27) hx hb dX6_bestDrop_107 (by decide) ?_
          exact ih (k + 1) (v.1, v.2.1, v.2.2) (by omega) (by omega) (by simp only [itn, ← ev, b_X6_bestDrop_27, if_neg zc38, if_pos zc53]) (by exact hf) _ _ _ w (lv_sub hl [1, 2, 3, 4, 5, 0] rfl)
        · -- 56
          refine lv_aload_n hx hb dX6_bestDrop_56 rfl (lv_at hl 0 rfl) ?_
          refine gf6_16 X (w.at 0) dX6_bestDrop_57 ?_
          refine lv_aload_n hx hb dX6_bestDrop_60 rfl (lv_at hl 0 rfl) ?_
          refine gf6_10 X (w.at 0) dX6_bestDrop_61 ?_
          refine k_v (rr_v (rest := []) X (w.at 2) mX3_become kw282 (c_X3_become HG2 HG1 (by decide) rfl ) (HG2.in (by decide)) rfl rfl ⟨Nat.le_of_ble_eq_true rfl, Nat.le_of_ble_eq_true rfl⟩ rfl hl.1 rfl (Nat.le_of_ble_eq_true rfl) dX6_bestDrop_64 ⟨Nat.zero_le _, Nat.zero_le _⟩) (w.at 2) (fun H locs w => ?_)
          obtain ⟨zs64_2, ezs64_2⟩ : ∃ y : St, y = setG v.2.2 2 (g_X3_become (v.2.2 2) (v.2.2 1)) := ⟨_, rfl⟩; rw [← ezs64_2] at w
          have hm : WFh (zs64_2 2) := by rw [ezs64_2]; exact become_WF hf
          refine lv_aload_n hx hb dX6_bestDrop_67 rfl (lv_at hl 0 rfl) ?_
          refine gf6_16 X (w.at 0) dX6_bestDrop_68 ?_
          refine gf6_137 HG2 X (w.at 2) dX6_bestDrop_71 ?_
          refine lv_iload hx hb dX6_bestDrop_74 (lv_at hl 5 rfl) ?_
          refine pf6_157 HG2 X (w.at 2) dX6_bestDrop_76 (fun zq H locs ezq w => ?_)
          obtain ⟨zs76_2, ezs76_2⟩ : ∃ y : St, y = setG zs64_2 2 (up (zs64_2 2) 19 1 (nI k)) := ⟨_, rfl⟩; have w : Wd G s zs76_2 H locs := by rw [ezs76_2, ← ezq]; exact w
          have hm : WFh (zs76_2 2) := by rw [ezs76_2]; exact hm
          refine lv_aload_n hx hb dX6_bestDrop_79 rfl (lv_at hl 0 rfl) ?_
          change W _ _ _ _ _ _ _ _ _ _ _ _ _ _ _ (F0 m 80 ls _)
          refine gf6_16 X (w.at 0) dX6_bestDrop_80 ?_
          refine lv_iload_n hx hb dX6_bestDrop_83 rfl (lv_at hl 1 rfl) ?_
          refine lv_lload_n hx hb dX6_bestDrop_84 rfl (lv_at hl 3 rfl) ?_
          refine k_l (rr_v (rest := []) X (w.at 2) mX3_runCosts kw588 (c_X3_runCosts HG2 y1 v.1 (by assumption)) (HG2.in (by decide)) rfl rfl ⟨Nat.le_of_ble_eq_true rfl, Nat.le_of_ble_eq_true rfl⟩ rfl hl.1 rfl (Nat.le_of_ble_eq_true rfl) dX6_bestDrop_85 ⟨Nat.zero_le _, Nat.zero_le _⟩) (w.at 2) (fun H locs w => ?_)
          obtain ⟨zs85_2, ezs85_2⟩ : ∃ y : St, y = setG zs76_2 2 (g_X3_runCosts (zs76_2 2) y1 v.1) := ⟨_, rfl⟩; rw [← ezs85_2] at w
          refine lv_topl (fun zv88_2 ezv88_2 => ?_)
          refine lv_lstore (lv' := [(7, .long zv88_2), (0, .ref (aa G 0 0)), (1, .int y1), (2, .int y2), (3, .long v.1), (5, .int v.2.1), (6, .int (nI k))]) hx hb dX6_bestDrop_88 hl (by decide) rfl (fun ls hl => ?_)
          refine lv_lload hx hb dX6_bestDrop_90 (lv_at hl 0 rfl) ?_
          refine lv_lload_n hx hb dX6_bestDrop_92 rfl (lv_at hl 4 rfl) ?_
          refine W.lcmp hx hb dX6_bestDrop_93 ?_
          refine lv_if_ge (tgt := 104) hx hb dX6_bestDrop_94 (by decide) (fun zc94 => ?_) (fun zc94 => ?_)
          · -- 104
            refine lv_iinc (v := nI (k + 1)) (lv' := [(6, .int (nI (k + 1))), (7, .long zv88_2), (0, .ref (aa G 0 0)), (1, .int y1), (2, .int y2), (3, .long v.1), (5, .int v.2.1)]) hx hb dX6_bestDrop_104 hl (k := 6) rfl (nI_1 _) (by decide) rfl (fun ls hl => ?_)
            refine lv_goto (tgt := 27) hx hb dX6_bestDrop_107 (by decide) ?_
            exact ih (k + 1) (v.1, v.2.1, zs85_2) (by omega) (by omega) (by replace ezv88_2 := ezv88_2.symm; subst ezv88_2; replace ezs85_2 := ezs85_2.symm; subst ezs85_2; replace ezs76_2 := ezs76_2.symm; subst ezs76_2; replace ezs64_2 := ezs64_2.symm; subst ezs64_2; simp only [itn, ← ev, b_X6_bestDrop_27, if_neg zc38, if_neg zc53, if_pos zc94]) (by replace ezv88_2 := ezv88_2.symm; subst ezv88_2; replace ezs85_2 := ezs85_2.symm; subst ezs85_2; replace ezs76_2 := ezs76_2.symm; subst ezs76_2; replace ezs64_2 := ezs64_2.symm; subst ezs64_2; exact hf) _ _ _ w (lv_sub hl [2, 3, 4, 5, 6, 0] rfl)
          · -- 97
            refine lv_lload hx hb dX6_bestDrop_97 (lv_at hl 0 rfl) ?_
            refine lv_lstore_n (lv' := [(3, .long zv88_2), (7, .long zv88_2), (0, .ref (aa G 0 0)), (1, .int y1), (2, .int y2), (5, .int v.2.1), (6, .int (nI k))]) hx hb dX6_bestDrop_99 rfl hl (by decide) rfl (fun ls hl => ?_)
            refine lv_iload hx hb dX6_bestDrop_100 (lv_at hl 6 rfl) ?_
            refine lv_topi (fun zv102_2 ezv102_2 => ?_)
            refine lv_istore (lv' := [(5, .int zv102_2), (3, .long zv88_2), (7, .long zv88_2), (0, .ref (aa G 0 0)), (1, .int y1), (2, .int y2), (6, .int (nI k))]) hx hb dX6_bestDrop_102 hl (by decide) rfl (fun ls hl => ?_)
            refine lv_iinc (v := nI (k + 1)) (lv' := [(6, .int (nI (k + 1))), (5, .int zv102_2), (3, .long zv88_2), (7, .long zv88_2), (0, .ref (aa G 0 0)), (1, .int y1), (2, .int y2)]) hx hb dX6_bestDrop_104 hl (k := 6) rfl (nI_1 _) (by decide) rfl (fun ls hl => ?_)
            refine lv_goto (tgt := 27) hx hb dX6_bestDrop_107 (by decide) ?_
            exact ih (k + 1) (zv88_2, zv102_2, zs85_2) (by omega) (by omega) (by replace ezv102_2 := ezv102_2.symm; subst ezv102_2; replace ezv88_2 := ezv88_2.symm; subst ezv88_2; replace ezs85_2 := ezs85_2.symm; subst ezs85_2; replace ezs76_2 := ezs76_2.symm; subst ezs76_2; replace ezs64_2 := ezs64_2.symm; subst ezs64_2; simp only [itn, ← ev, b_X6_bestDrop_27, if_neg zc38, if_neg zc53, if_neg zc94]) (by replace ezv102_2 := ezv102_2.symm; subst ezv102_2; replace ezv88_2 := ezv88_2.symm; subst ezv88_2; replace ezs85_2 := ezs85_2.symm; subst ezs85_2; replace ezs76_2 := ezs76_2.symm; subst ezs76_2; replace ezs64_2 := ezs64_2.symm; subst ezs64_2; exact hf) _ _ _ w (lv_sub hl [4, 5, 6, 2, 1, 0] rfl)
set_option maxRecDepth 100000 in
set_option maxHeartbeats 4000000 in
theorem c_X6_bestDrop {l : Launch} {G : GG} {σ : St}  (x1 : Int32) (hf : WFh (σ 1)) : MM l G yX6_bestDrop cX6_bestDrop 9 7 148 (some .int) [.ref (aa G 0 0), .int x1] σ (Qi G (f_X6_bestDrop σ x1) (g_X6_bestDrop σ x1)) := by
  refine MM.of (by decide) (Nat.le_of_ble_eq_true rfl) ?_
  intro p e s m below meth c ls X hr hlk w hl
  have hx := X.1.1
  have hb := X.1.2.1
  have hl : lv_has ls 9 [(0, .ref (aa G 0 0)), (1, .int x1)] := hl
  refine lv_aload_n hx hb dX6_bestDrop_0 rfl (lv_at hl 0 rfl) ?_
  refine lv_iload_n hx hb dX6_bestDrop_1 rfl (lv_at hl 1 rfl) ?_
  refine k_i (rr_v (rest := []) X w mX6_whyNoRun kw528 (c_X6_whyNoRun x1) m0_0 rfl rfl ⟨Nat.le_of_ble_eq_true rfl, Nat.le_of_ble_eq_true rfl⟩ rfl hl.1 rfl (Nat.le_of_ble_eq_true rfl) dX6_bestDrop_2 ⟨Nat.zero_le _, Nat.zero_le _⟩) w (fun H locs w => ?_)
  refine lv_topi (fun zv5 ezv5 => ?_)
  refine lv_istore_n (lv' := [(2, .int zv5), (0, .ref (aa G 0 0)), (1, .int x1)]) hx hb dX6_bestDrop_5 rfl hl (by decide) rfl (fun ls hl => ?_)
  refine lv_iload_n hx hb dX6_bestDrop_6 rfl (lv_at hl 0 rfl) ?_
  refine lv_if_ge (tgt := 16) hx hb dX6_bestDrop_7 (by decide) (fun zc7 => ?_) (fun zc7 => ?_)
  · -- 16
    refine lv_ldc2 hx hb X.1.2.2.2.1 (X.1.2.2.2.2 _ kw587) dX6_bestDrop_16 ?_
    refine lv_lstore_n (lv' := [(3, .long 4000000000000000000), (2, .int zv5), (0, .ref (aa G 0 0)), (1, .int x1)]) hx hb dX6_bestDrop_19 rfl hl (by decide) rfl (fun ls hl => ?_)
    refine lv_bipush (v := (-9)) hx hb dX6_bestDrop_20 (by decide) ?_
    refine lv_istore (lv' := [(5, .int (-9)), (3, .long 4000000000000000000), (2, .int zv5), (0, .ref (aa G 0 0)), (1, .int x1)]) hx hb dX6_bestDrop_22 hl (by decide) rfl (fun ls hl => ?_)
    refine lv_iconst (v := 0) hx hb dX6_bestDrop_24 (by decide) ?_
    refine lv_istore (lv' := [(6, .int 0), (5, .int (-9)), (3, .long 4000000000000000000), (2, .int zv5), (0, .ref (aa G 0 0)), (1, .int x1)]) hx hb dX6_bestDrop_25 hl (by decide) rfl (fun ls hl => ?_)
    refine lp_X6_bestDrop_27 X x1 zv5 (4000000000000000000, (-9), σ)  (fun H locs ls w hl => ?_) (9 + 1) 0 _ (Nat.zero_le _) (Nat.lt_succ_of_le (Nat.sub_le _ _)) rfl hf _ _ _ w (lv_sub hl [4, 5, 3, 2, 1, 0] rfl)
    obtain ⟨zl27, ezl27⟩ : ∃ y : Int64 × Int32 × St, y = (l_X6_bestDrop_27 x1 zv5 (4000000000000000000, (-9), σ)) := ⟨_, rfl⟩
    rw [← ezl27] at w hl
    refine lv_iload hx hb dX6_bestDrop_110 (lv_at hl 4 rfl) ?_
    exact t_i X w hr hlk dX6_bestDrop_112 (by replace ezl27 := ezl27.symm; subst ezl27; replace ezv5 := ezv5.symm; subst ezv5; simp only [f_X6_bestDrop, if_pos zc7]) (by replace ezl27 := ezl27.symm; subst ezl27; replace ezv5 := ezv5.symm; subst ezv5; simp only [g_X6_bestDrop, if_pos zc7])
  · -- 10
    refine lv_aload_n hx hb dX6_bestDrop_10 rfl (lv_at hl 1 rfl) ?_
    refine lv_iload_n hx hb dX6_bestDrop_11 rfl (lv_at hl 0 rfl) ?_
    refine k_i (rr_v (rest := []) X (w.at 0) mX6_refuse kw270 (c_X6_refuse zv5) m0_0 rfl rfl ⟨Nat.le_of_ble_eq_true rfl, Nat.le_of_ble_eq_true rfl⟩ rfl hl.1 rfl (Nat.le_of_ble_eq_true rfl) dX6_bestDrop_12 ⟨Nat.zero_le _, Nat.zero_le _⟩) (w.at 0) (fun H locs w => ?_)
    obtain ⟨zs12, ezs12⟩ : ∃ y : St, y = setG σ 0 (g_X6_refuse (σ 0) zv5) := ⟨_, rfl⟩; rw [← ezs12] at w
    exact t_i X w hr hlk dX6_bestDrop_15 (by replace ezs12 := ezs12.symm; subst ezs12; replace ezv5 := ezv5.symm; subst ezv5; simp only [f_X6_bestDrop, if_neg zc7]) (by replace ezs12 := ezs12.symm; subst ezs12; replace ezv5 := ezv5.symm; subst ezv5; simp only [g_X6_bestDrop, if_neg zc7])

noncomputable def b_X6_bestPlan_27 (y1 : Int32) (y2 : Int32) (k : Nat) (v : Int64 × Int32 × St) : Int64 × Int32 × St :=
  let zs41 : St := setG v.2.2 2 (g_X3_become (v.2.2 2) (v.2.2 1))
  let zs53 : St := setG zs41 2 (up (zs41 2) 19 2 (nI k))
  let zs62 : St := setG zs53 2 (g_X3_runCosts (zs53 2) y1 v.1)
  let zv65 : Int64 := f_X3_runCosts (zs53 2) y1 v.1
  if 0 ≤ (lg_cmp zv65 v.1) then
    (v.1, v.2.1, zs62)
  else
    let zv79 : Int32 := nI k
    (zv65, zv79, zs62)
noncomputable def l_X6_bestPlan_27 (y1 : Int32) (y2 : Int32) (v0 : Int64 × Int32 × St) : Int64 × Int32 × St := itn (b_X6_bestPlan_27 y1 y2) (nn 5) v0
noncomputable def f_X6_bestPlan (σ : St) (x1 : Int32) : Int32 :=
  let zv5 : Int32 := f_X6_whyNoRun σ x1
  if 0 ≤ zv5 then
    let zl27 : Int64 × Int32 × St := (l_X6_bestPlan_27 x1 zv5 (4000000000000000000, (-9), σ))
    zl27.2.1
  else
    let zs12 : St := setG σ 0 (g_X6_refuse (σ 0) zv5)
    f_X6_refuse (σ 0) zv5
noncomputable def g_X6_bestPlan (σ : St) (x1 : Int32) : St :=
  let zv5 : Int32 := f_X6_whyNoRun σ x1
  if 0 ≤ zv5 then
    let zl27 : Int64 × Int32 × St := (l_X6_bestPlan_27 x1 zv5 (4000000000000000000, (-9), σ))
    zl27.2.2
  else
    let zs12 : St := setG σ 0 (g_X6_refuse (σ 0) zv5)
    zs12
set_option maxRecDepth 100000 in
set_option maxHeartbeats 4000000 in
theorem lp_X6_bestPlan_27 {l : Launch} {G : GG} {p : Program} {e : Env} {s : State} {m : MethodId} {args : Array Value} {below : List Frame} {meth : Method} {c : Code} {Q : State → Prop} (X : Cx p m c cX6_bestPlan 9 s args RX6 G) (y1 : Int32) (y2 : Int32) (v0 : Int64 × Int32 × St) 
    (kk : ∀ (H : Heap) (locs : List Loc) (ls : Array Slot), Wd G s ((l_X6_bestPlan_27 y1 y2 v0).2.2) H locs → lv_has ls 9 [(0, .ref (aa G 0 0)), (1, .int y1), (2, .int y2), (3, .long ((l_X6_bestPlan_27 y1 y2 v0).1)), (5, .int ((l_X6_bestPlan_27 y1 y2 v0).2.1)), (6, .int (nI (5)))] → W p l e (rmv 7 148) s m args below meth c H locs 0 0 Q (F0 m 87 ls [])) :
    ∀ (n k : Nat) (v : Int64 × Int32 × St), k ≤ 5 → 5 - k < n → v = itn (b_X6_bestPlan_27 y1 y2) k v0 → (WFh (v.2.2 1)) → ∀ (H : Heap) (locs : List Loc) (ls : Array Slot), Wd G s v.2.2 H locs → lv_has ls 9 [(0, .ref (aa G 0 0)), (1, .int y1), (2, .int y2), (3, .long v.1), (5, .int v.2.1), (6, .int (nI k))] → W p l e (rmv 7 148) s m args below meth c H locs 0 0 Q (F0 m 27 ls []) := by
  have hx := X.1.1
  have hb := X.1.2.1
  intro n
  induction n with
  | zero => intro k v _ h; omega
  | succ n ih =>
    intro k v hkN hn ev hf H locs ls w hl
    refine lv_iload hx hb dX6_bestPlan_27 (lv_at hl 5 rfl) ?_
    refine lv_iconst (v := 4) hx hb dX6_bestPlan_29 (by decide) ?_
    refine lv_icmp_gt (tgt := 87) hx hb dX6_bestPlan_30 (by decide) (fun zc30 => ?_) (fun zc30 => ?_)
    · -- 87
      have hkE : k = 5 := lp_eqG hkN (by decide) (by decide) (by decide) zc30
      have ev2 : l_X6_bestPlan_27 y1 y2 v0 = v := by unfold l_X6_bestPlan_27; rw [nn_eq, ← hkE]; exact ev.symm
      rw [ev2] at kk
      rw [hkE] at hl
      exact kk _ _ _ w (lv_sub hl [0, 1, 2, 3, 4, 5] rfl)
    · -- 33
      have hk : k < 5 := lp_ltG hkN (by decide) (by decide) (by decide) zc30
      refine lv_aload_n hx hb dX6_bestPlan_33 rfl (lv_at hl 0 rfl) ?_
      refine gf6_16 X (w.at 0) dX6_bestPlan_34 ?_
      refine lv_aload_n hx hb dX6_bestPlan_37 rfl (lv_at hl 0 rfl) ?_
      refine gf6_10 X (w.at 0) dX6_bestPlan_38 ?_
      refine k_v (rr_v (rest := []) X (w.at 2) mX3_become kw282 (c_X3_become HG2 HG1 (by decide) rfl ) (HG2.in (by decide)) rfl rfl ⟨Nat.le_of_ble_eq_true rfl, Nat.le_of_ble_eq_true rfl⟩ rfl hl.1 rfl (Nat.le_of_ble_eq_true rfl) dX6_bestPlan_41 ⟨Nat.zero_le _, Nat.zero_le _⟩) (w.at 2) (fun H locs w => ?_)
      obtain ⟨zs41, ezs41⟩ : ∃ y : St, y = setG v.2.2 2 (g_X3_become (v.2.2 2) (v.2.2 1)) := ⟨_, rfl⟩; rw [← ezs41] at w
      have hm : WFh (zs41 2) := by rw [ezs41]; exact become_WF hf
      refine lv_aload_n hx hb dX6_bestPlan_44 rfl (lv_at hl 0 rfl) ?_
      refine gf6_16 X (w.at 0) dX6_bestPlan_45 ?_
      refine gf6_137 HG2 X (w.at 2) dX6_bestPlan_48 ?_
      refine lv_iload hx hb dX6_bestPlan_51 (lv_at hl 5 rfl) ?_
      refine pf6_189 HG2 X (w.at 2) dX6_bestPlan_53 (fun zq H locs ezq w => ?_)
      obtain ⟨zs53, ezs53⟩ : ∃ y : St, y = setG zs41 2 (up (zs41 2) 19 2 (nI k)) := ⟨_, rfl⟩; have w : Wd G s zs53 H locs := by rw [ezs53, ← ezq]; exact w
      have hm : WFh (zs53 2) := by rw [ezs53]; exact hm
      refine lv_aload_n hx hb dX6_bestPlan_56 rfl (lv_at hl 0 rfl) ?_
      change W _ _ _ _ _ _ _ _ _ _ _ _ _ _ _ (F0 m 57 ls _)
      refine gf6_16 X (w.at 0) dX6_bestPlan_57 ?_
      refine lv_iload_n hx hb dX6_bestPlan_60 rfl (lv_at hl 1 rfl) ?_
      refine lv_lload_n hx hb dX6_bestPlan_61 rfl (lv_at hl 3 rfl) ?_
      refine k_l (rr_v (rest := []) X (w.at 2) mX3_runCosts kw588 (c_X3_runCosts HG2 y1 v.1 (by assumption)) (HG2.in (by decide)) rfl rfl ⟨Nat.le_of_ble_eq_true rfl, Nat.le_of_ble_eq_true rfl⟩ rfl hl.1 rfl (Nat.le_of_ble_eq_true rfl) dX6_bestPlan_62 ⟨Nat.zero_le _, Nat.zero_le _⟩) (w.at 2) (fun H locs w => ?_)
      obtain ⟨zs62, ezs62⟩ : ∃ y : St, y = setG zs53 2 (g_X3_runCosts (zs53 2) y1 v.1) := ⟨_, rfl⟩; rw [← ezs62] at w
      refine lv_topl (fun zv65 ezv65 => ?_)
      refine lv_lstore (lv' := [(7, .long zv65), (0, .ref (aa G 0 0)), (1, .int y1), (2, .int y2), (3, .long v.1), (5, .int v.2.1), (6, .int (nI k))]) hx hb dX6_bestPlan_65 hl (by decide) rfl (fun ls hl => ?_)
      refine lv_lload hx hb dX6_bestPlan_67 (lv_at hl 0 rfl) ?_
      refine lv_lload_n hx hb dX6_bestPlan_69 rfl (lv_at hl 4 rfl) ?_
      refine W.lcmp hx hb dX6_bestPlan_70 ?_
      refine lv_if_ge (tgt := 81) hx hb dX6_bestPlan_71 (by decide) (fun zc71 => ?_) (fun zc71 => ?_)
      · -- 81
        refine lv_iinc (v := nI (k + 1)) (lv' := [(6, .int (nI (k + 1))), (7, .long zv65), (0, .ref (aa G 0 0)), (1, .int y1), (2, .int y2), (3, .long v.1), (5, .int v.2.1)]) hx hb dX6_bestPlan_81 hl (k := 6) rfl (nI_1 _) (by decide) rfl (fun ls hl => ?_)
        refine lv_goto (tgt := 27) hx hb dX6_bestPlan_84 (by decide) ?_
        exact ih (k + 1) (v.1, v.2.1, zs62) (by omega) (by omega) (by replace ezv65 := ezv65.symm; subst ezv65; replace ezs62 := ezs62.symm; subst ezs62; replace ezs53 := ezs53.symm; subst ezs53; replace ezs41 := ezs41.symm; subst ezs41; simp only [itn, ← ev, b_X6_bestPlan_27, if_pos zc71]) (by replace ezv65 := ezv65.symm; subst ezv65; replace ezs62 := ezs62.symm; subst ezs62; replace ezs53 := ezs53.symm; subst ezs53; replace ezs41 := ezs41.symm; subst ezs41; exact hf) _ _ _ w (lv_sub hl [2, 3, 4, 5, 6, 0] rfl)
      · -- 74
        refine lv_lload hx hb dX6_bestPlan_74 (lv_at hl 0 rfl) ?_
        refine lv_lstore_n (lv' := [(3, .long zv65), (7, .long zv65), (0, .ref (aa G 0 0)), (1, .int y1), (2, .int y2), (5, .int v.2.1), (6, .int (nI k))]) hx hb dX6_bestPlan_76 rfl hl (by decide) rfl (fun ls hl => ?_)
        refine lv_iload hx hb dX6_bestPlan_77 (lv_at hl 6 rfl) ?_
        refine lv_topi (fun zv79 ezv79 => ?_)
        refine lv_istore (lv' := [(5, .int zv79), (3, .long zv65), (7, .long zv65), (0, .ref (aa G 0 0)), (1, .int y1), (2, .int y2), (6, .int (nI k))]) hx hb dX6_bestPlan_79 hl (by decide) rfl (fun ls hl => ?_)
        refine lv_iinc (v := nI (k + 1)) (lv' := [(6, .int (nI (k + 1))), (5, .int zv79), (3, .long zv65), (7, .long zv65), (0, .ref (aa G 0 0)), (1, .int y1), (2, .int y2)]) hx hb dX6_bestPlan_81 hl (k := 6) rfl (nI_1 _) (by decide) rfl (fun ls hl => ?_)
        refine lv_goto (tgt := 27) hx hb dX6_bestPlan_84 (by decide) ?_
        exact ih (k + 1) (zv65, zv79, zs62) (by omega) (by omega) (by replace ezv79 := ezv79.symm; subst ezv79; replace ezv65 := ezv65.symm; subst ezv65; replace ezs62 := ezs62.symm; subst ezs62; replace ezs53 := ezs53.symm; subst ezs53; replace ezs41 := ezs41.symm; subst ezs41; simp only [itn, ← ev, b_X6_bestPlan_27, if_neg zc71]) (by replace ezv79 := ezv79.symm; subst ezv79; replace ezv65 := ezv65.symm; subst ezv65; replace ezs62 := ezs62.symm; subst ezs62; replace ezs53 := ezs53.symm; subst ezs53; replace ezs41 := ezs41.symm; subst ezs41; exact hf) _ _ _ w (lv_sub hl [4, 5, 6, 2, 1, 0] rfl)
set_option maxRecDepth 100000 in
set_option maxHeartbeats 4000000 in
theorem c_X6_bestPlan {l : Launch} {G : GG} {σ : St}  (x1 : Int32) (hf : WFh (σ 1)) : MM l G yX6_bestPlan cX6_bestPlan 9 7 148 (some .int) [.ref (aa G 0 0), .int x1] σ (Qi G (f_X6_bestPlan σ x1) (g_X6_bestPlan σ x1)) := by
  refine MM.of (by decide) (Nat.le_of_ble_eq_true rfl) ?_
  intro p e s m below meth c ls X hr hlk w hl
  have hx := X.1.1
  have hb := X.1.2.1
  have hl : lv_has ls 9 [(0, .ref (aa G 0 0)), (1, .int x1)] := hl
  refine lv_aload_n hx hb dX6_bestPlan_0 rfl (lv_at hl 0 rfl) ?_
  refine lv_iload_n hx hb dX6_bestPlan_1 rfl (lv_at hl 1 rfl) ?_
  refine k_i (rr_v (rest := []) X w mX6_whyNoRun kw528 (c_X6_whyNoRun x1) m0_0 rfl rfl ⟨Nat.le_of_ble_eq_true rfl, Nat.le_of_ble_eq_true rfl⟩ rfl hl.1 rfl (Nat.le_of_ble_eq_true rfl) dX6_bestPlan_2 ⟨Nat.zero_le _, Nat.zero_le _⟩) w (fun H locs w => ?_)
  refine lv_topi (fun zv5 ezv5 => ?_)
  refine lv_istore_n (lv' := [(2, .int zv5), (0, .ref (aa G 0 0)), (1, .int x1)]) hx hb dX6_bestPlan_5 rfl hl (by decide) rfl (fun ls hl => ?_)
  refine lv_iload_n hx hb dX6_bestPlan_6 rfl (lv_at hl 0 rfl) ?_
  refine lv_if_ge (tgt := 16) hx hb dX6_bestPlan_7 (by decide) (fun zc7 => ?_) (fun zc7 => ?_)
  · -- 16
    refine lv_ldc2 hx hb X.1.2.2.2.1 (X.1.2.2.2.2 _ kw587) dX6_bestPlan_16 ?_
    refine lv_lstore_n (lv' := [(3, .long 4000000000000000000), (2, .int zv5), (0, .ref (aa G 0 0)), (1, .int x1)]) hx hb dX6_bestPlan_19 rfl hl (by decide) rfl (fun ls hl => ?_)
    refine lv_bipush (v := (-9)) hx hb dX6_bestPlan_20 (by decide) ?_
    refine lv_istore (lv' := [(5, .int (-9)), (3, .long 4000000000000000000), (2, .int zv5), (0, .ref (aa G 0 0)), (1, .int x1)]) hx hb dX6_bestPlan_22 hl (by decide) rfl (fun ls hl => ?_)
    refine lv_iconst (v := 0) hx hb dX6_bestPlan_24 (by decide) ?_
    refine lv_istore (lv' := [(6, .int 0), (5, .int (-9)), (3, .long 4000000000000000000), (2, .int zv5), (0, .ref (aa G 0 0)), (1, .int x1)]) hx hb dX6_bestPlan_25 hl (by decide) rfl (fun ls hl => ?_)
    refine lp_X6_bestPlan_27 X x1 zv5 (4000000000000000000, (-9), σ)  (fun H locs ls w hl => ?_) (5 + 1) 0 _ (Nat.zero_le _) (Nat.lt_succ_of_le (Nat.sub_le _ _)) rfl hf _ _ _ w (lv_sub hl [4, 5, 3, 2, 1, 0] rfl)
    obtain ⟨zl27, ezl27⟩ : ∃ y : Int64 × Int32 × St, y = (l_X6_bestPlan_27 x1 zv5 (4000000000000000000, (-9), σ)) := ⟨_, rfl⟩
    rw [← ezl27] at w hl
    refine lv_iload hx hb dX6_bestPlan_87 (lv_at hl 4 rfl) ?_
    exact t_i X w hr hlk dX6_bestPlan_89 (by replace ezl27 := ezl27.symm; subst ezl27; replace ezv5 := ezv5.symm; subst ezv5; simp only [f_X6_bestPlan, if_pos zc7]) (by replace ezl27 := ezl27.symm; subst ezl27; replace ezv5 := ezv5.symm; subst ezv5; simp only [g_X6_bestPlan, if_pos zc7])
  · -- 10
    refine lv_aload_n hx hb dX6_bestPlan_10 rfl (lv_at hl 1 rfl) ?_
    refine lv_iload_n hx hb dX6_bestPlan_11 rfl (lv_at hl 0 rfl) ?_
    refine k_i (rr_v (rest := []) X (w.at 0) mX6_refuse kw270 (c_X6_refuse zv5) m0_0 rfl rfl ⟨Nat.le_of_ble_eq_true rfl, Nat.le_of_ble_eq_true rfl⟩ rfl hl.1 rfl (Nat.le_of_ble_eq_true rfl) dX6_bestPlan_12 ⟨Nat.zero_le _, Nat.zero_le _⟩) (w.at 0) (fun H locs w => ?_)
    obtain ⟨zs12, ezs12⟩ : ∃ y : St, y = setG σ 0 (g_X6_refuse (σ 0) zv5) := ⟨_, rfl⟩; rw [← ezs12] at w
    exact t_i X w hr hlk dX6_bestPlan_15 (by replace ezs12 := ezs12.symm; subst ezs12; replace ezv5 := ezv5.symm; subst ezv5; simp only [f_X6_bestPlan, if_neg zc7]) (by replace ezs12 := ezs12.symm; subst ezs12; replace ezv5 := ezv5.symm; subst ezv5; simp only [g_X6_bestPlan, if_neg zc7])

noncomputable def b_X6_leastCap_18 (y1 : Int32) (y2 : Int32) (k : Nat) (v : St) : Bool × Nat × Int32 × St :=
  if 950 < (nI (50 * k)) then
    (false, 69, 0, v)
  else
    let zs33 : St := setG v 2 (g_X3_become (v 2) (v 1))
    let zs44 : St := setG zs33 2 (up (zs33 2) 19 0 (nI (50 * k)))
    let zs53 : St := setG zs44 2 (g_X3_firstLack (zs44 2) y1 (-1))
    if (f_X3_firstLack (zs44 2) y1 (-1)) = (-9) then
      (false, 62, nI (50 * k), zs53)
    else
      (true, 0, 0, zs53)
noncomputable def l_X6_leastCap_18 (y1 : Int32) (y2 : Int32) (v0 : St) : Nat × Int32 × St   := wl (b_X6_leastCap_18 y1 y2) (nn (20 + 1)) 0 v0
noncomputable def f_X6_leastCap (σ : St) (x1 : Int32) : Int32 :=
  let zv5 : Int32 := f_X6_whyNoRun σ x1
  if 0 ≤ zv5 then
    let zl18 : Nat × Int32 × St := (l_X6_leastCap_18 x1 zv5 σ)
    if zl18.1 = 69 then
      (-9)
    else
      zl18.2.1
  else
    let zs12 : St := setG σ 0 (g_X6_refuse (σ 0) zv5)
    f_X6_refuse (σ 0) zv5
noncomputable def g_X6_leastCap (σ : St) (x1 : Int32) : St :=
  let zv5 : Int32 := f_X6_whyNoRun σ x1
  if 0 ≤ zv5 then
    let zl18 : Nat × Int32 × St := (l_X6_leastCap_18 x1 zv5 σ)
    zl18.2.2
  else
    let zs12 : St := setG σ 0 (g_X6_refuse (σ 0) zv5)
    zs12
set_option maxRecDepth 100000 in
set_option maxHeartbeats 4000000 in
theorem lp_X6_leastCap_18 {l : Launch} {G : GG} {p : Program} {e : Env} {s : State} {m : MethodId} {args : Array Value} {below : List Frame} {meth : Method} {c : Code} {Q : State → Prop} (X : Cx p m c cX6_leastCap 4 s args RX6 G) (y1 : Int32) (y2 : Int32)  (z : Nat × Int32 × St)
    (kk69 : z.1 = 69 → ∀ (H : Heap) (locs : List Loc) (ls : Array Slot), Wd G s z.2.2 H locs → lv_has ls 4 [(0, .ref (aa G 0 0)), (1, .int y1), (2, .int y2)] → W p l e (rmv 7 145) s m args below meth c H locs 0 0 Q (F0 m 69 ls []))
    (kk62 : z.1 = 62 → ∀ (H : Heap) (locs : List Loc) (ls : Array Slot), Wd G s z.2.2 H locs → lv_has ls 4 [(0, .ref (aa G 0 0)), (1, .int y1), (2, .int y2)] → W p l e (rmv 7 145) s m args below meth c H locs 0 0 Q (F0 m 62 ls [.int z.2.1])) :
    ∀ (n k : Nat) (v : St), k ≤ 20 → 20 - k < n → wl (b_X6_leastCap_18 y1 y2) n k v = z → (WFh (v 1)) → ∀ (H : Heap) (locs : List Loc) (ls : Array Slot), Wd G s v H locs → lv_has ls 4 [(0, .ref (aa G 0 0)), (1, .int y1), (2, .int y2), (3, .int (nI (50 * k)))] → W p l e (rmv 7 145) s m args below meth c H locs 0 0 Q (F0 m 18 ls []) := by
  have hx := X.1.1
  have hb := X.1.2.1
  intro n
  induction n with
  | zero => intro k v _ h; omega
  | succ n ih =>
    intro k v hkN hn hz hf H locs ls w hl
    refine lv_iload_n hx hb dX6_leastCap_18 rfl (lv_at hl 3 rfl) ?_
    refine lv_sipush (v := 950) hx hb dX6_leastCap_19 (by decide) ?_
    refine lv_icmp_gt (tgt := 69) hx hb dX6_leastCap_22 (by decide) (fun zc22 => ?_) (fun zc22 => ?_)
    · -- 69
      have hz1 : z = ((69, 0, v) : Nat × Int32 × St) := by rw [← hz]; exact wl_out (by simp only [b_X6_leastCap_18, if_pos zc22])
      subst hz1
      exact kk69 rfl _ _ _ w (lv_sub hl [0, 1, 2] rfl)
    · -- 25
      have hk : k < 20 := (lc20 hkN zc22)
      refine lv_aload_n hx hb dX6_leastCap_25 rfl (lv_at hl 0 rfl) ?_
      refine gf6_16 X (w.at 0) dX6_leastCap_26 ?_
      refine lv_aload_n hx hb dX6_leastCap_29 rfl (lv_at hl 0 rfl) ?_
      refine gf6_10 X (w.at 0) dX6_leastCap_30 ?_
      refine k_v (rr_v (rest := []) X (w.at 2) mX3_become kw282 (c_X3_become HG2 HG1 (by decide) rfl ) (HG2.in (by decide)) rfl rfl ⟨Nat.le_of_ble_eq_true rfl, Nat.le_of_ble_eq_true rfl⟩ rfl hl.1 rfl (Nat.le_of_ble_eq_true rfl) dX6_leastCap_33 ⟨Nat.zero_le _, Nat.zero_le _⟩) (w.at 2) (fun H locs w => ?_)
      obtain ⟨zs33, ezs33⟩ : ∃ y : St, y = setG v 2 (g_X3_become (v 2) (v 1)) := ⟨_, rfl⟩; rw [← ezs33] at w
      have hm : WFh (zs33 2) := by rw [ezs33]; exact become_WF hf
      refine lv_aload_n hx hb dX6_leastCap_36 rfl (lv_at hl 0 rfl) ?_
      refine gf6_16 X (w.at 0) dX6_leastCap_37 ?_
      refine gf6_137 HG2 X (w.at 2) dX6_leastCap_40 ?_
      refine lv_iload_n hx hb dX6_leastCap_43 rfl (lv_at hl 3 rfl) ?_
      refine pf6_192 HG2 X (w.at 2) dX6_leastCap_44 (fun zq H locs ezq w => ?_)
      obtain ⟨zs44, ezs44⟩ : ∃ y : St, y = setG zs33 2 (up (zs33 2) 19 0 (nI (50 * k))) := ⟨_, rfl⟩; have w : Wd G s zs44 H locs := by rw [ezs44, ← ezq]; exact w
      have hm : WFh (zs44 2) := by rw [ezs44]; exact hm
      refine lv_aload_n hx hb dX6_leastCap_47 rfl (lv_at hl 0 rfl) ?_
      change W _ _ _ _ _ _ _ _ _ _ _ _ _ _ _ (F0 m 48 ls _)
      refine gf6_16 X (w.at 0) dX6_leastCap_48 ?_
      refine lv_iload_n hx hb dX6_leastCap_51 rfl (lv_at hl 1 rfl) ?_
      refine lv_iconst (v := (-1)) hx hb dX6_leastCap_52 (by decide) ?_
      refine k_i (rr_v (rest := []) X (w.at 2) mX3_firstLack kw606 (c_X3_firstLack HG2 y1 (-1) (by assumption)) (HG2.in (by decide)) rfl rfl ⟨Nat.le_of_ble_eq_true rfl, Nat.le_of_ble_eq_true rfl⟩ rfl hl.1 rfl (Nat.le_of_ble_eq_true rfl) dX6_leastCap_53 ⟨Nat.zero_le _, Nat.zero_le _⟩) (w.at 2) (fun H locs w => ?_)
      obtain ⟨zs53, ezs53⟩ : ∃ y : St, y = setG zs44 2 (g_X3_firstLack (zs44 2) y1 (-1)) := ⟨_, rfl⟩; rw [← ezs53] at w
      refine lv_bipush (v := (-9)) hx hb dX6_leastCap_56 (by decide) ?_
      refine lv_icmp_ne (tgt := 63) hx hb dX6_leastCap_58 (by decide) (fun zc58 => ?_) (fun zc58 => ?_)
      · -- 63
        refine lv_iinc (v := nI ((50 * k) + 50)) (lv' := [(3, .int (nI ((50 * k) + 50))), (0, .ref (aa G 0 0)), (1, .int y1), (2, .int y2)]) hx hb dX6_leastCap_63 hl (k := 3) rfl (nI_add _ 50) (by decide) rfl (fun ls hl => ?_)
        refine lv_goto (tgt := 18) hx hb dX6_leastCap_66 (by decide) ?_
        have hk : k < 20 := (lc20 hkN zc22)
        exact ih (k + 1) zs53 (by omega) (by omega) (by rw [← hz]; replace ezs53 := ezs53.symm; subst ezs53; replace ezs44 := ezs44.symm; subst ezs44; replace ezs33 := ezs33.symm; subst ezs33; exact (wl_go (t := 0) (r := 0) (by simp only [b_X6_leastCap_18, if_neg zc22, if_neg zc58])).symm) (by replace ezs53 := ezs53.symm; subst ezs53; replace ezs44 := ezs44.symm; subst ezs44; replace ezs33 := ezs33.symm; subst ezs33; exact hf) _ _ _ w (lv_sub hl [1, 2, 3, 0] rfl)
      · -- 61
        refine lv_iload_n hx hb dX6_leastCap_61 rfl (lv_at hl 3 rfl) ?_
        have hz1 : z = ((62, nI (50 * k), zs53) : Nat × Int32 × St) := by rw [← hz]; replace ezs53 := ezs53.symm; subst ezs53; replace ezs44 := ezs44.symm; subst ezs44; replace ezs33 := ezs33.symm; subst ezs33; exact wl_out (by simp only [b_X6_leastCap_18, if_neg zc22, if_pos zc58])
        subst hz1
        exact kk62 rfl _ _ _ w (lv_sub hl [0, 1, 2] rfl)
set_option maxRecDepth 100000 in
set_option maxHeartbeats 4000000 in
theorem c_X6_leastCap {l : Launch} {G : GG} {σ : St}  (x1 : Int32) (hf : WFh (σ 1)) : MM l G yX6_leastCap cX6_leastCap 4 7 145 (some .int) [.ref (aa G 0 0), .int x1] σ (Qi G (f_X6_leastCap σ x1) (g_X6_leastCap σ x1)) := by
  refine MM.of (by decide) (Nat.le_of_ble_eq_true rfl) ?_
  intro p e s m below meth c ls X hr hlk w hl
  have hx := X.1.1
  have hb := X.1.2.1
  have hl : lv_has ls 4 [(0, .ref (aa G 0 0)), (1, .int x1)] := hl
  refine lv_aload_n hx hb dX6_leastCap_0 rfl (lv_at hl 0 rfl) ?_
  refine lv_iload_n hx hb dX6_leastCap_1 rfl (lv_at hl 1 rfl) ?_
  refine k_i (rr_v (rest := []) X w mX6_whyNoRun kw528 (c_X6_whyNoRun x1) m0_0 rfl rfl ⟨Nat.le_of_ble_eq_true rfl, Nat.le_of_ble_eq_true rfl⟩ rfl hl.1 rfl (Nat.le_of_ble_eq_true rfl) dX6_leastCap_2 ⟨Nat.zero_le _, Nat.zero_le _⟩) w (fun H locs w => ?_)
  refine lv_topi (fun zv5 ezv5 => ?_)
  refine lv_istore_n (lv' := [(2, .int zv5), (0, .ref (aa G 0 0)), (1, .int x1)]) hx hb dX6_leastCap_5 rfl hl (by decide) rfl (fun ls hl => ?_)
  refine lv_iload_n hx hb dX6_leastCap_6 rfl (lv_at hl 0 rfl) ?_
  refine lv_if_ge (tgt := 16) hx hb dX6_leastCap_7 (by decide) (fun zc7 => ?_) (fun zc7 => ?_)
  · -- 16
    refine lv_iconst (v := 0) hx hb dX6_leastCap_16 (by decide) ?_
    refine lv_istore_n (lv' := [(3, .int 0), (2, .int zv5), (0, .ref (aa G 0 0)), (1, .int x1)]) hx hb dX6_leastCap_17 rfl hl (by decide) rfl (fun ls hl => ?_)
    obtain ⟨zl18, ezl18⟩ : ∃ y : Nat × Int32 × St, y = (l_X6_leastCap_18 x1 zv5 σ) := ⟨_, rfl⟩
    refine lp_X6_leastCap_18 X x1 zv5  zl18 (fun hz69 H locs ls w hl => ?_) (fun hz62 H locs ls w hl => ?_) (nn (20 + 1)) 0 σ (Nat.zero_le _) (by rw [nn_eq]; exact Nat.lt_succ_of_le (Nat.sub_le _ _)) ezl18.symm hf _ _ _ w (lv_sub hl [2, 3, 1, 0] rfl)
    · -- leaves at 69
      refine lv_bipush (v := (-9)) hx hb dX6_leastCap_69 (by decide) ?_
      exact t_i X w hr hlk dX6_leastCap_71 (by replace ezl18 := ezl18.symm; subst ezl18; replace ezv5 := ezv5.symm; subst ezv5; simp only [f_X6_leastCap, if_pos zc7, if_pos hz69]) (by replace ezl18 := ezl18.symm; subst ezl18; replace ezv5 := ezv5.symm; subst ezv5; simp only [g_X6_leastCap, if_pos zc7, if_pos hz69])
    · -- leaves at 62
      have hn69 : ¬ zl18.1 = 69 := by rw [hz62]; decide
      exact t_i X w hr hlk dX6_leastCap_62 (by replace ezl18 := ezl18.symm; subst ezl18; replace ezv5 := ezv5.symm; subst ezv5; simp only [f_X6_leastCap, if_pos zc7, if_neg hn69]) (by replace ezl18 := ezl18.symm; subst ezl18; replace ezv5 := ezv5.symm; subst ezv5; simp only [g_X6_leastCap, if_pos zc7, if_neg hn69])
  · -- 10
    refine lv_aload_n hx hb dX6_leastCap_10 rfl (lv_at hl 1 rfl) ?_
    refine lv_iload_n hx hb dX6_leastCap_11 rfl (lv_at hl 0 rfl) ?_
    refine k_i (rr_v (rest := []) X (w.at 0) mX6_refuse kw270 (c_X6_refuse zv5) m0_0 rfl rfl ⟨Nat.le_of_ble_eq_true rfl, Nat.le_of_ble_eq_true rfl⟩ rfl hl.1 rfl (Nat.le_of_ble_eq_true rfl) dX6_leastCap_12 ⟨Nat.zero_le _, Nat.zero_le _⟩) (w.at 0) (fun H locs w => ?_)
    obtain ⟨zs12, ezs12⟩ : ∃ y : St, y = setG σ 0 (g_X6_refuse (σ 0) zv5) := ⟨_, rfl⟩; rw [← ezs12] at w
    exact t_i X w hr hlk dX6_leastCap_15 (by replace ezs12 := ezs12.symm; subst ezs12; replace ezv5 := ezv5.symm; subst ezv5; simp only [f_X6_leastCap, if_neg zc7]) (by replace ezs12 := ezs12.symm; subst ezs12; replace ezv5 := ezv5.symm; subst ezv5; simp only [g_X6_leastCap, if_neg zc7])

noncomputable def b_X6_wall_46 (y1 : Int32) (y2 : Int32) (k : Nat) (v : Int64 × Int32 × St) : Int64 × Int32 × St :=
  if (f_X5_isShut (v.2.2 1) (nI k)) = 0 then
    let zs84 : St := setG v.2.2 2 (g_X3_become (v.2.2 2) (v.2.2 1))
    let zs96 : St := setG zs84 2 (g_X5_turn (zs84 2) (nI k))
    let zs105 : St := setG zs96 2 (g_X3_runCosts (zs96 2) y1 v.1)
    let zv108 : Int64 := f_X3_runCosts (zs96 2) y1 v.1
    if 0 ≤ (lg_cmp zv108 v.1) then
      (v.1, v.2.1, zs105)
    else
      let zv122 : Int32 := nI k
      (zv108, zv122, zs105)
  else
    (v.1, v.2.1, v.2.2)
noncomputable def l_X6_wall_46 (y1 : Int32) (y2 : Int32) (v0 : Int64 × Int32 × St) : Int64 × Int32 × St := itn (b_X6_wall_46 y1 y2) (v0.2.2 1 9 0).toNatClampNeg v0
noncomputable def f_X6_wall (σ : St) (x1 : Int32) : Int32 :=
  let zv5 : Int32 := f_X6_whyNoRun σ x1
  if 0 ≤ zv5 then
    let zs24 : St := setG σ 2 (g_X3_become (σ 2) (σ 1))
    let zs35 : St := setG zs24 2 (g_X3_runCosts (zs24 2) x1 4000000000000000000)
    let zv38 : Int64 := f_X3_runCosts (zs24 2) x1 4000000000000000000
    let zl46 : Int64 × Int32 × St := (l_X6_wall_46 x1 zv5 (zv38, (-9), zs35))
    zl46.2.1
  else
    let zs12 : St := setG σ 0 (g_X6_refuse (σ 0) zv5)
    f_X6_refuse (σ 0) zv5
noncomputable def g_X6_wall (σ : St) (x1 : Int32) : St :=
  let zv5 : Int32 := f_X6_whyNoRun σ x1
  if 0 ≤ zv5 then
    let zs24 : St := setG σ 2 (g_X3_become (σ 2) (σ 1))
    let zs35 : St := setG zs24 2 (g_X3_runCosts (zs24 2) x1 4000000000000000000)
    let zv38 : Int64 := f_X3_runCosts (zs24 2) x1 4000000000000000000
    let zl46 : Int64 × Int32 × St := (l_X6_wall_46 x1 zv5 (zv38, (-9), zs35))
    zl46.2.2
  else
    let zs12 : St := setG σ 0 (g_X6_refuse (σ 0) zv5)
    zs12
set_option maxRecDepth 100000 in
set_option maxHeartbeats 4000000 in
theorem lp_X6_wall_46 {l : Launch} {G : GG} {p : Program} {e : Env} {s : State} {m : MethodId} {args : Array Value} {below : List Frame} {meth : Method} {c : Code} {Q : State → Prop} (X : Cx p m c cX6_wall 9 s args RX6 G) (y1 : Int32) (y2 : Int32) (v0 : Int64 × Int32 × St) (hf : WFh (v0.2.2 1))
    (kk : ∀ (H : Heap) (locs : List Loc) (ls : Array Slot), Wd G s ((l_X6_wall_46 y1 y2 v0).2.2) H locs → lv_has ls 9 [(0, .ref (aa G 0 0)), (1, .int y1), (2, .int y2), (3, .long ((l_X6_wall_46 y1 y2 v0).1)), (5, .int ((l_X6_wall_46 y1 y2 v0).2.1)), (6, .int (nI ((v0.2.2 1 9 0).toNatClampNeg)))] → W p l e (rmv 7 148) s m args below meth c H locs 0 0 Q (F0 m 130 ls [])) :
    ∀ (n k : Nat) (v : Int64 × Int32 × St), k ≤ (v0.2.2 1 9 0).toNatClampNeg → (v0.2.2 1 9 0).toNatClampNeg - k < n → v = itn (b_X6_wall_46 y1 y2) k v0 → (v.2.2 1 = v0.2.2 1) → ∀ (H : Heap) (locs : List Loc) (ls : Array Slot), Wd G s v.2.2 H locs → lv_has ls 9 [(0, .ref (aa G 0 0)), (1, .int y1), (2, .int y2), (3, .long v.1), (5, .int v.2.1), (6, .int (nI k))] → W p l e (rmv 7 148) s m args below meth c H locs 0 0 Q (F0 m 46 ls []) := by
  have hx := X.1.1
  have hb := X.1.2.1
  intro n
  induction n with
  | zero => intro k v _ h; omega
  | succ n ih =>
    intro k v hkN hn ev h1 H locs ls w hl
    refine lv_iload hx hb dX6_wall_46 (lv_at hl 5 rfl) ?_
    refine lv_aload_n hx hb dX6_wall_48 rfl (lv_at hl 0 rfl) ?_
    refine gf6_10 X (w.at 0) dX6_wall_49 ?_
    refine gf6_88 HG1 X (w.at 1) dX6_wall_52 ?_
    refine gf6_195 HG1 X (w.at 1) dX6_wall_55 ?_
    refine lv_icmp_ge (tgt := 130) hx hb dX6_wall_58 (by decide) (fun zc58 => ?_) (fun zc58 => ?_)
    · -- 130
      have hkE : k = (v0.2.2 1 9 0).toNatClampNeg := lp_eq hkN (by rw [← h1]; exact zc58)
      have ev2 : l_X6_wall_46 y1 y2 v0 = v := by unfold l_X6_wall_46; rw [← hkE]; exact ev.symm
      rw [ev2] at kk
      rw [hkE] at hl
      exact kk _ _ _ w (lv_sub hl [0, 1, 2, 3, 4, 5] rfl)
    · -- 61
      have hk : k < (v0.2.2 1 9 0).toNatClampNeg := lp_lt hkN (by rw [← h1]; exact zc58)
      have hf : WFh (v.2.2 1) := by rw [h1]; exact hf
      refine lv_aload_n hx hb dX6_wall_61 rfl (lv_at hl 0 rfl) ?_
      refine gf6_10 X (w.at 0) dX6_wall_62 ?_
      refine gf6_88 HG1 X (w.at 1) dX6_wall_65 ?_
      refine lv_iload hx hb dX6_wall_68 (lv_at hl 5 rfl) ?_
      refine k_i (rr_v (rest := []) X (w.at 1) mX5_isShut kw430 (c_X5_isShut HG1 (nI k)) (HG1.in (by decide)) rfl rfl ⟨Nat.le_of_ble_eq_true rfl, Nat.le_of_ble_eq_true rfl⟩ rfl hl.1 rfl (Nat.le_of_ble_eq_true rfl) dX6_wall_70 ⟨Nat.zero_le _, Nat.zero_le _⟩) (w.at 1) (fun H locs w => ?_)
      rw [setG_self] at w
      refine lv_if_ne (tgt := 124) hx hb dX6_wall_73 (by decide) (fun zc73 => ?_) (fun zc73 => ?_)
      · -- 124
        refine lv_iinc (v := nI (k + 1)) (lv' := [(6, .int (nI (k + 1))), (0, .ref (aa G 0 0)), (1, .int y1), (2, .int y2), (3, .long v.1), (5, .int v.2.1)]) hx hb dX6_wall_124 hl (k := 5) rfl (nI_1 _) (by decide) rfl (fun ls hl => ?_)
        refine lv_goto (tgt := 46) hx hb dX6_wall_127 (by decide) ?_
        exact ih (k + 1) (v.1, v.2.1, v.2.2) (by omega) (by omega) (by simp only [itn, ← ev, b_X6_wall_46, if_neg zc73]) (by exact h1) _ _ _ w (lv_sub hl [1, 2, 3, 4, 5, 0] rfl)
      · -- 76
        refine lv_aload_n hx hb dX6_wall_76 rfl (lv_at hl 0 rfl) ?_
        refine gf6_16 X (w.at 0) dX6_wall_77 ?_
        refine lv_aload_n hx hb dX6_wall_80 rfl (lv_at hl 0 rfl) ?_
        refine gf6_10 X (w.at 0) dX6_wall_81 ?_
        refine k_v (rr_v (rest := []) X (w.at 2) mX3_become kw282 (c_X3_become HG2 HG1 (by decide) rfl ) (HG2.in (by decide)) rfl rfl ⟨Nat.le_of_ble_eq_true rfl, Nat.le_of_ble_eq_true rfl⟩ rfl hl.1 rfl (Nat.le_of_ble_eq_true rfl) dX6_wall_84 ⟨Nat.zero_le _, Nat.zero_le _⟩) (w.at 2) (fun H locs w => ?_)
        obtain ⟨zs84, ezs84⟩ : ∃ y : St, y = setG v.2.2 2 (g_X3_become (v.2.2 2) (v.2.2 1)) := ⟨_, rfl⟩; rw [← ezs84] at w
        have hm : WFh (zs84 2) := by rw [ezs84]; exact become_WF hf
        refine lv_aload_n hx hb dX6_wall_87 rfl (lv_at hl 0 rfl) ?_
        refine gf6_16 X (w.at 0) dX6_wall_88 ?_
        refine gf6_88 HG2 X (w.at 2) dX6_wall_91 ?_
        refine lv_iload hx hb dX6_wall_94 (lv_at hl 5 rfl) ?_
        refine k_v (rr_v (rest := []) X (w.at 2) mX5_turn kw434 (c_X5_turn HG2 (nI k)) (HG2.in (by decide)) rfl rfl ⟨Nat.le_of_ble_eq_true rfl, Nat.le_of_ble_eq_true rfl⟩ rfl hl.1 rfl (Nat.le_of_ble_eq_true rfl) dX6_wall_96 ⟨Nat.zero_le _, Nat.zero_le _⟩) (w.at 2) (fun H locs w => ?_)
        obtain ⟨zs96, ezs96⟩ : ∃ y : St, y = setG zs84 2 (g_X5_turn (zs84 2) (nI k)) := ⟨_, rfl⟩; rw [← ezs96] at w
        have hm : WFh (zs96 2) := by rw [ezs96]; exact hm
        refine lv_aload_n hx hb dX6_wall_99 rfl (lv_at hl 0 rfl) ?_
        change W _ _ _ _ _ _ _ _ _ _ _ _ _ _ _ (F0 m 100 ls _)
        refine gf6_16 X (w.at 0) dX6_wall_100 ?_
        refine lv_iload_n hx hb dX6_wall_103 rfl (lv_at hl 1 rfl) ?_
        refine lv_lload_n hx hb dX6_wall_104 rfl (lv_at hl 3 rfl) ?_
        refine k_l (rr_v (rest := []) X (w.at 2) mX3_runCosts kw588 (c_X3_runCosts HG2 y1 v.1 (by assumption)) (HG2.in (by decide)) rfl rfl ⟨Nat.le_of_ble_eq_true rfl, Nat.le_of_ble_eq_true rfl⟩ rfl hl.1 rfl (Nat.le_of_ble_eq_true rfl) dX6_wall_105 ⟨Nat.zero_le _, Nat.zero_le _⟩) (w.at 2) (fun H locs w => ?_)
        obtain ⟨zs105, ezs105⟩ : ∃ y : St, y = setG zs96 2 (g_X3_runCosts (zs96 2) y1 v.1) := ⟨_, rfl⟩; rw [← ezs105] at w
        refine lv_topl (fun zv108 ezv108 => ?_)
        refine lv_lstore (lv' := [(7, .long zv108), (0, .ref (aa G 0 0)), (1, .int y1), (2, .int y2), (3, .long v.1), (5, .int v.2.1), (6, .int (nI k))]) hx hb dX6_wall_108 hl (by decide) rfl (fun ls hl => ?_)
        refine lv_lload hx hb dX6_wall_110 (lv_at hl 0 rfl) ?_
        refine lv_lload_n hx hb dX6_wall_112 rfl (lv_at hl 4 rfl) ?_
        refine W.lcmp hx hb dX6_wall_113 ?_
        refine lv_if_ge (tgt := 124) hx hb dX6_wall_114 (by decide) (fun zc114 => ?_) (fun zc114 => ?_)
        · -- 124
          refine lv_iinc (v := nI (k + 1)) (lv' := [(6, .int (nI (k + 1))), (7, .long zv108), (0, .ref (aa G 0 0)), (1, .int y1), (2, .int y2), (3, .long v.1), (5, .int v.2.1)]) hx hb dX6_wall_124 hl (k := 6) rfl (nI_1 _) (by decide) rfl (fun ls hl => ?_)
          refine lv_goto (tgt := 46) hx hb dX6_wall_127 (by decide) ?_
          exact ih (k + 1) (v.1, v.2.1, zs105) (by omega) (by omega) (by replace ezv108 := ezv108.symm; subst ezv108; replace ezs105 := ezs105.symm; subst ezs105; replace ezs96 := ezs96.symm; subst ezs96; replace ezs84 := ezs84.symm; subst ezs84; simp only [itn, ← ev, b_X6_wall_46, if_pos zc73, if_pos zc114]) (by replace ezv108 := ezv108.symm; subst ezv108; replace ezs105 := ezs105.symm; subst ezs105; replace ezs96 := ezs96.symm; subst ezs96; replace ezs84 := ezs84.symm; subst ezs84; exact h1) _ _ _ w (lv_sub hl [2, 3, 4, 5, 6, 0] rfl)
        · -- 117
          refine lv_lload hx hb dX6_wall_117 (lv_at hl 0 rfl) ?_
          refine lv_lstore_n (lv' := [(3, .long zv108), (7, .long zv108), (0, .ref (aa G 0 0)), (1, .int y1), (2, .int y2), (5, .int v.2.1), (6, .int (nI k))]) hx hb dX6_wall_119 rfl hl (by decide) rfl (fun ls hl => ?_)
          refine lv_iload hx hb dX6_wall_120 (lv_at hl 6 rfl) ?_
          refine lv_topi (fun zv122 ezv122 => ?_)
          refine lv_istore (lv' := [(5, .int zv122), (3, .long zv108), (7, .long zv108), (0, .ref (aa G 0 0)), (1, .int y1), (2, .int y2), (6, .int (nI k))]) hx hb dX6_wall_122 hl (by decide) rfl (fun ls hl => ?_)
          refine lv_iinc (v := nI (k + 1)) (lv' := [(6, .int (nI (k + 1))), (5, .int zv122), (3, .long zv108), (7, .long zv108), (0, .ref (aa G 0 0)), (1, .int y1), (2, .int y2)]) hx hb dX6_wall_124 hl (k := 6) rfl (nI_1 _) (by decide) rfl (fun ls hl => ?_)
          refine lv_goto (tgt := 46) hx hb dX6_wall_127 (by decide) ?_
          exact ih (k + 1) (zv108, zv122, zs105) (by omega) (by omega) (by replace ezv122 := ezv122.symm; subst ezv122; replace ezv108 := ezv108.symm; subst ezv108; replace ezs105 := ezs105.symm; subst ezs105; replace ezs96 := ezs96.symm; subst ezs96; replace ezs84 := ezs84.symm; subst ezs84; simp only [itn, ← ev, b_X6_wall_46, if_pos zc73, if_neg zc114]) (by replace ezv122 := ezv122.symm; subst ezv122; replace ezv108 := ezv108.symm; subst ezv108; replace ezs105 := ezs105.symm; subst ezs105; replace ezs96 := ezs96.symm; subst ezs96; replace ezs84 := ezs84.symm; subst ezs84; exact h1) _ _ _ w (lv_sub hl [4, 5, 6, 2, 1, 0] rfl)
set_option maxRecDepth 100000 in
set_option maxHeartbeats 4000000 in
theorem c_X6_wall {l : Launch} {G : GG} {σ : St}  (x1 : Int32) (hf : WFh (σ 1)) : MM l G yX6_wall cX6_wall 9 7 148 (some .int) [.ref (aa G 0 0), .int x1] σ (Qi G (f_X6_wall σ x1) (g_X6_wall σ x1)) := by
  refine MM.of (by decide) (Nat.le_of_ble_eq_true rfl) ?_
  intro p e s m below meth c ls X hr hlk w hl
  have hx := X.1.1
  have hb := X.1.2.1
  have hl : lv_has ls 9 [(0, .ref (aa G 0 0)), (1, .int x1)] := hl
  refine lv_aload_n hx hb dX6_wall_0 rfl (lv_at hl 0 rfl) ?_
  refine lv_iload_n hx hb dX6_wall_1 rfl (lv_at hl 1 rfl) ?_
  refine k_i (rr_v (rest := []) X w mX6_whyNoRun kw528 (c_X6_whyNoRun x1) m0_0 rfl rfl ⟨Nat.le_of_ble_eq_true rfl, Nat.le_of_ble_eq_true rfl⟩ rfl hl.1 rfl (Nat.le_of_ble_eq_true rfl) dX6_wall_2 ⟨Nat.zero_le _, Nat.zero_le _⟩) w (fun H locs w => ?_)
  refine lv_topi (fun zv5 ezv5 => ?_)
  refine lv_istore_n (lv' := [(2, .int zv5), (0, .ref (aa G 0 0)), (1, .int x1)]) hx hb dX6_wall_5 rfl hl (by decide) rfl (fun ls hl => ?_)
  refine lv_iload_n hx hb dX6_wall_6 rfl (lv_at hl 0 rfl) ?_
  refine lv_if_ge (tgt := 16) hx hb dX6_wall_7 (by decide) (fun zc7 => ?_) (fun zc7 => ?_)
  · -- 16
    refine lv_aload_n hx hb dX6_wall_16 rfl (lv_at hl 1 rfl) ?_
    refine gf6_16 X (w.at 0) dX6_wall_17 ?_
    refine lv_aload_n hx hb dX6_wall_20 rfl (lv_at hl 1 rfl) ?_
    refine gf6_10 X (w.at 0) dX6_wall_21 ?_
    refine k_v (rr_v (rest := []) X (w.at 2) mX3_become kw282 (c_X3_become HG2 HG1 (by decide) rfl ) (HG2.in (by decide)) rfl rfl ⟨Nat.le_of_ble_eq_true rfl, Nat.le_of_ble_eq_true rfl⟩ rfl hl.1 rfl (Nat.le_of_ble_eq_true rfl) dX6_wall_24 ⟨Nat.zero_le _, Nat.zero_le _⟩) (w.at 2) (fun H locs w => ?_)
    obtain ⟨zs24, ezs24⟩ : ∃ y : St, y = setG σ 2 (g_X3_become (σ 2) (σ 1)) := ⟨_, rfl⟩; rw [← ezs24] at w
    have hm : WFh (zs24 2) := by rw [ezs24]; exact become_WF hf
    refine lv_aload_n hx hb dX6_wall_27 rfl (lv_at hl 1 rfl) ?_
    refine gf6_16 X (w.at 0) dX6_wall_28 ?_
    refine lv_iload_n hx hb dX6_wall_31 rfl (lv_at hl 2 rfl) ?_
    refine lv_ldc2 hx hb X.1.2.2.2.1 (X.1.2.2.2.2 _ kw587) dX6_wall_32 ?_
    refine k_l (rr_v (rest := []) X (w.at 2) mX3_runCosts kw588 (c_X3_runCosts HG2 x1 4000000000000000000 (by assumption)) (HG2.in (by decide)) rfl rfl ⟨Nat.le_of_ble_eq_true rfl, Nat.le_of_ble_eq_true rfl⟩ rfl hl.1 rfl (Nat.le_of_ble_eq_true rfl) dX6_wall_35 ⟨Nat.zero_le _, Nat.zero_le _⟩) (w.at 2) (fun H locs w => ?_)
    obtain ⟨zs35, ezs35⟩ : ∃ y : St, y = setG zs24 2 (g_X3_runCosts (zs24 2) x1 4000000000000000000) := ⟨_, rfl⟩; rw [← ezs35] at w
    refine lv_topl (fun zv38 ezv38 => ?_)
    refine lv_lstore_n (lv' := [(3, .long zv38), (2, .int zv5), (0, .ref (aa G 0 0)), (1, .int x1)]) hx hb dX6_wall_38 rfl hl (by decide) rfl (fun ls hl => ?_)
    change W _ _ _ _ _ _ _ _ _ _ _ _ _ _ _ (F0 m 39 ls _)
    refine lv_bipush (v := (-9)) hx hb dX6_wall_39 (by decide) ?_
    refine lv_istore (lv' := [(5, .int (-9)), (3, .long zv38), (2, .int zv5), (0, .ref (aa G 0 0)), (1, .int x1)]) hx hb dX6_wall_41 hl (by decide) rfl (fun ls hl => ?_)
    refine lv_iconst (v := 0) hx hb dX6_wall_43 (by decide) ?_
    refine lv_istore (lv' := [(6, .int 0), (5, .int (-9)), (3, .long zv38), (2, .int zv5), (0, .ref (aa G 0 0)), (1, .int x1)]) hx hb dX6_wall_44 hl (by decide) rfl (fun ls hl => ?_)
    refine lp_X6_wall_46 X x1 zv5 (zv38, (-9), zs35) (by replace ezv38 := ezv38.symm; subst ezv38; replace ezs35 := ezs35.symm; subst ezs35; replace ezs24 := ezs24.symm; subst ezs24; replace ezv5 := ezv5.symm; subst ezv5; exact hf) (fun H locs ls w hl => ?_) ((zs35 1 9 0).toNatClampNeg + 1) 0 _ (Nat.zero_le _) (Nat.lt_succ_of_le (Nat.sub_le _ _)) rfl rfl _ _ _ w (lv_sub hl [4, 5, 3, 2, 1, 0] rfl)
    obtain ⟨zl46, ezl46⟩ : ∃ y : Int64 × Int32 × St, y = (l_X6_wall_46 x1 zv5 (zv38, (-9), zs35)) := ⟨_, rfl⟩
    rw [← ezl46] at w hl
    refine lv_iload hx hb dX6_wall_130 (lv_at hl 4 rfl) ?_
    exact t_i X w hr hlk dX6_wall_132 (by replace ezl46 := ezl46.symm; subst ezl46; replace ezv38 := ezv38.symm; subst ezv38; replace ezs35 := ezs35.symm; subst ezs35; replace ezs24 := ezs24.symm; subst ezs24; replace ezv5 := ezv5.symm; subst ezv5; simp only [f_X6_wall, if_pos zc7]) (by replace ezl46 := ezl46.symm; subst ezl46; replace ezv38 := ezv38.symm; subst ezv38; replace ezs35 := ezs35.symm; subst ezs35; replace ezs24 := ezs24.symm; subst ezs24; replace ezv5 := ezv5.symm; subst ezv5; simp only [g_X6_wall, if_pos zc7])
  · -- 10
    refine lv_aload_n hx hb dX6_wall_10 rfl (lv_at hl 1 rfl) ?_
    refine lv_iload_n hx hb dX6_wall_11 rfl (lv_at hl 0 rfl) ?_
    refine k_i (rr_v (rest := []) X (w.at 0) mX6_refuse kw270 (c_X6_refuse zv5) m0_0 rfl rfl ⟨Nat.le_of_ble_eq_true rfl, Nat.le_of_ble_eq_true rfl⟩ rfl hl.1 rfl (Nat.le_of_ble_eq_true rfl) dX6_wall_12 ⟨Nat.zero_le _, Nat.zero_le _⟩) (w.at 0) (fun H locs w => ?_)
    obtain ⟨zs12, ezs12⟩ : ∃ y : St, y = setG σ 0 (g_X6_refuse (σ 0) zv5) := ⟨_, rfl⟩; rw [← ezs12] at w
    exact t_i X w hr hlk dX6_wall_15 (by replace ezs12 := ezs12.symm; subst ezs12; replace ezv5 := ezv5.symm; subst ezv5; simp only [f_X6_wall, if_neg zc7]) (by replace ezs12 := ezs12.symm; subst ezs12; replace ezv5 := ezv5.symm; subst ezv5; simp only [g_X6_wall, if_neg zc7])

noncomputable def f_X6_share (σ : St) (x1 : Int32) (x2 : Int32) : Int32 :=
  if (f_X4_has (σ 1) x1) = 0 then
    let zs18 : St := setG σ 0 (g_X6_refuse (σ 0) (-1))
    (-1000000000) + (f_X6_refuse (σ 0) (-1))
  else
    if 1 ≤ x2 then
      if x2 ≤ 200 then
        let zs63 : St := setG σ 2 (g_X3_become (σ 2) (σ 1))
        let zs72 : St := setG zs63 2 (g_X3_goOn (zs63 2) x2 (-1))
        let zv85 : Int32 := f_X0_settledInAll (zs72 2)
        let zs94 : St := setG zs72 2 (g_X3_become (zs72 2) (zs72 1))
        let zs109 : St := setG zs94 2 (up (zs94 2) 18 x1.toNatClampNeg 0)
        let zs116 : St := setG zs109 2 (g_X3_goOn (zs109 2) x2 (-1))
        zv85 - (f_X0_settledInAll (zs116 2))
      else
        let zs50 : St := setG σ 0 (g_X6_refuse (σ 0) (-6))
        (-1000000000) + (f_X6_refuse (σ 0) (-6))
    else
      let zs33 : St := setG σ 0 (g_X6_refuse (σ 0) (-4))
      (-1000000000) + (f_X6_refuse (σ 0) (-4))
noncomputable def g_X6_share (σ : St) (x1 : Int32) (x2 : Int32) : St :=
  if (f_X4_has (σ 1) x1) = 0 then
    let zs18 : St := setG σ 0 (g_X6_refuse (σ 0) (-1))
    zs18
  else
    if 1 ≤ x2 then
      if x2 ≤ 200 then
        let zs63 : St := setG σ 2 (g_X3_become (σ 2) (σ 1))
        let zs72 : St := setG zs63 2 (g_X3_goOn (zs63 2) x2 (-1))
        let zv85 : Int32 := f_X0_settledInAll (zs72 2)
        let zs94 : St := setG zs72 2 (g_X3_become (zs72 2) (zs72 1))
        let zs109 : St := setG zs94 2 (up (zs94 2) 18 x1.toNatClampNeg 0)
        let zs116 : St := setG zs109 2 (g_X3_goOn (zs109 2) x2 (-1))
        zs116
      else
        let zs50 : St := setG σ 0 (g_X6_refuse (σ 0) (-6))
        zs50
    else
      let zs33 : St := setG σ 0 (g_X6_refuse (σ 0) (-4))
      zs33
set_option maxRecDepth 100000 in
set_option maxHeartbeats 4000000 in
theorem c_X6_share {l : Launch} {G : GG} {σ : St}  (x1 : Int32) (x2 : Int32) (hf : WFh (σ 1)) : MM l G yX6_share cX6_share 4 7 145 (some .int) [.ref (aa G 0 0), .int x1, .int x2] σ (Qi G (f_X6_share σ x1 x2) (g_X6_share σ x1 x2)) := by
  refine MM.of (by decide) (Nat.le_of_ble_eq_true rfl) ?_
  intro p e s m below meth c ls X hr hlk w hl
  have hx := X.1.1
  have hb := X.1.2.1
  have hl : lv_has ls 4 [(0, .ref (aa G 0 0)), (1, .int x1), (2, .int x2)] := hl
  refine lv_aload_n hx hb dX6_share_0 rfl (lv_at hl 0 rfl) ?_
  refine gf6_10 X (w.at 0) dX6_share_1 ?_
  refine gf6_196 HG1 X (w.at 1) dX6_share_4 ?_
  refine lv_iload_n hx hb dX6_share_7 rfl (lv_at hl 1 rfl) ?_
  refine k_i (rr_v (rest := []) X (w.at 1) mX4_has kw652 (c_X4_has HG1 x1) (HG1.in (by decide)) rfl rfl ⟨Nat.le_of_ble_eq_true rfl, Nat.le_of_ble_eq_true rfl⟩ rfl hl.1 rfl (Nat.le_of_ble_eq_true rfl) dX6_share_8 ⟨Nat.zero_le _, Nat.zero_le _⟩) (w.at 1) (fun H locs w => ?_)
  rw [setG_self] at w
  refine lv_if_ne (tgt := 23) hx hb dX6_share_11 (by decide) (fun zc11 => ?_) (fun zc11 => ?_)
  · -- 23
    refine lv_iload_n hx hb dX6_share_23 rfl (lv_at hl 2 rfl) ?_
    refine lv_iconst (v := 1) hx hb dX6_share_24 (by decide) ?_
    refine lv_icmp_ge (tgt := 38) hx hb dX6_share_25 (by decide) (fun zc25 => ?_) (fun zc25 => ?_)
    · -- 38
      refine lv_iload_n hx hb dX6_share_38 rfl (lv_at hl 2 rfl) ?_
      refine lv_sipush (v := 200) hx hb dX6_share_39 (by decide) ?_
      refine lv_icmp_le (tgt := 55) hx hb dX6_share_42 (by decide) (fun zc42 => ?_) (fun zc42 => ?_)
      · -- 55
        refine lv_aload_n hx hb dX6_share_55 rfl (lv_at hl 0 rfl) ?_
        refine gf6_16 X (w.at 0) dX6_share_56 ?_
        refine lv_aload_n hx hb dX6_share_59 rfl (lv_at hl 0 rfl) ?_
        refine gf6_10 X (w.at 0) dX6_share_60 ?_
        refine k_v (rr_v (rest := []) X (w.at 2) mX3_become kw282 (c_X3_become HG2 HG1 (by decide) rfl ) (HG2.in (by decide)) rfl rfl ⟨Nat.le_of_ble_eq_true rfl, Nat.le_of_ble_eq_true rfl⟩ rfl hl.1 rfl (Nat.le_of_ble_eq_true rfl) dX6_share_63 ⟨Nat.zero_le _, Nat.zero_le _⟩) (w.at 2) (fun H locs w => ?_)
        obtain ⟨zs63, ezs63⟩ : ∃ y : St, y = setG σ 2 (g_X3_become (σ 2) (σ 1)) := ⟨_, rfl⟩; rw [← ezs63] at w
        have hm : WFh (zs63 2) := by rw [ezs63]; exact become_WF hf
        have hf : WFh (zs63 1) := by rw [ezs63]; exact hf
        refine lv_aload_n hx hb dX6_share_66 rfl (lv_at hl 0 rfl) ?_
        refine gf6_16 X (w.at 0) dX6_share_67 ?_
        refine lv_iload_n hx hb dX6_share_70 rfl (lv_at hl 2 rfl) ?_
        refine lv_iconst (v := (-1)) hx hb dX6_share_71 (by decide) ?_
        refine k_v (rr_v (rest := []) X (w.at 2) mX3_goOn kw532 (c_X3_goOn HG2 x2 (-1) (by assumption)) (HG2.in (by decide)) rfl rfl ⟨Nat.le_of_ble_eq_true rfl, Nat.le_of_ble_eq_true rfl⟩ rfl hl.1 rfl (Nat.le_of_ble_eq_true rfl) dX6_share_72 ⟨Nat.zero_le _, Nat.zero_le _⟩) (w.at 2) (fun H locs w => ?_)
        obtain ⟨zs72, ezs72⟩ : ∃ y : St, y = setG zs63 2 (g_X3_goOn (zs63 2) x2 (-1)) := ⟨_, rfl⟩; rw [← ezs72] at w
        have hf : WFh (zs72 1) := by rw [ezs72]; exact hf
        refine lv_aload_n hx hb dX6_share_75 rfl (lv_at hl 0 rfl) ?_
        change W _ _ _ _ _ _ _ _ _ _ _ _ _ _ _ (F0 m 76 ls _)
        refine gf6_16 X (w.at 0) dX6_share_76 ?_
        refine gf6_63 HG2 X (w.at 2) dX6_share_79 ?_
        refine k_i (rr_v (rest := []) X (w.at 2) mX0_settledInAll kw656 (c_X0_settledInAll HG2 ) (HG2.in (by decide)) rfl rfl ⟨Nat.le_of_ble_eq_true rfl, Nat.le_of_ble_eq_true rfl⟩ rfl hl.1 rfl (Nat.le_of_ble_eq_true rfl) dX6_share_82 ⟨Nat.zero_le _, Nat.zero_le _⟩) (w.at 2) (fun H locs w => ?_)
        rw [setG_self] at w
        refine lv_topi (fun zv85 ezv85 => ?_)
        refine lv_istore_n (lv' := [(3, .int zv85), (0, .ref (aa G 0 0)), (1, .int x1), (2, .int x2)]) hx hb dX6_share_85 rfl hl (by decide) rfl (fun ls hl => ?_)
        refine lv_aload_n hx hb dX6_share_86 rfl (lv_at hl 1 rfl) ?_
        refine gf6_16 X (w.at 0) dX6_share_87 ?_
        refine lv_aload_n hx hb dX6_share_90 rfl (lv_at hl 1 rfl) ?_
        refine gf6_10 X (w.at 0) dX6_share_91 ?_
        refine k_v (rr_v (rest := []) X (w.at 2) mX3_become kw282 (c_X3_become HG2 HG1 (by decide) rfl ) (HG2.in (by decide)) rfl rfl ⟨Nat.le_of_ble_eq_true rfl, Nat.le_of_ble_eq_true rfl⟩ rfl hl.1 rfl (Nat.le_of_ble_eq_true rfl) dX6_share_94 ⟨Nat.zero_le _, Nat.zero_le _⟩) (w.at 2) (fun H locs w => ?_)
        obtain ⟨zs94, ezs94⟩ : ∃ y : St, y = setG zs72 2 (g_X3_become (zs72 2) (zs72 1)) := ⟨_, rfl⟩; rw [← ezs94] at w
        have hm : WFh (zs94 2) := by rw [ezs94]; exact become_WF hf
        have hf : WFh (zs94 1) := by rw [ezs94]; exact hf
        refine lv_aload_n hx hb dX6_share_97 rfl (lv_at hl 1 rfl) ?_
        refine gf6_16 X (w.at 0) dX6_share_98 ?_
        refine gf6_196 HG2 X (w.at 2) dX6_share_101 ?_
        change W _ _ _ _ _ _ _ _ _ _ _ _ _ _ _ (F0 m 104 ls _)
        refine gf6_206 HG2 X (w.at 2) dX6_share_104 ?_
        refine lv_iload_n hx hb dX6_share_107 rfl (lv_at hl 2 rfl) ?_
        refine lv_iconst (v := 0) hx hb dX6_share_108 (by decide) ?_
        refine iS (f := 18) (n := 8) X (w.at 2) (HG2.in (by decide)) rfl (has4_in zc11) dX6_share_109 (fun zq H locs ezq w => ?_)
        obtain ⟨zs109, ezs109⟩ : ∃ y : St, y = setG zs94 2 (up (zs94 2) 18 x1.toNatClampNeg 0) := ⟨_, rfl⟩; have w : Wd G s zs109 H locs := by rw [ezs109, ← ezq]; exact w
        have hm : WFh (zs109 2) := by rw [ezs109]; exact hm
        have hf : WFh (zs109 1) := by rw [ezs109]; exact hf
        refine lv_aload_n hx hb dX6_share_110 rfl (lv_at hl 1 rfl) ?_
        refine gf6_16 X (w.at 0) dX6_share_111 ?_
        refine lv_iload_n hx hb dX6_share_114 rfl (lv_at hl 3 rfl) ?_
        refine lv_iconst (v := (-1)) hx hb dX6_share_115 (by decide) ?_
        refine k_v (rr_v (rest := []) X (w.at 2) mX3_goOn kw532 (c_X3_goOn HG2 x2 (-1) (by assumption)) (HG2.in (by decide)) rfl rfl ⟨Nat.le_of_ble_eq_true rfl, Nat.le_of_ble_eq_true rfl⟩ rfl hl.1 rfl (Nat.le_of_ble_eq_true rfl) dX6_share_116 ⟨Nat.zero_le _, Nat.zero_le _⟩) (w.at 2) (fun H locs w => ?_)
        obtain ⟨zs116, ezs116⟩ : ∃ y : St, y = setG zs109 2 (g_X3_goOn (zs109 2) x2 (-1)) := ⟨_, rfl⟩; rw [← ezs116] at w
        have hf : WFh (zs116 1) := by rw [ezs116]; exact hf
        refine lv_iload_n hx hb dX6_share_119 rfl (lv_at hl 0 rfl) ?_
        refine lv_aload_n hx hb dX6_share_120 rfl (lv_at hl 1 rfl) ?_
        refine gf6_16 X (w.at 0) dX6_share_121 ?_
        change W _ _ _ _ _ _ _ _ _ _ _ _ _ _ _ (F0 m 124 ls _)
        refine gf6_63 HG2 X (w.at 2) dX6_share_124 ?_
        refine k_i (rr_v (rest := [.int zv85]) X (w.at 2) mX0_settledInAll kw656 (c_X0_settledInAll HG2 ) (HG2.in (by decide)) rfl rfl ⟨Nat.le_of_ble_eq_true rfl, Nat.le_of_ble_eq_true rfl⟩ rfl hl.1 rfl (Nat.le_of_ble_eq_true rfl) dX6_share_127 ⟨Nat.zero_le _, Nat.zero_le _⟩) (w.at 2) (fun H locs w => ?_)
        rw [setG_self] at w
        refine lv_isub hx hb dX6_share_130 ?_
        exact t_i X w hr hlk dX6_share_131 (by replace ezs116 := ezs116.symm; subst ezs116; replace ezs109 := ezs109.symm; subst ezs109; replace ezs94 := ezs94.symm; subst ezs94; replace ezv85 := ezv85.symm; subst ezv85; replace ezs72 := ezs72.symm; subst ezs72; replace ezs63 := ezs63.symm; subst ezs63; simp only [f_X6_share, if_neg zc11, if_pos zc25, if_pos zc42]) (by replace ezs116 := ezs116.symm; subst ezs116; replace ezs109 := ezs109.symm; subst ezs109; replace ezs94 := ezs94.symm; subst ezs94; replace ezv85 := ezv85.symm; subst ezv85; replace ezs72 := ezs72.symm; subst ezs72; replace ezs63 := ezs63.symm; subst ezs63; simp only [g_X6_share, if_neg zc11, if_pos zc25, if_pos zc42])
      · -- 45
        refine lv_ldc hx hb X.1.2.2.2.1 (X.1.2.2.2.2 _ kw487) dX6_share_45 ?_
        refine lv_aload_n hx hb dX6_share_47 rfl (lv_at hl 0 rfl) ?_
        refine lv_bipush (v := (-6)) hx hb dX6_share_48 (by decide) ?_
        refine k_i (rr_v (rest := [.int (-1000000000)]) X (w.at 0) mX6_refuse kw270 (c_X6_refuse (-6)) m0_0 rfl rfl ⟨Nat.le_of_ble_eq_true rfl, Nat.le_of_ble_eq_true rfl⟩ rfl hl.1 rfl (Nat.le_of_ble_eq_true rfl) dX6_share_50 ⟨Nat.zero_le _, Nat.zero_le _⟩) (w.at 0) (fun H locs w => ?_)
        obtain ⟨zs50, ezs50⟩ : ∃ y : St, y = setG σ 0 (g_X6_refuse (σ 0) (-6)) := ⟨_, rfl⟩; rw [← ezs50] at w
        refine lv_iadd hx hb dX6_share_53 ?_
        exact t_i X w hr hlk dX6_share_54 (by replace ezs50 := ezs50.symm; subst ezs50; simp only [f_X6_share, if_neg zc11, if_pos zc25, if_neg zc42]) (by replace ezs50 := ezs50.symm; subst ezs50; simp only [g_X6_share, if_neg zc11, if_pos zc25, if_neg zc42])
    · -- 28
      refine lv_ldc hx hb X.1.2.2.2.1 (X.1.2.2.2.2 _ kw487) dX6_share_28 ?_
      refine lv_aload_n hx hb dX6_share_30 rfl (lv_at hl 0 rfl) ?_
      refine lv_bipush (v := (-4)) hx hb dX6_share_31 (by decide) ?_
      refine k_i (rr_v (rest := [.int (-1000000000)]) X (w.at 0) mX6_refuse kw270 (c_X6_refuse (-4)) m0_0 rfl rfl ⟨Nat.le_of_ble_eq_true rfl, Nat.le_of_ble_eq_true rfl⟩ rfl hl.1 rfl (Nat.le_of_ble_eq_true rfl) dX6_share_33 ⟨Nat.zero_le _, Nat.zero_le _⟩) (w.at 0) (fun H locs w => ?_)
      obtain ⟨zs33, ezs33⟩ : ∃ y : St, y = setG σ 0 (g_X6_refuse (σ 0) (-4)) := ⟨_, rfl⟩; rw [← ezs33] at w
      refine lv_iadd hx hb dX6_share_36 ?_
      exact t_i X w hr hlk dX6_share_37 (by replace ezs33 := ezs33.symm; subst ezs33; simp only [f_X6_share, if_neg zc11, if_neg zc25]) (by replace ezs33 := ezs33.symm; subst ezs33; simp only [g_X6_share, if_neg zc11, if_neg zc25])
  · -- 14
    refine lv_ldc hx hb X.1.2.2.2.1 (X.1.2.2.2.2 _ kw487) dX6_share_14 ?_
    refine lv_aload_n hx hb dX6_share_16 rfl (lv_at hl 0 rfl) ?_
    refine lv_iconst (v := (-1)) hx hb dX6_share_17 (by decide) ?_
    refine k_i (rr_v (rest := [.int (-1000000000)]) X (w.at 0) mX6_refuse kw270 (c_X6_refuse (-1)) m0_0 rfl rfl ⟨Nat.le_of_ble_eq_true rfl, Nat.le_of_ble_eq_true rfl⟩ rfl hl.1 rfl (Nat.le_of_ble_eq_true rfl) dX6_share_18 ⟨Nat.zero_le _, Nat.zero_le _⟩) (w.at 0) (fun H locs w => ?_)
    obtain ⟨zs18, ezs18⟩ : ∃ y : St, y = setG σ 0 (g_X6_refuse (σ 0) (-1)) := ⟨_, rfl⟩; rw [← ezs18] at w
    refine lv_iadd hx hb dX6_share_21 ?_
    exact t_i X w hr hlk dX6_share_22 (by replace ezs18 := ezs18.symm; subst ezs18; simp only [f_X6_share, if_pos zc11]) (by replace ezs18 := ezs18.symm; subst ezs18; simp only [g_X6_share, if_pos zc11])
