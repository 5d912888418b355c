noncomputable def g_X3_dredgeStuff (ρ : Gr) (x1 : Int32) (x2 : Int32) : Gr :=
  let zv5 : Int32 := f_X6_heapOf x1 x2
  let zv30 : Int32 := if (ρ 8 zv5.toNatClampNeg) < ((ρ 19 0) - (ρ 0 9)) then (ρ 8 zv5.toNatClampNeg) else ((ρ 19 0) - (ρ 0 9))
  let zs45 : Gr := up ρ 8 zv5.toNatClampNeg ((ρ 8 zv5.toNatClampNeg) - zv30)
  let zs54 : Gr := up zs45 0 9 ((zs45 0 9) + zv30)
  if (f_X0_has zs54 (zs54 19 1)) = 0 then
    let zs82 : Gr := up zs54 0 10 ((zs54 0 10) + zv30)
    let zs96_2 : Gr := g_X3_drop zs82 (zs82 19 1) x2 zv30
    zs96_2
  else
    let zs96 : Gr := g_X3_drop zs54 (zs54 19 1) x2 zv30
    zs96
set_option maxRecDepth 100000 in
set_option maxHeartbeats 4000000 in
theorem c_X3_dredgeStuff {l : Launch} {G : GG} {σ : St} {g : Nat} {ρ : Gr} (hg : HG g)  (x1 : Int32) (x2 : Int32) : MM l G yX3_dredgeStuff cX3_dredgeStuff 5 2 44 none [.ref (aa G g 0), .int x1, .int x2] (setG σ g ρ) (Qv G (setG σ g (g_X3_dredgeStuff ρ x1 x2))) := by
  refine MM.of (by decide) (Nat.le_of_ble_eq_true rfl) ?_
  intro p e s m below meth c ls X hr hlk w hl
  have hx := X.1.1
  have hb := X.1.2.1
  have hl : lv_has ls 5 [(0, .ref (aa G g 0)), (1, .int x1), (2, .int x2)] := hl
  refine lv_iload_n hx hb dX3_dredgeStuff_0 rfl (lv_at hl 1 rfl) ?_
  refine lv_iload_n hx hb dX3_dredgeStuff_1 rfl (lv_at hl 2 rfl) ?_
  refine k_i (rr_n (rest := []) X w mX6_heapOf nw11 (c_X6_heapOf x1 x2) ⟨Nat.le_of_ble_eq_true rfl, Nat.le_of_ble_eq_true rfl⟩ rfl hl.1 rfl (Nat.le_of_ble_eq_true rfl) dX3_dredgeStuff_2 ⟨Nat.zero_le _, Nat.zero_le _⟩) w (fun H locs w => ?_)
  refine lv_topi (fun zv5 ezv5 => ?_)
  refine lv_istore_n (lv' := [(3, .int zv5), (0, .ref (aa G g 0)), (1, .int x1), (2, .int x2)]) hx hb dX3_dredgeStuff_5 rfl hl (by decide) rfl (fun ls hl => ?_)
  refine lv_aload_n hx hb dX3_dredgeStuff_6 rfl (lv_at hl 1 rfl) ?_
  refine gf3_35 hg X w dX3_dredgeStuff_7 ?_
  refine gf3_197 hg X w dX3_dredgeStuff_10 ?_
  refine lv_aload_n hx hb dX3_dredgeStuff_13 rfl (lv_at hl 1 rfl) ?_
  refine gf3_55 hg X w dX3_dredgeStuff_14 ?_
  refine lv_isub hx hb dX3_dredgeStuff_17 ?_
  refine lv_aload_n hx hb dX3_dredgeStuff_18 rfl (lv_at hl 1 rfl) ?_
  change W _ _ _ _ _ _ _ _ _ _ _ _ _ _ _ (F0 m 19 ls _)
  refine gf3_12 hg X w dX3_dredgeStuff_19 ?_
  refine gf3_200 hg X w dX3_dredgeStuff_22 ?_
  refine lv_iload_n hx hb dX3_dredgeStuff_25 rfl (lv_at hl 0 rfl) ?_
  refine ia (f := 8) (n := 16) X w (hg.in (by decide)) hg.sh (by rw [ezv5]; exact (heap_in _ _)) dX3_dredgeStuff_26 ?_
  refine mmin X hl.1 kw579 (Nat.le_of_ble_eq_true rfl) (Nat.le_of_ble_eq_true rfl) (Nat.zero_le _) (Nat.zero_le _) dX3_dredgeStuff_27 ?_
  refine lv_topi (fun zv30 ezv30 => ?_)
  refine lv_istore (lv' := [(4, .int zv30), (3, .int zv5), (0, .ref (aa G g 0)), (1, .int x1), (2, .int x2)]) hx hb dX3_dredgeStuff_30 hl (by decide) rfl (fun ls hl => ?_)
  refine lv_aload_n hx hb dX3_dredgeStuff_32 rfl (lv_at hl 2 rfl) ?_
  refine gf3_12 hg X w dX3_dredgeStuff_33 ?_
  refine gf3_200 hg X w dX3_dredgeStuff_36 ?_
  refine lv_iload_n hx hb dX3_dredgeStuff_39 rfl (lv_at hl 1 rfl) ?_
  refine lv_dup2_11 hx hb dX3_dredgeStuff_40 rfl rfl ?_
  refine ia (f := 8) (n := 16) X w (hg.in (by decide)) hg.sh (by rw [ezv5]; exact (heap_in _ _)) dX3_dredgeStuff_41 ?_
  change W _ _ _ _ _ _ _ _ _ _ _ _ _ _ _ (F0 m 42 ls _)
  refine lv_iload hx hb dX3_dredgeStuff_42 (lv_at hl 0 rfl) ?_
  refine lv_isub hx hb dX3_dredgeStuff_44 ?_
  refine iS (f := 8) (n := 16) X w (hg.in (by decide)) hg.sh (by rw [ezv5]; exact (heap_in _ _)) dX3_dredgeStuff_45 (fun zs45 H locs ezs45 w => ?_)
  refine lv_aload_n hx hb dX3_dredgeStuff_46 rfl (lv_at hl 2 rfl) ?_
  refine lv_dup hx hb dX3_dredgeStuff_47 rfl ?_
  refine gf3_55 hg X w dX3_dredgeStuff_48 ?_
  refine lv_iload hx hb dX3_dredgeStuff_51 (lv_at hl 0 rfl) ?_
  refine lv_iadd hx hb dX3_dredgeStuff_53 ?_
  refine pf3_55 hg X w dX3_dredgeStuff_54 (fun zs54 H locs ezs54 w => ?_)
  refine lv_aload_n hx hb dX3_dredgeStuff_57 rfl (lv_at hl 2 rfl) ?_
  refine gf3_12 hg X w dX3_dredgeStuff_58 ?_
  refine lv_aload_n hx hb dX3_dredgeStuff_61 rfl (lv_at hl 2 rfl) ?_
  change W _ _ _ _ _ _ _ _ _ _ _ _ _ _ _ (F0 m 62 ls _)
  refine gf3_35 hg X w dX3_dredgeStuff_62 ?_
  refine gf3_182 hg X w dX3_dredgeStuff_65 ?_
  refine k_i (rr_v (rest := []) X w mX0_has kw359 (c_X0_has hg (zs54 19 1)) (hg.in (by decide)) hg.sh rfl ⟨Nat.le_of_ble_eq_true rfl, Nat.le_of_ble_eq_true rfl⟩ rfl hl.1 rfl (Nat.le_of_ble_eq_true rfl) dX3_dredgeStuff_68 ⟨Nat.zero_le _, Nat.zero_le _⟩) w (fun H locs w => ?_)
  refine lv_if_ne (tgt := 85) hx hb dX3_dredgeStuff_71 (by decide) (fun zc71 => ?_) (fun zc71 => ?_)
  · -- 85
    refine lv_aload_n hx hb dX3_dredgeStuff_85 rfl (lv_at hl 2 rfl) ?_
    refine lv_aload_n hx hb dX3_dredgeStuff_86 rfl (lv_at hl 2 rfl) ?_
    refine gf3_35 hg X w dX3_dredgeStuff_87 ?_
    refine gf3_182 hg X w dX3_dredgeStuff_90 ?_
    refine lv_iload_n hx hb dX3_dredgeStuff_93 rfl (lv_at hl 4 rfl) ?_
    refine lv_iload hx hb dX3_dredgeStuff_94 (lv_at hl 0 rfl) ?_
    refine k_v (rr_v (rest := []) X w mX3_drop kw558 (c_X3_drop hg (zs54 19 1) x2 zv30) (hg.in (by decide)) hg.sh rfl ⟨Nat.le_of_ble_eq_true rfl, Nat.le_of_ble_eq_true rfl⟩ rfl hl.1 rfl (Nat.le_of_ble_eq_true rfl) dX3_dredgeStuff_96 ⟨Nat.zero_le _, Nat.zero_le _⟩) w (fun H locs w => ?_)
    obtain ⟨zs96, ezs96⟩ : ∃ y : Gr, y = g_X3_drop zs54 (zs54 19 1) x2 zv30 := ⟨_, rfl⟩; rw [← ezs96] at w
    exact t_v X w hr hlk dX3_dredgeStuff_99 (by replace ezs96 := ezs96.symm; subst ezs96; replace ezs54 := ezs54.symm; subst ezs54; replace ezs45 := ezs45.symm; subst ezs45; replace ezv30 := ezv30.symm; subst ezv30; replace ezv5 := ezv5.symm; subst ezv5; simp only [g_X3_dredgeStuff, if_neg zc71])
  · -- 74
    refine lv_aload_n hx hb dX3_dredgeStuff_74 rfl (lv_at hl 2 rfl) ?_
    refine lv_dup hx hb dX3_dredgeStuff_75 rfl ?_
    refine gf3_58 hg X w dX3_dredgeStuff_76 ?_
    refine lv_iload hx hb dX3_dredgeStuff_79 (lv_at hl 0 rfl) ?_
    refine lv_iadd hx hb dX3_dredgeStuff_81 ?_
    refine pf3_58 hg X w dX3_dredgeStuff_82 (fun zs82 H locs ezs82 w => ?_)
    refine lv_aload_n hx hb dX3_dredgeStuff_85 rfl (lv_at hl 2 rfl) ?_
    refine lv_aload_n hx hb dX3_dredgeStuff_86 rfl (lv_at hl 2 rfl) ?_
    refine gf3_35 hg X w dX3_dredgeStuff_87 ?_
    refine gf3_182 hg X w dX3_dredgeStuff_90 ?_
    refine lv_iload_n hx hb dX3_dredgeStuff_93 rfl (lv_at hl 4 rfl) ?_
    change W _ _ _ _ _ _ _ _ _ _ _ _ _ _ _ (F0 m 94 ls _)
    refine lv_iload hx hb dX3_dredgeStuff_94 (lv_at hl 0 rfl) ?_
    refine k_v (rr_v (rest := []) X w mX3_drop kw558 (c_X3_drop hg (zs82 19 1) x2 zv30) (hg.in (by decide)) hg.sh rfl ⟨Nat.le_of_ble_eq_true rfl, Nat.le_of_ble_eq_true rfl⟩ rfl hl.1 rfl (Nat.le_of_ble_eq_true rfl) dX3_dredgeStuff_96 ⟨Nat.zero_le _, Nat.zero_le _⟩) w (fun H locs w => ?_)
    obtain ⟨zs96_2, ezs96_2⟩ : ∃ y : Gr, y = g_X3_drop zs82 (zs82 19 1) x2 zv30 := ⟨_, rfl⟩; rw [← ezs96_2] at w
    exact t_v X w hr hlk dX3_dredgeStuff_99 (by replace ezs96_2 := ezs96_2.symm; subst ezs96_2; replace ezs82 := ezs82.symm; subst ezs82; replace ezs54 := ezs54.symm; subst ezs54; replace ezs45 := ezs45.symm; subst ezs45; replace ezv30 := ezv30.symm; subst ezv30; replace ezv5 := ezv5.symm; subst ezv5; simp only [g_X3_dredgeStuff, if_pos zc71])

theorem dredgeStuff_Fr (ρ : Gr) (a b : Int32) : Fr ρ (g_X3_dredgeStuff ρ a b) := by
  dsimp only [g_X3_dredgeStuff]
  refine Fr.ite ?_ ?_
  · exact ((Fr.u8.trans (Fr.u0 (j := 9) (by decide))).trans (Fr.u0 (j := 10) (by decide))).trans (drop_Fr _ _ _ _)
  · exact (Fr.u8.trans (Fr.u0 (j := 9) (by decide))).trans (drop_Fr _ _ _ _)

noncomputable def g_X3_dredge (ρ : Gr) (x1 : Int32) : Gr :=
  let zs2 : Gr := up ρ 0 9 0
  let zs7 : Gr := up zs2 0 10 0
  if (f_X0_has zs7 x1) = 0 then
    zs7
  else
    if x1 = (zs7 19 1) then
      zs7
    else
      let zs35 : Gr := g_X3_dredgeStuff zs7 x1 1
      let zs41 : Gr := g_X3_dredgeStuff zs35 x1 0
      let zs54 : Gr := up zs41 0 8 ((zs41 0 8) + (zs41 0 9))
      zs54
set_option maxRecDepth 100000 in
set_option maxHeartbeats 4000000 in
theorem c_X3_dredge {l : Launch} {G : GG} {σ : St} {g : Nat} {ρ : Gr} (hg : HG g)  (x1 : Int32) : MM l G yX3_dredge cX3_dredge 2 3 68 none [.ref (aa G g 0), .int x1] (setG σ g ρ) (Qv G (setG σ g (g_X3_dredge ρ x1))) := by
  refine MM.of (by decide) (Nat.le_of_ble_eq_true rfl) ?_
  intro p e s m below meth c ls X hr hlk w hl
  have hx := X.1.1
  have hb := X.1.2.1
  have hl : lv_has ls 2 [(0, .ref (aa G g 0)), (1, .int x1)] := hl
  refine lv_aload_n hx hb dX3_dredge_0 rfl (lv_at hl 0 rfl) ?_
  refine lv_iconst (v := 0) hx hb dX3_dredge_1 (by decide) ?_
  refine pf3_55 hg X w dX3_dredge_2 (fun zs2 H locs ezs2 w => ?_)
  refine lv_aload_n hx hb dX3_dredge_5 rfl (lv_at hl 0 rfl) ?_
  refine lv_iconst (v := 0) hx hb dX3_dredge_6 (by decide) ?_
  refine pf3_58 hg X w dX3_dredge_7 (fun zs7 H locs ezs7 w => ?_)
  refine lv_aload_n hx hb dX3_dredge_10 rfl (lv_at hl 0 rfl) ?_
  refine gf3_12 hg X w dX3_dredge_11 ?_
  refine lv_iload_n hx hb dX3_dredge_14 rfl (lv_at hl 1 rfl) ?_
  refine k_i (rr_v (rest := []) X w mX0_has kw359 (c_X0_has hg x1) (hg.in (by decide)) hg.sh rfl ⟨Nat.le_of_ble_eq_true rfl, Nat.le_of_ble_eq_true rfl⟩ rfl hl.1 rfl (Nat.le_of_ble_eq_true rfl) dX3_dredge_15 ⟨Nat.zero_le _, Nat.zero_le _⟩) w (fun H locs w => ?_)
  refine lv_if_eq (tgt := 57) hx hb dX3_dredge_18 (by decide) (fun zc18 => ?_) (fun zc18 => ?_)
  · -- 57
    exact t_v X w hr hlk dX3_dredge_57 (by replace ezs7 := ezs7.symm; subst ezs7; replace ezs2 := ezs2.symm; subst ezs2; simp only [g_X3_dredge, if_pos zc18])
  · -- 21
    refine lv_iload_n hx hb dX3_dredge_21 rfl (lv_at hl 1 rfl) ?_
    refine lv_aload_n hx hb dX3_dredge_22 rfl (lv_at hl 0 rfl) ?_
    refine gf3_35 hg X w dX3_dredge_23 ?_
    refine gf3_182 hg X w dX3_dredge_26 ?_
    refine lv_icmp_eq (tgt := 57) hx hb dX3_dredge_29 (by decide) (fun zc29 => ?_) (fun zc29 => ?_)
    · -- 57
      exact t_v X w hr hlk dX3_dredge_57 (by replace ezs7 := ezs7.symm; subst ezs7; replace ezs2 := ezs2.symm; subst ezs2; simp only [g_X3_dredge, if_neg zc18, if_pos zc29])
    · -- 32
      refine lv_aload_n hx hb dX3_dredge_32 rfl (lv_at hl 0 rfl) ?_
      refine lv_iload_n hx hb dX3_dredge_33 rfl (lv_at hl 1 rfl) ?_
      refine lv_iconst (v := 1) hx hb dX3_dredge_34 (by decide) ?_
      refine k_v (rr_v (rest := []) X w mX3_dredgeStuff kw575 (c_X3_dredgeStuff hg x1 1) (hg.in (by decide)) hg.sh rfl ⟨Nat.le_of_ble_eq_true rfl, Nat.le_of_ble_eq_true rfl⟩ rfl hl.1 rfl (Nat.le_of_ble_eq_true rfl) dX3_dredge_35 ⟨Nat.zero_le _, Nat.zero_le _⟩) w (fun H locs w => ?_)
      obtain ⟨zs35, ezs35⟩ : ∃ y : Gr, y = g_X3_dredgeStuff zs7 x1 1 := ⟨_, rfl⟩; rw [← ezs35] at w
      refine lv_aload_n hx hb dX3_dredge_38 rfl (lv_at hl 0 rfl) ?_
      refine lv_iload_n hx hb dX3_dredge_39 rfl (lv_at hl 1 rfl) ?_
      refine lv_iconst (v := 0) hx hb dX3_dredge_40 (by decide) ?_
      refine k_v (rr_v (rest := []) X w mX3_dredgeStuff kw575 (c_X3_dredgeStuff hg x1 0) (hg.in (by decide)) hg.sh rfl ⟨Nat.le_of_ble_eq_true rfl, Nat.le_of_ble_eq_true rfl⟩ rfl hl.1 rfl (Nat.le_of_ble_eq_true rfl) dX3_dredge_41 ⟨Nat.zero_le _, Nat.zero_le _⟩) w (fun H locs w => ?_)
      obtain ⟨zs41, ezs41⟩ : ∃ y : Gr, y = g_X3_dredgeStuff zs35 x1 0 := ⟨_, rfl⟩; rw [← ezs41] at w
      refine lv_aload_n hx hb dX3_dredge_44 rfl (lv_at hl 0 rfl) ?_
      refine lv_dup hx hb dX3_dredge_45 rfl ?_
      refine gf3_52 hg X w dX3_dredge_46 ?_
      change W _ _ _ _ _ _ _ _ _ _ _ _ _ _ _ (F0 m 49 ls _)
      refine lv_aload_n hx hb dX3_dredge_49 rfl (lv_at hl 0 rfl) ?_
      refine gf3_55 hg X w dX3_dredge_50 ?_
      refine lv_iadd hx hb dX3_dredge_53 ?_
      refine pf3_52 hg X w dX3_dredge_54 (fun zs54 H locs ezs54 w => ?_)
      exact t_v X w hr hlk dX3_dredge_57 (by replace ezs54 := ezs54.symm; subst ezs54; replace ezs41 := ezs41.symm; subst ezs41; replace ezs35 := ezs35.symm; subst ezs35; replace ezs7 := ezs7.symm; subst ezs7; replace ezs2 := ezs2.symm; subst ezs2; simp only [g_X3_dredge, if_neg zc18, if_neg zc29])

theorem dredge_Fr (ρ : Gr) (a : Int32) : Fr ρ (g_X3_dredge ρ a) := by
  have h0 : Fr ρ (up (up ρ 0 9 0) 0 10 0) := (Fr.u0 (j := 9) (by decide)).trans (Fr.u0 (j := 10) (by decide))
  dsimp only [g_X3_dredge]
  split
  · exact h0
  · split
    · exact h0
    · exact ((h0.trans (dredgeStuff_Fr _ _ _)).trans (dredgeStuff_Fr _ _ _)).trans (Fr.u0 (j := 8) (by decide))
