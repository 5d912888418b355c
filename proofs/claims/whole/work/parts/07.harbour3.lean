noncomputable def g_X3_goBy (ρ : Gr) (x1 : Int32) : Gr :=
  let zv4 : Int32 := f_X3_kindNow ρ
  if zv4 = 0 then
    let zs13 : Gr := g_X0_stir ρ
    let zs18_2 : Gr := g_X3_carry zs13 zv4
    let zs22_2 : Gr := g_X3_bring zs18_2
    let zs29_2 : Gr := g_X0_settle zs22_2
    if x1 = (-1) then
      let zs47_4 : Gr := g_X3_dredge zs29_2 (f_X3_plannedCell zs29_2 zv4)
      let zs57_4 : Gr := up zs47_4 0 6 ((zs47_4 0 6) + 1)
      zs57_4
    else
      let zs47_3 : Gr := g_X3_dredge zs29_2 x1
      let zs57_3 : Gr := up zs47_3 0 6 ((zs47_3 0 6) + 1)
      zs57_3
  else
    let zs18 : Gr := g_X3_carry ρ zv4
    let zs22 : Gr := g_X3_bring zs18
    let zs29 : Gr := g_X0_settle zs22
    if x1 = (-1) then
      let zs47_2 : Gr := g_X3_dredge zs29 (f_X3_plannedCell zs29 zv4)
      let zs57_2 : Gr := up zs47_2 0 6 ((zs47_2 0 6) + 1)
      zs57_2
    else
      let zs47 : Gr := g_X3_dredge zs29 x1
      let zs57 : Gr := up zs47 0 6 ((zs47 0 6) + 1)
      zs57
set_option maxRecDepth 100000 in
set_option maxHeartbeats 4000000 in
theorem c_X3_goBy {l : Launch} {G : GG} {σ : St} {g : Nat} {ρ : Gr} (hg : HG g)  (x1 : Int32) (hf : WFh ρ) : MM l G yX3_goBy cX3_goBy 3 5 100 none [.ref (aa G g 0), .int x1] (setG σ g ρ) (Qv G (setG σ g (g_X3_goBy ρ x1))) := by
  refine MM.of (by decide) (Nat.le_of_ble_eq_true rfl) ?_
  intro p e s m below meth c ls X hr hlk w hl
  have hx := X.1.1
  have hb := X.1.2.1
  have hl : lv_has ls 3 [(0, .ref (aa G g 0)), (1, .int x1)] := hl
  refine lv_aload_n hx hb dX3_goBy_0 rfl (lv_at hl 0 rfl) ?_
  refine k_i (rr_v (rest := []) X w mX3_kindNow kw540 (c_X3_kindNow hg ) (hg.in (by decide)) hg.sh rfl ⟨Nat.le_of_ble_eq_true rfl, Nat.le_of_ble_eq_true rfl⟩ rfl hl.1 rfl (Nat.le_of_ble_eq_true rfl) dX3_goBy_1 ⟨Nat.zero_le _, Nat.zero_le _⟩) w (fun H locs w => ?_)
  refine lv_topi (fun zv4 ezv4 => ?_)
  refine lv_istore_n (lv' := [(2, .int zv4), (0, .ref (aa G g 0)), (1, .int x1)]) hx hb dX3_goBy_4 rfl hl (by decide) rfl (fun ls hl => ?_)
  refine lv_iload_n hx hb dX3_goBy_5 rfl (lv_at hl 0 rfl) ?_
  refine lv_if_ne (tgt := 16) hx hb dX3_goBy_6 (by decide) (fun zc6 => ?_) (fun zc6 => ?_)
  · -- 16
    refine lv_aload_n hx hb dX3_goBy_16 rfl (lv_at hl 1 rfl) ?_
    refine lv_iload_n hx hb dX3_goBy_17 rfl (lv_at hl 0 rfl) ?_
    refine k_v (rr_v (rest := []) X w mX3_carry kw550 (c_X3_carry hg zv4 (by assumption)) (hg.in (by decide)) hg.sh rfl ⟨Nat.le_of_ble_eq_true rfl, Nat.le_of_ble_eq_true rfl⟩ rfl hl.1 rfl (Nat.le_of_ble_eq_true rfl) dX3_goBy_18 ⟨Nat.zero_le _, Nat.zero_le _⟩) w (fun H locs w => ?_)
    obtain ⟨zs18, ezs18⟩ : ∃ y : Gr, y = g_X3_carry ρ zv4 := ⟨_, rfl⟩; rw [← ezs18] at w
    have hf : WFh zs18 := by rw [ezs18]; exact hf.fr (carry_Fr _ _)
    refine lv_aload_n hx hb dX3_goBy_21 rfl (lv_at hl 1 rfl) ?_
    refine k_v (rr_v (rest := []) X w mX3_bring kw562 (c_X3_bring hg (by assumption)) (hg.in (by decide)) hg.sh rfl ⟨Nat.le_of_ble_eq_true rfl, Nat.le_of_ble_eq_true rfl⟩ rfl hl.1 rfl (Nat.le_of_ble_eq_true rfl) dX3_goBy_22 ⟨Nat.zero_le _, Nat.zero_le _⟩) w (fun H locs w => ?_)
    obtain ⟨zs22, ezs22⟩ : ∃ y : Gr, y = g_X3_bring zs18 := ⟨_, rfl⟩; rw [← ezs22] at w
    have hf : WFh zs22 := by rw [ezs22]; exact hf.fr (bring_Fr _)
    refine lv_aload_n hx hb dX3_goBy_25 rfl (lv_at hl 1 rfl) ?_
    refine gf3_12 hg X w dX3_goBy_26 ?_
    refine k_v (rr_v (rest := []) X w mX0_settle kw566 (c_X0_settle hg hf.1) (hg.in (by decide)) hg.sh rfl ⟨Nat.le_of_ble_eq_true rfl, Nat.le_of_ble_eq_true rfl⟩ rfl hl.1 rfl (Nat.le_of_ble_eq_true rfl) dX3_goBy_29 ⟨Nat.zero_le _, Nat.zero_le _⟩) w (fun H locs w => ?_)
    obtain ⟨zs29, ezs29⟩ : ∃ y : Gr, y = g_X0_settle zs22 := ⟨_, rfl⟩; rw [← ezs29] at w
    have hf : WFh zs29 := by rw [ezs29]; exact hf.fr (settle_Fr _)
    refine lv_aload_n hx hb dX3_goBy_32 rfl (lv_at hl 1 rfl) ?_
    refine lv_iload_n hx hb dX3_goBy_33 rfl (lv_at hl 2 rfl) ?_
    refine lv_iconst (v := (-1)) hx hb dX3_goBy_34 (by decide) ?_
    change W _ _ _ _ _ _ _ _ _ _ _ _ _ _ _ (F0 m 35 ls _)
    refine lv_icmp_ne (tgt := 46) hx hb dX3_goBy_35 (by decide) (fun zc35 => ?_) (fun zc35 => ?_)
    · -- 46
      refine lv_iload_n hx hb dX3_goBy_46 rfl (lv_at hl 2 rfl) ?_
      refine k_v (rr_v (rest := []) X w mX3_dredge kw571 (c_X3_dredge hg x1) (hg.in (by decide)) hg.sh rfl ⟨Nat.le_of_ble_eq_true rfl, Nat.le_of_ble_eq_true rfl⟩ rfl hl.1 rfl (Nat.le_of_ble_eq_true rfl) dX3_goBy_47 ⟨Nat.zero_le _, Nat.zero_le _⟩) w (fun H locs w => ?_)
      obtain ⟨zs47, ezs47⟩ : ∃ y : Gr, y = g_X3_dredge zs29 x1 := ⟨_, rfl⟩; rw [← ezs47] at w
      refine lv_aload_n hx hb dX3_goBy_50 rfl (lv_at hl 1 rfl) ?_
      refine lv_dup hx hb dX3_goBy_51 rfl ?_
      refine gf3_46 hg X w dX3_goBy_52 ?_
      refine lv_iconst (v := 1) hx hb dX3_goBy_55 (by decide) ?_
      refine lv_iadd hx hb dX3_goBy_56 ?_
      refine pf3_46 hg X w dX3_goBy_57 (fun zs57 H locs ezs57 w => ?_)
      exact t_v X w hr hlk dX3_goBy_60 (by replace ezs57 := ezs57.symm; subst ezs57; replace ezs47 := ezs47.symm; subst ezs47; replace ezs29 := ezs29.symm; subst ezs29; replace ezs22 := ezs22.symm; subst ezs22; replace ezs18 := ezs18.symm; subst ezs18; replace ezv4 := ezv4.symm; subst ezv4; simp only [g_X3_goBy, if_neg zc6, if_neg zc35])
    · -- 38
      refine lv_aload_n hx hb dX3_goBy_38 rfl (lv_at hl 1 rfl) ?_
      refine lv_iload_n hx hb dX3_goBy_39 rfl (lv_at hl 0 rfl) ?_
      refine k_i (rr_v (rest := [.ref (aa G g 0)]) X w mX3_plannedCell kw570 (c_X3_plannedCell hg zv4) (hg.in (by decide)) hg.sh rfl ⟨Nat.le_of_ble_eq_true rfl, Nat.le_of_ble_eq_true rfl⟩ rfl hl.1 rfl (Nat.le_of_ble_eq_true rfl) dX3_goBy_40 ⟨Nat.zero_le _, Nat.zero_le _⟩) w (fun H locs w => ?_)
      refine lv_goto (tgt := 47) hx hb dX3_goBy_43 (by decide) ?_
      refine k_v (rr_v (rest := []) X w mX3_dredge kw571 (c_X3_dredge hg (f_X3_plannedCell zs29 zv4)) (hg.in (by decide)) hg.sh rfl ⟨Nat.le_of_ble_eq_true rfl, Nat.le_of_ble_eq_true rfl⟩ rfl hl.1 rfl (Nat.le_of_ble_eq_true rfl) dX3_goBy_47 ⟨Nat.zero_le _, Nat.zero_le _⟩) w (fun H locs w => ?_)
      obtain ⟨zs47_2, ezs47_2⟩ : ∃ y : Gr, y = g_X3_dredge zs29 (f_X3_plannedCell zs29 zv4) := ⟨_, rfl⟩; rw [← ezs47_2] at w
      refine lv_aload_n hx hb dX3_goBy_50 rfl (lv_at hl 1 rfl) ?_
      refine lv_dup hx hb dX3_goBy_51 rfl ?_
      refine gf3_46 hg X w dX3_goBy_52 ?_
      refine lv_iconst (v := 1) hx hb dX3_goBy_55 (by decide) ?_
      refine lv_iadd hx hb dX3_goBy_56 ?_
      refine pf3_46 hg X w dX3_goBy_57 (fun zs57_2 H locs ezs57_2 w => ?_)
      change W _ _ _ _ _ _ _ _ _ _ _ _ _ _ _ (F0 m 60 ls _)
      exact t_v X w hr hlk dX3_goBy_60 (by replace ezs57_2 := ezs57_2.symm; subst ezs57_2; replace ezs47_2 := ezs47_2.symm; subst ezs47_2; replace ezs29 := ezs29.symm; subst ezs29; replace ezs22 := ezs22.symm; subst ezs22; replace ezs18 := ezs18.symm; subst ezs18; replace ezv4 := ezv4.symm; subst ezv4; simp only [g_X3_goBy, if_neg zc6, if_pos zc35])
  · -- 9
    refine lv_aload_n hx hb dX3_goBy_9 rfl (lv_at hl 1 rfl) ?_
    refine gf3_12 hg X w dX3_goBy_10 ?_
    refine k_v (rr_v (rest := []) X w mX0_stir kw541 (c_X0_stir hg hf.1) (hg.in (by decide)) hg.sh rfl ⟨Nat.le_of_ble_eq_true rfl, Nat.le_of_ble_eq_true rfl⟩ rfl hl.1 rfl (Nat.le_of_ble_eq_true rfl) dX3_goBy_13 ⟨Nat.zero_le _, Nat.zero_le _⟩) w (fun H locs w => ?_)
    obtain ⟨zs13, ezs13⟩ : ∃ y : Gr, y = g_X0_stir ρ := ⟨_, rfl⟩; rw [← ezs13] at w
    have hf : WFh zs13 := by rw [ezs13]; exact hf.fr (stir_Fr _)
    refine lv_aload_n hx hb dX3_goBy_16 rfl (lv_at hl 1 rfl) ?_
    refine lv_iload_n hx hb dX3_goBy_17 rfl (lv_at hl 0 rfl) ?_
    refine k_v (rr_v (rest := []) X w mX3_carry kw550 (c_X3_carry hg zv4 (by assumption)) (hg.in (by decide)) hg.sh rfl ⟨Nat.le_of_ble_eq_true rfl, Nat.le_of_ble_eq_true rfl⟩ rfl hl.1 rfl (Nat.le_of_ble_eq_true rfl) dX3_goBy_18 ⟨Nat.zero_le _, Nat.zero_le _⟩) w (fun H locs w => ?_)
    obtain ⟨zs18_2, ezs18_2⟩ : ∃ y : Gr, y = g_X3_carry zs13 zv4 := ⟨_, rfl⟩; rw [← ezs18_2] at w
    have hf : WFh zs18_2 := by rw [ezs18_2]; exact hf.fr (carry_Fr _ _)
    refine lv_aload_n hx hb dX3_goBy_21 rfl (lv_at hl 1 rfl) ?_
    refine k_v (rr_v (rest := []) X w mX3_bring kw562 (c_X3_bring hg (by assumption)) (hg.in (by decide)) hg.sh rfl ⟨Nat.le_of_ble_eq_true rfl, Nat.le_of_ble_eq_true rfl⟩ rfl hl.1 rfl (Nat.le_of_ble_eq_true rfl) dX3_goBy_22 ⟨Nat.zero_le _, Nat.zero_le _⟩) w (fun H locs w => ?_)
    obtain ⟨zs22_2, ezs22_2⟩ : ∃ y : Gr, y = g_X3_bring zs18_2 := ⟨_, rfl⟩; rw [← ezs22_2] at w
    have hf : WFh zs22_2 := by rw [ezs22_2]; exact hf.fr (bring_Fr _)
    refine lv_aload_n hx hb dX3_goBy_25 rfl (lv_at hl 1 rfl) ?_
    refine gf3_12 hg X w dX3_goBy_26 ?_
    refine k_v (rr_v (rest := []) X w mX0_settle kw566 (c_X0_settle hg hf.1) (hg.in (by decide)) hg.sh rfl ⟨Nat.le_of_ble_eq_true rfl, Nat.le_of_ble_eq_true rfl⟩ rfl hl.1 rfl (Nat.le_of_ble_eq_true rfl) dX3_goBy_29 ⟨Nat.zero_le _, Nat.zero_le _⟩) w (fun H locs w => ?_)
    obtain ⟨zs29_2, ezs29_2⟩ : ∃ y : Gr, y = g_X0_settle zs22_2 := ⟨_, rfl⟩; rw [← ezs29_2] at w
    have hf : WFh zs29_2 := by rw [ezs29_2]; exact hf.fr (settle_Fr _)
    change W _ _ _ _ _ _ _ _ _ _ _ _ _ _ _ (F0 m 32 ls _)
    refine lv_aload_n hx hb dX3_goBy_32 rfl (lv_at hl 1 rfl) ?_
    refine lv_iload_n hx hb dX3_goBy_33 rfl (lv_at hl 2 rfl) ?_
    refine lv_iconst (v := (-1)) hx hb dX3_goBy_34 (by decide) ?_
    refine lv_icmp_ne (tgt := 46) hx hb dX3_goBy_35 (by decide) (fun zc35 => ?_) (fun zc35 => ?_)
    · -- 46
      refine lv_iload_n hx hb dX3_goBy_46 rfl (lv_at hl 2 rfl) ?_
      refine k_v (rr_v (rest := []) X w mX3_dredge kw571 (c_X3_dredge hg x1) (hg.in (by decide)) hg.sh rfl ⟨Nat.le_of_ble_eq_true rfl, Nat.le_of_ble_eq_true rfl⟩ rfl hl.1 rfl (Nat.le_of_ble_eq_true rfl) dX3_goBy_47 ⟨Nat.zero_le _, Nat.zero_le _⟩) w (fun H locs w => ?_)
      obtain ⟨zs47_3, ezs47_3⟩ : ∃ y : Gr, y = g_X3_dredge zs29_2 x1 := ⟨_, rfl⟩; rw [← ezs47_3] at w
      refine lv_aload_n hx hb dX3_goBy_50 rfl (lv_at hl 1 rfl) ?_
      refine lv_dup hx hb dX3_goBy_51 rfl ?_
      refine gf3_46 hg X w dX3_goBy_52 ?_
      refine lv_iconst (v := 1) hx hb dX3_goBy_55 (by decide) ?_
      refine lv_iadd hx hb dX3_goBy_56 ?_
      refine pf3_46 hg X w dX3_goBy_57 (fun zs57_3 H locs ezs57_3 w => ?_)
      exact t_v X w hr hlk dX3_goBy_60 (by replace ezs57_3 := ezs57_3.symm; subst ezs57_3; replace ezs47_3 := ezs47_3.symm; subst ezs47_3; replace ezs29_2 := ezs29_2.symm; subst ezs29_2; replace ezs22_2 := ezs22_2.symm; subst ezs22_2; replace ezs18_2 := ezs18_2.symm; subst ezs18_2; replace ezs13 := ezs13.symm; subst ezs13; replace ezv4 := ezv4.symm; subst ezv4; simp only [g_X3_goBy, if_pos zc6, if_neg zc35])
    · -- 38
      refine lv_aload_n hx hb dX3_goBy_38 rfl (lv_at hl 1 rfl) ?_
      refine lv_iload_n hx hb dX3_goBy_39 rfl (lv_at hl 0 rfl) ?_
      refine k_i (rr_v (rest := [.ref (aa G g 0)]) X w mX3_plannedCell kw570 (c_X3_plannedCell hg zv4) (hg.in (by decide)) hg.sh rfl ⟨Nat.le_of_ble_eq_true rfl, Nat.le_of_ble_eq_true rfl⟩ rfl hl.1 rfl (Nat.le_of_ble_eq_true rfl) dX3_goBy_40 ⟨Nat.zero_le _, Nat.zero_le _⟩) w (fun H locs w => ?_)
      refine lv_goto (tgt := 47) hx hb dX3_goBy_43 (by decide) ?_
      refine k_v (rr_v (rest := []) X w mX3_dredge kw571 (c_X3_dredge hg (f_X3_plannedCell zs29_2 zv4)) (hg.in (by decide)) hg.sh rfl ⟨Nat.le_of_ble_eq_true rfl, Nat.le_of_ble_eq_true rfl⟩ rfl hl.1 rfl (Nat.le_of_ble_eq_true rfl) dX3_goBy_47 ⟨Nat.zero_le _, Nat.zero_le _⟩) w (fun H locs w => ?_)
      obtain ⟨zs47_4, ezs47_4⟩ : ∃ y : Gr, y = g_X3_dredge zs29_2 (f_X3_plannedCell zs29_2 zv4) := ⟨_, rfl⟩; rw [← ezs47_4] at w
      refine lv_aload_n hx hb dX3_goBy_50 rfl (lv_at hl 1 rfl) ?_
      refine lv_dup hx hb dX3_goBy_51 rfl ?_
      refine gf3_46 hg X w dX3_goBy_52 ?_
      refine lv_iconst (v := 1) hx hb dX3_goBy_55 (by decide) ?_
      refine lv_iadd hx hb dX3_goBy_56 ?_
      refine pf3_46 hg X w dX3_goBy_57 (fun zs57_4 H locs ezs57_4 w => ?_)
      change W _ _ _ _ _ _ _ _ _ _ _ _ _ _ _ (F0 m 60 ls _)
      exact t_v X w hr hlk dX3_goBy_60 (by replace ezs57_4 := ezs57_4.symm; subst ezs57_4; replace ezs47_4 := ezs47_4.symm; subst ezs47_4; replace ezs29_2 := ezs29_2.symm; subst ezs29_2; replace ezs22_2 := ezs22_2.symm; subst ezs22_2; replace ezs18_2 := ezs18_2.symm; subst ezs18_2; replace ezs13 := ezs13.symm; subst ezs13; replace ezv4 := ezv4.symm; subst ezv4; simp only [g_X3_goBy, if_pos zc6, if_pos zc35])

theorem goBy_Fr (ρ : Gr) (x : Int32) : Fr ρ (g_X3_goBy ρ x) := by
  dsimp only [g_X3_goBy]
  refine Fr.ite (Fr.ite ?_ ?_) (Fr.ite ?_ ?_)
  · · exact (((((stir_Fr _).trans (carry_Fr _ _)).trans (bring_Fr _)).trans (settle_Fr _)).trans (dredge_Fr _ _)).trans (Fr.u0 (j := 6) (by decide))
  · exact (((((stir_Fr _).trans (carry_Fr _ _)).trans (bring_Fr _)).trans (settle_Fr _)).trans (dredge_Fr _ _)).trans (Fr.u0 (j := 6) (by decide))
  · · exact ((((carry_Fr _ _).trans (bring_Fr _)).trans (settle_Fr _)).trans (dredge_Fr _ _)).trans (Fr.u0 (j := 6) (by decide))
  · exact ((((carry_Fr _ _).trans (bring_Fr _)).trans (settle_Fr _)).trans (dredge_Fr _ _)).trans (Fr.u0 (j := 6) (by decide))
