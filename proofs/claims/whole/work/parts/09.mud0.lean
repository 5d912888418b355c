noncomputable def f_X6_refuse (ρ : Gr) (x1 : Int32) : Int32 :=
  let zv2 : Int32 := -x1
  if zv2 < 0 then
    x1
  else
    if 7 ≤ zv2 then
      x1
    else
      let zs25 : Gr := up ρ 4 zv2.toNatClampNeg ((ρ 4 zv2.toNatClampNeg) + 1)
      x1
noncomputable def g_X6_refuse (ρ : Gr) (x1 : Int32) : Gr :=
  let zv2 : Int32 := -x1
  if zv2 < 0 then
    ρ
  else
    if 7 ≤ zv2 then
      ρ
    else
      let zs25 : Gr := up ρ 4 zv2.toNatClampNeg ((ρ 4 zv2.toNatClampNeg) + 1)
      zs25
set_option maxRecDepth 100000 in
set_option maxHeartbeats 4000000 in
theorem c_X6_refuse {l : Launch} {G : GG} {σ : St} {ρ : Gr}  (x1 : Int32) : MM l G yX6_refuse cX6_refuse 3 0 0 (some .int) [.ref (aa G 0 0), .int x1] (setG σ 0 ρ) (Qi G (f_X6_refuse ρ x1) (setG σ 0 (g_X6_refuse ρ x1))) := by
  refine MM.of (by decide) (Nat.le_of_ble_eq_true rfl) ?_
  intro p e s m below meth c ls X hr hlk w hl
  have hx := X.1.1
  have hb := X.1.2.1
  have hl : lv_has ls 3 [(0, .ref (aa G 0 0)), (1, .int x1)] := hl
  refine lv_iload_n hx hb dX6_refuse_0 rfl (lv_at hl 1 rfl) ?_
  refine lv_ineg hx hb dX6_refuse_1 ?_
  refine lv_topi (fun zv2 ezv2 => ?_)
  refine lv_istore_n (lv' := [(2, .int zv2), (0, .ref (aa G 0 0)), (1, .int x1)]) hx hb dX6_refuse_2 rfl hl (by decide) rfl (fun ls hl => ?_)
  refine lv_iload_n hx hb dX6_refuse_3 rfl (lv_at hl 0 rfl) ?_
  refine lv_if_lt (tgt := 26) hx hb dX6_refuse_4 (by decide) (fun zc4 => ?_) (fun zc4 => ?_)
  · -- 26
    refine lv_iload_n hx hb dX6_refuse_26 rfl (lv_at hl 2 rfl) ?_
    exact t_i X w hr hlk dX6_refuse_27 (by replace ezv2 := ezv2.symm; subst ezv2; simp only [f_X6_refuse, if_pos zc4]) (by replace ezv2 := ezv2.symm; subst ezv2; simp only [g_X6_refuse, if_pos zc4])
  · -- 7
    refine lv_iload_n hx hb dX6_refuse_7 rfl (lv_at hl 0 rfl) ?_
    refine lv_aload_n hx hb dX6_refuse_8 rfl (lv_at hl 1 rfl) ?_
    refine gf6_41 X w dX6_refuse_9 ?_
    refine r_al (f := 4) (n := 7) X w m0_4 rfl (v := 7) (by decide) dX6_refuse_12 ?_
    refine lv_icmp_ge (tgt := 26) hx hb dX6_refuse_13 (by decide) (fun zc13 => ?_) (fun zc13 => ?_)
    · -- 26
      refine lv_iload_n hx hb dX6_refuse_26 rfl (lv_at hl 2 rfl) ?_
      exact t_i X w hr hlk dX6_refuse_27 (by replace ezv2 := ezv2.symm; subst ezv2; simp only [f_X6_refuse, if_neg zc4, if_pos zc13]) (by replace ezv2 := ezv2.symm; subst ezv2; simp only [g_X6_refuse, if_neg zc4, if_pos zc13])
    · -- 16
      refine lv_aload_n hx hb dX6_refuse_16 rfl (lv_at hl 1 rfl) ?_
      refine gf6_41 X w dX6_refuse_17 ?_
      refine lv_iload_n hx hb dX6_refuse_20 rfl (lv_at hl 0 rfl) ?_
      refine lv_dup2_11 hx hb dX6_refuse_21 rfl rfl ?_
      refine ia (f := 4) (n := 7) X w m0_4 rfl (vin_n zc4 zc13 (by decide)) dX6_refuse_22 ?_
      refine lv_iconst (v := 1) hx hb dX6_refuse_23 (by decide) ?_
      refine lv_iadd hx hb dX6_refuse_24 ?_
      refine iS (f := 4) (n := 7) X w m0_4 rfl (vin_n zc4 zc13 (by decide)) dX6_refuse_25 (fun zs25 H locs ezs25 w => ?_)
      refine lv_iload_n hx hb dX6_refuse_26 rfl (lv_at hl 2 rfl) ?_
      exact t_i X w hr hlk dX6_refuse_27 (by replace ezs25 := ezs25.symm; subst ezs25; replace ezv2 := ezv2.symm; subst ezv2; simp only [f_X6_refuse, if_neg zc4, if_neg zc13]) (by replace ezs25 := ezs25.symm; subst ezs25; replace ezv2 := ezv2.symm; subst ezv2; simp only [g_X6_refuse, if_neg zc4, if_neg zc13])

noncomputable def f_X6_refuseIfBelow0 (ρ : Gr) (x1 : Int32) : Int32 :=
  if 0 ≤ x1 then
    x1
  else
    let zs6 : Gr := g_X6_refuse ρ x1
    f_X6_refuse ρ x1
noncomputable def g_X6_refuseIfBelow0 (ρ : Gr) (x1 : Int32) : Gr :=
  if 0 ≤ x1 then
    ρ
  else
    let zs6 : Gr := g_X6_refuse ρ x1
    zs6
set_option maxRecDepth 100000 in
set_option maxHeartbeats 4000000 in
theorem c_X6_refuseIfBelow0 {l : Launch} {G : GG} {σ : St} {ρ : Gr}  (x1 : Int32) : MM l G yX6_refuseIfBelow0 cX6_refuseIfBelow0 2 1 22 (some .int) [.ref (aa G 0 0), .int x1] (setG σ 0 ρ) (Qi G (f_X6_refuseIfBelow0 ρ x1) (setG σ 0 (g_X6_refuseIfBelow0 ρ x1))) := by
  refine MM.of (by decide) (Nat.le_of_ble_eq_true rfl) ?_
  intro p e s m below meth c ls X hr hlk w hl
  have hx := X.1.1
  have hb := X.1.2.1
  have hl : lv_has ls 2 [(0, .ref (aa G 0 0)), (1, .int x1)] := hl
  refine lv_iload_n hx hb dX6_refuseIfBelow0_0 rfl (lv_at hl 1 rfl) ?_
  refine lv_if_ge (tgt := 12) hx hb dX6_refuseIfBelow0_1 (by decide) (fun zc1 => ?_) (fun zc1 => ?_)
  · -- 12
    refine lv_iload_n hx hb dX6_refuseIfBelow0_12 rfl (lv_at hl 1 rfl) ?_
    exact t_i X w hr hlk dX6_refuseIfBelow0_13 (by simp only [f_X6_refuseIfBelow0, if_pos zc1]) (by simp only [g_X6_refuseIfBelow0, if_pos zc1])
  · -- 4
    refine lv_aload_n hx hb dX6_refuseIfBelow0_4 rfl (lv_at hl 0 rfl) ?_
    refine lv_iload_n hx hb dX6_refuseIfBelow0_5 rfl (lv_at hl 1 rfl) ?_
    refine k_i (rr_v (rest := []) X w mX6_refuse kw270 (c_X6_refuse x1) m0_0 rfl rfl ⟨Nat.le_of_ble_eq_true rfl, Nat.le_of_ble_eq_true rfl⟩ rfl hl.1 rfl (Nat.le_of_ble_eq_true rfl) dX6_refuseIfBelow0_6 ⟨Nat.zero_le _, Nat.zero_le _⟩) w (fun H locs w => ?_)
    obtain ⟨zs6, ezs6⟩ : ∃ y : Gr, y = g_X6_refuse ρ x1 := ⟨_, rfl⟩; rw [← ezs6] at w
    refine lv_goto (tgt := 13) hx hb dX6_refuseIfBelow0_9 (by decide) ?_
    exact t_i X w hr hlk dX6_refuseIfBelow0_13 (by replace ezs6 := ezs6.symm; subst ezs6; simp only [f_X6_refuseIfBelow0, if_neg zc1]) (by replace ezs6 := ezs6.symm; subst ezs6; simp only [g_X6_refuseIfBelow0, if_neg zc1])

noncomputable def f_X6_whyNoRun (σ : St) (x1 : Int32) : Int32 :=
  if 1 ≤ x1 then
    if x1 ≤ 200 then
      if (σ 1 1 0) = 0 then
        (-3)
      else
        0
    else
      (-6)
  else
    (-4)
set_option maxRecDepth 100000 in
set_option maxHeartbeats 4000000 in
theorem c_X6_whyNoRun {l : Launch} {G : GG} {σ : St}  (x1 : Int32) : MM l G yX6_whyNoRun cX6_whyNoRun 2 0 0 (some .int) [.ref (aa G 0 0), .int x1] σ (Qi G (f_X6_whyNoRun σ x1) σ) := by
  refine MM.of (by decide) (Nat.le_of_ble_eq_true rfl) ?_
  intro p e s m below meth c ls X hr hlk w hl
  have hx := X.1.1
  have hb := X.1.2.1
  have hl : lv_has ls 2 [(0, .ref (aa G 0 0)), (1, .int x1)] := hl
  refine lv_iload_n hx hb dX6_whyNoRun_0 rfl (lv_at hl 1 rfl) ?_
  refine lv_iconst (v := 1) hx hb dX6_whyNoRun_1 (by decide) ?_
  refine lv_icmp_ge (tgt := 8) hx hb dX6_whyNoRun_2 (by decide) (fun zc2 => ?_) (fun zc2 => ?_)
  · -- 8
    refine lv_iload_n hx hb dX6_whyNoRun_8 rfl (lv_at hl 1 rfl) ?_
    refine lv_sipush (v := 200) hx hb dX6_whyNoRun_9 (by decide) ?_
    refine lv_icmp_le (tgt := 18) hx hb dX6_whyNoRun_12 (by decide) (fun zc12 => ?_) (fun zc12 => ?_)
    · -- 18
      refine lv_aload_n hx hb dX6_whyNoRun_18 rfl (lv_at hl 0 rfl) ?_
      refine gf6_10 X (w.at 0) dX6_whyNoRun_19 ?_
      refine gf6_63 HG1 X (w.at 1) dX6_whyNoRun_22 ?_
      refine gf6_147 HG1 X (w.at 1) dX6_whyNoRun_25 ?_
      refine lv_if_ne (tgt := 36) hx hb dX6_whyNoRun_28 (by decide) (fun zc28 => ?_) (fun zc28 => ?_)
      · -- 36
        refine lv_iconst (v := 0) hx hb dX6_whyNoRun_36 (by decide) ?_
        exact t_i X w hr hlk dX6_whyNoRun_37 (by simp only [f_X6_whyNoRun, if_pos zc2, if_pos zc12, if_neg zc28]) rfl
      · -- 31
        refine lv_bipush (v := (-3)) hx hb dX6_whyNoRun_31 (by decide) ?_
        refine lv_goto (tgt := 37) hx hb dX6_whyNoRun_33 (by decide) ?_
        exact t_i X w hr hlk dX6_whyNoRun_37 (by simp only [f_X6_whyNoRun, if_pos zc2, if_pos zc12, if_pos zc28]) rfl
    · -- 15
      refine lv_bipush (v := (-6)) hx hb dX6_whyNoRun_15 (by decide) ?_
      exact t_i X w hr hlk dX6_whyNoRun_17 (by simp only [f_X6_whyNoRun, if_pos zc2, if_neg zc12]) rfl
  · -- 5
    refine lv_bipush (v := (-4)) hx hb dX6_whyNoRun_5 (by decide) ?_
    exact t_i X w hr hlk dX6_whyNoRun_7 (by simp only [f_X6_whyNoRun, if_neg zc2]) rfl

noncomputable def b_X6_rowIsOfCells_2 (σ : St)  (k : Nat) (v : Unit) : Bool × Nat × Int32 × Unit :=
  if (σ 0 0 6) ≤ (nI k) then
    (false, 54, 0, ())
  else
    if (σ 0 3 (nI k).toNatClampNeg) = 9 then
      (true, 0, 0, ())
    else
      if (f_X0_has (σ 1) (σ 0 3 (nI k).toNatClampNeg)) = 0 then
        (false, 47, 0, ())
      else
        (true, 0, 0, ())
noncomputable def l_X6_rowIsOfCells_2 (σ : St)  (v0 : Unit) : Nat × Int32 × Unit   := wl (b_X6_rowIsOfCells_2 σ) (nn ((σ 0 0 6).toNatClampNeg + 1)) 0 v0
noncomputable def f_X6_rowIsOfCells (σ : St)  : Int32 :=
  let zl2 : Nat × Int32 × Unit := (l_X6_rowIsOfCells_2 σ ())
  if zl2.1 = 54 then
    1
  else
    0
set_option maxRecDepth 100000 in
set_option maxHeartbeats 4000000 in
theorem lp_X6_rowIsOfCells_2 {l : Launch} {G : GG} {p : Program} {e : Env} {s : State} {m : MethodId} {args : Array Value} {below : List Frame} {meth : Method} {c : Code} {Q : State → Prop} {σ : St} (X : Cx p m c cX6_rowIsOfCells 2 s args RX6 G)  (hrw : (σ 0 0 6).toNatClampNeg ≤ 28) (z : Nat × Int32 × Unit)
    (kk54 : z.1 = 54 → ∀ (H : Heap) (locs : List Loc) (ls : Array Slot), Wd G s σ H locs → lv_has ls 2 [(0, .ref (aa G 0 0))] → W p l e (rmv 1 21) s m args below meth c H locs 0 0 Q (F0 m 54 ls []))
    (kk47 : z.1 = 47 → ∀ (H : Heap) (locs : List Loc) (ls : Array Slot), Wd G s σ H locs → lv_has ls 2 [(0, .ref (aa G 0 0))] → W p l e (rmv 1 21) s m args below meth c H locs 0 0 Q (F0 m 47 ls [.int 0])) :
    ∀ (n k : Nat) (v : Unit), k ≤ (σ 0 0 6).toNatClampNeg → (σ 0 0 6).toNatClampNeg - k < n → wl (b_X6_rowIsOfCells_2 σ) n k v = z → ∀ (H : Heap) (locs : List Loc) (ls : Array Slot), Wd G s σ H locs → lv_has ls 2 [(0, .ref (aa G 0 0)), (1, .int (nI k))] → W p l e (rmv 1 21) s m args below meth c H locs 0 0 Q (F0 m 2 ls []) := by
  have hx := X.1.1
  have hb := X.1.2.1
  intro n
  induction n with
  | zero => intro k v _ h; omega
  | succ n ih =>
    intro k v hkN hn hz H locs ls w hl
    refine lv_iload_n hx hb dX6_rowIsOfCells_2 rfl (lv_at hl 1 rfl) ?_
    refine lv_aload_n hx hb dX6_rowIsOfCells_3 rfl (lv_at hl 0 rfl) ?_
    refine gf6_37 X (w.at 0) dX6_rowIsOfCells_4 ?_
    refine lv_icmp_ge (tgt := 54) hx hb dX6_rowIsOfCells_7 (by decide) (fun zc7 => ?_) (fun zc7 => ?_)
    · -- 54
      have hz1 : z = ((54, 0, ()) : Nat × Int32 × Unit) := by rw [← hz]; exact wl_out (by simp only [b_X6_rowIsOfCells_2, if_pos zc7])
      subst hz1
      exact kk54 rfl _ _ _ w (lv_sub hl [0] rfl)
    · -- 10
      have hk : k < (σ 0 0 6).toNatClampNeg := (lp_lt hkN zc7)
      refine lv_iload_n hx hb dX6_rowIsOfCells_10 rfl (lv_at hl 1 rfl) ?_
      refine lv_bipush (v := 28) hx hb dX6_rowIsOfCells_11 (by decide) ?_
      refine lv_icmp_ge (tgt := 54) hx hb dX6_rowIsOfCells_13 (by decide) (fun zc13 => absurd zc13 (kn28 (by omega))) (fun _ => ?_)
      refine lv_aload_n hx hb dX6_rowIsOfCells_16 rfl (lv_at hl 0 rfl) ?_
      refine gf6_33 X (w.at 0) dX6_rowIsOfCells_17 ?_
      refine lv_iload_n hx hb dX6_rowIsOfCells_20 rfl (lv_at hl 1 rfl) ?_
      refine ia (f := 3) (n := 28) X (w.at 0) m0_3 rfl (vp_in_nI (by omega) (by decide)) dX6_rowIsOfCells_21 ?_
      refine lv_bipush (v := 9) hx hb dX6_rowIsOfCells_22 (by decide) ?_
      refine lv_icmp_eq (tgt := 48) hx hb dX6_rowIsOfCells_24 (by decide) (fun zc24 => ?_) (fun zc24 => ?_)
      · -- 48
        refine lv_iinc (v := nI (k + 1)) (lv' := [(1, .int (nI (k + 1))), (0, .ref (aa G 0 0))]) hx hb dX6_rowIsOfCells_48 hl (k := 1) rfl (nI_1 _) (by decide) rfl (fun ls hl => ?_)
        refine lv_goto (tgt := 2) hx hb dX6_rowIsOfCells_51 (by decide) ?_
        have hk : k < (σ 0 0 6).toNatClampNeg := (lp_lt hkN zc7)
        exact ih (k + 1) () (by omega) (by omega) (by rw [← hz]; exact (wl_go (t := 0) (r := 0) (by simp only [b_X6_rowIsOfCells_2, if_neg zc7, if_pos zc24])).symm)  _ _ _ w (lv_sub hl [1, 0] rfl)
      · -- 27
        refine lv_aload_n hx hb dX6_rowIsOfCells_27 rfl (lv_at hl 0 rfl) ?_
        refine gf6_10 X (w.at 0) dX6_rowIsOfCells_28 ?_
        refine gf6_63 HG1 X (w.at 1) dX6_rowIsOfCells_31 ?_
        refine lv_aload_n hx hb dX6_rowIsOfCells_34 rfl (lv_at hl 0 rfl) ?_
        refine gf6_33 X (w.at 0) dX6_rowIsOfCells_35 ?_
        refine lv_iload_n hx hb dX6_rowIsOfCells_38 rfl (lv_at hl 1 rfl) ?_
        refine ia (f := 3) (n := 28) X (w.at 0) m0_3 rfl (vp_in_nI (by omega) (by decide)) dX6_rowIsOfCells_39 ?_
        refine k_i (rr_v (rest := []) X (w.at 1) mX0_has kw412 (c_X0_has HG1 (σ 0 3 (nI k).toNatClampNeg)) (HG1.in (by decide)) rfl rfl ⟨Nat.le_of_ble_eq_true rfl, Nat.le_of_ble_eq_true rfl⟩ rfl hl.1 rfl (Nat.le_of_ble_eq_true rfl) dX6_rowIsOfCells_40 ⟨Nat.zero_le _, Nat.zero_le _⟩) (w.at 1) (fun H locs w => ?_)
        rw [setG_self] at w
        refine lv_if_ne (tgt := 48) hx hb dX6_rowIsOfCells_43 (by decide) (fun zc43 => ?_) (fun zc43 => ?_)
        · -- 48
          refine lv_iinc (v := nI (k + 1)) (lv' := [(1, .int (nI (k + 1))), (0, .ref (aa G 0 0))]) hx hb dX6_rowIsOfCells_48 hl (k := 1) rfl (nI_1 _) (by decide) rfl (fun ls hl => ?_)
          refine lv_goto (tgt := 2) hx hb dX6_rowIsOfCells_51 (by decide) ?_
          have hk : k < (σ 0 0 6).toNatClampNeg := (lp_lt hkN zc7)
          exact ih (k + 1) () (by omega) (by omega) (by rw [← hz]; exact (wl_go (t := 0) (r := 0) (by simp only [b_X6_rowIsOfCells_2, if_neg zc7, if_neg zc24, if_neg zc43])).symm)  _ _ _ w (lv_sub hl [1, 0] rfl)
        · -- 46
          refine lv_iconst (v := 0) hx hb dX6_rowIsOfCells_46 (by decide) ?_
          have hz1 : z = ((47, 0, ()) : Nat × Int32 × Unit) := by rw [← hz]; exact wl_out (by simp only [b_X6_rowIsOfCells_2, if_neg zc7, if_neg zc24, if_pos zc43])
          subst hz1
          exact kk47 rfl _ _ _ w (lv_sub hl [0] rfl)
set_option maxRecDepth 100000 in
set_option maxHeartbeats 4000000 in
theorem c_X6_rowIsOfCells {l : Launch} {G : GG} {σ : St}  (hrw : (σ 0 0 6).toNatClampNeg ≤ 28) : MM l G yX6_rowIsOfCells cX6_rowIsOfCells 2 1 21 (some .boolean) [.ref (aa G 0 0)] σ (Qi G (f_X6_rowIsOfCells σ) σ) := by
  refine MM.of (by decide) (Nat.le_of_ble_eq_true rfl) ?_
  intro p e s m below meth c ls X hr hlk w hl
  have hx := X.1.1
  have hb := X.1.2.1
  have hl : lv_has ls 2 [(0, .ref (aa G 0 0))] := hl
  refine lv_iconst (v := 0) hx hb dX6_rowIsOfCells_0 (by decide) ?_
  refine lv_istore_n (lv' := [(1, .int 0), (0, .ref (aa G 0 0))]) hx hb dX6_rowIsOfCells_1 rfl hl (by decide) rfl (fun ls hl => ?_)
  obtain ⟨zl2, ezl2⟩ : ∃ y : Nat × Int32 × Unit, y = (l_X6_rowIsOfCells_2 σ ()) := ⟨_, rfl⟩
  refine lp_X6_rowIsOfCells_2 X  (by assumption) zl2 (fun hz54 H locs ls w hl => ?_) (fun hz47 H locs ls w hl => ?_) (nn ((σ 0 0 6).toNatClampNeg + 1)) 0 () (Nat.zero_le _) (by rw [nn_eq]; exact Nat.lt_succ_of_le (Nat.sub_le _ _)) ezl2.symm  _ _ _ w (lv_sub hl [1, 0] rfl)
  · -- leaves at 54
    refine lv_iconst (v := 1) hx hb dX6_rowIsOfCells_54 (by decide) ?_
    exact t_z X w hr hlk isB1.n dX6_rowIsOfCells_55 (by replace ezl2 := ezl2.symm; subst ezl2; simp only [f_X6_rowIsOfCells, if_pos hz54]) rfl
  · -- leaves at 47
    have hn54 : ¬ zl2.1 = 54 := by rw [hz47]; decide
    exact t_z X w hr hlk isB0.n dX6_rowIsOfCells_47 (by replace ezl2 := ezl2.symm; subst ezl2; simp only [f_X6_rowIsOfCells, if_neg hn54]) rfl
