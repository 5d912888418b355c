noncomputable def b_X7_wall_31 (y1 : Int32) (k : Nat) (v : Int64 × Int32 × Gr) : Int64 × Int32 × Gr :=
  if (v.2.2 14 (nI k).toNatClampNeg) = 0 then
    let zs57 : Gr := up v.2.2 14 (nI k).toNatClampNeg 1
    let zs60 : Gr := g_X7_costOf zs57 y1
    let zv63 : Int64 := f_X7_costOf zs57 y1
    let zs72 : Gr := up zs60 14 (nI k).toNatClampNeg 0
    if 0 ≤ (lg_cmp zv63 v.1) then
      (v.1, v.2.1, zs72)
    else
      let zv82 : Int32 := nI k
      (zv63, zv82, zs72)
  else
    (v.1, v.2.1, v.2.2)
noncomputable def l_X7_wall_31 (y1 : Int32) (v0 : Int64 × Int32 × Gr) : Int64 × Int32 × Gr := itn (b_X7_wall_31 y1) (v0.2.2 0 8).toNatClampNeg v0
noncomputable def f_X7_wall (ρ : Gr) (x1 : Int32) : Int32 :=
  if 0 ≤ (f_X7_wrongTides ρ x1) then
    let zs20 : Gr := g_X7_costOf ρ x1
    let zv23 : Int64 := f_X7_costOf ρ x1
    let zl31 : Int64 × Int32 × Gr := (l_X7_wall_31 x1 (zv23, (-9), zs20))
    zl31.2.1
  else
    let zs14 : Gr := g_X7_refuse ρ (f_X7_wrongTides ρ x1)
    f_X7_refuse ρ (f_X7_wrongTides ρ x1)
noncomputable def g_X7_wall (ρ : Gr) (x1 : Int32) : Gr :=
  if 0 ≤ (f_X7_wrongTides ρ x1) then
    let zs20 : Gr := g_X7_costOf ρ x1
    let zv23 : Int64 := f_X7_costOf ρ x1
    let zl31 : Int64 × Int32 × Gr := (l_X7_wall_31 x1 (zv23, (-9), zs20))
    zl31.2.2
  else
    let zs14 : Gr := g_X7_refuse ρ (f_X7_wrongTides ρ x1)
    zs14
set_option maxRecDepth 100000 in
set_option maxHeartbeats 4000000 in
theorem lp_X7_wall_31 {l : Launch} {G : GG} {p : Program} {e : Env} {s : State} {m : MethodId} {args : Array Value} {below : List Frame} {meth : Method} {c : Code} {Q : State → Prop} {σ : St} (X : Cx p m c cX7_wall 8 s args RX7 G) (y1 : Int32) (v0 : Int64 × Int32 × Gr) (B : Nat) (hB : B < 2 ^ 30) (hN : y1.toNatClampNeg ≤ 200) (hw0 : (v0.2.2 0 8).toNatClampNeg ≤ 24)
    (kk : ∀ (H : Heap) (locs : List Loc) (ls : Array Slot), Wh G s σ 4 ((l_X7_wall_31 y1 v0).2.2) H locs → lv_has ls 8 [(0, .ref (aa G 4 0)), (1, .int y1), (2, .long ((l_X7_wall_31 y1 v0).1)), (4, .int ((l_X7_wall_31 y1 v0).2.1)), (5, .int (nI ((v0.2.2 0 8).toNatClampNeg)))] → W p l e (rmv 7 153) s m args below meth c H locs 0 0 Q (F0 m 93 ls [])) :
    ∀ (n k : Nat) (v : Int64 × Int32 × Gr), k ≤ (v0.2.2 0 8).toNatClampNeg → (v0.2.2 0 8).toNatClampNeg - k < n → v = itn (b_X7_wall_31 y1) k v0 → (WFm B v.2.2) → (v.2.2 0 8 = v0.2.2 0 8) → ∀ (H : Heap) (locs : List Loc) (ls : Array Slot), Wh G s σ 4 v.2.2 H locs → lv_has ls 8 [(0, .ref (aa G 4 0)), (1, .int y1), (2, .long v.1), (4, .int v.2.1), (5, .int (nI k))] → W p l e (rmv 7 153) s m args below meth c H locs 0 0 Q (F0 m 31 ls []) := by
  have hx := X.1.1
  have hb := X.1.2.1
  intro n
  induction n with
  | zero => intro k v _ h; omega
  | succ n ih =>
    intro k v hkN hn ev hm h8 H locs ls w hl
    refine lv_iload hx hb dX7_wall_31 (lv_at hl 4 rfl) ?_
    refine lv_aload_n hx hb dX7_wall_33 rfl (lv_at hl 0 rfl) ?_
    refine gf7_132 X w dX7_wall_34 ?_
    refine lv_icmp_ge (tgt := 93) hx hb dX7_wall_37 (by decide) (fun zc37 => ?_) (fun zc37 => ?_)
    · -- 93
      have hkE : k = (v0.2.2 0 8).toNatClampNeg := lp_eq hkN (by rw [← h8]; exact zc37)
      have ev2 : l_X7_wall_31 y1 v0 = v := by unfold l_X7_wall_31; rw [← hkE]; exact ev.symm
      rw [ev2] at kk
      rw [hkE] at hl
      exact kk _ _ _ w (lv_sub hl [0, 1, 2, 3, 4] rfl)
    · -- 40
      have hk : k < (v0.2.2 0 8).toNatClampNeg := lp_lt hkN (by rw [← h8]; exact zc37)
      refine lv_aload_n hx hb dX7_wall_40 rfl (lv_at hl 0 rfl) ?_
      refine gf7_46 X w dX7_wall_41 ?_
      refine lv_iload hx hb dX7_wall_44 (lv_at hl 4 rfl) ?_
      refine r_za (f := 14) (n := 24) X w m4_14 rfl (vp_in_nI (by omega) (by decide)) dX7_wall_46 ?_
      refine lv_if_ne (tgt := 87) hx hb dX7_wall_47 (by decide) (fun zc47 => ?_) (fun zc47 => ?_)
      · -- 87
        refine lv_iinc (v := nI (k + 1)) (lv' := [(5, .int (nI (k + 1))), (0, .ref (aa G 4 0)), (1, .int y1), (2, .long v.1), (4, .int v.2.1)]) hx hb dX7_wall_87 hl (k := 4) rfl (nI_1 _) (by decide) rfl (fun ls hl => ?_)
        refine lv_goto (tgt := 31) hx hb dX7_wall_90 (by decide) ?_
        exact ih (k + 1) (v.1, v.2.1, v.2.2) (by omega) (by omega) (by simp only [itn, ← ev, b_X7_wall_31, if_neg zc47]) hm (by first | exact h8 | exact ((costOf_Sv _ _).2.2 8 (by decide) (by decide) (by decide) (by decide) (by decide)).trans h8) _ _ _ w (lv_sub hl [1, 2, 3, 4, 0] rfl)
      · -- 50
        refine lv_aload_n hx hb dX7_wall_50 rfl (lv_at hl 0 rfl) ?_
        refine gf7_46 X w dX7_wall_51 ?_
        refine lv_iload hx hb dX7_wall_54 (lv_at hl 4 rfl) ?_
        refine lv_iconst (v := 1) hx hb dX7_wall_56 (by decide) ?_
        refine zS (f := 14) (n := 24) X w m4_14 rfl (vp_in_nI (by omega) (by decide)) isB1 dX7_wall_57 (fun zs57 H locs ezs57 w => ?_)
        have hm : WFm B zs57 := by rw [ezs57]; exact hm
        refine lv_aload_n hx hb dX7_wall_58 rfl (lv_at hl 0 rfl) ?_
        refine lv_iload_n hx hb dX7_wall_59 rfl (lv_at hl 1 rfl) ?_
        refine k_l (rr_v (rest := []) X w mX7_costOf kw1008 (c_X7_costOf y1 B hB hm hN) m4_0 rfl rfl ⟨Nat.le_of_ble_eq_true rfl, Nat.le_of_ble_eq_true rfl⟩ rfl hl.1 rfl (Nat.le_of_ble_eq_true rfl) dX7_wall_60 ⟨Nat.zero_le _, Nat.zero_le _⟩) w (fun H locs w => ?_)
        obtain ⟨zs60, ezs60⟩ : ∃ y : Gr, y = g_X7_costOf zs57 y1 := ⟨_, rfl⟩; rw [← ezs60] at w
        have hm : WFm B zs60 := by rw [ezs60]; exact (costOf_Sv _ _).wf hm
        refine lv_topl (fun zv63 ezv63 => ?_)
        refine lv_lstore (lv' := [(6, .long zv63), (0, .ref (aa G 4 0)), (1, .int y1), (2, .long v.1), (4, .int v.2.1), (5, .int (nI k))]) hx hb dX7_wall_63 hl (by decide) rfl (fun ls hl => ?_)
        refine lv_aload_n hx hb dX7_wall_65 rfl (lv_at hl 1 rfl) ?_
        refine gf7_46 X w dX7_wall_66 ?_
        change W _ _ _ _ _ _ _ _ _ _ _ _ _ _ _ (F0 m 69 ls _)
        refine lv_iload hx hb dX7_wall_69 (lv_at hl 5 rfl) ?_
        refine lv_iconst (v := 0) hx hb dX7_wall_71 (by decide) ?_
        refine zS (f := 14) (n := 24) X w m4_14 rfl (vp_in_nI (by omega) (by decide)) isB0 dX7_wall_72 (fun zs72 H locs ezs72 w => ?_)
        have hm : WFm B zs72 := by rw [ezs72]; exact hm
        refine lv_lload hx hb dX7_wall_73 (lv_at hl 0 rfl) ?_
        refine lv_lload_n hx hb dX7_wall_75 rfl (lv_at hl 3 rfl) ?_
        refine W.lcmp hx hb dX7_wall_76 ?_
        refine lv_if_ge (tgt := 87) hx hb dX7_wall_77 (by decide) (fun zc77 => ?_) (fun zc77 => ?_)
        · -- 87
          refine lv_iinc (v := nI (k + 1)) (lv' := [(5, .int (nI (k + 1))), (6, .long zv63), (0, .ref (aa G 4 0)), (1, .int y1), (2, .long v.1), (4, .int v.2.1)]) hx hb dX7_wall_87 hl (k := 5) rfl (nI_1 _) (by decide) rfl (fun ls hl => ?_)
          refine lv_goto (tgt := 31) hx hb dX7_wall_90 (by decide) ?_
          exact ih (k + 1) (v.1, v.2.1, zs72) (by omega) (by omega) (by replace ezs72 := ezs72.symm; subst ezs72; replace ezv63 := ezv63.symm; subst ezv63; replace ezs60 := ezs60.symm; subst ezs60; replace ezs57 := ezs57.symm; subst ezs57; simp only [itn, ← ev, b_X7_wall_31, if_pos zc47, if_pos zc77]) hm (by replace ezs72 := ezs72.symm; subst ezs72; replace ezv63 := ezv63.symm; subst ezv63; replace ezs60 := ezs60.symm; subst ezs60; replace ezs57 := ezs57.symm; subst ezs57; first | exact h8 | exact ((costOf_Sv _ _).2.2 8 (by decide) (by decide) (by decide) (by decide) (by decide)).trans h8) _ _ _ w (lv_sub hl [2, 3, 4, 5, 0] rfl)
        · -- 80
          refine lv_iload hx hb dX7_wall_80 (lv_at hl 5 rfl) ?_
          refine lv_topi (fun zv82 ezv82 => ?_)
          refine lv_istore (lv' := [(4, .int zv82), (6, .long zv63), (0, .ref (aa G 4 0)), (1, .int y1), (2, .long v.1), (5, .int (nI k))]) hx hb dX7_wall_82 hl (by decide) rfl (fun ls hl => ?_)
          refine lv_lload hx hb dX7_wall_84 (lv_at hl 1 rfl) ?_
          refine lv_lstore_n (lv' := [(2, .long zv63), (4, .int zv82), (6, .long zv63), (0, .ref (aa G 4 0)), (1, .int y1), (5, .int (nI k))]) hx hb dX7_wall_86 rfl hl (by decide) rfl (fun ls hl => ?_)
          refine lv_iinc (v := nI (k + 1)) (lv' := [(5, .int (nI (k + 1))), (2, .long zv63), (4, .int zv82), (6, .long zv63), (0, .ref (aa G 4 0)), (1, .int y1)]) hx hb dX7_wall_87 hl (k := 5) rfl (nI_1 _) (by decide) rfl (fun ls hl => ?_)
          refine lv_goto (tgt := 31) hx hb dX7_wall_90 (by decide) ?_
          exact ih (k + 1) (zv63, zv82, zs72) (by omega) (by omega) (by replace ezv82 := ezv82.symm; subst ezv82; replace ezs72 := ezs72.symm; subst ezs72; replace ezv63 := ezv63.symm; subst ezv63; replace ezs60 := ezs60.symm; subst ezs60; replace ezs57 := ezs57.symm; subst ezs57; simp only [itn, ← ev, b_X7_wall_31, if_pos zc47, if_neg zc77]) hm (by replace ezv82 := ezv82.symm; subst ezv82; replace ezs72 := ezs72.symm; subst ezs72; replace ezv63 := ezv63.symm; subst ezv63; replace ezs60 := ezs60.symm; subst ezs60; replace ezs57 := ezs57.symm; subst ezs57; first | exact h8 | exact ((costOf_Sv _ _).2.2 8 (by decide) (by decide) (by decide) (by decide) (by decide)).trans h8) _ _ _ w (lv_sub hl [4, 5, 1, 2, 0] rfl)
set_option maxRecDepth 100000 in
set_option maxHeartbeats 4000000 in
theorem c_X7_wall {l : Launch} {G : GG} {σ : St} {ρ : Gr}  (x1 : Int32) (B : Nat) (hB : B < 2 ^ 30) (hm : WFm B ρ) : MM l G yX7_wall cX7_wall 8 7 153 (some .int) [.ref (aa G 4 0), .int x1] (setG σ 4 ρ) (Qi G (f_X7_wall ρ x1) (setG σ 4 (g_X7_wall ρ x1))) := by
  refine MM.of (by decide) (Nat.le_of_ble_eq_true rfl) ?_
  intro p e s m below meth c ls X hr hlk w hl
  have hx := X.1.1
  have hb := X.1.2.1
  have hl : lv_has ls 8 [(0, .ref (aa G 4 0)), (1, .int x1)] := hl
  refine lv_aload_n hx hb dX7_wall_0 rfl (lv_at hl 0 rfl) ?_
  refine lv_iload_n hx hb dX7_wall_1 rfl (lv_at hl 1 rfl) ?_
  refine k_i (rr_v (rest := []) X w mX7_wrongTides kw986 (c_X7_wrongTides x1) m4_0 rfl rfl ⟨Nat.le_of_ble_eq_true rfl, Nat.le_of_ble_eq_true rfl⟩ rfl hl.1 rfl (Nat.le_of_ble_eq_true rfl) dX7_wall_2 ⟨Nat.zero_le _, Nat.zero_le _⟩) w (fun H locs w => ?_)
  refine lv_if_ge (tgt := 18) hx hb dX7_wall_5 (by decide) (fun zc5 => ?_) (fun zc5 => ?_)
  · -- 18
    refine lv_aload_n hx hb dX7_wall_18 rfl (lv_at hl 0 rfl) ?_
    refine lv_iload_n hx hb dX7_wall_19 rfl (lv_at hl 1 rfl) ?_
    refine k_l (rr_v (rest := []) X w mX7_costOf kw1008 (c_X7_costOf x1 B hB hm (wt_200 zc5)) m4_0 rfl rfl ⟨Nat.le_of_ble_eq_true rfl, Nat.le_of_ble_eq_true rfl⟩ rfl hl.1 rfl (Nat.le_of_ble_eq_true rfl) dX7_wall_20 ⟨Nat.zero_le _, Nat.zero_le _⟩) w (fun H locs w => ?_)
    obtain ⟨zs20, ezs20⟩ : ∃ y : Gr, y = g_X7_costOf ρ x1 := ⟨_, rfl⟩; rw [← ezs20] at w
    have hm : WFm B zs20 := by rw [ezs20]; exact (costOf_Sv _ _).wf hm
    refine lv_topl (fun zv23 ezv23 => ?_)
    refine lv_lstore_n (lv' := [(2, .long zv23), (0, .ref (aa G 4 0)), (1, .int x1)]) hx hb dX7_wall_23 rfl hl (by decide) rfl (fun ls hl => ?_)
    refine lv_bipush (v := (-9)) hx hb dX7_wall_24 (by decide) ?_
    refine lv_istore (lv' := [(4, .int (-9)), (2, .long zv23), (0, .ref (aa G 4 0)), (1, .int x1)]) hx hb dX7_wall_26 hl (by decide) rfl (fun ls hl => ?_)
    refine lv_iconst (v := 0) hx hb dX7_wall_28 (by decide) ?_
    refine lv_istore (lv' := [(5, .int 0), (4, .int (-9)), (2, .long zv23), (0, .ref (aa G 4 0)), (1, .int x1)]) hx hb dX7_wall_29 hl (by decide) rfl (fun ls hl => ?_)
    refine lp_X7_wall_31 X x1 (zv23, (-9), zs20) B hB (wt_200 zc5) hm.w (fun H locs ls w hl => ?_) ((zs20 0 8).toNatClampNeg + 1) 0 _ (Nat.zero_le _) (Nat.lt_succ_of_le (Nat.sub_le _ _)) rfl hm rfl _ _ _ w (lv_sub hl [3, 4, 2, 1, 0] rfl)
    obtain ⟨zl31, ezl31⟩ : ∃ y : Int64 × Int32 × Gr, y = (l_X7_wall_31 x1 (zv23, (-9), zs20)) := ⟨_, rfl⟩
    rw [← ezl31] at w hl
    refine lv_iload hx hb dX7_wall_93 (lv_at hl 3 rfl) ?_
    exact t_i X w hr hlk dX7_wall_95 (by replace ezl31 := ezl31.symm; subst ezl31; replace ezv23 := ezv23.symm; subst ezv23; replace ezs20 := ezs20.symm; subst ezs20; simp only [f_X7_wall, if_pos zc5]) (by replace ezl31 := ezl31.symm; subst ezl31; replace ezv23 := ezv23.symm; subst ezv23; replace ezs20 := ezs20.symm; subst ezs20; simp only [g_X7_wall, if_pos zc5])
  · -- 8
    refine lv_aload_n hx hb dX7_wall_8 rfl (lv_at hl 0 rfl) ?_
    refine lv_aload_n hx hb dX7_wall_9 rfl (lv_at hl 0 rfl) ?_
    refine lv_iload_n hx hb dX7_wall_10 rfl (lv_at hl 1 rfl) ?_
    refine k_i (rr_v (rest := [.ref (aa G 4 0)]) X w mX7_wrongTides kw986 (c_X7_wrongTides x1) m4_0 rfl rfl ⟨Nat.le_of_ble_eq_true rfl, Nat.le_of_ble_eq_true rfl⟩ rfl hl.1 rfl (Nat.le_of_ble_eq_true rfl) dX7_wall_11 ⟨Nat.zero_le _, Nat.zero_le _⟩) w (fun H locs w => ?_)
    refine k_i (rr_v (rest := []) X w mX7_refuse kw872 (c_X7_refuse (f_X7_wrongTides ρ x1) (wt_in zc5)) m4_0 rfl rfl ⟨Nat.le_of_ble_eq_true rfl, Nat.le_of_ble_eq_true rfl⟩ rfl hl.1 rfl (Nat.le_of_ble_eq_true rfl) dX7_wall_14 ⟨Nat.zero_le _, Nat.zero_le _⟩) w (fun H locs w => ?_)
    obtain ⟨zs14, ezs14⟩ : ∃ y : Gr, y = g_X7_refuse ρ (f_X7_wrongTides ρ x1) := ⟨_, rfl⟩; rw [← ezs14] at w
    exact t_i X w hr hlk dX7_wall_17 (by replace ezs14 := ezs14.symm; subst ezs14; simp only [f_X7_wall, if_neg zc5]) (by replace ezs14 := ezs14.symm; subst ezs14; simp only [g_X7_wall, if_neg zc5])
