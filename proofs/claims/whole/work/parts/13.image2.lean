theorem cnt7 {x : Int32} (c : ¬ f_X7_in x.toInt64 11 16 = 0) : vp_in (x - 10) 7 := by
  have c' : ¬ f_X7_in x.toInt64 (11 : Int32).toInt64 (16 : Int32).toInt64 = 0 := c
  obtain ⟨a, b⟩ := in_ii.mp c'
  exact cnt_in (Int32.not_lt.mpr a) b
noncomputable def f_X7_image (ρ : Gr)  : Int32 :=
  let zs2 : Gr := up ρ 0 51 1
  let zs7 : Gr := up zs2 0 54 1
  let zs11 : Gr := g_X7_carryAll zs7
  zs11 0 0
noncomputable def g_X7_image (ρ : Gr)  : Gr :=
  let zs2 : Gr := up ρ 0 51 1
  let zs7 : Gr := up zs2 0 54 1
  let zs11 : Gr := g_X7_carryAll zs7
  zs11
set_option maxRecDepth 100000 in
set_option maxHeartbeats 4000000 in
theorem c_X7_image {l : Launch} {G : GG} {σ : St} {ρ : Gr}   : MM l G yX7_image cX7_image 1 2 42 (some .int) [.ref (aa G 4 0)] (setG σ 4 ρ) (Qi G (f_X7_image ρ) (setG σ 4 (g_X7_image ρ))) := by
  refine MM.of (by decide) (Nat.le_of_ble_eq_true rfl) ?_
  intro p e s m below meth c ls X hr hlk w hl
  have hx := X.1.1
  have hb := X.1.2.1
  have hl : lv_has ls 1 [(0, .ref (aa G 4 0))] := hl
  refine lv_aload_n hx hb dX7_image_0 rfl (lv_at hl 0 rfl) ?_
  refine lv_iconst (v := 1) hx hb dX7_image_1 (by decide) ?_
  refine pf7_320 X w isB1 dX7_image_2 (fun zs2 H locs ezs2 w => ?_)
  refine lv_aload_n hx hb dX7_image_5 rfl (lv_at hl 0 rfl) ?_
  refine lv_iconst (v := 1) hx hb dX7_image_6 (by decide) ?_
  refine pf7_311 X w isB1 dX7_image_7 (fun zs7 H locs ezs7 w => ?_)
  refine lv_aload_n hx hb dX7_image_10 rfl (lv_at hl 0 rfl) ?_
  refine k_v (rr_v (rest := []) X w mX7_carryAll kw1126 (c_X7_carryAll ) m4_0 rfl rfl ⟨Nat.le_of_ble_eq_true rfl, Nat.le_of_ble_eq_true rfl⟩ rfl hl.1 rfl (Nat.le_of_ble_eq_true rfl) dX7_image_11 ⟨Nat.zero_le _, Nat.zero_le _⟩) w (fun H locs w => ?_)
  obtain ⟨zs11, ezs11⟩ : ∃ y : Gr, y = g_X7_carryAll zs7 := ⟨_, rfl⟩; rw [← ezs11] at w
  refine lv_aload_n hx hb dX7_image_14 rfl (lv_at hl 0 rfl) ?_
  refine gf7_111 X w dX7_image_15 ?_
  exact t_i X w hr hlk dX7_image_18 (by replace ezs11 := ezs11.symm; subst ezs11; replace ezs7 := ezs7.symm; subst ezs7; replace ezs2 := ezs2.symm; subst ezs2; simp only [f_X7_image]) (by replace ezs11 := ezs11.symm; subst ezs11; replace ezs7 := ezs7.symm; subst ezs7; replace ezs2 := ezs2.symm; subst ezs2; simp only [g_X7_image])

noncomputable def f_X7_restore (ρ : Gr)  : Int32 :=
  if (ρ 0 51) = 0 then
    let zs10 : Gr := g_X7_refuse ρ (-3)
    f_X7_refuse ρ (-3)
  else
    let zs16 : Gr := up ρ 0 54 0
    let zs20 : Gr := g_X7_carryAll zs16
    zs20 0 0
noncomputable def g_X7_restore (ρ : Gr)  : Gr :=
  if (ρ 0 51) = 0 then
    let zs10 : Gr := g_X7_refuse ρ (-3)
    zs10
  else
    let zs16 : Gr := up ρ 0 54 0
    let zs20 : Gr := g_X7_carryAll zs16
    zs20
set_option maxRecDepth 100000 in
set_option maxHeartbeats 4000000 in
theorem c_X7_restore {l : Launch} {G : GG} {σ : St} {ρ : Gr}   : MM l G yX7_restore cX7_restore 1 2 42 (some .int) [.ref (aa G 4 0)] (setG σ 4 ρ) (Qi G (f_X7_restore ρ) (setG σ 4 (g_X7_restore ρ))) := by
  refine MM.of (by decide) (Nat.le_of_ble_eq_true rfl) ?_
  intro p e s m below meth c ls X hr hlk w hl
  have hx := X.1.1
  have hb := X.1.2.1
  have hl : lv_has ls 1 [(0, .ref (aa G 4 0))] := hl
  refine lv_aload_n hx hb dX7_restore_0 rfl (lv_at hl 0 rfl) ?_
  refine gf7_320 X w dX7_restore_1 ?_
  refine lv_if_ne (tgt := 14) hx hb dX7_restore_4 (by decide) (fun zc4 => ?_) (fun zc4 => ?_)
  · -- 14
    refine lv_aload_n hx hb dX7_restore_14 rfl (lv_at hl 0 rfl) ?_
    refine lv_iconst (v := 0) hx hb dX7_restore_15 (by decide) ?_
    refine pf7_311 X w isB0 dX7_restore_16 (fun zs16 H locs ezs16 w => ?_)
    refine lv_aload_n hx hb dX7_restore_19 rfl (lv_at hl 0 rfl) ?_
    refine k_v (rr_v (rest := []) X w mX7_carryAll kw1126 (c_X7_carryAll ) m4_0 rfl rfl ⟨Nat.le_of_ble_eq_true rfl, Nat.le_of_ble_eq_true rfl⟩ rfl hl.1 rfl (Nat.le_of_ble_eq_true rfl) dX7_restore_20 ⟨Nat.zero_le _, Nat.zero_le _⟩) w (fun H locs w => ?_)
    obtain ⟨zs20, ezs20⟩ : ∃ y : Gr, y = g_X7_carryAll zs16 := ⟨_, rfl⟩; rw [← ezs20] at w
    refine lv_aload_n hx hb dX7_restore_23 rfl (lv_at hl 0 rfl) ?_
    refine gf7_111 X w dX7_restore_24 ?_
    exact t_i X w hr hlk dX7_restore_27 (by replace ezs20 := ezs20.symm; subst ezs20; replace ezs16 := ezs16.symm; subst ezs16; simp only [f_X7_restore, if_neg zc4]) (by replace ezs20 := ezs20.symm; subst ezs20; replace ezs16 := ezs16.symm; subst ezs16; simp only [g_X7_restore, if_neg zc4])
  · -- 7
    refine lv_aload_n hx hb dX7_restore_7 rfl (lv_at hl 0 rfl) ?_
    refine lv_bipush (v := (-3)) hx hb dX7_restore_8 (by decide) ?_
    refine k_i (rr_v (rest := []) X w mX7_refuse kw872 (c_X7_refuse (-3) (vin_lit (by decide +kernel))) m4_0 rfl rfl ⟨Nat.le_of_ble_eq_true rfl, Nat.le_of_ble_eq_true rfl⟩ rfl hl.1 rfl (Nat.le_of_ble_eq_true rfl) dX7_restore_10 ⟨Nat.zero_le _, Nat.zero_le _⟩) w (fun H locs w => ?_)
    obtain ⟨zs10, ezs10⟩ : ∃ y : Gr, y = g_X7_refuse ρ (-3) := ⟨_, rfl⟩; rw [← ezs10] at w
    exact t_i X w hr hlk dX7_restore_13 (by replace ezs10 := ezs10.symm; subst ezs10; simp only [f_X7_restore, if_pos zc4]) (by replace ezs10 := ezs10.symm; subst ezs10; simp only [g_X7_restore, if_pos zc4])

noncomputable def b_X7_count_80 (ρ : Gr) (y1 : Int32) (k : Nat) (v : Int32) : Int32 :=
  let zv105 : Int32 := v + ((ρ 6 (nI k).toNatClampNeg) + (ρ 7 (nI k).toNatClampNeg))
  zv105
noncomputable def l_X7_count_80 (ρ : Gr) (y1 : Int32) (v0 : Int32) : Int32 := itn (b_X7_count_80 ρ y1) (2 * (ρ 0 0)).toNatClampNeg v0
noncomputable def f_X7_count (ρ : Gr) (x1 : Int32) : Int32 :=
  if x1 = 0 then
    ρ 0 0
  else
    if x1 = 1 then
      ρ 0 8
    else
      if x1 = 2 then
        ρ 0 15
      else
        if x1 = 3 then
          ρ 0 21
        else
          if x1 = 4 then
            let zl80 : Int32 := (l_X7_count_80 ρ x1 0)
            zl80
          else
            if x1 = 5 then
              ρ 0 22
            else
              if x1 = 6 then
                ρ 0 23
              else
                if x1 = 7 then
                  ρ 0 30
                else
                  if x1 = 8 then
                    ρ 0 32
                  else
                    if x1 = 9 then
                      ρ 0 20
                    else
                      if (f_X7_in x1.toInt64 11 16) = 0 then
                        (-9)
                      else
                        ρ 33 (x1 - 10).toNatClampNeg
set_option maxRecDepth 100000 in
set_option maxHeartbeats 4000000 in
theorem lp_X7_count_80 {l : Launch} {G : GG} {p : Program} {e : Env} {s : State} {m : MethodId} {args : Array Value} {below : List Frame} {meth : Method} {c : Code} {Q : State → Prop} {σ : St} {ρ : Gr} (X : Cx p m c cX7_count 4 s args RX7 G) (y1 : Int32) (v0 : Int32) (h16 : (2 * (ρ 0 0)).toNatClampNeg ≤ 16)
    (kk : ∀ (H : Heap) (locs : List Loc) (ls : Array Slot), Wh G s σ 4 ρ H locs → lv_has ls 4 [(0, .ref (aa G 4 0)), (1, .int y1), (2, .int (l_X7_count_80 ρ y1 v0)), (3, .int (nI ((2 * (ρ 0 0)).toNatClampNeg)))] → W p l e (rmv 1 25) s m args below meth c H locs 0 0 Q (F0 m 112 ls [])) :
    ∀ (n k : Nat) (v : Int32), k ≤ (2 * (ρ 0 0)).toNatClampNeg → (2 * (ρ 0 0)).toNatClampNeg - k < n → v = itn (b_X7_count_80 ρ y1) k v0 → ∀ (H : Heap) (locs : List Loc) (ls : Array Slot), Wh G s σ 4 ρ H locs → lv_has ls 4 [(0, .ref (aa G 4 0)), (1, .int y1), (2, .int v), (3, .int (nI k))] → W p l e (rmv 1 25) s m args below meth c H locs 0 0 Q (F0 m 80 ls []) := by
  have hx := X.1.1
  have hb := X.1.2.1
  intro n
  induction n with
  | zero => intro k v _ h; omega
  | succ n ih =>
    intro k v hkN hn ev H locs ls w hl
    refine lv_iload_n hx hb dX7_count_80 rfl (lv_at hl 3 rfl) ?_
    refine lv_iconst (v := 2) hx hb dX7_count_81 (by decide) ?_
    refine lv_aload_n hx hb dX7_count_82 rfl (lv_at hl 0 rfl) ?_
    refine gf7_111 X w dX7_count_83 ?_
    refine lv_imul hx hb dX7_count_86 ?_
    refine lv_icmp_ge (tgt := 112) hx hb dX7_count_87 (by decide) (fun zc87 => ?_) (fun zc87 => ?_)
    · -- 112
      have hkE : k = (2 * (ρ 0 0)).toNatClampNeg := lp_eq hkN zc87
      have ev2 : l_X7_count_80 ρ y1 v0 = v := by unfold l_X7_count_80; rw [← hkE]; exact ev.symm
      rw [ev2] at kk
      rw [hkE] at hl
      exact kk _ _ _ w (lv_sub hl [0, 1, 2, 3] rfl)
    · -- 90
      have hk : k < (2 * (ρ 0 0)).toNatClampNeg := lp_lt hkN zc87
      refine lv_iload_n hx hb dX7_count_90 rfl (lv_at hl 2 rfl) ?_
      refine lv_aload_n hx hb dX7_count_91 rfl (lv_at hl 0 rfl) ?_
      refine gf7_25 X w dX7_count_92 ?_
      refine lv_iload_n hx hb dX7_count_95 rfl (lv_at hl 3 rfl) ?_
      refine ia (f := 6) (n := 16) X w m4_6 rfl (vp_in_nI (by omega) (by decide)) dX7_count_96 ?_
      refine lv_aload_n hx hb dX7_count_97 rfl (lv_at hl 0 rfl) ?_
      refine gf7_28 X w dX7_count_98 ?_
      refine lv_iload_n hx hb dX7_count_101 rfl (lv_at hl 3 rfl) ?_
      refine ia (f := 7) (n := 16) X w m4_7 rfl (vp_in_nI (by omega) (by decide)) dX7_count_102 ?_
      refine lv_iadd hx hb dX7_count_103 ?_
      refine lv_iadd hx hb dX7_count_104 ?_
      change W _ _ _ _ _ _ _ _ _ _ _ _ _ _ _ (F0 m 105 ls _)
      refine lv_topi (fun zv105 ezv105 => ?_)
      refine lv_istore_n (lv' := [(2, .int zv105), (0, .ref (aa G 4 0)), (1, .int y1), (3, .int (nI k))]) hx hb dX7_count_105 rfl hl (by decide) rfl (fun ls hl => ?_)
      refine lv_iinc (v := nI (k + 1)) (lv' := [(3, .int (nI (k + 1))), (2, .int zv105), (0, .ref (aa G 4 0)), (1, .int y1)]) hx hb dX7_count_106 hl (k := 3) rfl (nI_1 _) (by decide) rfl (fun ls hl => ?_)
      refine lv_goto (tgt := 80) hx hb dX7_count_109 (by decide) ?_
      exact ih (k + 1) zv105 (by omega) (by omega) (by replace ezv105 := ezv105.symm; subst ezv105; simp only [itn, ← ev, b_X7_count_80])  _ _ _ w (lv_sub hl [2, 3, 1, 0] rfl)
set_option maxRecDepth 100000 in
set_option maxHeartbeats 4000000 in
theorem c_X7_count {l : Launch} {G : GG} {σ : St} {ρ : Gr}  (x1 : Int32) (B : Nat) (hB : B < 2 ^ 30) (hm : WFm B ρ) : MM l G yX7_count cX7_count 4 1 25 (some .int) [.ref (aa G 4 0), .int x1] (setG σ 4 ρ) (Qi G (f_X7_count ρ x1) (setG σ 4 ρ)) := by
  refine MM.of (by decide) (Nat.le_of_ble_eq_true rfl) ?_
  intro p e s m below meth c ls X hr hlk w hl
  have hx := X.1.1
  have hb := X.1.2.1
  have hl : lv_has ls 4 [(0, .ref (aa G 4 0)), (1, .int x1)] := hl
  refine lv_iload_n hx hb dX7_count_0 rfl (lv_at hl 1 rfl) ?_
  by_cases zc1_0 : x1 = 0
  · -- case 0
    refine lv_tableIn (off := 55) (tgt := 56) hx hb dX7_count_1 (by rw [zc1_0]; decide) (by rw [zc1_0]; decide) (by rw [zc1_0]; rfl) (by decide) ?_
    refine lv_aload_n hx hb dX7_count_56 rfl (lv_at hl 0 rfl) ?_
    refine gf7_111 X w dX7_count_57 ?_
    exact t_i X w hr hlk dX7_count_60 (by simp only [f_X7_count, if_pos zc1_0]) rfl
  · -- not 0
    by_cases zc1_1 : x1 = 1
    · -- case 1
      refine lv_tableIn (off := 60) (tgt := 61) hx hb dX7_count_1 (by rw [zc1_1]; decide) (by rw [zc1_1]; decide) (by rw [zc1_1]; rfl) (by decide) ?_
      refine lv_aload_n hx hb dX7_count_61 rfl (lv_at hl 0 rfl) ?_
      refine gf7_132 X w dX7_count_62 ?_
      exact t_i X w hr hlk dX7_count_65 (by simp only [f_X7_count, if_neg zc1_0, if_pos zc1_1]) rfl
    · -- not 1
      by_cases zc1_2 : x1 = 2
      · -- case 2
        refine lv_tableIn (off := 65) (tgt := 66) hx hb dX7_count_1 (by rw [zc1_2]; decide) (by rw [zc1_2]; decide) (by rw [zc1_2]; rfl) (by decide) ?_
        refine lv_aload_n hx hb dX7_count_66 rfl (lv_at hl 0 rfl) ?_
        refine gf7_147 X w dX7_count_67 ?_
        exact t_i X w hr hlk dX7_count_70 (by simp only [f_X7_count, if_neg zc1_0, if_neg zc1_1, if_pos zc1_2]) rfl
      · -- not 2
        by_cases zc1_3 : x1 = 3
        · -- case 3
          refine lv_tableIn (off := 70) (tgt := 71) hx hb dX7_count_1 (by rw [zc1_3]; decide) (by rw [zc1_3]; decide) (by rw [zc1_3]; rfl) (by decide) ?_
          refine lv_aload_n hx hb dX7_count_71 rfl (lv_at hl 0 rfl) ?_
          refine gf7_186 X w dX7_count_72 ?_
          exact t_i X w hr hlk dX7_count_75 (by simp only [f_X7_count, if_neg zc1_0, if_neg zc1_1, if_neg zc1_2, if_pos zc1_3]) rfl
        · -- not 3
          by_cases zc1_4 : x1 = 4
          · -- case 4
            refine lv_tableIn (off := 75) (tgt := 76) hx hb dX7_count_1 (by rw [zc1_4]; decide) (by rw [zc1_4]; decide) (by rw [zc1_4]; rfl) (by decide) ?_
            refine lv_iconst (v := 0) hx hb dX7_count_76 (by decide) ?_
            refine lv_istore_n (lv' := [(2, .int 0), (0, .ref (aa G 4 0)), (1, .int x1)]) hx hb dX7_count_77 rfl hl (by decide) rfl (fun ls hl => ?_)
            refine lv_iconst (v := 0) hx hb dX7_count_78 (by decide) ?_
            refine lv_istore_n (lv' := [(3, .int 0), (2, .int 0), (0, .ref (aa G 4 0)), (1, .int x1)]) hx hb dX7_count_79 rfl hl (by decide) rfl (fun ls hl => ?_)
            refine lp_X7_count_80 X x1 0 hm.n2 (fun H locs ls w hl => ?_) ((2 * (ρ 0 0)).toNatClampNeg + 1) 0 _ (Nat.zero_le _) (Nat.lt_succ_of_le (Nat.sub_le _ _)) rfl  _ _ _ w (lv_sub hl [2, 3, 1, 0] rfl)
            obtain ⟨zl80, ezl80⟩ : ∃ y : Int32, y = (l_X7_count_80 ρ x1 0) := ⟨_, rfl⟩
            rw [← ezl80] at hl
            refine lv_iload_n hx hb dX7_count_112 rfl (lv_at hl 2 rfl) ?_
            exact t_i X w hr hlk dX7_count_113 (by replace ezl80 := ezl80.symm; subst ezl80; simp only [f_X7_count, if_neg zc1_0, if_neg zc1_1, if_neg zc1_2, if_neg zc1_3, if_pos zc1_4]) rfl
          · -- not 4
            by_cases zc1_5 : x1 = 5
            · -- case 5
              refine lv_tableIn (off := 113) (tgt := 114) hx hb dX7_count_1 (by rw [zc1_5]; decide) (by rw [zc1_5]; decide) (by rw [zc1_5]; rfl) (by decide) ?_
              refine lv_aload_n hx hb dX7_count_114 rfl (lv_at hl 0 rfl) ?_
              refine gf7_194 X w dX7_count_115 ?_
              exact t_i X w hr hlk dX7_count_118 (by simp only [f_X7_count, if_neg zc1_0, if_neg zc1_1, if_neg zc1_2, if_neg zc1_3, if_neg zc1_4, if_pos zc1_5]) rfl
            · -- not 5
              by_cases zc1_6 : x1 = 6
              · -- case 6
                refine lv_tableIn (off := 118) (tgt := 119) hx hb dX7_count_1 (by rw [zc1_6]; decide) (by rw [zc1_6]; decide) (by rw [zc1_6]; rfl) (by decide) ?_
                refine lv_aload_n hx hb dX7_count_119 rfl (lv_at hl 0 rfl) ?_
                refine gf7_203 X w dX7_count_120 ?_
                exact t_i X w hr hlk dX7_count_123 (by simp only [f_X7_count, if_neg zc1_0, if_neg zc1_1, if_neg zc1_2, if_neg zc1_3, if_neg zc1_4, if_neg zc1_5, if_pos zc1_6]) rfl
              · -- not 6
                by_cases zc1_7 : x1 = 7
                · -- case 7
                  refine lv_tableIn (off := 123) (tgt := 124) hx hb dX7_count_1 (by rw [zc1_7]; decide) (by rw [zc1_7]; decide) (by rw [zc1_7]; rfl) (by decide) ?_
                  refine lv_aload_n hx hb dX7_count_124 rfl (lv_at hl 0 rfl) ?_
                  refine gf7_108 X w dX7_count_125 ?_
                  exact t_i X w hr hlk dX7_count_128 (by simp only [f_X7_count, if_neg zc1_0, if_neg zc1_1, if_neg zc1_2, if_neg zc1_3, if_neg zc1_4, if_neg zc1_5, if_neg zc1_6, if_pos zc1_7]) rfl
                · -- not 7
                  by_cases zc1_8 : x1 = 8
                  · -- case 8
                    refine lv_tableIn (off := 128) (tgt := 129) hx hb dX7_count_1 (by rw [zc1_8]; decide) (by rw [zc1_8]; decide) (by rw [zc1_8]; rfl) (by decide) ?_
                    refine lv_aload_n hx hb dX7_count_129 rfl (lv_at hl 0 rfl) ?_
                    refine gf7_261 X w dX7_count_130 ?_
                    exact t_i X w hr hlk dX7_count_133 (by simp only [f_X7_count, if_neg zc1_0, if_neg zc1_1, if_neg zc1_2, if_neg zc1_3, if_neg zc1_4, if_neg zc1_5, if_neg zc1_6, if_neg zc1_7, if_pos zc1_8]) rfl
                  · -- not 8
                    by_cases zc1_9 : x1 = 9
                    · -- case 9
                      refine lv_tableIn (off := 133) (tgt := 134) hx hb dX7_count_1 (by rw [zc1_9]; decide) (by rw [zc1_9]; decide) (by rw [zc1_9]; rfl) (by decide) ?_
                      refine lv_aload_n hx hb dX7_count_134 rfl (lv_at hl 0 rfl) ?_
                      refine gf7_62 X w dX7_count_135 ?_
                      exact t_i X w hr hlk dX7_count_138 (by simp only [f_X7_count, if_neg zc1_0, if_neg zc1_1, if_neg zc1_2, if_neg zc1_3, if_neg zc1_4, if_neg zc1_5, if_neg zc1_6, if_neg zc1_7, if_neg zc1_8, if_pos zc1_9]) rfl
                    · -- not 9
                      refine lv_tableOut (tgt := 139) hx hb dX7_count_1 (by have hzc1_0 := lv_neT zc1_0 (a := 0) (by decide); have hzc1_1 := lv_neT zc1_1 (a := 1) (by decide); have hzc1_2 := lv_neT zc1_2 (a := 2) (by decide); have hzc1_3 := lv_neT zc1_3 (a := 3) (by decide); have hzc1_4 := lv_neT zc1_4 (a := 4) (by decide); have hzc1_5 := lv_neT zc1_5 (a := 5) (by decide); have hzc1_6 := lv_neT zc1_6 (a := 6) (by decide); have hzc1_7 := lv_neT zc1_7 (a := 7) (by decide); have hzc1_8 := lv_neT zc1_8 (a := 8) (by decide); have hzc1_9 := lv_neT zc1_9 (a := 9) (by decide); omega) (by decide) ?_
                      refine lv_iload_n hx hb dX7_count_139 rfl (lv_at hl 1 rfl) ?_
                      refine lv_i2l hx hb dX7_count_140 rfl ?_
                      refine lv_ldc2 hx hb X.1.2.2.2.1 (X.1.2.2.2.2 _ kw1142) dX7_count_141 ?_
                      refine lv_ldc2 hx hb X.1.2.2.2.1 (X.1.2.2.2.2 _ kw1143) dX7_count_144 ?_
                      refine k_i (rr_s (rest := []) X w mX7_in kw888 (c_X7_in x1.toInt64 11 16) ⟨Nat.le_of_ble_eq_true rfl, Nat.le_of_ble_eq_true rfl⟩ rfl hl.1 rfl (Nat.le_of_ble_eq_true rfl) dX7_count_147 ⟨Nat.zero_le _, Nat.zero_le _⟩) w (fun H locs w => ?_)
                      refine lv_if_eq (tgt := 165) hx hb dX7_count_150 (by decide) (fun zc150 => ?_) (fun zc150 => ?_)
                      · -- 165
                        refine lv_bipush (v := (-9)) hx hb dX7_count_165 (by decide) ?_
                        exact t_i X w hr hlk dX7_count_167 (by simp only [f_X7_count, if_neg zc1_0, if_neg zc1_1, if_neg zc1_2, if_neg zc1_3, if_neg zc1_4, if_neg zc1_5, if_neg zc1_6, if_neg zc1_7, if_neg zc1_8, if_neg zc1_9, if_pos zc150]) rfl
                      · -- 153
                        refine lv_aload_n hx hb dX7_count_153 rfl (lv_at hl 0 rfl) ?_
                        refine gf7_78 X w dX7_count_154 ?_
                        refine lv_iload_n hx hb dX7_count_157 rfl (lv_at hl 1 rfl) ?_
                        refine lv_bipush (v := 10) hx hb dX7_count_158 (by decide) ?_
                        refine lv_isub hx hb dX7_count_160 ?_
                        refine ia (f := 33) (n := 7) X w m4_33 rfl (cnt7 zc150) dX7_count_161 ?_
                        refine lv_goto (tgt := 167) hx hb dX7_count_162 (by decide) ?_
                        exact t_i X w hr hlk dX7_count_167 (by simp only [f_X7_count, if_neg zc1_0, if_neg zc1_1, if_neg zc1_2, if_neg zc1_3, if_neg zc1_4, if_neg zc1_5, if_neg zc1_6, if_neg zc1_7, if_neg zc1_8, if_neg zc1_9, if_neg zc150]) rfl
