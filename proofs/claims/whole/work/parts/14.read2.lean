noncomputable def b_X7_comes_255 (y1 : Int32) (y2 : Int32) (y3 : Int32) (y4 : Int32) (y5 : Int32) (k : Nat) (v : Gr) : Gr :=
  let zs274 : Gr := up v 19 (nI k).toNatClampNeg ((y3 >>> ((nI k) &&& 31)) &&& 1)
  zs274
noncomputable def l_X7_comes_255 (y1 : Int32) (y2 : Int32) (y3 : Int32) (y4 : Int32) (y5 : Int32) (v0 : Gr) : Gr := itn (b_X7_comes_255 y1 y2 y3 y4 y5) y4.toNatClampNeg v0
noncomputable def f_X7_comes (ρ : Gr) (x1 : Int32) : Int32 :=
  let zv3 : Int32 := 5 * x1
  let zv10 : Int32 := ρ 49 zv3.toNatClampNeg
  let zv19 : Int32 := ρ 49 (zv3 + 1).toNatClampNeg
  let zv29 : Int32 := ρ 49 (zv3 + 2).toNatClampNeg
  if (ρ 48 x1.toNatClampNeg) = 99 then
    if (f_X7_in zv10.toInt64 1 99) = 0 then
      0
    else
      if (f_X7_in zv19.toInt64 0 99) = 0 then
        0
      else
        if (ρ 0 0) = 8 then
          0
        else
          let zs112 : Gr := g_X7_addCell ρ zv10 zv19
          1
  else
    if (ρ 48 x1.toNatClampNeg) = 114 then
      if (f_X7_isCell ρ zv10) = 0 then
        0
      else
        if (f_X7_in zv29.toInt64 1 999) = 0 then
          0
        else
          if (ρ 0 15) = 8 then
            0
          else
            let zs241 : Gr := g_X7_addRiver ρ zv10 zv19 zv29
            1
    else
      if (ρ 48 x1.toNatClampNeg) = 119 then
        let zv125 : Int32 := ρ 49 (zv3 + 3).toNatClampNeg
        let zv135 : Int32 := ρ 49 (zv3 + 4).toNatClampNeg
        if (f_X7_areEnds ρ zv10 zv19) = 0 then
          0
        else
          if (f_X7_in zv135.toInt64 1 100) = 0 then
            0
          else
            if (ρ 0 8) = 24 then
              0
            else
              if ((f_X7_partsFrom ρ zv10 zv29 zv125) + zv135) ≤ 100 then
                let zs198 : Gr := g_X7_addWay ρ zv10 zv19 zv29 zv125 zv135
                1
              else
                0
      else
        let zs249 : Gr := up ρ 0 20 zv19
        let zl255 : Gr := (l_X7_comes_255 x1 zv3 zv10 zv19 zv29 zs249)
        1
noncomputable def g_X7_comes (ρ : Gr) (x1 : Int32) : Gr :=
  let zv3 : Int32 := 5 * x1
  let zv10 : Int32 := ρ 49 zv3.toNatClampNeg
  let zv19 : Int32 := ρ 49 (zv3 + 1).toNatClampNeg
  let zv29 : Int32 := ρ 49 (zv3 + 2).toNatClampNeg
  if (ρ 48 x1.toNatClampNeg) = 99 then
    if (f_X7_in zv10.toInt64 1 99) = 0 then
      ρ
    else
      if (f_X7_in zv19.toInt64 0 99) = 0 then
        ρ
      else
        if (ρ 0 0) = 8 then
          ρ
        else
          let zs112 : Gr := g_X7_addCell ρ zv10 zv19
          zs112
  else
    if (ρ 48 x1.toNatClampNeg) = 114 then
      if (f_X7_isCell ρ zv10) = 0 then
        ρ
      else
        if (f_X7_in zv29.toInt64 1 999) = 0 then
          ρ
        else
          if (ρ 0 15) = 8 then
            ρ
          else
            let zs241 : Gr := g_X7_addRiver ρ zv10 zv19 zv29
            zs241
    else
      if (ρ 48 x1.toNatClampNeg) = 119 then
        let zv125 : Int32 := ρ 49 (zv3 + 3).toNatClampNeg
        let zv135 : Int32 := ρ 49 (zv3 + 4).toNatClampNeg
        if (f_X7_areEnds ρ zv10 zv19) = 0 then
          ρ
        else
          if (f_X7_in zv135.toInt64 1 100) = 0 then
            ρ
          else
            if (ρ 0 8) = 24 then
              ρ
            else
              if ((f_X7_partsFrom ρ zv10 zv29 zv125) + zv135) ≤ 100 then
                let zs198 : Gr := g_X7_addWay ρ zv10 zv19 zv29 zv125 zv135
                zs198
              else
                ρ
      else
        let zs249 : Gr := up ρ 0 20 zv19
        let zl255 : Gr := (l_X7_comes_255 x1 zv3 zv10 zv19 zv29 zs249)
        zl255
set_option maxRecDepth 100000 in
set_option maxHeartbeats 4000000 in
theorem lp_X7_comes_255 {l : Launch} {G : GG} {p : Program} {e : Env} {s : State} {m : MethodId} {args : Array Value} {below : List Frame} {meth : Method} {c : Code} {Q : State → Prop} {σ : St} (X : Cx p m c cX7_comes 9 s args RX7 G) (y1 : Int32) (y2 : Int32) (y3 : Int32) (y4 : Int32) (y5 : Int32) (v0 : Gr) (h28 : y4.toNatClampNeg ≤ 28)
    (kk : ∀ (H : Heap) (locs : List Loc) (ls : Array Slot), Wh G s σ 4 (l_X7_comes_255 y1 y2 y3 y4 y5 v0) H locs → lv_has ls 9 [(0, .ref (aa G 4 0)), (1, .int y1), (2, .int y2), (3, .int y3), (4, .int y4), (5, .int y5), (8, .int (nI (y4.toNatClampNeg)))] → W p l e (rmv 3 68) s m args below meth c H locs 0 0 Q (F0 m 281 ls [])) :
    ∀ (n k : Nat) (v : Gr), k ≤ y4.toNatClampNeg → y4.toNatClampNeg - k < n → v = itn (b_X7_comes_255 y1 y2 y3 y4 y5) k v0 → ∀ (H : Heap) (locs : List Loc) (ls : Array Slot), Wh G s σ 4 v H locs → lv_has ls 9 [(0, .ref (aa G 4 0)), (1, .int y1), (2, .int y2), (3, .int y3), (4, .int y4), (5, .int y5), (8, .int (nI k))] → W p l e (rmv 3 68) s m args below meth c H locs 0 0 Q (F0 m 255 ls []) := by
  have hx := X.1.1
  have hb := X.1.2.1
  intro n
  induction n with
  | zero => intro k v _ h; omega
  | succ n ih =>
    intro k v hkN hn ev H locs ls w hl
    refine lv_iload hx hb dX7_comes_255 (lv_at hl 6 rfl) ?_
    refine lv_iload hx hb dX7_comes_257 (lv_at hl 4 rfl) ?_
    refine lv_icmp_ge (tgt := 281) hx hb dX7_comes_259 (by decide) (fun zc259 => ?_) (fun zc259 => ?_)
    · -- 281
      have hkE : k = y4.toNatClampNeg := lp_eq hkN zc259
      have ev2 : l_X7_comes_255 y1 y2 y3 y4 y5 v0 = v := by unfold l_X7_comes_255; rw [← hkE]; exact ev.symm
      rw [ev2] at kk
      rw [hkE] at hl
      exact kk _ _ _ w (lv_sub hl [0, 1, 2, 3, 4, 5, 6] rfl)
    · -- 262
      have hk : k < y4.toNatClampNeg := lp_lt hkN zc259
      refine lv_aload_n hx hb dX7_comes_262 rfl (lv_at hl 0 rfl) ?_
      refine gf7_59 X w dX7_comes_263 ?_
      refine lv_iload hx hb dX7_comes_266 (lv_at hl 6 rfl) ?_
      refine lv_iload_n hx hb dX7_comes_268 rfl (lv_at hl 3 rfl) ?_
      refine lv_iload hx hb dX7_comes_269 (lv_at hl 6 rfl) ?_
      refine lv_ishr hx hb dX7_comes_271 ?_
      refine lv_iconst (v := 1) hx hb dX7_comes_272 (by decide) ?_
      refine lv_iand hx hb dX7_comes_273 ?_
      refine iS (f := 19) (n := 28) X w m4_19 rfl (vp_in_nI (by omega) (by decide)) dX7_comes_274 (fun zs274 H locs ezs274 w => ?_)
      refine lv_iinc (v := nI (k + 1)) (lv' := [(8, .int (nI (k + 1))), (0, .ref (aa G 4 0)), (1, .int y1), (2, .int y2), (3, .int y3), (4, .int y4), (5, .int y5)]) hx hb dX7_comes_275 hl (k := 6) rfl (nI_1 _) (by decide) rfl (fun ls hl => ?_)
      refine lv_goto (tgt := 255) hx hb dX7_comes_278 (by decide) ?_
      exact ih (k + 1) zs274 (by omega) (by omega) (by replace ezs274 := ezs274.symm; subst ezs274; simp only [itn, ← ev, b_X7_comes_255])  _ _ _ w (lv_sub hl [1, 2, 3, 4, 5, 6, 0] rfl)
set_option maxRecDepth 100000 in
set_option maxHeartbeats 4000000 in
theorem c_X7_comes {l : Launch} {G : GG} {σ : St} {ρ : Gr}  (x1 : Int32) (B : Nat) (hB : B < 2 ^ 30) (hm : WFm B ρ) (hi1 : rg x1 0 47) (h28 : ¬ ρ 48 x1.toNatClampNeg = 99 → ¬ ρ 48 x1.toNatClampNeg = 114 → ¬ ρ 48 x1.toNatClampNeg = 119 → (ρ 49 (5 * x1 + 1).toNatClampNeg).toNatClampNeg ≤ 28) : MM l G yX7_comes cX7_comes 9 3 68 (some .boolean) [.ref (aa G 4 0), .int x1] (setG σ 4 ρ) (Qi G (f_X7_comes ρ x1) (setG σ 4 (g_X7_comes ρ x1))) := by
  refine MM.of (by decide) (Nat.le_of_ble_eq_true rfl) ?_
  intro p e s m below meth c ls X hr hlk w hl
  have hx := X.1.1
  have hb := X.1.2.1
  have hl : lv_has ls 9 [(0, .ref (aa G 4 0)), (1, .int x1)] := hl
  refine lv_iconst (v := 5) hx hb dX7_comes_0 (by decide) ?_
  refine lv_iload_n hx hb dX7_comes_1 rfl (lv_at hl 1 rfl) ?_
  refine lv_imul hx hb dX7_comes_2 ?_
  refine lv_topi (fun zv3 ezv3 => ?_)
  refine lv_istore_n (lv' := [(2, .int zv3), (0, .ref (aa G 4 0)), (1, .int x1)]) hx hb dX7_comes_3 rfl hl (by decide) rfl (fun ls hl => ?_)
  refine lv_aload_n hx hb dX7_comes_4 rfl (lv_at hl 1 rfl) ?_
  refine gf7_99 X w dX7_comes_5 ?_
  refine lv_iload_n hx hb dX7_comes_8 rfl (lv_at hl 0 rfl) ?_
  refine ia (f := 49) (n := 250) X w m4_49 rfl (rg.v (n5r ezv3 hi1) (by decide) (by decide)) dX7_comes_9 ?_
  refine lv_topi (fun zv10 ezv10 => ?_)
  refine lv_istore_n (lv' := [(3, .int zv10), (2, .int zv3), (0, .ref (aa G 4 0)), (1, .int x1)]) hx hb dX7_comes_10 rfl hl (by decide) rfl (fun ls hl => ?_)
  refine lv_aload_n hx hb dX7_comes_11 rfl (lv_at hl 2 rfl) ?_
  refine gf7_99 X w dX7_comes_12 ?_
  change W _ _ _ _ _ _ _ _ _ _ _ _ _ _ _ (F0 m 15 ls _)
  refine lv_iload_n hx hb dX7_comes_15 rfl (lv_at hl 1 rfl) ?_
  refine lv_iconst (v := 1) hx hb dX7_comes_16 (by decide) ?_
  refine lv_iadd hx hb dX7_comes_17 ?_
  refine ia (f := 49) (n := 250) X w m4_49 rfl (n5s (n5r ezv3 hi1) 1 (by decide)) dX7_comes_18 ?_
  refine lv_topi (fun zv19 ezv19 => ?_)
  refine lv_istore (lv' := [(4, .int zv19), (3, .int zv10), (2, .int zv3), (0, .ref (aa G 4 0)), (1, .int x1)]) hx hb dX7_comes_19 hl (by decide) rfl (fun ls hl => ?_)
  refine lv_aload_n hx hb dX7_comes_21 rfl (lv_at hl 3 rfl) ?_
  refine gf7_99 X w dX7_comes_22 ?_
  refine lv_iload_n hx hb dX7_comes_25 rfl (lv_at hl 2 rfl) ?_
  refine lv_iconst (v := 2) hx hb dX7_comes_26 (by decide) ?_
  refine lv_iadd hx hb dX7_comes_27 ?_
  refine ia (f := 49) (n := 250) X w m4_49 rfl (n5s (n5r ezv3 hi1) 2 (by decide)) dX7_comes_28 ?_
  refine lv_topi (fun zv29 ezv29 => ?_)
  refine lv_istore (lv' := [(5, .int zv29), (4, .int zv19), (3, .int zv10), (2, .int zv3), (0, .ref (aa G 4 0)), (1, .int x1)]) hx hb dX7_comes_29 hl (by decide) rfl (fun ls hl => ?_)
  change W _ _ _ _ _ _ _ _ _ _ _ _ _ _ _ (F0 m 31 ls _)
  refine lv_aload_n hx hb dX7_comes_31 rfl (lv_at hl 4 rfl) ?_
  refine gf7_96 X w dX7_comes_32 ?_
  refine lv_iload_n hx hb dX7_comes_35 rfl (lv_at hl 5 rfl) ?_
  refine ia (f := 48) (n := 50) X w m4_48 rfl (hi1.v (by decide) (by decide)) dX7_comes_36 ?_
  by_cases zc37_99 : (ρ 48 x1.toNatClampNeg) = 99
  · -- case 99
    refine lv_lookup (off := 35) (tgt := 72) hx hb dX7_comes_37 (by decide) (by rw [zc37_99]; rfl) (by decide) ?_
    refine lv_iload_n hx hb dX7_comes_72 rfl (lv_at hl 2 rfl) ?_
    refine lv_i2l hx hb dX7_comes_73 rfl ?_
    refine lv_lconst (v := 1) hx hb dX7_comes_74 (by decide) ?_
    refine lv_ldc2 hx hb X.1.2.2.2.1 (X.1.2.2.2.2 _ kw1120) dX7_comes_75 ?_
    refine k_i (rr_s (rest := []) X w mX7_in kw888 (c_X7_in zv10.toInt64 1 99) ⟨Nat.le_of_ble_eq_true rfl, Nat.le_of_ble_eq_true rfl⟩ rfl hl.1 rfl (Nat.le_of_ble_eq_true rfl) dX7_comes_78 ⟨Nat.zero_le _, Nat.zero_le _⟩) w (fun H locs w => ?_)
    refine lv_if_eq (tgt := 106) hx hb dX7_comes_81 (by decide) (fun zc81 => ?_) (fun zc81 => ?_)
    · -- 106
      refine lv_iconst (v := 0) hx hb dX7_comes_106 (by decide) ?_
      exact t_z X w hr hlk isB0.n dX7_comes_107 (by replace ezv29 := ezv29.symm; subst ezv29; replace ezv19 := ezv19.symm; subst ezv19; replace ezv10 := ezv10.symm; subst ezv10; replace ezv3 := ezv3.symm; subst ezv3; simp only [f_X7_comes, if_pos zc37_99, if_pos zc81]) (by replace ezv29 := ezv29.symm; subst ezv29; replace ezv19 := ezv19.symm; subst ezv19; replace ezv10 := ezv10.symm; subst ezv10; replace ezv3 := ezv3.symm; subst ezv3; simp only [g_X7_comes, if_pos zc37_99, if_pos zc81])
    · -- 84
      refine lv_iload hx hb dX7_comes_84 (lv_at hl 1 rfl) ?_
      refine lv_i2l hx hb dX7_comes_86 rfl ?_
      refine lv_lconst (v := 0) hx hb dX7_comes_87 (by decide) ?_
      refine lv_ldc2 hx hb X.1.2.2.2.1 (X.1.2.2.2.2 _ kw1120) dX7_comes_88 ?_
      refine k_i (rr_s (rest := []) X w mX7_in kw888 (c_X7_in zv19.toInt64 0 99) ⟨Nat.le_of_ble_eq_true rfl, Nat.le_of_ble_eq_true rfl⟩ rfl hl.1 rfl (Nat.le_of_ble_eq_true rfl) dX7_comes_91 ⟨Nat.zero_le _, Nat.zero_le _⟩) w (fun H locs w => ?_)
      refine lv_if_eq (tgt := 106) hx hb dX7_comes_94 (by decide) (fun zc94 => ?_) (fun zc94 => ?_)
      · -- 106
        refine lv_iconst (v := 0) hx hb dX7_comes_106 (by decide) ?_
        exact t_z X w hr hlk isB0.n dX7_comes_107 (by replace ezv29 := ezv29.symm; subst ezv29; replace ezv19 := ezv19.symm; subst ezv19; replace ezv10 := ezv10.symm; subst ezv10; replace ezv3 := ezv3.symm; subst ezv3; simp only [f_X7_comes, if_pos zc37_99, if_neg zc81, if_pos zc94]) (by replace ezv29 := ezv29.symm; subst ezv29; replace ezv19 := ezv19.symm; subst ezv19; replace ezv10 := ezv10.symm; subst ezv10; replace ezv3 := ezv3.symm; subst ezv3; simp only [g_X7_comes, if_pos zc37_99, if_neg zc81, if_pos zc94])
      · -- 97
        refine lv_aload_n hx hb dX7_comes_97 rfl (lv_at hl 4 rfl) ?_
        refine gf7_111 X w dX7_comes_98 ?_
        refine lv_bipush (v := 8) hx hb dX7_comes_101 (by decide) ?_
        refine lv_icmp_ne (tgt := 108) hx hb dX7_comes_103 (by decide) (fun zc103 => ?_) (fun zc103 => ?_)
        · -- 108
          refine lv_aload_n hx hb dX7_comes_108 rfl (lv_at hl 4 rfl) ?_
          refine lv_iload_n hx hb dX7_comes_109 rfl (lv_at hl 2 rfl) ?_
          refine lv_iload hx hb dX7_comes_110 (lv_at hl 1 rfl) ?_
          refine k_v (rr_v (rest := []) X w mX7_addCell kw876 (c_X7_addCell zv10 zv19 (hm.nv zc103)) m4_0 rfl rfl ⟨Nat.le_of_ble_eq_true rfl, Nat.le_of_ble_eq_true rfl⟩ rfl hl.1 rfl (Nat.le_of_ble_eq_true rfl) dX7_comes_112 ⟨Nat.zero_le _, Nat.zero_le _⟩) w (fun H locs w => ?_)
          obtain ⟨zs112, ezs112⟩ : ∃ y : Gr, y = g_X7_addCell ρ zv10 zv19 := ⟨_, rfl⟩; rw [← ezs112] at w
          refine lv_iconst (v := 1) hx hb dX7_comes_115 (by decide) ?_
          exact t_z X w hr hlk isB1.n dX7_comes_116 (by replace ezs112 := ezs112.symm; subst ezs112; replace ezv29 := ezv29.symm; subst ezv29; replace ezv19 := ezv19.symm; subst ezv19; replace ezv10 := ezv10.symm; subst ezv10; replace ezv3 := ezv3.symm; subst ezv3; simp only [f_X7_comes, if_pos zc37_99, if_neg zc81, if_neg zc94, if_neg zc103]) (by replace ezs112 := ezs112.symm; subst ezs112; replace ezv29 := ezv29.symm; subst ezv29; replace ezv19 := ezv19.symm; subst ezv19; replace ezv10 := ezv10.symm; subst ezv10; replace ezv3 := ezv3.symm; subst ezv3; simp only [g_X7_comes, if_pos zc37_99, if_neg zc81, if_neg zc94, if_neg zc103])
        · -- 106
          refine lv_iconst (v := 0) hx hb dX7_comes_106 (by decide) ?_
          exact t_z X w hr hlk isB0.n dX7_comes_107 (by replace ezv29 := ezv29.symm; subst ezv29; replace ezv19 := ezv19.symm; subst ezv19; replace ezv10 := ezv10.symm; subst ezv10; replace ezv3 := ezv3.symm; subst ezv3; simp only [f_X7_comes, if_pos zc37_99, if_neg zc81, if_neg zc94, if_pos zc103]) (by replace ezv29 := ezv29.symm; subst ezv29; replace ezv19 := ezv19.symm; subst ezv19; replace ezv10 := ezv10.symm; subst ezv10; replace ezv3 := ezv3.symm; subst ezv3; simp only [g_X7_comes, if_pos zc37_99, if_neg zc81, if_neg zc94, if_pos zc103])
  · -- not 99
    by_cases zc37_114 : (ρ 48 x1.toNatClampNeg) = 114
    · -- case 114
      refine lv_lookup (off := 166) (tgt := 203) hx hb dX7_comes_37 (by decide) (by rw [zc37_114]; rfl) (by decide) ?_
      refine lv_aload_n hx hb dX7_comes_203 rfl (lv_at hl 4 rfl) ?_
      refine lv_iload_n hx hb dX7_comes_204 rfl (lv_at hl 2 rfl) ?_
      refine k_i (rr_v (rest := []) X w mX7_isCell kw884 (c_X7_isCell zv10) m4_0 rfl rfl ⟨Nat.le_of_ble_eq_true rfl, Nat.le_of_ble_eq_true rfl⟩ rfl hl.1 rfl (Nat.le_of_ble_eq_true rfl) dX7_comes_205 ⟨Nat.zero_le _, Nat.zero_le _⟩) w (fun H locs w => ?_)
      refine lv_if_eq (tgt := 233) hx hb dX7_comes_208 (by decide) (fun zc208 => ?_) (fun zc208 => ?_)
      · -- 233
        refine lv_iconst (v := 0) hx hb dX7_comes_233 (by decide) ?_
        exact t_z X w hr hlk isB0.n dX7_comes_234 (by replace ezv29 := ezv29.symm; subst ezv29; replace ezv19 := ezv19.symm; subst ezv19; replace ezv10 := ezv10.symm; subst ezv10; replace ezv3 := ezv3.symm; subst ezv3; simp only [f_X7_comes, if_neg zc37_99, if_pos zc37_114, if_pos zc208]) (by replace ezv29 := ezv29.symm; subst ezv29; replace ezv19 := ezv19.symm; subst ezv19; replace ezv10 := ezv10.symm; subst ezv10; replace ezv3 := ezv3.symm; subst ezv3; simp only [g_X7_comes, if_neg zc37_99, if_pos zc37_114, if_pos zc208])
      · -- 211
        refine lv_iload hx hb dX7_comes_211 (lv_at hl 0 rfl) ?_
        refine lv_i2l hx hb dX7_comes_213 rfl ?_
        refine lv_lconst (v := 1) hx hb dX7_comes_214 (by decide) ?_
        refine lv_ldc2 hx hb X.1.2.2.2.1 (X.1.2.2.2.2 _ kw1121) dX7_comes_215 ?_
        refine k_i (rr_s (rest := []) X w mX7_in kw888 (c_X7_in zv29.toInt64 1 999) ⟨Nat.le_of_ble_eq_true rfl, Nat.le_of_ble_eq_true rfl⟩ rfl hl.1 rfl (Nat.le_of_ble_eq_true rfl) dX7_comes_218 ⟨Nat.zero_le _, Nat.zero_le _⟩) w (fun H locs w => ?_)
        refine lv_if_eq (tgt := 233) hx hb dX7_comes_221 (by decide) (fun zc221 => ?_) (fun zc221 => ?_)
        · -- 233
          refine lv_iconst (v := 0) hx hb dX7_comes_233 (by decide) ?_
          exact t_z X w hr hlk isB0.n dX7_comes_234 (by replace ezv29 := ezv29.symm; subst ezv29; replace ezv19 := ezv19.symm; subst ezv19; replace ezv10 := ezv10.symm; subst ezv10; replace ezv3 := ezv3.symm; subst ezv3; simp only [f_X7_comes, if_neg zc37_99, if_pos zc37_114, if_neg zc208, if_pos zc221]) (by replace ezv29 := ezv29.symm; subst ezv29; replace ezv19 := ezv19.symm; subst ezv19; replace ezv10 := ezv10.symm; subst ezv10; replace ezv3 := ezv3.symm; subst ezv3; simp only [g_X7_comes, if_neg zc37_99, if_pos zc37_114, if_neg zc208, if_pos zc221])
        · -- 224
          refine lv_aload_n hx hb dX7_comes_224 rfl (lv_at hl 4 rfl) ?_
          refine gf7_147 X w dX7_comes_225 ?_
          refine lv_bipush (v := 8) hx hb dX7_comes_228 (by decide) ?_
          refine lv_icmp_ne (tgt := 235) hx hb dX7_comes_230 (by decide) (fun zc230 => ?_) (fun zc230 => ?_)
          · -- 235
            refine lv_aload_n hx hb dX7_comes_235 rfl (lv_at hl 4 rfl) ?_
            refine lv_iload_n hx hb dX7_comes_236 rfl (lv_at hl 2 rfl) ?_
            refine lv_iload hx hb dX7_comes_237 (lv_at hl 1 rfl) ?_
            refine lv_iload hx hb dX7_comes_239 (lv_at hl 0 rfl) ?_
            refine k_v (rr_v (rest := []) X w mX7_addRiver kw919 (c_X7_addRiver zv10 zv19 zv29 (hm.rv zc230)) m4_0 rfl rfl ⟨Nat.le_of_ble_eq_true rfl, Nat.le_of_ble_eq_true rfl⟩ rfl hl.1 rfl (Nat.le_of_ble_eq_true rfl) dX7_comes_241 ⟨Nat.zero_le _, Nat.zero_le _⟩) w (fun H locs w => ?_)
            obtain ⟨zs241, ezs241⟩ : ∃ y : Gr, y = g_X7_addRiver ρ zv10 zv19 zv29 := ⟨_, rfl⟩; rw [← ezs241] at w
            refine lv_iconst (v := 1) hx hb dX7_comes_244 (by decide) ?_
            exact t_z X w hr hlk isB1.n dX7_comes_245 (by replace ezs241 := ezs241.symm; subst ezs241; replace ezv29 := ezv29.symm; subst ezv29; replace ezv19 := ezv19.symm; subst ezv19; replace ezv10 := ezv10.symm; subst ezv10; replace ezv3 := ezv3.symm; subst ezv3; simp only [f_X7_comes, if_neg zc37_99, if_pos zc37_114, if_neg zc208, if_neg zc221, if_neg zc230]) (by replace ezs241 := ezs241.symm; subst ezs241; replace ezv29 := ezv29.symm; subst ezv29; replace ezv19 := ezv19.symm; subst ezv19; replace ezv10 := ezv10.symm; subst ezv10; replace ezv3 := ezv3.symm; subst ezv3; simp only [g_X7_comes, if_neg zc37_99, if_pos zc37_114, if_neg zc208, if_neg zc221, if_neg zc230])
          · -- 233
            refine lv_iconst (v := 0) hx hb dX7_comes_233 (by decide) ?_
            exact t_z X w hr hlk isB0.n dX7_comes_234 (by replace ezv29 := ezv29.symm; subst ezv29; replace ezv19 := ezv19.symm; subst ezv19; replace ezv10 := ezv10.symm; subst ezv10; replace ezv3 := ezv3.symm; subst ezv3; simp only [f_X7_comes, if_neg zc37_99, if_pos zc37_114, if_neg zc208, if_neg zc221, if_pos zc230]) (by replace ezv29 := ezv29.symm; subst ezv29; replace ezv19 := ezv19.symm; subst ezv19; replace ezv10 := ezv10.symm; subst ezv10; replace ezv3 := ezv3.symm; subst ezv3; simp only [g_X7_comes, if_neg zc37_99, if_pos zc37_114, if_neg zc208, if_neg zc221, if_pos zc230])
    · -- not 114
      by_cases zc37_119 : (ρ 48 x1.toNatClampNeg) = 119
      · -- case 119
        refine lv_lookup (off := 80) (tgt := 117) hx hb dX7_comes_37 (by decide) (by rw [zc37_119]; rfl) (by decide) ?_
        refine lv_aload_n hx hb dX7_comes_117 rfl (lv_at hl 4 rfl) ?_
        refine gf7_99 X w dX7_comes_118 ?_
        refine lv_iload_n hx hb dX7_comes_121 rfl (lv_at hl 3 rfl) ?_
        refine lv_iconst (v := 3) hx hb dX7_comes_122 (by decide) ?_
        refine lv_iadd hx hb dX7_comes_123 ?_
        refine ia (f := 49) (n := 250) X w m4_49 rfl (n5s (n5r ezv3 hi1) 3 (by decide)) dX7_comes_124 ?_
        refine lv_topi (fun zv125 ezv125 => ?_)
        refine lv_istore (lv' := [(6, .int zv125), (5, .int zv29), (4, .int zv19), (3, .int zv10), (2, .int zv3), (0, .ref (aa G 4 0)), (1, .int x1)]) hx hb dX7_comes_125 hl (by decide) rfl (fun ls hl => ?_)
        refine lv_aload_n hx hb dX7_comes_127 rfl (lv_at hl 5 rfl) ?_
        refine gf7_99 X w dX7_comes_128 ?_
        refine lv_iload_n hx hb dX7_comes_131 rfl (lv_at hl 4 rfl) ?_
        refine lv_iconst (v := 4) hx hb dX7_comes_132 (by decide) ?_
        change W _ _ _ _ _ _ _ _ _ _ _ _ _ _ _ (F0 m 133 ls _)
        refine lv_iadd hx hb dX7_comes_133 ?_
        refine ia (f := 49) (n := 250) X w m4_49 rfl (n5s (n5r ezv3 hi1) 4 (by decide)) dX7_comes_134 ?_
        refine lv_topi (fun zv135 ezv135 => ?_)
        refine lv_istore (lv' := [(7, .int zv135), (6, .int zv125), (5, .int zv29), (4, .int zv19), (3, .int zv10), (2, .int zv3), (0, .ref (aa G 4 0)), (1, .int x1)]) hx hb dX7_comes_135 hl (by decide) rfl (fun ls hl => ?_)
        refine lv_aload_n hx hb dX7_comes_137 rfl (lv_at hl 6 rfl) ?_
        refine lv_iload_n hx hb dX7_comes_138 rfl (lv_at hl 4 rfl) ?_
        refine lv_iload hx hb dX7_comes_139 (lv_at hl 3 rfl) ?_
        refine k_i (rr_v (rest := []) X w mX7_areEnds kw896 (c_X7_areEnds zv10 zv19) m4_0 rfl rfl ⟨Nat.le_of_ble_eq_true rfl, Nat.le_of_ble_eq_true rfl⟩ rfl hl.1 rfl (Nat.le_of_ble_eq_true rfl) dX7_comes_141 ⟨Nat.zero_le _, Nat.zero_le _⟩) w (fun H locs w => ?_)
        refine lv_if_eq (tgt := 186) hx hb dX7_comes_144 (by decide) (fun zc144 => ?_) (fun zc144 => ?_)
        · -- 186
          refine lv_iconst (v := 0) hx hb dX7_comes_186 (by decide) ?_
          exact t_z X w hr hlk isB0.n dX7_comes_187 (by replace ezv135 := ezv135.symm; subst ezv135; replace ezv125 := ezv125.symm; subst ezv125; replace ezv29 := ezv29.symm; subst ezv29; replace ezv19 := ezv19.symm; subst ezv19; replace ezv10 := ezv10.symm; subst ezv10; replace ezv3 := ezv3.symm; subst ezv3; simp only [f_X7_comes, if_neg zc37_99, if_neg zc37_114, if_pos zc37_119, if_pos zc144]) (by replace ezv135 := ezv135.symm; subst ezv135; replace ezv125 := ezv125.symm; subst ezv125; replace ezv29 := ezv29.symm; subst ezv29; replace ezv19 := ezv19.symm; subst ezv19; replace ezv10 := ezv10.symm; subst ezv10; replace ezv3 := ezv3.symm; subst ezv3; simp only [g_X7_comes, if_neg zc37_99, if_neg zc37_114, if_pos zc37_119, if_pos zc144])
        · -- 147
          refine lv_iload hx hb dX7_comes_147 (lv_at hl 0 rfl) ?_
          refine lv_i2l hx hb dX7_comes_149 rfl ?_
          refine lv_lconst (v := 1) hx hb dX7_comes_150 (by decide) ?_
          refine lv_ldc2 hx hb X.1.2.2.2.1 (X.1.2.2.2.2 _ kw998) dX7_comes_151 ?_
          refine k_i (rr_s (rest := []) X w mX7_in kw888 (c_X7_in zv135.toInt64 1 100) ⟨Nat.le_of_ble_eq_true rfl, Nat.le_of_ble_eq_true rfl⟩ rfl hl.1 rfl (Nat.le_of_ble_eq_true rfl) dX7_comes_154 ⟨Nat.zero_le _, Nat.zero_le _⟩) w (fun H locs w => ?_)
          refine lv_if_eq (tgt := 186) hx hb dX7_comes_157 (by decide) (fun zc157 => ?_) (fun zc157 => ?_)
          · -- 186
            refine lv_iconst (v := 0) hx hb dX7_comes_186 (by decide) ?_
            exact t_z X w hr hlk isB0.n dX7_comes_187 (by replace ezv135 := ezv135.symm; subst ezv135; replace ezv125 := ezv125.symm; subst ezv125; replace ezv29 := ezv29.symm; subst ezv29; replace ezv19 := ezv19.symm; subst ezv19; replace ezv10 := ezv10.symm; subst ezv10; replace ezv3 := ezv3.symm; subst ezv3; simp only [f_X7_comes, if_neg zc37_99, if_neg zc37_114, if_pos zc37_119, if_neg zc144, if_pos zc157]) (by replace ezv135 := ezv135.symm; subst ezv135; replace ezv125 := ezv125.symm; subst ezv125; replace ezv29 := ezv29.symm; subst ezv29; replace ezv19 := ezv19.symm; subst ezv19; replace ezv10 := ezv10.symm; subst ezv10; replace ezv3 := ezv3.symm; subst ezv3; simp only [g_X7_comes, if_neg zc37_99, if_neg zc37_114, if_pos zc37_119, if_neg zc144, if_pos zc157])
          · -- 160
            refine lv_aload_n hx hb dX7_comes_160 rfl (lv_at hl 6 rfl) ?_
            refine gf7_132 X w dX7_comes_161 ?_
            refine lv_bipush (v := 24) hx hb dX7_comes_164 (by decide) ?_
            refine lv_icmp_eq (tgt := 186) hx hb dX7_comes_166 (by decide) (fun zc166 => ?_) (fun zc166 => ?_)
            · -- 186
              refine lv_iconst (v := 0) hx hb dX7_comes_186 (by decide) ?_
              exact t_z X w hr hlk isB0.n dX7_comes_187 (by replace ezv135 := ezv135.symm; subst ezv135; replace ezv125 := ezv125.symm; subst ezv125; replace ezv29 := ezv29.symm; subst ezv29; replace ezv19 := ezv19.symm; subst ezv19; replace ezv10 := ezv10.symm; subst ezv10; replace ezv3 := ezv3.symm; subst ezv3; simp only [f_X7_comes, if_neg zc37_99, if_neg zc37_114, if_pos zc37_119, if_neg zc144, if_neg zc157, if_pos zc166]) (by replace ezv135 := ezv135.symm; subst ezv135; replace ezv125 := ezv125.symm; subst ezv125; replace ezv29 := ezv29.symm; subst ezv29; replace ezv19 := ezv19.symm; subst ezv19; replace ezv10 := ezv10.symm; subst ezv10; replace ezv3 := ezv3.symm; subst ezv3; simp only [g_X7_comes, if_neg zc37_99, if_neg zc37_114, if_pos zc37_119, if_neg zc144, if_neg zc157, if_pos zc166])
            · -- 169
              refine lv_aload_n hx hb dX7_comes_169 rfl (lv_at hl 6 rfl) ?_
              refine lv_iload_n hx hb dX7_comes_170 rfl (lv_at hl 4 rfl) ?_
              refine lv_iload hx hb dX7_comes_171 (lv_at hl 2 rfl) ?_
              refine lv_iload hx hb dX7_comes_173 (lv_at hl 1 rfl) ?_
              refine k_i (rr_v (rest := []) X w mX7_partsFrom kw900 (c_X7_partsFrom zv10 zv29 zv125 hm.w) m4_0 rfl rfl ⟨Nat.le_of_ble_eq_true rfl, Nat.le_of_ble_eq_true rfl⟩ rfl hl.1 rfl (Nat.le_of_ble_eq_true rfl) dX7_comes_175 ⟨Nat.zero_le _, Nat.zero_le _⟩) w (fun H locs w => ?_)
              refine lv_iload hx hb dX7_comes_178 (lv_at hl 0 rfl) ?_
              refine lv_iadd hx hb dX7_comes_180 ?_
              refine lv_bipush (v := 100) hx hb dX7_comes_181 (by decide) ?_
              refine lv_icmp_le (tgt := 188) hx hb dX7_comes_183 (by decide) (fun zc183 => ?_) (fun zc183 => ?_)
              · -- 188
                refine lv_aload_n hx hb dX7_comes_188 rfl (lv_at hl 6 rfl) ?_
                refine lv_iload_n hx hb dX7_comes_189 rfl (lv_at hl 4 rfl) ?_
                refine lv_iload hx hb dX7_comes_190 (lv_at hl 3 rfl) ?_
                refine lv_iload hx hb dX7_comes_192 (lv_at hl 2 rfl) ?_
                refine lv_iload hx hb dX7_comes_194 (lv_at hl 1 rfl) ?_
                refine lv_iload hx hb dX7_comes_196 (lv_at hl 0 rfl) ?_
                refine k_v (rr_v (rest := []) X w mX7_addWay kw904 (c_X7_addWay zv10 zv19 zv29 zv125 zv135 (hm.wv zc166)) m4_0 rfl rfl ⟨Nat.le_of_ble_eq_true rfl, Nat.le_of_ble_eq_true rfl⟩ rfl hl.1 rfl (Nat.le_of_ble_eq_true rfl) dX7_comes_198 ⟨Nat.zero_le _, Nat.zero_le _⟩) w (fun H locs w => ?_)
                obtain ⟨zs198, ezs198⟩ : ∃ y : Gr, y = g_X7_addWay ρ zv10 zv19 zv29 zv125 zv135 := ⟨_, rfl⟩; rw [← ezs198] at w
                refine lv_iconst (v := 1) hx hb dX7_comes_201 (by decide) ?_
                exact t_z X w hr hlk isB1.n dX7_comes_202 (by replace ezs198 := ezs198.symm; subst ezs198; replace ezv135 := ezv135.symm; subst ezv135; replace ezv125 := ezv125.symm; subst ezv125; replace ezv29 := ezv29.symm; subst ezv29; replace ezv19 := ezv19.symm; subst ezv19; replace ezv10 := ezv10.symm; subst ezv10; replace ezv3 := ezv3.symm; subst ezv3; simp only [f_X7_comes, if_neg zc37_99, if_neg zc37_114, if_pos zc37_119, if_neg zc144, if_neg zc157, if_neg zc166, if_pos zc183]) (by replace ezs198 := ezs198.symm; subst ezs198; replace ezv135 := ezv135.symm; subst ezv135; replace ezv125 := ezv125.symm; subst ezv125; replace ezv29 := ezv29.symm; subst ezv29; replace ezv19 := ezv19.symm; subst ezv19; replace ezv10 := ezv10.symm; subst ezv10; replace ezv3 := ezv3.symm; subst ezv3; simp only [g_X7_comes, if_neg zc37_99, if_neg zc37_114, if_pos zc37_119, if_neg zc144, if_neg zc157, if_neg zc166, if_pos zc183])
              · -- 186
                refine lv_iconst (v := 0) hx hb dX7_comes_186 (by decide) ?_
                exact t_z X w hr hlk isB0.n dX7_comes_187 (by replace ezv135 := ezv135.symm; subst ezv135; replace ezv125 := ezv125.symm; subst ezv125; replace ezv29 := ezv29.symm; subst ezv29; replace ezv19 := ezv19.symm; subst ezv19; replace ezv10 := ezv10.symm; subst ezv10; replace ezv3 := ezv3.symm; subst ezv3; simp only [f_X7_comes, if_neg zc37_99, if_neg zc37_114, if_pos zc37_119, if_neg zc144, if_neg zc157, if_neg zc166, if_neg zc183]) (by replace ezv135 := ezv135.symm; subst ezv135; replace ezv125 := ezv125.symm; subst ezv125; replace ezv29 := ezv29.symm; subst ezv29; replace ezv19 := ezv19.symm; subst ezv19; replace ezv10 := ezv10.symm; subst ezv10; replace ezv3 := ezv3.symm; subst ezv3; simp only [g_X7_comes, if_neg zc37_99, if_neg zc37_114, if_pos zc37_119, if_neg zc144, if_neg zc157, if_neg zc166, if_neg zc183])
      · -- not 119
        refine lv_lookup (off := 209) (tgt := 246) hx hb dX7_comes_37 (by decide) (by rw [lv_osw zc37_99 (by decide)]; rw [lv_osw zc37_114 (by decide)]; rw [lv_osw zc37_119 (by decide)]; rfl) (by decide) ?_
        refine lv_aload_n hx hb dX7_comes_246 rfl (lv_at hl 4 rfl) ?_
        refine lv_iload hx hb dX7_comes_247 (lv_at hl 1 rfl) ?_
        refine pf7_62 X w dX7_comes_249 (fun zs249 H locs ezs249 w => ?_)
        refine lv_iconst (v := 0) hx hb dX7_comes_252 (by decide) ?_
        refine lv_istore (lv' := [(8, .int 0), (5, .int zv29), (4, .int zv19), (3, .int zv10), (2, .int zv3), (0, .ref (aa G 4 0)), (1, .int x1)]) hx hb dX7_comes_253 hl (by decide) rfl (fun ls hl => ?_)
        refine lp_X7_comes_255 X x1 zv3 zv10 zv19 zv29 zs249 (by rw [ezv19, ezv3]; exact h28 zc37_99 zc37_114 zc37_119) (fun H locs ls w hl => ?_) (zv19.toNatClampNeg + 1) 0 _ (Nat.zero_le _) (Nat.lt_succ_of_le (Nat.sub_le _ _)) rfl  _ _ _ w (lv_sub hl [5, 6, 4, 3, 2, 1, 0] rfl)
        obtain ⟨zl255, ezl255⟩ : ∃ y : Gr, y = (l_X7_comes_255 x1 zv3 zv10 zv19 zv29 zs249) := ⟨_, rfl⟩
        rw [← ezl255] at w
        refine lv_iconst (v := 1) hx hb dX7_comes_281 (by decide) ?_
        exact t_z X w hr hlk isB1.n dX7_comes_282 (by replace ezl255 := ezl255.symm; subst ezl255; replace ezs249 := ezs249.symm; subst ezs249; replace ezv29 := ezv29.symm; subst ezv29; replace ezv19 := ezv19.symm; subst ezv19; replace ezv10 := ezv10.symm; subst ezv10; replace ezv3 := ezv3.symm; subst ezv3; simp only [f_X7_comes, if_neg zc37_99, if_neg zc37_114, if_neg zc37_119]) (by replace ezl255 := ezl255.symm; subst ezl255; replace ezs249 := ezs249.symm; subst ezs249; replace ezv29 := ezv29.symm; subst ezv29; replace ezv19 := ezv19.symm; subst ezv19; replace ezv10 := ezv10.symm; subst ezv10; replace ezv3 := ezv3.symm; subst ezv3; simp only [g_X7_comes, if_neg zc37_99, if_neg zc37_114, if_neg zc37_119])
