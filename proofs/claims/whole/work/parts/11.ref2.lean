theorem Fm.p {a w : Gr} {f j : Nat} {x : Int32} (hf : f = 6 ∨ f = 7 ∨ f = 35) (h : Fm a w) : Fm a (up w f j x) := h.trans (Fm.u hf)
theorem Fm.p6 {a w : Gr} {j : Nat} {x : Int32} (h : Fm a w) : Fm a (up w 6 j x) := h.trans Fm.u6
theorem Fm.p7 {a w : Gr} {j : Nat} {x : Int32} (h : Fm a w) : Fm a (up w 7 j x) := h.trans Fm.u7
theorem Fm.p22 {a w : Gr} {x : Int32} (h : Fm a w) : Fm a (up w 0 22 x) := h.trans (Fm.u0 22 x22)
theorem Fm.p23 {a w : Gr} {x : Int32} (h : Fm a w) : Fm a (up w 0 23 x) := h.trans (Fm.u0 23 x23)
theorem Fm.p36 {a w : Gr} {x : Int32} (h : Fm a w) : Fm a (up w 0 36 x) := h.trans (Fm.u0 36 x36)
theorem Fm.p37 {a w : Gr} {x : Int32} (h : Fm a w) : Fm a (up w 0 37 x) := h.trans (Fm.u0 37 x37)
noncomputable def g_X7_take (ρ : Gr) (x1 : Int32) : Gr :=
  let zs2 : Gr := up ρ 0 36 0
  let zs7 : Gr := up zs2 0 37 0
  if x1 < 0 then
    zs7
  else
    if x1 = (zs7 0 25) then
      zs7
    else
      let zv27 : Int32 := zs7 0 24
      let zv39 : Int32 := (2 * x1) + 1
      if zv27 ≤ (zs7 7 zv39.toNatClampNeg) then
        let zs76 : Gr := up zs7 7 zv39.toNatClampNeg ((zs7 7 zv39.toNatClampNeg) - zv27)
        let zv81 : Int32 := zv27 - zv27
        let zs90 : Gr := up zs76 0 36 ((zs76 0 36) + zv27)
        if (zs90 0 25) = 8 then
          let zs110_3 : Gr := up zs90 0 37 ((zs90 0 37) + zv27)
          let zs121_3 : Gr := up zs110_3 0 22 ((zs110_3 0 22) + zv27)
          let zv39_3 : Int32 := (2 * x1) + 0
          if zv81 ≤ (zs121_3 7 zv39_3.toNatClampNeg) then
            let zs76_4 : Gr := up zs121_3 7 zv39_3.toNatClampNeg ((zs121_3 7 zv39_3.toNatClampNeg) - zv81)
            let zv81_4 : Int32 := zv81 - zv81
            let zs90_4 : Gr := up zs76_4 0 36 ((zs76_4 0 36) + zv81)
            if (zs90_4 0 25) = 8 then
              let zs110_4 : Gr := up zs90_4 0 37 ((zs90_4 0 37) + zv81)
              let zs121_4 : Gr := up zs110_4 0 22 ((zs110_4 0 22) + zv81)
              let zs161_6 : Gr := up zs121_4 0 23 ((zs121_4 0 23) + (zs121_4 0 36))
              zs161_6
            else
              let zs144_4 : Gr := up zs90_4 6 ((2 * (zs90_4 0 25)) + 0).toNatClampNeg ((zs90_4 6 ((2 * (zs90_4 0 25)) + 0).toNatClampNeg) + zv81)
              let zs161_5 : Gr := up zs144_4 0 23 ((zs144_4 0 23) + (zs144_4 0 36))
              zs161_5
          else
            let zv63_2 : Int32 := zs121_3 7 zv39_3.toNatClampNeg
            let zs76_5 : Gr := up zs121_3 7 zv39_3.toNatClampNeg ((zs121_3 7 zv39_3.toNatClampNeg) - zv63_2)
            let zv81_5 : Int32 := zv81 - zv63_2
            let zs90_5 : Gr := up zs76_5 0 36 ((zs76_5 0 36) + zv63_2)
            if (zs90_5 0 25) = 8 then
              let zs110_5 : Gr := up zs90_5 0 37 ((zs90_5 0 37) + zv63_2)
              let zs121_5 : Gr := up zs110_5 0 22 ((zs110_5 0 22) + zv63_2)
              let zs161_8 : Gr := up zs121_5 0 23 ((zs121_5 0 23) + (zs121_5 0 36))
              zs161_8
            else
              let zs144_5 : Gr := up zs90_5 6 ((2 * (zs90_5 0 25)) + 0).toNatClampNeg ((zs90_5 6 ((2 * (zs90_5 0 25)) + 0).toNatClampNeg) + zv63_2)
              let zs161_7 : Gr := up zs144_5 0 23 ((zs144_5 0 23) + (zs144_5 0 36))
              zs161_7
        else
          let zs144 : Gr := up zs90 6 ((2 * (zs90 0 25)) + 1).toNatClampNeg ((zs90 6 ((2 * (zs90 0 25)) + 1).toNatClampNeg) + zv27)
          let zv39_2 : Int32 := (2 * x1) + 0
          if zv81 ≤ (zs144 7 zv39_2.toNatClampNeg) then
            let zs76_2 : Gr := up zs144 7 zv39_2.toNatClampNeg ((zs144 7 zv39_2.toNatClampNeg) - zv81)
            let zv81_2 : Int32 := zv81 - zv81
            let zs90_2 : Gr := up zs76_2 0 36 ((zs76_2 0 36) + zv81)
            if (zs90_2 0 25) = 8 then
              let zs110 : Gr := up zs90_2 0 37 ((zs90_2 0 37) + zv81)
              let zs121 : Gr := up zs110 0 22 ((zs110 0 22) + zv81)
              let zs161_2 : Gr := up zs121 0 23 ((zs121 0 23) + (zs121 0 36))
              zs161_2
            else
              let zs144_2 : Gr := up zs90_2 6 ((2 * (zs90_2 0 25)) + 0).toNatClampNeg ((zs90_2 6 ((2 * (zs90_2 0 25)) + 0).toNatClampNeg) + zv81)
              let zs161 : Gr := up zs144_2 0 23 ((zs144_2 0 23) + (zs144_2 0 36))
              zs161
          else
            let zv63 : Int32 := zs144 7 zv39_2.toNatClampNeg
            let zs76_3 : Gr := up zs144 7 zv39_2.toNatClampNeg ((zs144 7 zv39_2.toNatClampNeg) - zv63)
            let zv81_3 : Int32 := zv81 - zv63
            let zs90_3 : Gr := up zs76_3 0 36 ((zs76_3 0 36) + zv63)
            if (zs90_3 0 25) = 8 then
              let zs110_2 : Gr := up zs90_3 0 37 ((zs90_3 0 37) + zv63)
              let zs121_2 : Gr := up zs110_2 0 22 ((zs110_2 0 22) + zv63)
              let zs161_4 : Gr := up zs121_2 0 23 ((zs121_2 0 23) + (zs121_2 0 36))
              zs161_4
            else
              let zs144_3 : Gr := up zs90_3 6 ((2 * (zs90_3 0 25)) + 0).toNatClampNeg ((zs90_3 6 ((2 * (zs90_3 0 25)) + 0).toNatClampNeg) + zv63)
              let zs161_3 : Gr := up zs144_3 0 23 ((zs144_3 0 23) + (zs144_3 0 36))
              zs161_3
      else
        let zv63_3 : Int32 := zs7 7 zv39.toNatClampNeg
        let zs76_6 : Gr := up zs7 7 zv39.toNatClampNeg ((zs7 7 zv39.toNatClampNeg) - zv63_3)
        let zv81_6 : Int32 := zv27 - zv63_3
        let zs90_6 : Gr := up zs76_6 0 36 ((zs76_6 0 36) + zv63_3)
        if (zs90_6 0 25) = 8 then
          let zs110_8 : Gr := up zs90_6 0 37 ((zs90_6 0 37) + zv63_3)
          let zs121_8 : Gr := up zs110_8 0 22 ((zs110_8 0 22) + zv63_3)
          let zv39_5 : Int32 := (2 * x1) + 0
          if zv81_6 ≤ (zs121_8 7 zv39_5.toNatClampNeg) then
            let zs76_9 : Gr := up zs121_8 7 zv39_5.toNatClampNeg ((zs121_8 7 zv39_5.toNatClampNeg) - zv81_6)
            let zv81_9 : Int32 := zv81_6 - zv81_6
            let zs90_9 : Gr := up zs76_9 0 36 ((zs76_9 0 36) + zv81_6)
            if (zs90_9 0 25) = 8 then
              let zs110_9 : Gr := up zs90_9 0 37 ((zs90_9 0 37) + zv81_6)
              let zs121_9 : Gr := up zs110_9 0 22 ((zs110_9 0 22) + zv81_6)
              let zs161_14 : Gr := up zs121_9 0 23 ((zs121_9 0 23) + (zs121_9 0 36))
              zs161_14
            else
              let zs144_9 : Gr := up zs90_9 6 ((2 * (zs90_9 0 25)) + 0).toNatClampNeg ((zs90_9 6 ((2 * (zs90_9 0 25)) + 0).toNatClampNeg) + zv81_6)
              let zs161_13 : Gr := up zs144_9 0 23 ((zs144_9 0 23) + (zs144_9 0 36))
              zs161_13
          else
            let zv63_5 : Int32 := zs121_8 7 zv39_5.toNatClampNeg
            let zs76_10 : Gr := up zs121_8 7 zv39_5.toNatClampNeg ((zs121_8 7 zv39_5.toNatClampNeg) - zv63_5)
            let zv81_10 : Int32 := zv81_6 - zv63_5
            let zs90_10 : Gr := up zs76_10 0 36 ((zs76_10 0 36) + zv63_5)
            if (zs90_10 0 25) = 8 then
              let zs110_10 : Gr := up zs90_10 0 37 ((zs90_10 0 37) + zv63_5)
              let zs121_10 : Gr := up zs110_10 0 22 ((zs110_10 0 22) + zv63_5)
              let zs161_16 : Gr := up zs121_10 0 23 ((zs121_10 0 23) + (zs121_10 0 36))
              zs161_16
            else
              let zs144_10 : Gr := up zs90_10 6 ((2 * (zs90_10 0 25)) + 0).toNatClampNeg ((zs90_10 6 ((2 * (zs90_10 0 25)) + 0).toNatClampNeg) + zv63_5)
              let zs161_15 : Gr := up zs144_10 0 23 ((zs144_10 0 23) + (zs144_10 0 36))
              zs161_15
        else
          let zs144_6 : Gr := up zs90_6 6 ((2 * (zs90_6 0 25)) + 1).toNatClampNeg ((zs90_6 6 ((2 * (zs90_6 0 25)) + 1).toNatClampNeg) + zv63_3)
          let zv39_4 : Int32 := (2 * x1) + 0
          if zv81_6 ≤ (zs144_6 7 zv39_4.toNatClampNeg) then
            let zs76_7 : Gr := up zs144_6 7 zv39_4.toNatClampNeg ((zs144_6 7 zv39_4.toNatClampNeg) - zv81_6)
            let zv81_7 : Int32 := zv81_6 - zv81_6
            let zs90_7 : Gr := up zs76_7 0 36 ((zs76_7 0 36) + zv81_6)
            if (zs90_7 0 25) = 8 then
              let zs110_6 : Gr := up zs90_7 0 37 ((zs90_7 0 37) + zv81_6)
              let zs121_6 : Gr := up zs110_6 0 22 ((zs110_6 0 22) + zv81_6)
              let zs161_10 : Gr := up zs121_6 0 23 ((zs121_6 0 23) + (zs121_6 0 36))
              zs161_10
            else
              let zs144_7 : Gr := up zs90_7 6 ((2 * (zs90_7 0 25)) + 0).toNatClampNeg ((zs90_7 6 ((2 * (zs90_7 0 25)) + 0).toNatClampNeg) + zv81_6)
              let zs161_9 : Gr := up zs144_7 0 23 ((zs144_7 0 23) + (zs144_7 0 36))
              zs161_9
          else
            let zv63_4 : Int32 := zs144_6 7 zv39_4.toNatClampNeg
            let zs76_8 : Gr := up zs144_6 7 zv39_4.toNatClampNeg ((zs144_6 7 zv39_4.toNatClampNeg) - zv63_4)
            let zv81_8 : Int32 := zv81_6 - zv63_4
            let zs90_8 : Gr := up zs76_8 0 36 ((zs76_8 0 36) + zv63_4)
            if (zs90_8 0 25) = 8 then
              let zs110_7 : Gr := up zs90_8 0 37 ((zs90_8 0 37) + zv63_4)
              let zs121_7 : Gr := up zs110_7 0 22 ((zs110_7 0 22) + zv63_4)
              let zs161_12 : Gr := up zs121_7 0 23 ((zs121_7 0 23) + (zs121_7 0 36))
              zs161_12
            else
              let zs144_8 : Gr := up zs90_8 6 ((2 * (zs90_8 0 25)) + 0).toNatClampNeg ((zs90_8 6 ((2 * (zs90_8 0 25)) + 0).toNatClampNeg) + zv63_4)
              let zs161_11 : Gr := up zs144_8 0 23 ((zs144_8 0 23) + (zs144_8 0 36))
              zs161_11
set_option maxRecDepth 100000 in
set_option maxHeartbeats 4000000 in
theorem c_X7_take {l : Launch} {G : GG} {σ : St} {ρ : Gr}  (x1 : Int32) (B : Nat) (hm : WFm B ρ) (hfrom : x1 < 0 ∨ vp_in x1 8) : MM l G yX7_take cX7_take 6 0 0 none [.ref (aa G 4 0), .int x1] (setG σ 4 ρ) (Qv G (setG σ 4 (g_X7_take ρ x1))) := by
  refine MM.of (by decide) (Nat.le_of_ble_eq_true rfl) ?_
  intro p e s m below meth c ls X hr hlk w hl
  have hx := X.1.1
  have hb := X.1.2.1
  have hl : lv_has ls 6 [(0, .ref (aa G 4 0)), (1, .int x1)] := hl
  refine lv_aload_n hx hb dX7_take_0 rfl (lv_at hl 0 rfl) ?_
  refine lv_iconst (v := 0) hx hb dX7_take_1 (by decide) ?_
  refine pf7_197 X w dX7_take_2 (fun zs2 H locs ezs2 w => ?_)
  refine lv_aload_n hx hb dX7_take_5 rfl (lv_at hl 0 rfl) ?_
  refine lv_iconst (v := 0) hx hb dX7_take_6 (by decide) ?_
  refine pf7_200 X w dX7_take_7 (fun zs7 H locs ezs7 w => ?_)
  refine lv_iload_n hx hb dX7_take_10 rfl (lv_at hl 1 rfl) ?_
  refine lv_if_lt (tgt := 22) hx hb dX7_take_11 (by decide) (fun zc11 => ?_) (fun zc11 => ?_)
  · -- 22
    exact t_v X w hr hlk dX7_take_22 (by replace ezs7 := ezs7.symm; subst ezs7; replace ezs2 := ezs2.symm; subst ezs2; simp only [g_X7_take, if_pos zc11])
  · -- 14
    refine lv_iload_n hx hb dX7_take_14 rfl (lv_at hl 1 rfl) ?_
    refine lv_aload_n hx hb dX7_take_15 rfl (lv_at hl 0 rfl) ?_
    refine gf7_66 X w dX7_take_16 ?_
    refine lv_icmp_ne (tgt := 23) hx hb dX7_take_19 (by decide) (fun zc19 => ?_) (fun zc19 => ?_)
    · -- 23
      refine lv_aload_n hx hb dX7_take_23 rfl (lv_at hl 0 rfl) ?_
      refine gf7_170 X w dX7_take_24 ?_
      refine lv_topi (fun zv27 ezv27 => ?_)
      refine lv_istore_n (lv' := [(2, .int zv27), (0, .ref (aa G 4 0)), (1, .int x1)]) hx hb dX7_take_27 rfl hl (by decide) rfl (fun ls hl => ?_)
      refine lv_iconst (v := 1) hx hb dX7_take_28 (by decide) ?_
      refine lv_istore_n (lv' := [(3, .int 1), (2, .int zv27), (0, .ref (aa G 4 0)), (1, .int x1)]) hx hb dX7_take_29 rfl hl (by decide) rfl (fun ls hl => ?_)
      refine lv_iload_n hx hb dX7_take_30 rfl (lv_at hl 0 rfl) ?_
      refine lv_if_lt (tgt := 151) hx hb dX7_take_31 (by decide) (fun zc31 => absurd zc31 (by decide)) (fun _ => ?_)
      refine lv_iconst (v := 2) hx hb dX7_take_34 (by decide) ?_
      refine lv_iload_n hx hb dX7_take_35 rfl (lv_at hl 3 rfl) ?_
      refine lv_imul hx hb dX7_take_36 ?_
      refine lv_iload_n hx hb dX7_take_37 rfl (lv_at hl 0 rfl) ?_
      change W _ _ _ _ _ _ _ _ _ _ _ _ _ _ _ (F0 m 38 ls _)
      refine lv_iadd hx hb dX7_take_38 ?_
      refine lv_topi (fun zv39 ezv39 => ?_)
      refine lv_istore (lv' := [(4, .int zv39), (3, .int 1), (2, .int zv27), (0, .ref (aa G 4 0)), (1, .int x1)]) hx hb dX7_take_39 hl (by decide) rfl (fun ls hl => ?_)
      refine lv_aload_n hx hb dX7_take_41 rfl (lv_at hl 3 rfl) ?_
      refine gf7_28 X w dX7_take_42 ?_
      refine lv_iload hx hb dX7_take_45 (lv_at hl 0 rfl) ?_
      refine ia (f := 7) (n := 16) X w m4_7 rfl (by replace ezv39 := ezv39.symm; subst ezv39; replace ezv27 := ezv27.symm; subst ezv27; replace ezs7 := ezs7.symm; subst ezs7; replace ezs2 := ezs2.symm; subst ezs2; first | exact ix2s (hfrom.resolve_left zc11) v12 | exact ix2s (hfrom.resolve_left zc11) v02) dX7_take_47 ?_
      refine lv_iload_n hx hb dX7_take_48 rfl (lv_at hl 2 rfl) ?_
      refine lv_icmp_ge (tgt := 62) hx hb dX7_take_49 (by decide) (fun zc49 => ?_) (fun zc49 => ?_)
      · -- 62
        refine lv_iload_n hx hb dX7_take_62 rfl (lv_at hl 2 rfl) ?_
        refine lv_istore (lv' := [(5, .int zv27), (4, .int zv39), (3, .int 1), (2, .int zv27), (0, .ref (aa G 4 0)), (1, .int x1)]) hx hb dX7_take_63 hl (by decide) rfl (fun ls hl => ?_)
        refine lv_aload_n hx hb dX7_take_65 rfl (lv_at hl 4 rfl) ?_
        refine gf7_28 X w dX7_take_66 ?_
        refine lv_iload hx hb dX7_take_69 (lv_at hl 1 rfl) ?_
        refine lv_dup2_11 hx hb dX7_take_71 rfl rfl ?_
        refine ia (f := 7) (n := 16) X w m4_7 rfl (by replace ezv39 := ezv39.symm; subst ezv39; replace ezv27 := ezv27.symm; subst ezv27; replace ezs7 := ezs7.symm; subst ezs7; replace ezs2 := ezs2.symm; subst ezs2; first | exact ix2s (hfrom.resolve_left zc11) v12 | exact ix2s (hfrom.resolve_left zc11) v02) dX7_take_72 ?_
        refine lv_iload hx hb dX7_take_73 (lv_at hl 0 rfl) ?_
        refine lv_isub hx hb dX7_take_75 ?_
        refine iS (f := 7) (n := 16) X w m4_7 rfl (by replace ezv39 := ezv39.symm; subst ezv39; replace ezv27 := ezv27.symm; subst ezv27; replace ezs7 := ezs7.symm; subst ezs7; replace ezs2 := ezs2.symm; subst ezs2; first | exact ix2s (hfrom.resolve_left zc11) v12 | exact ix2s (hfrom.resolve_left zc11) v02) dX7_take_76 (fun zs76 H locs ezs76 w => ?_)
        refine lv_iload_n hx hb dX7_take_77 rfl (lv_at hl 3 rfl) ?_
        change W _ _ _ _ _ _ _ _ _ _ _ _ _ _ _ (F0 m 78 ls _)
        refine lv_iload hx hb dX7_take_78 (lv_at hl 0 rfl) ?_
        refine lv_isub hx hb dX7_take_80 ?_
        refine lv_topi (fun zv81 ezv81 => ?_)
        refine lv_istore_n (lv' := [(2, .int zv81), (5, .int zv27), (4, .int zv39), (3, .int 1), (0, .ref (aa G 4 0)), (1, .int x1)]) hx hb dX7_take_81 rfl hl (by decide) rfl (fun ls hl => ?_)
        refine lv_aload_n hx hb dX7_take_82 rfl (lv_at hl 4 rfl) ?_
        refine lv_dup hx hb dX7_take_83 rfl ?_
        refine gf7_197 X w dX7_take_84 ?_
        refine lv_iload hx hb dX7_take_87 (lv_at hl 1 rfl) ?_
        refine lv_iadd hx hb dX7_take_89 ?_
        refine pf7_197 X w dX7_take_90 (fun zs90 H locs ezs90 w => ?_)
        refine lv_aload_n hx hb dX7_take_93 rfl (lv_at hl 4 rfl) ?_
        refine gf7_66 X w dX7_take_94 ?_
        refine lv_bipush (v := 8) hx hb dX7_take_97 (by decide) ?_
        change W _ _ _ _ _ _ _ _ _ _ _ _ _ _ _ (F0 m 99 ls _)
        refine lv_icmp_ne (tgt := 127) hx hb dX7_take_99 (by decide) (fun zc99 => ?_) (fun zc99 => ?_)
        · -- 127
          refine lv_aload_n hx hb dX7_take_127 rfl (lv_at hl 4 rfl) ?_
          refine gf7_25 X w dX7_take_128 ?_
          refine lv_iconst (v := 2) hx hb dX7_take_131 (by decide) ?_
          refine lv_aload_n hx hb dX7_take_132 rfl (lv_at hl 4 rfl) ?_
          refine gf7_66 X w dX7_take_133 ?_
          refine lv_imul hx hb dX7_take_136 ?_
          refine lv_iload_n hx hb dX7_take_137 rfl (lv_at hl 3 rfl) ?_
          refine lv_iadd hx hb dX7_take_138 ?_
          refine lv_dup2_11 hx hb dX7_take_139 rfl rfl ?_
          refine ia (f := 6) (n := 16) X w m4_6 rfl (by replace ezs90 := ezs90.symm; subst ezs90; replace ezv81 := ezv81.symm; subst ezv81; replace ezs76 := ezs76.symm; subst ezs76; replace ezv39 := ezv39.symm; subst ezv39; replace ezv27 := ezv27.symm; subst ezv27; replace ezs7 := ezs7.symm; subst ezs7; replace ezs2 := ezs2.symm; subst ezs2; first | exact ix2s (hm.dv zc99) v12 | exact ix2s (hm.dv zc99_2) v02 | exact ix2s (hm.dv zc99) v02) dX7_take_140 ?_
          refine lv_iload hx hb dX7_take_141 (lv_at hl 1 rfl) ?_
          change W _ _ _ _ _ _ _ _ _ _ _ _ _ _ _ (F0 m 143 ls _)
          refine lv_iadd hx hb dX7_take_143 ?_
          refine iS (f := 6) (n := 16) X w m4_6 rfl (by replace ezs90 := ezs90.symm; subst ezs90; replace ezv81 := ezv81.symm; subst ezv81; replace ezs76 := ezs76.symm; subst ezs76; replace ezv39 := ezv39.symm; subst ezv39; replace ezv27 := ezv27.symm; subst ezv27; replace ezs7 := ezs7.symm; subst ezs7; replace ezs2 := ezs2.symm; subst ezs2; first | exact ix2s (hm.dv zc99) v12 | exact ix2s (hm.dv zc99_2) v02 | exact ix2s (hm.dv zc99) v02) dX7_take_144 (fun zs144 H locs ezs144 w => ?_)
          refine lv_iinc (v := 0) (lv' := [(3, .int 0), (2, .int zv81), (5, .int zv27), (4, .int zv39), (0, .ref (aa G 4 0)), (1, .int x1)]) hx hb dX7_take_145 hl (k := 3) rfl (by decide) (by decide) rfl (fun ls hl => ?_)
          refine lv_goto (tgt := 30) hx hb dX7_take_148 (by decide) ?_
          refine lv_iload_n hx hb dX7_take_30 rfl (lv_at hl 0 rfl) ?_
          refine lv_if_lt (tgt := 151) hx hb dX7_take_31 (by decide) (fun zc31 => absurd zc31 (by decide)) (fun _ => ?_)
          refine lv_iconst (v := 2) hx hb dX7_take_34 (by decide) ?_
          refine lv_iload_n hx hb dX7_take_35 rfl (lv_at hl 5 rfl) ?_
          refine lv_imul hx hb dX7_take_36 ?_
          refine lv_iload_n hx hb dX7_take_37 rfl (lv_at hl 0 rfl) ?_
          refine lv_iadd hx hb dX7_take_38 ?_
          refine lv_topi (fun zv39_2 ezv39_2 => ?_)
          refine lv_istore (lv' := [(4, .int zv39_2), (3, .int 0), (2, .int zv81), (5, .int zv27), (0, .ref (aa G 4 0)), (1, .int x1)]) hx hb dX7_take_39 hl (by decide) rfl (fun ls hl => ?_)
          change W _ _ _ _ _ _ _ _ _ _ _ _ _ _ _ (F0 m 41 ls _)
          refine lv_aload_n hx hb dX7_take_41 rfl (lv_at hl 4 rfl) ?_
          refine gf7_28 X w dX7_take_42 ?_
          refine lv_iload hx hb dX7_take_45 (lv_at hl 0 rfl) ?_
          refine ia (f := 7) (n := 16) X w m4_7 rfl (by replace ezv39_2 := ezv39_2.symm; subst ezv39_2; replace ezs144 := ezs144.symm; subst ezs144; replace ezs90 := ezs90.symm; subst ezs90; replace ezv81 := ezv81.symm; subst ezv81; replace ezs76 := ezs76.symm; subst ezs76; replace ezv39 := ezv39.symm; subst ezv39; replace ezv27 := ezv27.symm; subst ezv27; replace ezs7 := ezs7.symm; subst ezs7; replace ezs2 := ezs2.symm; subst ezs2; first | exact ix2s (hfrom.resolve_left zc11) v12 | exact ix2s (hfrom.resolve_left zc11) v02) dX7_take_47 ?_
          refine lv_iload_n hx hb dX7_take_48 rfl (lv_at hl 2 rfl) ?_
          refine lv_icmp_ge (tgt := 62) hx hb dX7_take_49 (by decide) (fun zc49_2 => ?_) (fun zc49_2 => ?_)
          · -- 62
            refine lv_iload_n hx hb dX7_take_62 rfl (lv_at hl 2 rfl) ?_
            refine lv_istore (lv' := [(5, .int zv81), (4, .int zv39_2), (3, .int 0), (2, .int zv81), (0, .ref (aa G 4 0)), (1, .int x1)]) hx hb dX7_take_63 hl (by decide) rfl (fun ls hl => ?_)
            refine lv_aload_n hx hb dX7_take_65 rfl (lv_at hl 4 rfl) ?_
            refine gf7_28 X w dX7_take_66 ?_
            refine lv_iload hx hb dX7_take_69 (lv_at hl 1 rfl) ?_
            refine lv_dup2_11 hx hb dX7_take_71 rfl rfl ?_
            refine ia (f := 7) (n := 16) X w m4_7 rfl (by replace ezv39_2 := ezv39_2.symm; subst ezv39_2; replace ezs144 := ezs144.symm; subst ezs144; replace ezs90 := ezs90.symm; subst ezs90; replace ezv81 := ezv81.symm; subst ezv81; replace ezs76 := ezs76.symm; subst ezs76; replace ezv39 := ezv39.symm; subst ezv39; replace ezv27 := ezv27.symm; subst ezv27; replace ezs7 := ezs7.symm; subst ezs7; replace ezs2 := ezs2.symm; subst ezs2; first | exact ix2s (hfrom.resolve_left zc11) v12 | exact ix2s (hfrom.resolve_left zc11) v02) dX7_take_72 ?_
            refine lv_iload hx hb dX7_take_73 (lv_at hl 0 rfl) ?_
            refine lv_isub hx hb dX7_take_75 ?_
            refine iS (f := 7) (n := 16) X w m4_7 rfl (by replace ezv39_2 := ezv39_2.symm; subst ezv39_2; replace ezs144 := ezs144.symm; subst ezs144; replace ezs90 := ezs90.symm; subst ezs90; replace ezv81 := ezv81.symm; subst ezv81; replace ezs76 := ezs76.symm; subst ezs76; replace ezv39 := ezv39.symm; subst ezv39; replace ezv27 := ezv27.symm; subst ezv27; replace ezs7 := ezs7.symm; subst ezs7; replace ezs2 := ezs2.symm; subst ezs2; first | exact ix2s (hfrom.resolve_left zc11) v12 | exact ix2s (hfrom.resolve_left zc11) v02) dX7_take_76 (fun zs76_2 H locs ezs76_2 w => ?_)
            refine lv_iload_n hx hb dX7_take_77 rfl (lv_at hl 3 rfl) ?_
            change W _ _ _ _ _ _ _ _ _ _ _ _ _ _ _ (F0 m 78 ls _)
            refine lv_iload hx hb dX7_take_78 (lv_at hl 0 rfl) ?_
            refine lv_isub hx hb dX7_take_80 ?_
            refine lv_topi (fun zv81_2 ezv81_2 => ?_)
            refine lv_istore_n (lv' := [(2, .int zv81_2), (5, .int zv81), (4, .int zv39_2), (3, .int 0), (0, .ref (aa G 4 0)), (1, .int x1)]) hx hb dX7_take_81 rfl hl (by decide) rfl (fun ls hl => ?_)
            refine lv_aload_n hx hb dX7_take_82 rfl (lv_at hl 4 rfl) ?_
            refine lv_dup hx hb dX7_take_83 rfl ?_
            refine gf7_197 X w dX7_take_84 ?_
            refine lv_iload hx hb dX7_take_87 (lv_at hl 1 rfl) ?_
            refine lv_iadd hx hb dX7_take_89 ?_
            refine pf7_197 X w dX7_take_90 (fun zs90_2 H locs ezs90_2 w => ?_)
            refine lv_aload_n hx hb dX7_take_93 rfl (lv_at hl 4 rfl) ?_
            refine gf7_66 X w dX7_take_94 ?_
            refine lv_bipush (v := 8) hx hb dX7_take_97 (by decide) ?_
            change W _ _ _ _ _ _ _ _ _ _ _ _ _ _ _ (F0 m 99 ls _)
            refine lv_icmp_ne (tgt := 127) hx hb dX7_take_99 (by decide) (fun zc99_2 => ?_) (fun zc99_2 => ?_)
            · -- 127
              refine lv_aload_n hx hb dX7_take_127 rfl (lv_at hl 4 rfl) ?_
              refine gf7_25 X w dX7_take_128 ?_
              refine lv_iconst (v := 2) hx hb dX7_take_131 (by decide) ?_
              refine lv_aload_n hx hb dX7_take_132 rfl (lv_at hl 4 rfl) ?_
              refine gf7_66 X w dX7_take_133 ?_
              refine lv_imul hx hb dX7_take_136 ?_
              refine lv_iload_n hx hb dX7_take_137 rfl (lv_at hl 3 rfl) ?_
              refine lv_iadd hx hb dX7_take_138 ?_
              refine lv_dup2_11 hx hb dX7_take_139 rfl rfl ?_
              refine ia (f := 6) (n := 16) X w m4_6 rfl (by replace ezs90_2 := ezs90_2.symm; subst ezs90_2; replace ezv81_2 := ezv81_2.symm; subst ezv81_2; replace ezs76_2 := ezs76_2.symm; subst ezs76_2; replace ezv39_2 := ezv39_2.symm; subst ezv39_2; replace ezs144 := ezs144.symm; subst ezs144; replace ezs90 := ezs90.symm; subst ezs90; replace ezv81 := ezv81.symm; subst ezv81; replace ezs76 := ezs76.symm; subst ezs76; replace ezv39 := ezv39.symm; subst ezv39; replace ezv27 := ezv27.symm; subst ezv27; replace ezs7 := ezs7.symm; subst ezs7; replace ezs2 := ezs2.symm; subst ezs2; first | exact ix2s (hm.dv zc99) v12 | exact ix2s (hm.dv zc99_2) v02 | exact ix2s (hm.dv zc99) v02) dX7_take_140 ?_
              refine lv_iload hx hb dX7_take_141 (lv_at hl 1 rfl) ?_
              change W _ _ _ _ _ _ _ _ _ _ _ _ _ _ _ (F0 m 143 ls _)
              refine lv_iadd hx hb dX7_take_143 ?_
              refine iS (f := 6) (n := 16) X w m4_6 rfl (by replace ezs90_2 := ezs90_2.symm; subst ezs90_2; replace ezv81_2 := ezv81_2.symm; subst ezv81_2; replace ezs76_2 := ezs76_2.symm; subst ezs76_2; replace ezv39_2 := ezv39_2.symm; subst ezv39_2; replace ezs144 := ezs144.symm; subst ezs144; replace ezs90 := ezs90.symm; subst ezs90; replace ezv81 := ezv81.symm; subst ezv81; replace ezs76 := ezs76.symm; subst ezs76; replace ezv39 := ezv39.symm; subst ezv39; replace ezv27 := ezv27.symm; subst ezv27; replace ezs7 := ezs7.symm; subst ezs7; replace ezs2 := ezs2.symm; subst ezs2; first | exact ix2s (hm.dv zc99) v12 | exact ix2s (hm.dv zc99_2) v02 | exact ix2s (hm.dv zc99) v02) dX7_take_144 (fun zs144_2 H locs ezs144_2 w => ?_)
              refine lv_iinc (v := (-1)) (lv' := [(3, .int (-1)), (2, .int zv81_2), (5, .int zv81), (4, .int zv39_2), (0, .ref (aa G 4 0)), (1, .int x1)]) hx hb dX7_take_145 hl (k := 3) rfl (by decide) (by decide) rfl (fun ls hl => ?_)
              refine lv_goto (tgt := 30) hx hb dX7_take_148 (by decide) ?_
              refine lv_iload_n hx hb dX7_take_30 rfl (lv_at hl 0 rfl) ?_
              refine lv_if_lt (tgt := 151) hx hb dX7_take_31 (by decide) (fun _ => ?_) (fun zc31 => absurd (by decide) zc31)
              refine lv_aload_n hx hb dX7_take_151 rfl (lv_at hl 4 rfl) ?_
              refine lv_dup hx hb dX7_take_152 rfl ?_
              refine gf7_203 X w dX7_take_153 ?_
              refine lv_aload_n hx hb dX7_take_156 rfl (lv_at hl 4 rfl) ?_
              refine gf7_197 X w dX7_take_157 ?_
              refine lv_iadd hx hb dX7_take_160 ?_
              change W _ _ _ _ _ _ _ _ _ _ _ _ _ _ _ (F0 m 161 ls _)
              refine pf7_203 X w dX7_take_161 (fun zs161 H locs ezs161 w => ?_)
              exact t_v X w hr hlk dX7_take_164 (by replace ezs161 := ezs161.symm; subst ezs161; replace ezs144_2 := ezs144_2.symm; subst ezs144_2; replace ezs90_2 := ezs90_2.symm; subst ezs90_2; replace ezv81_2 := ezv81_2.symm; subst ezv81_2; replace ezs76_2 := ezs76_2.symm; subst ezs76_2; replace ezv39_2 := ezv39_2.symm; subst ezv39_2; replace ezs144 := ezs144.symm; subst ezs144; replace ezs90 := ezs90.symm; subst ezs90; replace ezv81 := ezv81.symm; subst ezv81; replace ezs76 := ezs76.symm; subst ezs76; replace ezv39 := ezv39.symm; subst ezv39; replace ezv27 := ezv27.symm; subst ezv27; replace ezs7 := ezs7.symm; subst ezs7; replace ezs2 := ezs2.symm; subst ezs2; simp only [g_X7_take, if_neg zc11, if_neg zc19, if_pos zc49, if_neg zc99, if_pos zc49_2, if_neg zc99_2])
            · -- 102
              refine lv_aload_n hx hb dX7_take_102 rfl (lv_at hl 4 rfl) ?_
              refine lv_dup hx hb dX7_take_103 rfl ?_
              refine gf7_200 X w dX7_take_104 ?_
              refine lv_iload hx hb dX7_take_107 (lv_at hl 1 rfl) ?_
              refine lv_iadd hx hb dX7_take_109 ?_
              refine pf7_200 X w dX7_take_110 (fun zs110 H locs ezs110 w => ?_)
              refine lv_aload_n hx hb dX7_take_113 rfl (lv_at hl 4 rfl) ?_
              refine lv_dup hx hb dX7_take_114 rfl ?_
              refine gf7_194 X w dX7_take_115 ?_
              refine lv_iload hx hb dX7_take_118 (lv_at hl 1 rfl) ?_
              refine lv_iadd hx hb dX7_take_120 ?_
              change W _ _ _ _ _ _ _ _ _ _ _ _ _ _ _ (F0 m 121 ls _)
              refine pf7_194 X w dX7_take_121 (fun zs121 H locs ezs121 w => ?_)
              refine lv_goto (tgt := 145) hx hb dX7_take_124 (by decide) ?_
              refine lv_iinc (v := (-1)) (lv' := [(3, .int (-1)), (2, .int zv81_2), (5, .int zv81), (4, .int zv39_2), (0, .ref (aa G 4 0)), (1, .int x1)]) hx hb dX7_take_145 hl (k := 3) rfl (by decide) (by decide) rfl (fun ls hl => ?_)
              refine lv_goto (tgt := 30) hx hb dX7_take_148 (by decide) ?_
              refine lv_iload_n hx hb dX7_take_30 rfl (lv_at hl 0 rfl) ?_
              refine lv_if_lt (tgt := 151) hx hb dX7_take_31 (by decide) (fun _ => ?_) (fun zc31 => absurd (by decide) zc31)
              refine lv_aload_n hx hb dX7_take_151 rfl (lv_at hl 4 rfl) ?_
              refine lv_dup hx hb dX7_take_152 rfl ?_
              refine gf7_203 X w dX7_take_153 ?_
              refine lv_aload_n hx hb dX7_take_156 rfl (lv_at hl 4 rfl) ?_
              refine gf7_197 X w dX7_take_157 ?_
              refine lv_iadd hx hb dX7_take_160 ?_
              change W _ _ _ _ _ _ _ _ _ _ _ _ _ _ _ (F0 m 161 ls _)
              refine pf7_203 X w dX7_take_161 (fun zs161_2 H locs ezs161_2 w => ?_)
              exact t_v X w hr hlk dX7_take_164 (by replace ezs161_2 := ezs161_2.symm; subst ezs161_2; replace ezs121 := ezs121.symm; subst ezs121; replace ezs110 := ezs110.symm; subst ezs110; replace ezs90_2 := ezs90_2.symm; subst ezs90_2; replace ezv81_2 := ezv81_2.symm; subst ezv81_2; replace ezs76_2 := ezs76_2.symm; subst ezs76_2; replace ezv39_2 := ezv39_2.symm; subst ezv39_2; replace ezs144 := ezs144.symm; subst ezs144; replace ezs90 := ezs90.symm; subst ezs90; replace ezv81 := ezv81.symm; subst ezv81; replace ezs76 := ezs76.symm; subst ezs76; replace ezv39 := ezv39.symm; subst ezv39; replace ezv27 := ezv27.symm; subst ezv27; replace ezs7 := ezs7.symm; subst ezs7; replace ezs2 := ezs2.symm; subst ezs2; simp only [g_X7_take, if_neg zc11, if_neg zc19, if_pos zc49, if_neg zc99, if_pos zc49_2, if_pos zc99_2])
          · -- 52
            refine lv_aload_n hx hb dX7_take_52 rfl (lv_at hl 4 rfl) ?_
            refine gf7_28 X w dX7_take_53 ?_
            refine lv_iload hx hb dX7_take_56 (lv_at hl 0 rfl) ?_
            refine ia (f := 7) (n := 16) X w m4_7 rfl (by replace ezv39_2 := ezv39_2.symm; subst ezv39_2; replace ezs144 := ezs144.symm; subst ezs144; replace ezs90 := ezs90.symm; subst ezs90; replace ezv81 := ezv81.symm; subst ezv81; replace ezs76 := ezs76.symm; subst ezs76; replace ezv39 := ezv39.symm; subst ezv39; replace ezv27 := ezv27.symm; subst ezv27; replace ezs7 := ezs7.symm; subst ezs7; replace ezs2 := ezs2.symm; subst ezs2; first | exact ix2s (hfrom.resolve_left zc11) v12 | exact ix2s (hfrom.resolve_left zc11) v02) dX7_take_58 ?_
            refine lv_goto (tgt := 63) hx hb dX7_take_59 (by decide) ?_
            refine lv_topi (fun zv63 ezv63 => ?_)
            refine lv_istore (lv' := [(5, .int zv63), (4, .int zv39_2), (3, .int 0), (2, .int zv81), (0, .ref (aa G 4 0)), (1, .int x1)]) hx hb dX7_take_63 hl (by decide) rfl (fun ls hl => ?_)
            refine lv_aload_n hx hb dX7_take_65 rfl (lv_at hl 4 rfl) ?_
            refine gf7_28 X w dX7_take_66 ?_
            refine lv_iload hx hb dX7_take_69 (lv_at hl 1 rfl) ?_
            refine lv_dup2_11 hx hb dX7_take_71 rfl rfl ?_
            refine ia (f := 7) (n := 16) X w m4_7 rfl (by replace ezv63 := ezv63.symm; subst ezv63; replace ezv39_2 := ezv39_2.symm; subst ezv39_2; replace ezs144 := ezs144.symm; subst ezs144; replace ezs90 := ezs90.symm; subst ezs90; replace ezv81 := ezv81.symm; subst ezv81; replace ezs76 := ezs76.symm; subst ezs76; replace ezv39 := ezv39.symm; subst ezv39; replace ezv27 := ezv27.symm; subst ezv27; replace ezs7 := ezs7.symm; subst ezs7; replace ezs2 := ezs2.symm; subst ezs2; first | exact ix2s (hfrom.resolve_left zc11) v12 | exact ix2s (hfrom.resolve_left zc11) v02) dX7_take_72 ?_
            change W _ _ _ _ _ _ _ _ _ _ _ _ _ _ _ (F0 m 73 ls _)
            refine lv_iload hx hb dX7_take_73 (lv_at hl 0 rfl) ?_
            refine lv_isub hx hb dX7_take_75 ?_
            refine iS (f := 7) (n := 16) X w m4_7 rfl (by replace ezv63 := ezv63.symm; subst ezv63; replace ezv39_2 := ezv39_2.symm; subst ezv39_2; replace ezs144 := ezs144.symm; subst ezs144; replace ezs90 := ezs90.symm; subst ezs90; replace ezv81 := ezv81.symm; subst ezv81; replace ezs76 := ezs76.symm; subst ezs76; replace ezv39 := ezv39.symm; subst ezv39; replace ezv27 := ezv27.symm; subst ezv27; replace ezs7 := ezs7.symm; subst ezs7; replace ezs2 := ezs2.symm; subst ezs2; first | exact ix2s (hfrom.resolve_left zc11) v12 | exact ix2s (hfrom.resolve_left zc11) v02) dX7_take_76 (fun zs76_3 H locs ezs76_3 w => ?_)
            refine lv_iload_n hx hb dX7_take_77 rfl (lv_at hl 3 rfl) ?_
            refine lv_iload hx hb dX7_take_78 (lv_at hl 0 rfl) ?_
            refine lv_isub hx hb dX7_take_80 ?_
            refine lv_topi (fun zv81_3 ezv81_3 => ?_)
            refine lv_istore_n (lv' := [(2, .int zv81_3), (5, .int zv63), (4, .int zv39_2), (3, .int 0), (0, .ref (aa G 4 0)), (1, .int x1)]) hx hb dX7_take_81 rfl hl (by decide) rfl (fun ls hl => ?_)
            refine lv_aload_n hx hb dX7_take_82 rfl (lv_at hl 4 rfl) ?_
            refine lv_dup hx hb dX7_take_83 rfl ?_
            refine gf7_197 X w dX7_take_84 ?_
            refine lv_iload hx hb dX7_take_87 (lv_at hl 1 rfl) ?_
            refine lv_iadd hx hb dX7_take_89 ?_
            change W _ _ _ _ _ _ _ _ _ _ _ _ _ _ _ (F0 m 90 ls _)
            refine pf7_197 X w dX7_take_90 (fun zs90_3 H locs ezs90_3 w => ?_)
            refine lv_aload_n hx hb dX7_take_93 rfl (lv_at hl 4 rfl) ?_
            refine gf7_66 X w dX7_take_94 ?_
            refine lv_bipush (v := 8) hx hb dX7_take_97 (by decide) ?_
            refine lv_icmp_ne (tgt := 127) hx hb dX7_take_99 (by decide) (fun zc99_2 => ?_) (fun zc99_2 => ?_)
            · -- 127
              refine lv_aload_n hx hb dX7_take_127 rfl (lv_at hl 4 rfl) ?_
              refine gf7_25 X w dX7_take_128 ?_
              refine lv_iconst (v := 2) hx hb dX7_take_131 (by decide) ?_
              refine lv_aload_n hx hb dX7_take_132 rfl (lv_at hl 4 rfl) ?_
              refine gf7_66 X w dX7_take_133 ?_
              refine lv_imul hx hb dX7_take_136 ?_
              refine lv_iload_n hx hb dX7_take_137 rfl (lv_at hl 3 rfl) ?_
              refine lv_iadd hx hb dX7_take_138 ?_
              refine lv_dup2_11 hx hb dX7_take_139 rfl rfl ?_
              refine ia (f := 6) (n := 16) X w m4_6 rfl (by replace ezs90_3 := ezs90_3.symm; subst ezs90_3; replace ezv81_3 := ezv81_3.symm; subst ezv81_3; replace ezs76_3 := ezs76_3.symm; subst ezs76_3; replace ezv63 := ezv63.symm; subst ezv63; replace ezv39_2 := ezv39_2.symm; subst ezv39_2; replace ezs144 := ezs144.symm; subst ezs144; replace ezs90 := ezs90.symm; subst ezs90; replace ezv81 := ezv81.symm; subst ezv81; replace ezs76 := ezs76.symm; subst ezs76; replace ezv39 := ezv39.symm; subst ezv39; replace ezv27 := ezv27.symm; subst ezv27; replace ezs7 := ezs7.symm; subst ezs7; replace ezs2 := ezs2.symm; subst ezs2; first | exact ix2s (hm.dv zc99) v12 | exact ix2s (hm.dv zc99_2) v02 | exact ix2s (hm.dv zc99) v02) dX7_take_140 ?_
              refine lv_iload hx hb dX7_take_141 (lv_at hl 1 rfl) ?_
              change W _ _ _ _ _ _ _ _ _ _ _ _ _ _ _ (F0 m 143 ls _)
              refine lv_iadd hx hb dX7_take_143 ?_
              refine iS (f := 6) (n := 16) X w m4_6 rfl (by replace ezs90_3 := ezs90_3.symm; subst ezs90_3; replace ezv81_3 := ezv81_3.symm; subst ezv81_3; replace ezs76_3 := ezs76_3.symm; subst ezs76_3; replace ezv63 := ezv63.symm; subst ezv63; replace ezv39_2 := ezv39_2.symm; subst ezv39_2; replace ezs144 := ezs144.symm; subst ezs144; replace ezs90 := ezs90.symm; subst ezs90; replace ezv81 := ezv81.symm; subst ezv81; replace ezs76 := ezs76.symm; subst ezs76; replace ezv39 := ezv39.symm; subst ezv39; replace ezv27 := ezv27.symm; subst ezv27; replace ezs7 := ezs7.symm; subst ezs7; replace ezs2 := ezs2.symm; subst ezs2; first | exact ix2s (hm.dv zc99) v12 | exact ix2s (hm.dv zc99_2) v02 | exact ix2s (hm.dv zc99) v02) dX7_take_144 (fun zs144_3 H locs ezs144_3 w => ?_)
              refine lv_iinc (v := (-1)) (lv' := [(3, .int (-1)), (2, .int zv81_3), (5, .int zv63), (4, .int zv39_2), (0, .ref (aa G 4 0)), (1, .int x1)]) hx hb dX7_take_145 hl (k := 3) rfl (by decide) (by decide) rfl (fun ls hl => ?_)
              refine lv_goto (tgt := 30) hx hb dX7_take_148 (by decide) ?_
              refine lv_iload_n hx hb dX7_take_30 rfl (lv_at hl 0 rfl) ?_
              refine lv_if_lt (tgt := 151) hx hb dX7_take_31 (by decide) (fun _ => ?_) (fun zc31 => absurd (by decide) zc31)
              refine lv_aload_n hx hb dX7_take_151 rfl (lv_at hl 4 rfl) ?_
              refine lv_dup hx hb dX7_take_152 rfl ?_
              refine gf7_203 X w dX7_take_153 ?_
              refine lv_aload_n hx hb dX7_take_156 rfl (lv_at hl 4 rfl) ?_
              refine gf7_197 X w dX7_take_157 ?_
              refine lv_iadd hx hb dX7_take_160 ?_
              change W _ _ _ _ _ _ _ _ _ _ _ _ _ _ _ (F0 m 161 ls _)
              refine pf7_203 X w dX7_take_161 (fun zs161_3 H locs ezs161_3 w => ?_)
              exact t_v X w hr hlk dX7_take_164 (by replace ezs161_3 := ezs161_3.symm; subst ezs161_3; replace ezs144_3 := ezs144_3.symm; subst ezs144_3; replace ezs90_3 := ezs90_3.symm; subst ezs90_3; replace ezv81_3 := ezv81_3.symm; subst ezv81_3; replace ezs76_3 := ezs76_3.symm; subst ezs76_3; replace ezv63 := ezv63.symm; subst ezv63; replace ezv39_2 := ezv39_2.symm; subst ezv39_2; replace ezs144 := ezs144.symm; subst ezs144; replace ezs90 := ezs90.symm; subst ezs90; replace ezv81 := ezv81.symm; subst ezv81; replace ezs76 := ezs76.symm; subst ezs76; replace ezv39 := ezv39.symm; subst ezv39; replace ezv27 := ezv27.symm; subst ezv27; replace ezs7 := ezs7.symm; subst ezs7; replace ezs2 := ezs2.symm; subst ezs2; simp only [g_X7_take, if_neg zc11, if_neg zc19, if_pos zc49, if_neg zc99, if_neg zc49_2, if_neg zc99_2])
            · -- 102
              refine lv_aload_n hx hb dX7_take_102 rfl (lv_at hl 4 rfl) ?_
              refine lv_dup hx hb dX7_take_103 rfl ?_
              refine gf7_200 X w dX7_take_104 ?_
              refine lv_iload hx hb dX7_take_107 (lv_at hl 1 rfl) ?_
              refine lv_iadd hx hb dX7_take_109 ?_
              refine pf7_200 X w dX7_take_110 (fun zs110_2 H locs ezs110_2 w => ?_)
              refine lv_aload_n hx hb dX7_take_113 rfl (lv_at hl 4 rfl) ?_
              refine lv_dup hx hb dX7_take_114 rfl ?_
              refine gf7_194 X w dX7_take_115 ?_
              refine lv_iload hx hb dX7_take_118 (lv_at hl 1 rfl) ?_
              refine lv_iadd hx hb dX7_take_120 ?_
              change W _ _ _ _ _ _ _ _ _ _ _ _ _ _ _ (F0 m 121 ls _)
              refine pf7_194 X w dX7_take_121 (fun zs121_2 H locs ezs121_2 w => ?_)
              refine lv_goto (tgt := 145) hx hb dX7_take_124 (by decide) ?_
              refine lv_iinc (v := (-1)) (lv' := [(3, .int (-1)), (2, .int zv81_3), (5, .int zv63), (4, .int zv39_2), (0, .ref (aa G 4 0)), (1, .int x1)]) hx hb dX7_take_145 hl (k := 3) rfl (by decide) (by decide) rfl (fun ls hl => ?_)
              refine lv_goto (tgt := 30) hx hb dX7_take_148 (by decide) ?_
              refine lv_iload_n hx hb dX7_take_30 rfl (lv_at hl 0 rfl) ?_
              refine lv_if_lt (tgt := 151) hx hb dX7_take_31 (by decide) (fun _ => ?_) (fun zc31 => absurd (by decide) zc31)
              refine lv_aload_n hx hb dX7_take_151 rfl (lv_at hl 4 rfl) ?_
              refine lv_dup hx hb dX7_take_152 rfl ?_
              refine gf7_203 X w dX7_take_153 ?_
              refine lv_aload_n hx hb dX7_take_156 rfl (lv_at hl 4 rfl) ?_
              refine gf7_197 X w dX7_take_157 ?_
              refine lv_iadd hx hb dX7_take_160 ?_
              change W _ _ _ _ _ _ _ _ _ _ _ _ _ _ _ (F0 m 161 ls _)
              refine pf7_203 X w dX7_take_161 (fun zs161_4 H locs ezs161_4 w => ?_)
              exact t_v X w hr hlk dX7_take_164 (by replace ezs161_4 := ezs161_4.symm; subst ezs161_4; replace ezs121_2 := ezs121_2.symm; subst ezs121_2; replace ezs110_2 := ezs110_2.symm; subst ezs110_2; replace ezs90_3 := ezs90_3.symm; subst ezs90_3; replace ezv81_3 := ezv81_3.symm; subst ezv81_3; replace ezs76_3 := ezs76_3.symm; subst ezs76_3; replace ezv63 := ezv63.symm; subst ezv63; replace ezv39_2 := ezv39_2.symm; subst ezv39_2; replace ezs144 := ezs144.symm; subst ezs144; replace ezs90 := ezs90.symm; subst ezs90; replace ezv81 := ezv81.symm; subst ezv81; replace ezs76 := ezs76.symm; subst ezs76; replace ezv39 := ezv39.symm; subst ezv39; replace ezv27 := ezv27.symm; subst ezv27; replace ezs7 := ezs7.symm; subst ezs7; replace ezs2 := ezs2.symm; subst ezs2; simp only [g_X7_take, if_neg zc11, if_neg zc19, if_pos zc49, if_neg zc99, if_neg zc49_2, if_pos zc99_2])
        · -- 102
          refine lv_aload_n hx hb dX7_take_102 rfl (lv_at hl 4 rfl) ?_
          refine lv_dup hx hb dX7_take_103 rfl ?_
          refine gf7_200 X w dX7_take_104 ?_
          refine lv_iload hx hb dX7_take_107 (lv_at hl 1 rfl) ?_
          refine lv_iadd hx hb dX7_take_109 ?_
          refine pf7_200 X w dX7_take_110 (fun zs110_3 H locs ezs110_3 w => ?_)
          refine lv_aload_n hx hb dX7_take_113 rfl (lv_at hl 4 rfl) ?_
          refine lv_dup hx hb dX7_take_114 rfl ?_
          refine gf7_194 X w dX7_take_115 ?_
          refine lv_iload hx hb dX7_take_118 (lv_at hl 1 rfl) ?_
          refine lv_iadd hx hb dX7_take_120 ?_
          change W _ _ _ _ _ _ _ _ _ _ _ _ _ _ _ (F0 m 121 ls _)
          refine pf7_194 X w dX7_take_121 (fun zs121_3 H locs ezs121_3 w => ?_)
          refine lv_goto (tgt := 145) hx hb dX7_take_124 (by decide) ?_
          refine lv_iinc (v := 0) (lv' := [(3, .int 0), (2, .int zv81), (5, .int zv27), (4, .int zv39), (0, .ref (aa G 4 0)), (1, .int x1)]) hx hb dX7_take_145 hl (k := 3) rfl (by decide) (by decide) rfl (fun ls hl => ?_)
          refine lv_goto (tgt := 30) hx hb dX7_take_148 (by decide) ?_
          refine lv_iload_n hx hb dX7_take_30 rfl (lv_at hl 0 rfl) ?_
          refine lv_if_lt (tgt := 151) hx hb dX7_take_31 (by decide) (fun zc31 => absurd zc31 (by decide)) (fun _ => ?_)
          refine lv_iconst (v := 2) hx hb dX7_take_34 (by decide) ?_
          refine lv_iload_n hx hb dX7_take_35 rfl (lv_at hl 5 rfl) ?_
          refine lv_imul hx hb dX7_take_36 ?_
          refine lv_iload_n hx hb dX7_take_37 rfl (lv_at hl 0 rfl) ?_
          refine lv_iadd hx hb dX7_take_38 ?_
          refine lv_topi (fun zv39_3 ezv39_3 => ?_)
          refine lv_istore (lv' := [(4, .int zv39_3), (3, .int 0), (2, .int zv81), (5, .int zv27), (0, .ref (aa G 4 0)), (1, .int x1)]) hx hb dX7_take_39 hl (by decide) rfl (fun ls hl => ?_)
          change W _ _ _ _ _ _ _ _ _ _ _ _ _ _ _ (F0 m 41 ls _)
          refine lv_aload_n hx hb dX7_take_41 rfl (lv_at hl 4 rfl) ?_
          refine gf7_28 X w dX7_take_42 ?_
          refine lv_iload hx hb dX7_take_45 (lv_at hl 0 rfl) ?_
          refine ia (f := 7) (n := 16) X w m4_7 rfl (by replace ezv39_3 := ezv39_3.symm; subst ezv39_3; replace ezs121_3 := ezs121_3.symm; subst ezs121_3; replace ezs110_3 := ezs110_3.symm; subst ezs110_3; replace ezs90 := ezs90.symm; subst ezs90; replace ezv81 := ezv81.symm; subst ezv81; replace ezs76 := ezs76.symm; subst ezs76; replace ezv39 := ezv39.symm; subst ezv39; replace ezv27 := ezv27.symm; subst ezv27; replace ezs7 := ezs7.symm; subst ezs7; replace ezs2 := ezs2.symm; subst ezs2; first | exact ix2s (hfrom.resolve_left zc11) v12 | exact ix2s (hfrom.resolve_left zc11) v02) dX7_take_47 ?_
          refine lv_iload_n hx hb dX7_take_48 rfl (lv_at hl 2 rfl) ?_
          refine lv_icmp_ge (tgt := 62) hx hb dX7_take_49 (by decide) (fun zc49_2 => ?_) (fun zc49_2 => ?_)
          · -- 62
            refine lv_iload_n hx hb dX7_take_62 rfl (lv_at hl 2 rfl) ?_
            refine lv_istore (lv' := [(5, .int zv81), (4, .int zv39_3), (3, .int 0), (2, .int zv81), (0, .ref (aa G 4 0)), (1, .int x1)]) hx hb dX7_take_63 hl (by decide) rfl (fun ls hl => ?_)
            refine lv_aload_n hx hb dX7_take_65 rfl (lv_at hl 4 rfl) ?_
            refine gf7_28 X w dX7_take_66 ?_
            refine lv_iload hx hb dX7_take_69 (lv_at hl 1 rfl) ?_
            refine lv_dup2_11 hx hb dX7_take_71 rfl rfl ?_
            refine ia (f := 7) (n := 16) X w m4_7 rfl (by replace ezv39_3 := ezv39_3.symm; subst ezv39_3; replace ezs121_3 := ezs121_3.symm; subst ezs121_3; replace ezs110_3 := ezs110_3.symm; subst ezs110_3; replace ezs90 := ezs90.symm; subst ezs90; replace ezv81 := ezv81.symm; subst ezv81; replace ezs76 := ezs76.symm; subst ezs76; replace ezv39 := ezv39.symm; subst ezv39; replace ezv27 := ezv27.symm; subst ezv27; replace ezs7 := ezs7.symm; subst ezs7; replace ezs2 := ezs2.symm; subst ezs2; first | exact ix2s (hfrom.resolve_left zc11) v12 | exact ix2s (hfrom.resolve_left zc11) v02) dX7_take_72 ?_
            refine lv_iload hx hb dX7_take_73 (lv_at hl 0 rfl) ?_
            refine lv_isub hx hb dX7_take_75 ?_
            refine iS (f := 7) (n := 16) X w m4_7 rfl (by replace ezv39_3 := ezv39_3.symm; subst ezv39_3; replace ezs121_3 := ezs121_3.symm; subst ezs121_3; replace ezs110_3 := ezs110_3.symm; subst ezs110_3; replace ezs90 := ezs90.symm; subst ezs90; replace ezv81 := ezv81.symm; subst ezv81; replace ezs76 := ezs76.symm; subst ezs76; replace ezv39 := ezv39.symm; subst ezv39; replace ezv27 := ezv27.symm; subst ezv27; replace ezs7 := ezs7.symm; subst ezs7; replace ezs2 := ezs2.symm; subst ezs2; first | exact ix2s (hfrom.resolve_left zc11) v12 | exact ix2s (hfrom.resolve_left zc11) v02) dX7_take_76 (fun zs76_4 H locs ezs76_4 w => ?_)
            refine lv_iload_n hx hb dX7_take_77 rfl (lv_at hl 3 rfl) ?_
            change W _ _ _ _ _ _ _ _ _ _ _ _ _ _ _ (F0 m 78 ls _)
            refine lv_iload hx hb dX7_take_78 (lv_at hl 0 rfl) ?_
            refine lv_isub hx hb dX7_take_80 ?_
            refine lv_topi (fun zv81_4 ezv81_4 => ?_)
            refine lv_istore_n (lv' := [(2, .int zv81_4), (5, .int zv81), (4, .int zv39_3), (3, .int 0), (0, .ref (aa G 4 0)), (1, .int x1)]) hx hb dX7_take_81 rfl hl (by decide) rfl (fun ls hl => ?_)
            refine lv_aload_n hx hb dX7_take_82 rfl (lv_at hl 4 rfl) ?_
            refine lv_dup hx hb dX7_take_83 rfl ?_
            refine gf7_197 X w dX7_take_84 ?_
            refine lv_iload hx hb dX7_take_87 (lv_at hl 1 rfl) ?_
            refine lv_iadd hx hb dX7_take_89 ?_
            refine pf7_197 X w dX7_take_90 (fun zs90_4 H locs ezs90_4 w => ?_)
            refine lv_aload_n hx hb dX7_take_93 rfl (lv_at hl 4 rfl) ?_
            refine gf7_66 X w dX7_take_94 ?_
            refine lv_bipush (v := 8) hx hb dX7_take_97 (by decide) ?_
            change W _ _ _ _ _ _ _ _ _ _ _ _ _ _ _ (F0 m 99 ls _)
            refine lv_icmp_ne (tgt := 127) hx hb dX7_take_99 (by decide) (fun zc99_2 => ?_) (fun zc99_2 => ?_)
            · -- 127
              refine lv_aload_n hx hb dX7_take_127 rfl (lv_at hl 4 rfl) ?_
              refine gf7_25 X w dX7_take_128 ?_
              refine lv_iconst (v := 2) hx hb dX7_take_131 (by decide) ?_
              refine lv_aload_n hx hb dX7_take_132 rfl (lv_at hl 4 rfl) ?_
              refine gf7_66 X w dX7_take_133 ?_
              refine lv_imul hx hb dX7_take_136 ?_
              refine lv_iload_n hx hb dX7_take_137 rfl (lv_at hl 3 rfl) ?_
              refine lv_iadd hx hb dX7_take_138 ?_
              refine lv_dup2_11 hx hb dX7_take_139 rfl rfl ?_
              refine ia (f := 6) (n := 16) X w m4_6 rfl (by replace ezs90_4 := ezs90_4.symm; subst ezs90_4; replace ezv81_4 := ezv81_4.symm; subst ezv81_4; replace ezs76_4 := ezs76_4.symm; subst ezs76_4; replace ezv39_3 := ezv39_3.symm; subst ezv39_3; replace ezs121_3 := ezs121_3.symm; subst ezs121_3; replace ezs110_3 := ezs110_3.symm; subst ezs110_3; replace ezs90 := ezs90.symm; subst ezs90; replace ezv81 := ezv81.symm; subst ezv81; replace ezs76 := ezs76.symm; subst ezs76; replace ezv39 := ezv39.symm; subst ezv39; replace ezv27 := ezv27.symm; subst ezv27; replace ezs7 := ezs7.symm; subst ezs7; replace ezs2 := ezs2.symm; subst ezs2; first | exact ix2s (hm.dv zc99) v12 | exact ix2s (hm.dv zc99_2) v02 | exact ix2s (hm.dv zc99) v02) dX7_take_140 ?_
              refine lv_iload hx hb dX7_take_141 (lv_at hl 1 rfl) ?_
              change W _ _ _ _ _ _ _ _ _ _ _ _ _ _ _ (F0 m 143 ls _)
              refine lv_iadd hx hb dX7_take_143 ?_
              refine iS (f := 6) (n := 16) X w m4_6 rfl (by replace ezs90_4 := ezs90_4.symm; subst ezs90_4; replace ezv81_4 := ezv81_4.symm; subst ezv81_4; replace ezs76_4 := ezs76_4.symm; subst ezs76_4; replace ezv39_3 := ezv39_3.symm; subst ezv39_3; replace ezs121_3 := ezs121_3.symm; subst ezs121_3; replace ezs110_3 := ezs110_3.symm; subst ezs110_3; replace ezs90 := ezs90.symm; subst ezs90; replace ezv81 := ezv81.symm; subst ezv81; replace ezs76 := ezs76.symm; subst ezs76; replace ezv39 := ezv39.symm; subst ezv39; replace ezv27 := ezv27.symm; subst ezv27; replace ezs7 := ezs7.symm; subst ezs7; replace ezs2 := ezs2.symm; subst ezs2; first | exact ix2s (hm.dv zc99) v12 | exact ix2s (hm.dv zc99_2) v02 | exact ix2s (hm.dv zc99) v02) dX7_take_144 (fun zs144_4 H locs ezs144_4 w => ?_)
              refine lv_iinc (v := (-1)) (lv' := [(3, .int (-1)), (2, .int zv81_4), (5, .int zv81), (4, .int zv39_3), (0, .ref (aa G 4 0)), (1, .int x1)]) hx hb dX7_take_145 hl (k := 3) rfl (by decide) (by decide) rfl (fun ls hl => ?_)
              refine lv_goto (tgt := 30) hx hb dX7_take_148 (by decide) ?_
              refine lv_iload_n hx hb dX7_take_30 rfl (lv_at hl 0 rfl) ?_
              refine lv_if_lt (tgt := 151) hx hb dX7_take_31 (by decide) (fun _ => ?_) (fun zc31 => absurd (by decide) zc31)
              refine lv_aload_n hx hb dX7_take_151 rfl (lv_at hl 4 rfl) ?_
              refine lv_dup hx hb dX7_take_152 rfl ?_
              refine gf7_203 X w dX7_take_153 ?_
              refine lv_aload_n hx hb dX7_take_156 rfl (lv_at hl 4 rfl) ?_
              refine gf7_197 X w dX7_take_157 ?_
              refine lv_iadd hx hb dX7_take_160 ?_
              change W _ _ _ _ _ _ _ _ _ _ _ _ _ _ _ (F0 m 161 ls _)
              refine pf7_203 X w dX7_take_161 (fun zs161_5 H locs ezs161_5 w => ?_)
              exact t_v X w hr hlk dX7_take_164 (by replace ezs161_5 := ezs161_5.symm; subst ezs161_5; replace ezs144_4 := ezs144_4.symm; subst ezs144_4; replace ezs90_4 := ezs90_4.symm; subst ezs90_4; replace ezv81_4 := ezv81_4.symm; subst ezv81_4; replace ezs76_4 := ezs76_4.symm; subst ezs76_4; replace ezv39_3 := ezv39_3.symm; subst ezv39_3; replace ezs121_3 := ezs121_3.symm; subst ezs121_3; replace ezs110_3 := ezs110_3.symm; subst ezs110_3; replace ezs90 := ezs90.symm; subst ezs90; replace ezv81 := ezv81.symm; subst ezv81; replace ezs76 := ezs76.symm; subst ezs76; replace ezv39 := ezv39.symm; subst ezv39; replace ezv27 := ezv27.symm; subst ezv27; replace ezs7 := ezs7.symm; subst ezs7; replace ezs2 := ezs2.symm; subst ezs2; simp only [g_X7_take, if_neg zc11, if_neg zc19, if_pos zc49, if_pos zc99, if_pos zc49_2, if_neg zc99_2])
            · -- 102
              refine lv_aload_n hx hb dX7_take_102 rfl (lv_at hl 4 rfl) ?_
              refine lv_dup hx hb dX7_take_103 rfl ?_
              refine gf7_200 X w dX7_take_104 ?_
              refine lv_iload hx hb dX7_take_107 (lv_at hl 1 rfl) ?_
              refine lv_iadd hx hb dX7_take_109 ?_
              refine pf7_200 X w dX7_take_110 (fun zs110_4 H locs ezs110_4 w => ?_)
              refine lv_aload_n hx hb dX7_take_113 rfl (lv_at hl 4 rfl) ?_
              refine lv_dup hx hb dX7_take_114 rfl ?_
              refine gf7_194 X w dX7_take_115 ?_
              refine lv_iload hx hb dX7_take_118 (lv_at hl 1 rfl) ?_
              refine lv_iadd hx hb dX7_take_120 ?_
              change W _ _ _ _ _ _ _ _ _ _ _ _ _ _ _ (F0 m 121 ls _)
              refine pf7_194 X w dX7_take_121 (fun zs121_4 H locs ezs121_4 w => ?_)
              refine lv_goto (tgt := 145) hx hb dX7_take_124 (by decide) ?_
              refine lv_iinc (v := (-1)) (lv' := [(3, .int (-1)), (2, .int zv81_4), (5, .int zv81), (4, .int zv39_3), (0, .ref (aa G 4 0)), (1, .int x1)]) hx hb dX7_take_145 hl (k := 3) rfl (by decide) (by decide) rfl (fun ls hl => ?_)
              refine lv_goto (tgt := 30) hx hb dX7_take_148 (by decide) ?_
              refine lv_iload_n hx hb dX7_take_30 rfl (lv_at hl 0 rfl) ?_
              refine lv_if_lt (tgt := 151) hx hb dX7_take_31 (by decide) (fun _ => ?_) (fun zc31 => absurd (by decide) zc31)
              refine lv_aload_n hx hb dX7_take_151 rfl (lv_at hl 4 rfl) ?_
              refine lv_dup hx hb dX7_take_152 rfl ?_
              refine gf7_203 X w dX7_take_153 ?_
              refine lv_aload_n hx hb dX7_take_156 rfl (lv_at hl 4 rfl) ?_
              refine gf7_197 X w dX7_take_157 ?_
              refine lv_iadd hx hb dX7_take_160 ?_
              change W _ _ _ _ _ _ _ _ _ _ _ _ _ _ _ (F0 m 161 ls _)
              refine pf7_203 X w dX7_take_161 (fun zs161_6 H locs ezs161_6 w => ?_)
              exact t_v X w hr hlk dX7_take_164 (by replace ezs161_6 := ezs161_6.symm; subst ezs161_6; replace ezs121_4 := ezs121_4.symm; subst ezs121_4; replace ezs110_4 := ezs110_4.symm; subst ezs110_4; replace ezs90_4 := ezs90_4.symm; subst ezs90_4; replace ezv81_4 := ezv81_4.symm; subst ezv81_4; replace ezs76_4 := ezs76_4.symm; subst ezs76_4; replace ezv39_3 := ezv39_3.symm; subst ezv39_3; replace ezs121_3 := ezs121_3.symm; subst ezs121_3; replace ezs110_3 := ezs110_3.symm; subst ezs110_3; replace ezs90 := ezs90.symm; subst ezs90; replace ezv81 := ezv81.symm; subst ezv81; replace ezs76 := ezs76.symm; subst ezs76; replace ezv39 := ezv39.symm; subst ezv39; replace ezv27 := ezv27.symm; subst ezv27; replace ezs7 := ezs7.symm; subst ezs7; replace ezs2 := ezs2.symm; subst ezs2; simp only [g_X7_take, if_neg zc11, if_neg zc19, if_pos zc49, if_pos zc99, if_pos zc49_2, if_pos zc99_2])
          · -- 52
            refine lv_aload_n hx hb dX7_take_52 rfl (lv_at hl 4 rfl) ?_
            refine gf7_28 X w dX7_take_53 ?_
            refine lv_iload hx hb dX7_take_56 (lv_at hl 0 rfl) ?_
            refine ia (f := 7) (n := 16) X w m4_7 rfl (by replace ezv39_3 := ezv39_3.symm; subst ezv39_3; replace ezs121_3 := ezs121_3.symm; subst ezs121_3; replace ezs110_3 := ezs110_3.symm; subst ezs110_3; replace ezs90 := ezs90.symm; subst ezs90; replace ezv81 := ezv81.symm; subst ezv81; replace ezs76 := ezs76.symm; subst ezs76; replace ezv39 := ezv39.symm; subst ezv39; replace ezv27 := ezv27.symm; subst ezv27; replace ezs7 := ezs7.symm; subst ezs7; replace ezs2 := ezs2.symm; subst ezs2; first | exact ix2s (hfrom.resolve_left zc11) v12 | exact ix2s (hfrom.resolve_left zc11) v02) dX7_take_58 ?_
            refine lv_goto (tgt := 63) hx hb dX7_take_59 (by decide) ?_
            refine lv_topi (fun zv63_2 ezv63_2 => ?_)
            refine lv_istore (lv' := [(5, .int zv63_2), (4, .int zv39_3), (3, .int 0), (2, .int zv81), (0, .ref (aa G 4 0)), (1, .int x1)]) hx hb dX7_take_63 hl (by decide) rfl (fun ls hl => ?_)
            refine lv_aload_n hx hb dX7_take_65 rfl (lv_at hl 4 rfl) ?_
            refine gf7_28 X w dX7_take_66 ?_
            refine lv_iload hx hb dX7_take_69 (lv_at hl 1 rfl) ?_
            refine lv_dup2_11 hx hb dX7_take_71 rfl rfl ?_
            refine ia (f := 7) (n := 16) X w m4_7 rfl (by replace ezv63_2 := ezv63_2.symm; subst ezv63_2; replace ezv39_3 := ezv39_3.symm; subst ezv39_3; replace ezs121_3 := ezs121_3.symm; subst ezs121_3; replace ezs110_3 := ezs110_3.symm; subst ezs110_3; replace ezs90 := ezs90.symm; subst ezs90; replace ezv81 := ezv81.symm; subst ezv81; replace ezs76 := ezs76.symm; subst ezs76; replace ezv39 := ezv39.symm; subst ezv39; replace ezv27 := ezv27.symm; subst ezv27; replace ezs7 := ezs7.symm; subst ezs7; replace ezs2 := ezs2.symm; subst ezs2; first | exact ix2s (hfrom.resolve_left zc11) v12 | exact ix2s (hfrom.resolve_left zc11) v02) dX7_take_72 ?_
            change W _ _ _ _ _ _ _ _ _ _ _ _ _ _ _ (F0 m 73 ls _)
            refine lv_iload hx hb dX7_take_73 (lv_at hl 0 rfl) ?_
            refine lv_isub hx hb dX7_take_75 ?_
            refine iS (f := 7) (n := 16) X w m4_7 rfl (by replace ezv63_2 := ezv63_2.symm; subst ezv63_2; replace ezv39_3 := ezv39_3.symm; subst ezv39_3; replace ezs121_3 := ezs121_3.symm; subst ezs121_3; replace ezs110_3 := ezs110_3.symm; subst ezs110_3; replace ezs90 := ezs90.symm; subst ezs90; replace ezv81 := ezv81.symm; subst ezv81; replace ezs76 := ezs76.symm; subst ezs76; replace ezv39 := ezv39.symm; subst ezv39; replace ezv27 := ezv27.symm; subst ezv27; replace ezs7 := ezs7.symm; subst ezs7; replace ezs2 := ezs2.symm; subst ezs2; first | exact ix2s (hfrom.resolve_left zc11) v12 | exact ix2s (hfrom.resolve_left zc11) v02) dX7_take_76 (fun zs76_5 H locs ezs76_5 w => ?_)
            refine lv_iload_n hx hb dX7_take_77 rfl (lv_at hl 3 rfl) ?_
            refine lv_iload hx hb dX7_take_78 (lv_at hl 0 rfl) ?_
            refine lv_isub hx hb dX7_take_80 ?_
            refine lv_topi (fun zv81_5 ezv81_5 => ?_)
            refine lv_istore_n (lv' := [(2, .int zv81_5), (5, .int zv63_2), (4, .int zv39_3), (3, .int 0), (0, .ref (aa G 4 0)), (1, .int x1)]) hx hb dX7_take_81 rfl hl (by decide) rfl (fun ls hl => ?_)
            refine lv_aload_n hx hb dX7_take_82 rfl (lv_at hl 4 rfl) ?_
            refine lv_dup hx hb dX7_take_83 rfl ?_
            refine gf7_197 X w dX7_take_84 ?_
            refine lv_iload hx hb dX7_take_87 (lv_at hl 1 rfl) ?_
            refine lv_iadd hx hb dX7_take_89 ?_
            change W _ _ _ _ _ _ _ _ _ _ _ _ _ _ _ (F0 m 90 ls _)
            refine pf7_197 X w dX7_take_90 (fun zs90_5 H locs ezs90_5 w => ?_)
            refine lv_aload_n hx hb dX7_take_93 rfl (lv_at hl 4 rfl) ?_
            refine gf7_66 X w dX7_take_94 ?_
            refine lv_bipush (v := 8) hx hb dX7_take_97 (by decide) ?_
            refine lv_icmp_ne (tgt := 127) hx hb dX7_take_99 (by decide) (fun zc99_2 => ?_) (fun zc99_2 => ?_)
            · -- 127
              refine lv_aload_n hx hb dX7_take_127 rfl (lv_at hl 4 rfl) ?_
              refine gf7_25 X w dX7_take_128 ?_
              refine lv_iconst (v := 2) hx hb dX7_take_131 (by decide) ?_
              refine lv_aload_n hx hb dX7_take_132 rfl (lv_at hl 4 rfl) ?_
              refine gf7_66 X w dX7_take_133 ?_
              refine lv_imul hx hb dX7_take_136 ?_
              refine lv_iload_n hx hb dX7_take_137 rfl (lv_at hl 3 rfl) ?_
              refine lv_iadd hx hb dX7_take_138 ?_
              refine lv_dup2_11 hx hb dX7_take_139 rfl rfl ?_
              refine ia (f := 6) (n := 16) X w m4_6 rfl (by replace ezs90_5 := ezs90_5.symm; subst ezs90_5; replace ezv81_5 := ezv81_5.symm; subst ezv81_5; replace ezs76_5 := ezs76_5.symm; subst ezs76_5; replace ezv63_2 := ezv63_2.symm; subst ezv63_2; replace ezv39_3 := ezv39_3.symm; subst ezv39_3; replace ezs121_3 := ezs121_3.symm; subst ezs121_3; replace ezs110_3 := ezs110_3.symm; subst ezs110_3; replace ezs90 := ezs90.symm; subst ezs90; replace ezv81 := ezv81.symm; subst ezv81; replace ezs76 := ezs76.symm; subst ezs76; replace ezv39 := ezv39.symm; subst ezv39; replace ezv27 := ezv27.symm; subst ezv27; replace ezs7 := ezs7.symm; subst ezs7; replace ezs2 := ezs2.symm; subst ezs2; first | exact ix2s (hm.dv zc99) v12 | exact ix2s (hm.dv zc99_2) v02 | exact ix2s (hm.dv zc99) v02) dX7_take_140 ?_
              refine lv_iload hx hb dX7_take_141 (lv_at hl 1 rfl) ?_
              change W _ _ _ _ _ _ _ _ _ _ _ _ _ _ _ (F0 m 143 ls _)
              refine lv_iadd hx hb dX7_take_143 ?_
              refine iS (f := 6) (n := 16) X w m4_6 rfl (by replace ezs90_5 := ezs90_5.symm; subst ezs90_5; replace ezv81_5 := ezv81_5.symm; subst ezv81_5; replace ezs76_5 := ezs76_5.symm; subst ezs76_5; replace ezv63_2 := ezv63_2.symm; subst ezv63_2; replace ezv39_3 := ezv39_3.symm; subst ezv39_3; replace ezs121_3 := ezs121_3.symm; subst ezs121_3; replace ezs110_3 := ezs110_3.symm; subst ezs110_3; replace ezs90 := ezs90.symm; subst ezs90; replace ezv81 := ezv81.symm; subst ezv81; replace ezs76 := ezs76.symm; subst ezs76; replace ezv39 := ezv39.symm; subst ezv39; replace ezv27 := ezv27.symm; subst ezv27; replace ezs7 := ezs7.symm; subst ezs7; replace ezs2 := ezs2.symm; subst ezs2; first | exact ix2s (hm.dv zc99) v12 | exact ix2s (hm.dv zc99_2) v02 | exact ix2s (hm.dv zc99) v02) dX7_take_144 (fun zs144_5 H locs ezs144_5 w => ?_)
              refine lv_iinc (v := (-1)) (lv' := [(3, .int (-1)), (2, .int zv81_5), (5, .int zv63_2), (4, .int zv39_3), (0, .ref (aa G 4 0)), (1, .int x1)]) hx hb dX7_take_145 hl (k := 3) rfl (by decide) (by decide) rfl (fun ls hl => ?_)
              refine lv_goto (tgt := 30) hx hb dX7_take_148 (by decide) ?_
              refine lv_iload_n hx hb dX7_take_30 rfl (lv_at hl 0 rfl) ?_
              refine lv_if_lt (tgt := 151) hx hb dX7_take_31 (by decide) (fun _ => ?_) (fun zc31 => absurd (by decide) zc31)
              refine lv_aload_n hx hb dX7_take_151 rfl (lv_at hl 4 rfl) ?_
              refine lv_dup hx hb dX7_take_152 rfl ?_
              refine gf7_203 X w dX7_take_153 ?_
              refine lv_aload_n hx hb dX7_take_156 rfl (lv_at hl 4 rfl) ?_
              refine gf7_197 X w dX7_take_157 ?_
              refine lv_iadd hx hb dX7_take_160 ?_
              change W _ _ _ _ _ _ _ _ _ _ _ _ _ _ _ (F0 m 161 ls _)
              refine pf7_203 X w dX7_take_161 (fun zs161_7 H locs ezs161_7 w => ?_)
              exact t_v X w hr hlk dX7_take_164 (by replace ezs161_7 := ezs161_7.symm; subst ezs161_7; replace ezs144_5 := ezs144_5.symm; subst ezs144_5; replace ezs90_5 := ezs90_5.symm; subst ezs90_5; replace ezv81_5 := ezv81_5.symm; subst ezv81_5; replace ezs76_5 := ezs76_5.symm; subst ezs76_5; replace ezv63_2 := ezv63_2.symm; subst ezv63_2; replace ezv39_3 := ezv39_3.symm; subst ezv39_3; replace ezs121_3 := ezs121_3.symm; subst ezs121_3; replace ezs110_3 := ezs110_3.symm; subst ezs110_3; replace ezs90 := ezs90.symm; subst ezs90; replace ezv81 := ezv81.symm; subst ezv81; replace ezs76 := ezs76.symm; subst ezs76; replace ezv39 := ezv39.symm; subst ezv39; replace ezv27 := ezv27.symm; subst ezv27; replace ezs7 := ezs7.symm; subst ezs7; replace ezs2 := ezs2.symm; subst ezs2; simp only [g_X7_take, if_neg zc11, if_neg zc19, if_pos zc49, if_pos zc99, if_neg zc49_2, if_neg zc99_2])
            · -- 102
              refine lv_aload_n hx hb dX7_take_102 rfl (lv_at hl 4 rfl) ?_
              refine lv_dup hx hb dX7_take_103 rfl ?_
              refine gf7_200 X w dX7_take_104 ?_
              refine lv_iload hx hb dX7_take_107 (lv_at hl 1 rfl) ?_
              refine lv_iadd hx hb dX7_take_109 ?_
              refine pf7_200 X w dX7_take_110 (fun zs110_5 H locs ezs110_5 w => ?_)
              refine lv_aload_n hx hb dX7_take_113 rfl (lv_at hl 4 rfl) ?_
              refine lv_dup hx hb dX7_take_114 rfl ?_
              refine gf7_194 X w dX7_take_115 ?_
              refine lv_iload hx hb dX7_take_118 (lv_at hl 1 rfl) ?_
              refine lv_iadd hx hb dX7_take_120 ?_
              change W _ _ _ _ _ _ _ _ _ _ _ _ _ _ _ (F0 m 121 ls _)
              refine pf7_194 X w dX7_take_121 (fun zs121_5 H locs ezs121_5 w => ?_)
              refine lv_goto (tgt := 145) hx hb dX7_take_124 (by decide) ?_
              refine lv_iinc (v := (-1)) (lv' := [(3, .int (-1)), (2, .int zv81_5), (5, .int zv63_2), (4, .int zv39_3), (0, .ref (aa G 4 0)), (1, .int x1)]) hx hb dX7_take_145 hl (k := 3) rfl (by decide) (by decide) rfl (fun ls hl => ?_)
              refine lv_goto (tgt := 30) hx hb dX7_take_148 (by decide) ?_
              refine lv_iload_n hx hb dX7_take_30 rfl (lv_at hl 0 rfl) ?_
              refine lv_if_lt (tgt := 151) hx hb dX7_take_31 (by decide) (fun _ => ?_) (fun zc31 => absurd (by decide) zc31)
              refine lv_aload_n hx hb dX7_take_151 rfl (lv_at hl 4 rfl) ?_
              refine lv_dup hx hb dX7_take_152 rfl ?_
              refine gf7_203 X w dX7_take_153 ?_
              refine lv_aload_n hx hb dX7_take_156 rfl (lv_at hl 4 rfl) ?_
              refine gf7_197 X w dX7_take_157 ?_
              refine lv_iadd hx hb dX7_take_160 ?_
              change W _ _ _ _ _ _ _ _ _ _ _ _ _ _ _ (F0 m 161 ls _)
              refine pf7_203 X w dX7_take_161 (fun zs161_8 H locs ezs161_8 w => ?_)
              exact t_v X w hr hlk dX7_take_164 (by replace ezs161_8 := ezs161_8.symm; subst ezs161_8; replace ezs121_5 := ezs121_5.symm; subst ezs121_5; replace ezs110_5 := ezs110_5.symm; subst ezs110_5; replace ezs90_5 := ezs90_5.symm; subst ezs90_5; replace ezv81_5 := ezv81_5.symm; subst ezv81_5; replace ezs76_5 := ezs76_5.symm; subst ezs76_5; replace ezv63_2 := ezv63_2.symm; subst ezv63_2; replace ezv39_3 := ezv39_3.symm; subst ezv39_3; replace ezs121_3 := ezs121_3.symm; subst ezs121_3; replace ezs110_3 := ezs110_3.symm; subst ezs110_3; replace ezs90 := ezs90.symm; subst ezs90; replace ezv81 := ezv81.symm; subst ezv81; replace ezs76 := ezs76.symm; subst ezs76; replace ezv39 := ezv39.symm; subst ezv39; replace ezv27 := ezv27.symm; subst ezv27; replace ezs7 := ezs7.symm; subst ezs7; replace ezs2 := ezs2.symm; subst ezs2; simp only [g_X7_take, if_neg zc11, if_neg zc19, if_pos zc49, if_pos zc99, if_neg zc49_2, if_pos zc99_2])
      · -- 52
        refine lv_aload_n hx hb dX7_take_52 rfl (lv_at hl 3 rfl) ?_
        refine gf7_28 X w dX7_take_53 ?_
        refine lv_iload hx hb dX7_take_56 (lv_at hl 0 rfl) ?_
        refine ia (f := 7) (n := 16) X w m4_7 rfl (by replace ezv39 := ezv39.symm; subst ezv39; replace ezv27 := ezv27.symm; subst ezv27; replace ezs7 := ezs7.symm; subst ezs7; replace ezs2 := ezs2.symm; subst ezs2; first | exact ix2s (hfrom.resolve_left zc11) v12 | exact ix2s (hfrom.resolve_left zc11) v02) dX7_take_58 ?_
        refine lv_goto (tgt := 63) hx hb dX7_take_59 (by decide) ?_
        refine lv_topi (fun zv63_3 ezv63_3 => ?_)
        refine lv_istore (lv' := [(5, .int zv63_3), (4, .int zv39), (3, .int 1), (2, .int zv27), (0, .ref (aa G 4 0)), (1, .int x1)]) hx hb dX7_take_63 hl (by decide) rfl (fun ls hl => ?_)
        refine lv_aload_n hx hb dX7_take_65 rfl (lv_at hl 4 rfl) ?_
        refine gf7_28 X w dX7_take_66 ?_
        refine lv_iload hx hb dX7_take_69 (lv_at hl 1 rfl) ?_
        refine lv_dup2_11 hx hb dX7_take_71 rfl rfl ?_
        refine ia (f := 7) (n := 16) X w m4_7 rfl (by replace ezv63_3 := ezv63_3.symm; subst ezv63_3; replace ezv39 := ezv39.symm; subst ezv39; replace ezv27 := ezv27.symm; subst ezv27; replace ezs7 := ezs7.symm; subst ezs7; replace ezs2 := ezs2.symm; subst ezs2; first | exact ix2s (hfrom.resolve_left zc11) v12 | exact ix2s (hfrom.resolve_left zc11) v02) dX7_take_72 ?_
        change W _ _ _ _ _ _ _ _ _ _ _ _ _ _ _ (F0 m 73 ls _)
        refine lv_iload hx hb dX7_take_73 (lv_at hl 0 rfl) ?_
        refine lv_isub hx hb dX7_take_75 ?_
        refine iS (f := 7) (n := 16) X w m4_7 rfl (by replace ezv63_3 := ezv63_3.symm; subst ezv63_3; replace ezv39 := ezv39.symm; subst ezv39; replace ezv27 := ezv27.symm; subst ezv27; replace ezs7 := ezs7.symm; subst ezs7; replace ezs2 := ezs2.symm; subst ezs2; first | exact ix2s (hfrom.resolve_left zc11) v12 | exact ix2s (hfrom.resolve_left zc11) v02) dX7_take_76 (fun zs76_6 H locs ezs76_6 w => ?_)
        refine lv_iload_n hx hb dX7_take_77 rfl (lv_at hl 3 rfl) ?_
        refine lv_iload hx hb dX7_take_78 (lv_at hl 0 rfl) ?_
        refine lv_isub hx hb dX7_take_80 ?_
        refine lv_topi (fun zv81_6 ezv81_6 => ?_)
        refine lv_istore_n (lv' := [(2, .int zv81_6), (5, .int zv63_3), (4, .int zv39), (3, .int 1), (0, .ref (aa G 4 0)), (1, .int x1)]) hx hb dX7_take_81 rfl hl (by decide) rfl (fun ls hl => ?_)
        refine lv_aload_n hx hb dX7_take_82 rfl (lv_at hl 4 rfl) ?_
        refine lv_dup hx hb dX7_take_83 rfl ?_
        refine gf7_197 X w dX7_take_84 ?_
        refine lv_iload hx hb dX7_take_87 (lv_at hl 1 rfl) ?_
        refine lv_iadd hx hb dX7_take_89 ?_
        change W _ _ _ _ _ _ _ _ _ _ _ _ _ _ _ (F0 m 90 ls _)
        refine pf7_197 X w dX7_take_90 (fun zs90_6 H locs ezs90_6 w => ?_)
        refine lv_aload_n hx hb dX7_take_93 rfl (lv_at hl 4 rfl) ?_
        refine gf7_66 X w dX7_take_94 ?_
        refine lv_bipush (v := 8) hx hb dX7_take_97 (by decide) ?_
        refine lv_icmp_ne (tgt := 127) hx hb dX7_take_99 (by decide) (fun zc99 => ?_) (fun zc99 => ?_)
        · -- 127
          refine lv_aload_n hx hb dX7_take_127 rfl (lv_at hl 4 rfl) ?_
          refine gf7_25 X w dX7_take_128 ?_
          refine lv_iconst (v := 2) hx hb dX7_take_131 (by decide) ?_
          refine lv_aload_n hx hb dX7_take_132 rfl (lv_at hl 4 rfl) ?_
          refine gf7_66 X w dX7_take_133 ?_
          refine lv_imul hx hb dX7_take_136 ?_
          refine lv_iload_n hx hb dX7_take_137 rfl (lv_at hl 3 rfl) ?_
          refine lv_iadd hx hb dX7_take_138 ?_
          refine lv_dup2_11 hx hb dX7_take_139 rfl rfl ?_
          refine ia (f := 6) (n := 16) X w m4_6 rfl (by replace ezs90_6 := ezs90_6.symm; subst ezs90_6; replace ezv81_6 := ezv81_6.symm; subst ezv81_6; replace ezs76_6 := ezs76_6.symm; subst ezs76_6; replace ezv63_3 := ezv63_3.symm; subst ezv63_3; replace ezv39 := ezv39.symm; subst ezv39; replace ezv27 := ezv27.symm; subst ezv27; replace ezs7 := ezs7.symm; subst ezs7; replace ezs2 := ezs2.symm; subst ezs2; first | exact ix2s (hm.dv zc99) v12 | exact ix2s (hm.dv zc99_2) v02 | exact ix2s (hm.dv zc99) v02) dX7_take_140 ?_
          refine lv_iload hx hb dX7_take_141 (lv_at hl 1 rfl) ?_
          change W _ _ _ _ _ _ _ _ _ _ _ _ _ _ _ (F0 m 143 ls _)
          refine lv_iadd hx hb dX7_take_143 ?_
          refine iS (f := 6) (n := 16) X w m4_6 rfl (by replace ezs90_6 := ezs90_6.symm; subst ezs90_6; replace ezv81_6 := ezv81_6.symm; subst ezv81_6; replace ezs76_6 := ezs76_6.symm; subst ezs76_6; replace ezv63_3 := ezv63_3.symm; subst ezv63_3; replace ezv39 := ezv39.symm; subst ezv39; replace ezv27 := ezv27.symm; subst ezv27; replace ezs7 := ezs7.symm; subst ezs7; replace ezs2 := ezs2.symm; subst ezs2; first | exact ix2s (hm.dv zc99) v12 | exact ix2s (hm.dv zc99_2) v02 | exact ix2s (hm.dv zc99) v02) dX7_take_144 (fun zs144_6 H locs ezs144_6 w => ?_)
          refine lv_iinc (v := 0) (lv' := [(3, .int 0), (2, .int zv81_6), (5, .int zv63_3), (4, .int zv39), (0, .ref (aa G 4 0)), (1, .int x1)]) hx hb dX7_take_145 hl (k := 3) rfl (by decide) (by decide) rfl (fun ls hl => ?_)
          refine lv_goto (tgt := 30) hx hb dX7_take_148 (by decide) ?_
          refine lv_iload_n hx hb dX7_take_30 rfl (lv_at hl 0 rfl) ?_
          refine lv_if_lt (tgt := 151) hx hb dX7_take_31 (by decide) (fun zc31 => absurd zc31 (by decide)) (fun _ => ?_)
          refine lv_iconst (v := 2) hx hb dX7_take_34 (by decide) ?_
          refine lv_iload_n hx hb dX7_take_35 rfl (lv_at hl 5 rfl) ?_
          refine lv_imul hx hb dX7_take_36 ?_
          refine lv_iload_n hx hb dX7_take_37 rfl (lv_at hl 0 rfl) ?_
          refine lv_iadd hx hb dX7_take_38 ?_
          refine lv_topi (fun zv39_4 ezv39_4 => ?_)
          refine lv_istore (lv' := [(4, .int zv39_4), (3, .int 0), (2, .int zv81_6), (5, .int zv63_3), (0, .ref (aa G 4 0)), (1, .int x1)]) hx hb dX7_take_39 hl (by decide) rfl (fun ls hl => ?_)
          change W _ _ _ _ _ _ _ _ _ _ _ _ _ _ _ (F0 m 41 ls _)
          refine lv_aload_n hx hb dX7_take_41 rfl (lv_at hl 4 rfl) ?_
          refine gf7_28 X w dX7_take_42 ?_
          refine lv_iload hx hb dX7_take_45 (lv_at hl 0 rfl) ?_
          refine ia (f := 7) (n := 16) X w m4_7 rfl (by replace ezv39_4 := ezv39_4.symm; subst ezv39_4; replace ezs144_6 := ezs144_6.symm; subst ezs144_6; replace ezs90_6 := ezs90_6.symm; subst ezs90_6; replace ezv81_6 := ezv81_6.symm; subst ezv81_6; replace ezs76_6 := ezs76_6.symm; subst ezs76_6; replace ezv63_3 := ezv63_3.symm; subst ezv63_3; replace ezv39 := ezv39.symm; subst ezv39; replace ezv27 := ezv27.symm; subst ezv27; replace ezs7 := ezs7.symm; subst ezs7; replace ezs2 := ezs2.symm; subst ezs2; first | exact ix2s (hfrom.resolve_left zc11) v12 | exact ix2s (hfrom.resolve_left zc11) v02) dX7_take_47 ?_
          refine lv_iload_n hx hb dX7_take_48 rfl (lv_at hl 2 rfl) ?_
          refine lv_icmp_ge (tgt := 62) hx hb dX7_take_49 (by decide) (fun zc49_2 => ?_) (fun zc49_2 => ?_)
          · -- 62
            refine lv_iload_n hx hb dX7_take_62 rfl (lv_at hl 2 rfl) ?_
            refine lv_istore (lv' := [(5, .int zv81_6), (4, .int zv39_4), (3, .int 0), (2, .int zv81_6), (0, .ref (aa G 4 0)), (1, .int x1)]) hx hb dX7_take_63 hl (by decide) rfl (fun ls hl => ?_)
            refine lv_aload_n hx hb dX7_take_65 rfl (lv_at hl 4 rfl) ?_
            refine gf7_28 X w dX7_take_66 ?_
            refine lv_iload hx hb dX7_take_69 (lv_at hl 1 rfl) ?_
            refine lv_dup2_11 hx hb dX7_take_71 rfl rfl ?_
            refine ia (f := 7) (n := 16) X w m4_7 rfl (by replace ezv39_4 := ezv39_4.symm; subst ezv39_4; replace ezs144_6 := ezs144_6.symm; subst ezs144_6; replace ezs90_6 := ezs90_6.symm; subst ezs90_6; replace ezv81_6 := ezv81_6.symm; subst ezv81_6; replace ezs76_6 := ezs76_6.symm; subst ezs76_6; replace ezv63_3 := ezv63_3.symm; subst ezv63_3; replace ezv39 := ezv39.symm; subst ezv39; replace ezv27 := ezv27.symm; subst ezv27; replace ezs7 := ezs7.symm; subst ezs7; replace ezs2 := ezs2.symm; subst ezs2; first | exact ix2s (hfrom.resolve_left zc11) v12 | exact ix2s (hfrom.resolve_left zc11) v02) dX7_take_72 ?_
            refine lv_iload hx hb dX7_take_73 (lv_at hl 0 rfl) ?_
            refine lv_isub hx hb dX7_take_75 ?_
            refine iS (f := 7) (n := 16) X w m4_7 rfl (by replace ezv39_4 := ezv39_4.symm; subst ezv39_4; replace ezs144_6 := ezs144_6.symm; subst ezs144_6; replace ezs90_6 := ezs90_6.symm; subst ezs90_6; replace ezv81_6 := ezv81_6.symm; subst ezv81_6; replace ezs76_6 := ezs76_6.symm; subst ezs76_6; replace ezv63_3 := ezv63_3.symm; subst ezv63_3; replace ezv39 := ezv39.symm; subst ezv39; replace ezv27 := ezv27.symm; subst ezv27; replace ezs7 := ezs7.symm; subst ezs7; replace ezs2 := ezs2.symm; subst ezs2; first | exact ix2s (hfrom.resolve_left zc11) v12 | exact ix2s (hfrom.resolve_left zc11) v02) dX7_take_76 (fun zs76_7 H locs ezs76_7 w => ?_)
            refine lv_iload_n hx hb dX7_take_77 rfl (lv_at hl 3 rfl) ?_
            change W _ _ _ _ _ _ _ _ _ _ _ _ _ _ _ (F0 m 78 ls _)
            refine lv_iload hx hb dX7_take_78 (lv_at hl 0 rfl) ?_
            refine lv_isub hx hb dX7_take_80 ?_
            refine lv_topi (fun zv81_7 ezv81_7 => ?_)
            refine lv_istore_n (lv' := [(2, .int zv81_7), (5, .int zv81_6), (4, .int zv39_4), (3, .int 0), (0, .ref (aa G 4 0)), (1, .int x1)]) hx hb dX7_take_81 rfl hl (by decide) rfl (fun ls hl => ?_)
            refine lv_aload_n hx hb dX7_take_82 rfl (lv_at hl 4 rfl) ?_
            refine lv_dup hx hb dX7_take_83 rfl ?_
            refine gf7_197 X w dX7_take_84 ?_
            refine lv_iload hx hb dX7_take_87 (lv_at hl 1 rfl) ?_
            refine lv_iadd hx hb dX7_take_89 ?_
            refine pf7_197 X w dX7_take_90 (fun zs90_7 H locs ezs90_7 w => ?_)
            refine lv_aload_n hx hb dX7_take_93 rfl (lv_at hl 4 rfl) ?_
            refine gf7_66 X w dX7_take_94 ?_
            refine lv_bipush (v := 8) hx hb dX7_take_97 (by decide) ?_
            change W _ _ _ _ _ _ _ _ _ _ _ _ _ _ _ (F0 m 99 ls _)
            refine lv_icmp_ne (tgt := 127) hx hb dX7_take_99 (by decide) (fun zc99_2 => ?_) (fun zc99_2 => ?_)
            · -- 127
              refine lv_aload_n hx hb dX7_take_127 rfl (lv_at hl 4 rfl) ?_
              refine gf7_25 X w dX7_take_128 ?_
              refine lv_iconst (v := 2) hx hb dX7_take_131 (by decide) ?_
              refine lv_aload_n hx hb dX7_take_132 rfl (lv_at hl 4 rfl) ?_
              refine gf7_66 X w dX7_take_133 ?_
              refine lv_imul hx hb dX7_take_136 ?_
              refine lv_iload_n hx hb dX7_take_137 rfl (lv_at hl 3 rfl) ?_
              refine lv_iadd hx hb dX7_take_138 ?_
              refine lv_dup2_11 hx hb dX7_take_139 rfl rfl ?_
              refine ia (f := 6) (n := 16) X w m4_6 rfl (by replace ezs90_7 := ezs90_7.symm; subst ezs90_7; replace ezv81_7 := ezv81_7.symm; subst ezv81_7; replace ezs76_7 := ezs76_7.symm; subst ezs76_7; replace ezv39_4 := ezv39_4.symm; subst ezv39_4; replace ezs144_6 := ezs144_6.symm; subst ezs144_6; replace ezs90_6 := ezs90_6.symm; subst ezs90_6; replace ezv81_6 := ezv81_6.symm; subst ezv81_6; replace ezs76_6 := ezs76_6.symm; subst ezs76_6; replace ezv63_3 := ezv63_3.symm; subst ezv63_3; replace ezv39 := ezv39.symm; subst ezv39; replace ezv27 := ezv27.symm; subst ezv27; replace ezs7 := ezs7.symm; subst ezs7; replace ezs2 := ezs2.symm; subst ezs2; first | exact ix2s (hm.dv zc99) v12 | exact ix2s (hm.dv zc99_2) v02 | exact ix2s (hm.dv zc99) v02) dX7_take_140 ?_
              refine lv_iload hx hb dX7_take_141 (lv_at hl 1 rfl) ?_
              change W _ _ _ _ _ _ _ _ _ _ _ _ _ _ _ (F0 m 143 ls _)
              refine lv_iadd hx hb dX7_take_143 ?_
              refine iS (f := 6) (n := 16) X w m4_6 rfl (by replace ezs90_7 := ezs90_7.symm; subst ezs90_7; replace ezv81_7 := ezv81_7.symm; subst ezv81_7; replace ezs76_7 := ezs76_7.symm; subst ezs76_7; replace ezv39_4 := ezv39_4.symm; subst ezv39_4; replace ezs144_6 := ezs144_6.symm; subst ezs144_6; replace ezs90_6 := ezs90_6.symm; subst ezs90_6; replace ezv81_6 := ezv81_6.symm; subst ezv81_6; replace ezs76_6 := ezs76_6.symm; subst ezs76_6; replace ezv63_3 := ezv63_3.symm; subst ezv63_3; replace ezv39 := ezv39.symm; subst ezv39; replace ezv27 := ezv27.symm; subst ezv27; replace ezs7 := ezs7.symm; subst ezs7; replace ezs2 := ezs2.symm; subst ezs2; first | exact ix2s (hm.dv zc99) v12 | exact ix2s (hm.dv zc99_2) v02 | exact ix2s (hm.dv zc99) v02) dX7_take_144 (fun zs144_7 H locs ezs144_7 w => ?_)
              refine lv_iinc (v := (-1)) (lv' := [(3, .int (-1)), (2, .int zv81_7), (5, .int zv81_6), (4, .int zv39_4), (0, .ref (aa G 4 0)), (1, .int x1)]) hx hb dX7_take_145 hl (k := 3) rfl (by decide) (by decide) rfl (fun ls hl => ?_)
              refine lv_goto (tgt := 30) hx hb dX7_take_148 (by decide) ?_
              refine lv_iload_n hx hb dX7_take_30 rfl (lv_at hl 0 rfl) ?_
              refine lv_if_lt (tgt := 151) hx hb dX7_take_31 (by decide) (fun _ => ?_) (fun zc31 => absurd (by decide) zc31)
              refine lv_aload_n hx hb dX7_take_151 rfl (lv_at hl 4 rfl) ?_
              refine lv_dup hx hb dX7_take_152 rfl ?_
              refine gf7_203 X w dX7_take_153 ?_
              refine lv_aload_n hx hb dX7_take_156 rfl (lv_at hl 4 rfl) ?_
              refine gf7_197 X w dX7_take_157 ?_
              refine lv_iadd hx hb dX7_take_160 ?_
              change W _ _ _ _ _ _ _ _ _ _ _ _ _ _ _ (F0 m 161 ls _)
              refine pf7_203 X w dX7_take_161 (fun zs161_9 H locs ezs161_9 w => ?_)
              exact t_v X w hr hlk dX7_take_164 (by replace ezs161_9 := ezs161_9.symm; subst ezs161_9; replace ezs144_7 := ezs144_7.symm; subst ezs144_7; replace ezs90_7 := ezs90_7.symm; subst ezs90_7; replace ezv81_7 := ezv81_7.symm; subst ezv81_7; replace ezs76_7 := ezs76_7.symm; subst ezs76_7; replace ezv39_4 := ezv39_4.symm; subst ezv39_4; replace ezs144_6 := ezs144_6.symm; subst ezs144_6; replace ezs90_6 := ezs90_6.symm; subst ezs90_6; replace ezv81_6 := ezv81_6.symm; subst ezv81_6; replace ezs76_6 := ezs76_6.symm; subst ezs76_6; replace ezv63_3 := ezv63_3.symm; subst ezv63_3; replace ezv39 := ezv39.symm; subst ezv39; replace ezv27 := ezv27.symm; subst ezv27; replace ezs7 := ezs7.symm; subst ezs7; replace ezs2 := ezs2.symm; subst ezs2; simp only [g_X7_take, if_neg zc11, if_neg zc19, if_neg zc49, if_neg zc99, if_pos zc49_2, if_neg zc99_2])
            · -- 102
              refine lv_aload_n hx hb dX7_take_102 rfl (lv_at hl 4 rfl) ?_
              refine lv_dup hx hb dX7_take_103 rfl ?_
              refine gf7_200 X w dX7_take_104 ?_
              refine lv_iload hx hb dX7_take_107 (lv_at hl 1 rfl) ?_
              refine lv_iadd hx hb dX7_take_109 ?_
              refine pf7_200 X w dX7_take_110 (fun zs110_6 H locs ezs110_6 w => ?_)
              refine lv_aload_n hx hb dX7_take_113 rfl (lv_at hl 4 rfl) ?_
              refine lv_dup hx hb dX7_take_114 rfl ?_
              refine gf7_194 X w dX7_take_115 ?_
              refine lv_iload hx hb dX7_take_118 (lv_at hl 1 rfl) ?_
              refine lv_iadd hx hb dX7_take_120 ?_
              change W _ _ _ _ _ _ _ _ _ _ _ _ _ _ _ (F0 m 121 ls _)
              refine pf7_194 X w dX7_take_121 (fun zs121_6 H locs ezs121_6 w => ?_)
              refine lv_goto (tgt := 145) hx hb dX7_take_124 (by decide) ?_
              refine lv_iinc (v := (-1)) (lv' := [(3, .int (-1)), (2, .int zv81_7), (5, .int zv81_6), (4, .int zv39_4), (0, .ref (aa G 4 0)), (1, .int x1)]) hx hb dX7_take_145 hl (k := 3) rfl (by decide) (by decide) rfl (fun ls hl => ?_)
              refine lv_goto (tgt := 30) hx hb dX7_take_148 (by decide) ?_
              refine lv_iload_n hx hb dX7_take_30 rfl (lv_at hl 0 rfl) ?_
              refine lv_if_lt (tgt := 151) hx hb dX7_take_31 (by decide) (fun _ => ?_) (fun zc31 => absurd (by decide) zc31)
              refine lv_aload_n hx hb dX7_take_151 rfl (lv_at hl 4 rfl) ?_
              refine lv_dup hx hb dX7_take_152 rfl ?_
              refine gf7_203 X w dX7_take_153 ?_
              refine lv_aload_n hx hb dX7_take_156 rfl (lv_at hl 4 rfl) ?_
              refine gf7_197 X w dX7_take_157 ?_
              refine lv_iadd hx hb dX7_take_160 ?_
              change W _ _ _ _ _ _ _ _ _ _ _ _ _ _ _ (F0 m 161 ls _)
              refine pf7_203 X w dX7_take_161 (fun zs161_10 H locs ezs161_10 w => ?_)
              exact t_v X w hr hlk dX7_take_164 (by replace ezs161_10 := ezs161_10.symm; subst ezs161_10; replace ezs121_6 := ezs121_6.symm; subst ezs121_6; replace ezs110_6 := ezs110_6.symm; subst ezs110_6; replace ezs90_7 := ezs90_7.symm; subst ezs90_7; replace ezv81_7 := ezv81_7.symm; subst ezv81_7; replace ezs76_7 := ezs76_7.symm; subst ezs76_7; replace ezv39_4 := ezv39_4.symm; subst ezv39_4; replace ezs144_6 := ezs144_6.symm; subst ezs144_6; replace ezs90_6 := ezs90_6.symm; subst ezs90_6; replace ezv81_6 := ezv81_6.symm; subst ezv81_6; replace ezs76_6 := ezs76_6.symm; subst ezs76_6; replace ezv63_3 := ezv63_3.symm; subst ezv63_3; replace ezv39 := ezv39.symm; subst ezv39; replace ezv27 := ezv27.symm; subst ezv27; replace ezs7 := ezs7.symm; subst ezs7; replace ezs2 := ezs2.symm; subst ezs2; simp only [g_X7_take, if_neg zc11, if_neg zc19, if_neg zc49, if_neg zc99, if_pos zc49_2, if_pos zc99_2])
          · -- 52
            refine lv_aload_n hx hb dX7_take_52 rfl (lv_at hl 4 rfl) ?_
            refine gf7_28 X w dX7_take_53 ?_
            refine lv_iload hx hb dX7_take_56 (lv_at hl 0 rfl) ?_
            refine ia (f := 7) (n := 16) X w m4_7 rfl (by replace ezv39_4 := ezv39_4.symm; subst ezv39_4; replace ezs144_6 := ezs144_6.symm; subst ezs144_6; replace ezs90_6 := ezs90_6.symm; subst ezs90_6; replace ezv81_6 := ezv81_6.symm; subst ezv81_6; replace ezs76_6 := ezs76_6.symm; subst ezs76_6; replace ezv63_3 := ezv63_3.symm; subst ezv63_3; replace ezv39 := ezv39.symm; subst ezv39; replace ezv27 := ezv27.symm; subst ezv27; replace ezs7 := ezs7.symm; subst ezs7; replace ezs2 := ezs2.symm; subst ezs2; first | exact ix2s (hfrom.resolve_left zc11) v12 | exact ix2s (hfrom.resolve_left zc11) v02) dX7_take_58 ?_
            refine lv_goto (tgt := 63) hx hb dX7_take_59 (by decide) ?_
            refine lv_topi (fun zv63_4 ezv63_4 => ?_)
            refine lv_istore (lv' := [(5, .int zv63_4), (4, .int zv39_4), (3, .int 0), (2, .int zv81_6), (0, .ref (aa G 4 0)), (1, .int x1)]) hx hb dX7_take_63 hl (by decide) rfl (fun ls hl => ?_)
            refine lv_aload_n hx hb dX7_take_65 rfl (lv_at hl 4 rfl) ?_
            refine gf7_28 X w dX7_take_66 ?_
            refine lv_iload hx hb dX7_take_69 (lv_at hl 1 rfl) ?_
            refine lv_dup2_11 hx hb dX7_take_71 rfl rfl ?_
            refine ia (f := 7) (n := 16) X w m4_7 rfl (by replace ezv63_4 := ezv63_4.symm; subst ezv63_4; replace ezv39_4 := ezv39_4.symm; subst ezv39_4; replace ezs144_6 := ezs144_6.symm; subst ezs144_6; replace ezs90_6 := ezs90_6.symm; subst ezs90_6; replace ezv81_6 := ezv81_6.symm; subst ezv81_6; replace ezs76_6 := ezs76_6.symm; subst ezs76_6; replace ezv63_3 := ezv63_3.symm; subst ezv63_3; replace ezv39 := ezv39.symm; subst ezv39; replace ezv27 := ezv27.symm; subst ezv27; replace ezs7 := ezs7.symm; subst ezs7; replace ezs2 := ezs2.symm; subst ezs2; first | exact ix2s (hfrom.resolve_left zc11) v12 | exact ix2s (hfrom.resolve_left zc11) v02) dX7_take_72 ?_
            change W _ _ _ _ _ _ _ _ _ _ _ _ _ _ _ (F0 m 73 ls _)
            refine lv_iload hx hb dX7_take_73 (lv_at hl 0 rfl) ?_
            refine lv_isub hx hb dX7_take_75 ?_
            refine iS (f := 7) (n := 16) X w m4_7 rfl (by replace ezv63_4 := ezv63_4.symm; subst ezv63_4; replace ezv39_4 := ezv39_4.symm; subst ezv39_4; replace ezs144_6 := ezs144_6.symm; subst ezs144_6; replace ezs90_6 := ezs90_6.symm; subst ezs90_6; replace ezv81_6 := ezv81_6.symm; subst ezv81_6; replace ezs76_6 := ezs76_6.symm; subst ezs76_6; replace ezv63_3 := ezv63_3.symm; subst ezv63_3; replace ezv39 := ezv39.symm; subst ezv39; replace ezv27 := ezv27.symm; subst ezv27; replace ezs7 := ezs7.symm; subst ezs7; replace ezs2 := ezs2.symm; subst ezs2; first | exact ix2s (hfrom.resolve_left zc11) v12 | exact ix2s (hfrom.resolve_left zc11) v02) dX7_take_76 (fun zs76_8 H locs ezs76_8 w => ?_)
            refine lv_iload_n hx hb dX7_take_77 rfl (lv_at hl 3 rfl) ?_
            refine lv_iload hx hb dX7_take_78 (lv_at hl 0 rfl) ?_
            refine lv_isub hx hb dX7_take_80 ?_
            refine lv_topi (fun zv81_8 ezv81_8 => ?_)
            refine lv_istore_n (lv' := [(2, .int zv81_8), (5, .int zv63_4), (4, .int zv39_4), (3, .int 0), (0, .ref (aa G 4 0)), (1, .int x1)]) hx hb dX7_take_81 rfl hl (by decide) rfl (fun ls hl => ?_)
            refine lv_aload_n hx hb dX7_take_82 rfl (lv_at hl 4 rfl) ?_
            refine lv_dup hx hb dX7_take_83 rfl ?_
            refine gf7_197 X w dX7_take_84 ?_
            refine lv_iload hx hb dX7_take_87 (lv_at hl 1 rfl) ?_
            refine lv_iadd hx hb dX7_take_89 ?_
            change W _ _ _ _ _ _ _ _ _ _ _ _ _ _ _ (F0 m 90 ls _)
            refine pf7_197 X w dX7_take_90 (fun zs90_8 H locs ezs90_8 w => ?_)
            refine lv_aload_n hx hb dX7_take_93 rfl (lv_at hl 4 rfl) ?_
            refine gf7_66 X w dX7_take_94 ?_
            refine lv_bipush (v := 8) hx hb dX7_take_97 (by decide) ?_
            refine lv_icmp_ne (tgt := 127) hx hb dX7_take_99 (by decide) (fun zc99_2 => ?_) (fun zc99_2 => ?_)
            · -- 127
              refine lv_aload_n hx hb dX7_take_127 rfl (lv_at hl 4 rfl) ?_
              refine gf7_25 X w dX7_take_128 ?_
              refine lv_iconst (v := 2) hx hb dX7_take_131 (by decide) ?_
              refine lv_aload_n hx hb dX7_take_132 rfl (lv_at hl 4 rfl) ?_
              refine gf7_66 X w dX7_take_133 ?_
              refine lv_imul hx hb dX7_take_136 ?_
              refine lv_iload_n hx hb dX7_take_137 rfl (lv_at hl 3 rfl) ?_
              refine lv_iadd hx hb dX7_take_138 ?_
              refine lv_dup2_11 hx hb dX7_take_139 rfl rfl ?_
              refine ia (f := 6) (n := 16) X w m4_6 rfl (by replace ezs90_8 := ezs90_8.symm; subst ezs90_8; replace ezv81_8 := ezv81_8.symm; subst ezv81_8; replace ezs76_8 := ezs76_8.symm; subst ezs76_8; replace ezv63_4 := ezv63_4.symm; subst ezv63_4; replace ezv39_4 := ezv39_4.symm; subst ezv39_4; replace ezs144_6 := ezs144_6.symm; subst ezs144_6; replace ezs90_6 := ezs90_6.symm; subst ezs90_6; replace ezv81_6 := ezv81_6.symm; subst ezv81_6; replace ezs76_6 := ezs76_6.symm; subst ezs76_6; replace ezv63_3 := ezv63_3.symm; subst ezv63_3; replace ezv39 := ezv39.symm; subst ezv39; replace ezv27 := ezv27.symm; subst ezv27; replace ezs7 := ezs7.symm; subst ezs7; replace ezs2 := ezs2.symm; subst ezs2; first | exact ix2s (hm.dv zc99) v12 | exact ix2s (hm.dv zc99_2) v02 | exact ix2s (hm.dv zc99) v02) dX7_take_140 ?_
              refine lv_iload hx hb dX7_take_141 (lv_at hl 1 rfl) ?_
              change W _ _ _ _ _ _ _ _ _ _ _ _ _ _ _ (F0 m 143 ls _)
              refine lv_iadd hx hb dX7_take_143 ?_
              refine iS (f := 6) (n := 16) X w m4_6 rfl (by replace ezs90_8 := ezs90_8.symm; subst ezs90_8; replace ezv81_8 := ezv81_8.symm; subst ezv81_8; replace ezs76_8 := ezs76_8.symm; subst ezs76_8; replace ezv63_4 := ezv63_4.symm; subst ezv63_4; replace ezv39_4 := ezv39_4.symm; subst ezv39_4; replace ezs144_6 := ezs144_6.symm; subst ezs144_6; replace ezs90_6 := ezs90_6.symm; subst ezs90_6; replace ezv81_6 := ezv81_6.symm; subst ezv81_6; replace ezs76_6 := ezs76_6.symm; subst ezs76_6; replace ezv63_3 := ezv63_3.symm; subst ezv63_3; replace ezv39 := ezv39.symm; subst ezv39; replace ezv27 := ezv27.symm; subst ezv27; replace ezs7 := ezs7.symm; subst ezs7; replace ezs2 := ezs2.symm; subst ezs2; first | exact ix2s (hm.dv zc99) v12 | exact ix2s (hm.dv zc99_2) v02 | exact ix2s (hm.dv zc99) v02) dX7_take_144 (fun zs144_8 H locs ezs144_8 w => ?_)
              refine lv_iinc (v := (-1)) (lv' := [(3, .int (-1)), (2, .int zv81_8), (5, .int zv63_4), (4, .int zv39_4), (0, .ref (aa G 4 0)), (1, .int x1)]) hx hb dX7_take_145 hl (k := 3) rfl (by decide) (by decide) rfl (fun ls hl => ?_)
              refine lv_goto (tgt := 30) hx hb dX7_take_148 (by decide) ?_
              refine lv_iload_n hx hb dX7_take_30 rfl (lv_at hl 0 rfl) ?_
              refine lv_if_lt (tgt := 151) hx hb dX7_take_31 (by decide) (fun _ => ?_) (fun zc31 => absurd (by decide) zc31)
              refine lv_aload_n hx hb dX7_take_151 rfl (lv_at hl 4 rfl) ?_
              refine lv_dup hx hb dX7_take_152 rfl ?_
              refine gf7_203 X w dX7_take_153 ?_
              refine lv_aload_n hx hb dX7_take_156 rfl (lv_at hl 4 rfl) ?_
              refine gf7_197 X w dX7_take_157 ?_
              refine lv_iadd hx hb dX7_take_160 ?_
              change W _ _ _ _ _ _ _ _ _ _ _ _ _ _ _ (F0 m 161 ls _)
              refine pf7_203 X w dX7_take_161 (fun zs161_11 H locs ezs161_11 w => ?_)
              exact t_v X w hr hlk dX7_take_164 (by replace ezs161_11 := ezs161_11.symm; subst ezs161_11; replace ezs144_8 := ezs144_8.symm; subst ezs144_8; replace ezs90_8 := ezs90_8.symm; subst ezs90_8; replace ezv81_8 := ezv81_8.symm; subst ezv81_8; replace ezs76_8 := ezs76_8.symm; subst ezs76_8; replace ezv63_4 := ezv63_4.symm; subst ezv63_4; replace ezv39_4 := ezv39_4.symm; subst ezv39_4; replace ezs144_6 := ezs144_6.symm; subst ezs144_6; replace ezs90_6 := ezs90_6.symm; subst ezs90_6; replace ezv81_6 := ezv81_6.symm; subst ezv81_6; replace ezs76_6 := ezs76_6.symm; subst ezs76_6; replace ezv63_3 := ezv63_3.symm; subst ezv63_3; replace ezv39 := ezv39.symm; subst ezv39; replace ezv27 := ezv27.symm; subst ezv27; replace ezs7 := ezs7.symm; subst ezs7; replace ezs2 := ezs2.symm; subst ezs2; simp only [g_X7_take, if_neg zc11, if_neg zc19, if_neg zc49, if_neg zc99, if_neg zc49_2, if_neg zc99_2])
            · -- 102
              refine lv_aload_n hx hb dX7_take_102 rfl (lv_at hl 4 rfl) ?_
              refine lv_dup hx hb dX7_take_103 rfl ?_
              refine gf7_200 X w dX7_take_104 ?_
              refine lv_iload hx hb dX7_take_107 (lv_at hl 1 rfl) ?_
              refine lv_iadd hx hb dX7_take_109 ?_
              refine pf7_200 X w dX7_take_110 (fun zs110_7 H locs ezs110_7 w => ?_)
              refine lv_aload_n hx hb dX7_take_113 rfl (lv_at hl 4 rfl) ?_
              refine lv_dup hx hb dX7_take_114 rfl ?_
              refine gf7_194 X w dX7_take_115 ?_
              refine lv_iload hx hb dX7_take_118 (lv_at hl 1 rfl) ?_
              refine lv_iadd hx hb dX7_take_120 ?_
              change W _ _ _ _ _ _ _ _ _ _ _ _ _ _ _ (F0 m 121 ls _)
              refine pf7_194 X w dX7_take_121 (fun zs121_7 H locs ezs121_7 w => ?_)
              refine lv_goto (tgt := 145) hx hb dX7_take_124 (by decide) ?_
              refine lv_iinc (v := (-1)) (lv' := [(3, .int (-1)), (2, .int zv81_8), (5, .int zv63_4), (4, .int zv39_4), (0, .ref (aa G 4 0)), (1, .int x1)]) hx hb dX7_take_145 hl (k := 3) rfl (by decide) (by decide) rfl (fun ls hl => ?_)
              refine lv_goto (tgt := 30) hx hb dX7_take_148 (by decide) ?_
              refine lv_iload_n hx hb dX7_take_30 rfl (lv_at hl 0 rfl) ?_
              refine lv_if_lt (tgt := 151) hx hb dX7_take_31 (by decide) (fun _ => ?_) (fun zc31 => absurd (by decide) zc31)
              refine lv_aload_n hx hb dX7_take_151 rfl (lv_at hl 4 rfl) ?_
              refine lv_dup hx hb dX7_take_152 rfl ?_
              refine gf7_203 X w dX7_take_153 ?_
              refine lv_aload_n hx hb dX7_take_156 rfl (lv_at hl 4 rfl) ?_
              refine gf7_197 X w dX7_take_157 ?_
              refine lv_iadd hx hb dX7_take_160 ?_
              change W _ _ _ _ _ _ _ _ _ _ _ _ _ _ _ (F0 m 161 ls _)
              refine pf7_203 X w dX7_take_161 (fun zs161_12 H locs ezs161_12 w => ?_)
              exact t_v X w hr hlk dX7_take_164 (by replace ezs161_12 := ezs161_12.symm; subst ezs161_12; replace ezs121_7 := ezs121_7.symm; subst ezs121_7; replace ezs110_7 := ezs110_7.symm; subst ezs110_7; replace ezs90_8 := ezs90_8.symm; subst ezs90_8; replace ezv81_8 := ezv81_8.symm; subst ezv81_8; replace ezs76_8 := ezs76_8.symm; subst ezs76_8; replace ezv63_4 := ezv63_4.symm; subst ezv63_4; replace ezv39_4 := ezv39_4.symm; subst ezv39_4; replace ezs144_6 := ezs144_6.symm; subst ezs144_6; replace ezs90_6 := ezs90_6.symm; subst ezs90_6; replace ezv81_6 := ezv81_6.symm; subst ezv81_6; replace ezs76_6 := ezs76_6.symm; subst ezs76_6; replace ezv63_3 := ezv63_3.symm; subst ezv63_3; replace ezv39 := ezv39.symm; subst ezv39; replace ezv27 := ezv27.symm; subst ezv27; replace ezs7 := ezs7.symm; subst ezs7; replace ezs2 := ezs2.symm; subst ezs2; simp only [g_X7_take, if_neg zc11, if_neg zc19, if_neg zc49, if_neg zc99, if_neg zc49_2, if_pos zc99_2])
        · -- 102
          refine lv_aload_n hx hb dX7_take_102 rfl (lv_at hl 4 rfl) ?_
          refine lv_dup hx hb dX7_take_103 rfl ?_
          refine gf7_200 X w dX7_take_104 ?_
          refine lv_iload hx hb dX7_take_107 (lv_at hl 1 rfl) ?_
          refine lv_iadd hx hb dX7_take_109 ?_
          refine pf7_200 X w dX7_take_110 (fun zs110_8 H locs ezs110_8 w => ?_)
          refine lv_aload_n hx hb dX7_take_113 rfl (lv_at hl 4 rfl) ?_
          refine lv_dup hx hb dX7_take_114 rfl ?_
          refine gf7_194 X w dX7_take_115 ?_
          refine lv_iload hx hb dX7_take_118 (lv_at hl 1 rfl) ?_
          refine lv_iadd hx hb dX7_take_120 ?_
          change W _ _ _ _ _ _ _ _ _ _ _ _ _ _ _ (F0 m 121 ls _)
          refine pf7_194 X w dX7_take_121 (fun zs121_8 H locs ezs121_8 w => ?_)
          refine lv_goto (tgt := 145) hx hb dX7_take_124 (by decide) ?_
          refine lv_iinc (v := 0) (lv' := [(3, .int 0), (2, .int zv81_6), (5, .int zv63_3), (4, .int zv39), (0, .ref (aa G 4 0)), (1, .int x1)]) hx hb dX7_take_145 hl (k := 3) rfl (by decide) (by decide) rfl (fun ls hl => ?_)
          refine lv_goto (tgt := 30) hx hb dX7_take_148 (by decide) ?_
          refine lv_iload_n hx hb dX7_take_30 rfl (lv_at hl 0 rfl) ?_
          refine lv_if_lt (tgt := 151) hx hb dX7_take_31 (by decide) (fun zc31 => absurd zc31 (by decide)) (fun _ => ?_)
          refine lv_iconst (v := 2) hx hb dX7_take_34 (by decide) ?_
          refine lv_iload_n hx hb dX7_take_35 rfl (lv_at hl 5 rfl) ?_
          refine lv_imul hx hb dX7_take_36 ?_
          refine lv_iload_n hx hb dX7_take_37 rfl (lv_at hl 0 rfl) ?_
          refine lv_iadd hx hb dX7_take_38 ?_
          refine lv_topi (fun zv39_5 ezv39_5 => ?_)
          refine lv_istore (lv' := [(4, .int zv39_5), (3, .int 0), (2, .int zv81_6), (5, .int zv63_3), (0, .ref (aa G 4 0)), (1, .int x1)]) hx hb dX7_take_39 hl (by decide) rfl (fun ls hl => ?_)
          change W _ _ _ _ _ _ _ _ _ _ _ _ _ _ _ (F0 m 41 ls _)
          refine lv_aload_n hx hb dX7_take_41 rfl (lv_at hl 4 rfl) ?_
          refine gf7_28 X w dX7_take_42 ?_
          refine lv_iload hx hb dX7_take_45 (lv_at hl 0 rfl) ?_
          refine ia (f := 7) (n := 16) X w m4_7 rfl (by replace ezv39_5 := ezv39_5.symm; subst ezv39_5; replace ezs121_8 := ezs121_8.symm; subst ezs121_8; replace ezs110_8 := ezs110_8.symm; subst ezs110_8; replace ezs90_6 := ezs90_6.symm; subst ezs90_6; replace ezv81_6 := ezv81_6.symm; subst ezv81_6; replace ezs76_6 := ezs76_6.symm; subst ezs76_6; replace ezv63_3 := ezv63_3.symm; subst ezv63_3; replace ezv39 := ezv39.symm; subst ezv39; replace ezv27 := ezv27.symm; subst ezv27; replace ezs7 := ezs7.symm; subst ezs7; replace ezs2 := ezs2.symm; subst ezs2; first | exact ix2s (hfrom.resolve_left zc11) v12 | exact ix2s (hfrom.resolve_left zc11) v02) dX7_take_47 ?_
          refine lv_iload_n hx hb dX7_take_48 rfl (lv_at hl 2 rfl) ?_
          refine lv_icmp_ge (tgt := 62) hx hb dX7_take_49 (by decide) (fun zc49_2 => ?_) (fun zc49_2 => ?_)
          · -- 62
            refine lv_iload_n hx hb dX7_take_62 rfl (lv_at hl 2 rfl) ?_
            refine lv_istore (lv' := [(5, .int zv81_6), (4, .int zv39_5), (3, .int 0), (2, .int zv81_6), (0, .ref (aa G 4 0)), (1, .int x1)]) hx hb dX7_take_63 hl (by decide) rfl (fun ls hl => ?_)
            refine lv_aload_n hx hb dX7_take_65 rfl (lv_at hl 4 rfl) ?_
            refine gf7_28 X w dX7_take_66 ?_
            refine lv_iload hx hb dX7_take_69 (lv_at hl 1 rfl) ?_
            refine lv_dup2_11 hx hb dX7_take_71 rfl rfl ?_
            refine ia (f := 7) (n := 16) X w m4_7 rfl (by replace ezv39_5 := ezv39_5.symm; subst ezv39_5; replace ezs121_8 := ezs121_8.symm; subst ezs121_8; replace ezs110_8 := ezs110_8.symm; subst ezs110_8; replace ezs90_6 := ezs90_6.symm; subst ezs90_6; replace ezv81_6 := ezv81_6.symm; subst ezv81_6; replace ezs76_6 := ezs76_6.symm; subst ezs76_6; replace ezv63_3 := ezv63_3.symm; subst ezv63_3; replace ezv39 := ezv39.symm; subst ezv39; replace ezv27 := ezv27.symm; subst ezv27; replace ezs7 := ezs7.symm; subst ezs7; replace ezs2 := ezs2.symm; subst ezs2; first | exact ix2s (hfrom.resolve_left zc11) v12 | exact ix2s (hfrom.resolve_left zc11) v02) dX7_take_72 ?_
            refine lv_iload hx hb dX7_take_73 (lv_at hl 0 rfl) ?_
            refine lv_isub hx hb dX7_take_75 ?_
            refine iS (f := 7) (n := 16) X w m4_7 rfl (by replace ezv39_5 := ezv39_5.symm; subst ezv39_5; replace ezs121_8 := ezs121_8.symm; subst ezs121_8; replace ezs110_8 := ezs110_8.symm; subst ezs110_8; replace ezs90_6 := ezs90_6.symm; subst ezs90_6; replace ezv81_6 := ezv81_6.symm; subst ezv81_6; replace ezs76_6 := ezs76_6.symm; subst ezs76_6; replace ezv63_3 := ezv63_3.symm; subst ezv63_3; replace ezv39 := ezv39.symm; subst ezv39; replace ezv27 := ezv27.symm; subst ezv27; replace ezs7 := ezs7.symm; subst ezs7; replace ezs2 := ezs2.symm; subst ezs2; first | exact ix2s (hfrom.resolve_left zc11) v12 | exact ix2s (hfrom.resolve_left zc11) v02) dX7_take_76 (fun zs76_9 H locs ezs76_9 w => ?_)
            refine lv_iload_n hx hb dX7_take_77 rfl (lv_at hl 3 rfl) ?_
            change W _ _ _ _ _ _ _ _ _ _ _ _ _ _ _ (F0 m 78 ls _)
            refine lv_iload hx hb dX7_take_78 (lv_at hl 0 rfl) ?_
            refine lv_isub hx hb dX7_take_80 ?_
            refine lv_topi (fun zv81_9 ezv81_9 => ?_)
            refine lv_istore_n (lv' := [(2, .int zv81_9), (5, .int zv81_6), (4, .int zv39_5), (3, .int 0), (0, .ref (aa G 4 0)), (1, .int x1)]) hx hb dX7_take_81 rfl hl (by decide) rfl (fun ls hl => ?_)
            refine lv_aload_n hx hb dX7_take_82 rfl (lv_at hl 4 rfl) ?_
            refine lv_dup hx hb dX7_take_83 rfl ?_
            refine gf7_197 X w dX7_take_84 ?_
            refine lv_iload hx hb dX7_take_87 (lv_at hl 1 rfl) ?_
            refine lv_iadd hx hb dX7_take_89 ?_
            refine pf7_197 X w dX7_take_90 (fun zs90_9 H locs ezs90_9 w => ?_)
            refine lv_aload_n hx hb dX7_take_93 rfl (lv_at hl 4 rfl) ?_
            refine gf7_66 X w dX7_take_94 ?_
            refine lv_bipush (v := 8) hx hb dX7_take_97 (by decide) ?_
            change W _ _ _ _ _ _ _ _ _ _ _ _ _ _ _ (F0 m 99 ls _)
            refine lv_icmp_ne (tgt := 127) hx hb dX7_take_99 (by decide) (fun zc99_2 => ?_) (fun zc99_2 => ?_)
            · -- 127
              refine lv_aload_n hx hb dX7_take_127 rfl (lv_at hl 4 rfl) ?_
              refine gf7_25 X w dX7_take_128 ?_
              refine lv_iconst (v := 2) hx hb dX7_take_131 (by decide) ?_
              refine lv_aload_n hx hb dX7_take_132 rfl (lv_at hl 4 rfl) ?_
              refine gf7_66 X w dX7_take_133 ?_
              refine lv_imul hx hb dX7_take_136 ?_
              refine lv_iload_n hx hb dX7_take_137 rfl (lv_at hl 3 rfl) ?_
              refine lv_iadd hx hb dX7_take_138 ?_
              refine lv_dup2_11 hx hb dX7_take_139 rfl rfl ?_
              refine ia (f := 6) (n := 16) X w m4_6 rfl (by replace ezs90_9 := ezs90_9.symm; subst ezs90_9; replace ezv81_9 := ezv81_9.symm; subst ezv81_9; replace ezs76_9 := ezs76_9.symm; subst ezs76_9; replace ezv39_5 := ezv39_5.symm; subst ezv39_5; replace ezs121_8 := ezs121_8.symm; subst ezs121_8; replace ezs110_8 := ezs110_8.symm; subst ezs110_8; replace ezs90_6 := ezs90_6.symm; subst ezs90_6; replace ezv81_6 := ezv81_6.symm; subst ezv81_6; replace ezs76_6 := ezs76_6.symm; subst ezs76_6; replace ezv63_3 := ezv63_3.symm; subst ezv63_3; replace ezv39 := ezv39.symm; subst ezv39; replace ezv27 := ezv27.symm; subst ezv27; replace ezs7 := ezs7.symm; subst ezs7; replace ezs2 := ezs2.symm; subst ezs2; first | exact ix2s (hm.dv zc99) v12 | exact ix2s (hm.dv zc99_2) v02 | exact ix2s (hm.dv zc99) v02) dX7_take_140 ?_
              refine lv_iload hx hb dX7_take_141 (lv_at hl 1 rfl) ?_
              change W _ _ _ _ _ _ _ _ _ _ _ _ _ _ _ (F0 m 143 ls _)
              refine lv_iadd hx hb dX7_take_143 ?_
              refine iS (f := 6) (n := 16) X w m4_6 rfl (by replace ezs90_9 := ezs90_9.symm; subst ezs90_9; replace ezv81_9 := ezv81_9.symm; subst ezv81_9; replace ezs76_9 := ezs76_9.symm; subst ezs76_9; replace ezv39_5 := ezv39_5.symm; subst ezv39_5; replace ezs121_8 := ezs121_8.symm; subst ezs121_8; replace ezs110_8 := ezs110_8.symm; subst ezs110_8; replace ezs90_6 := ezs90_6.symm; subst ezs90_6; replace ezv81_6 := ezv81_6.symm; subst ezv81_6; replace ezs76_6 := ezs76_6.symm; subst ezs76_6; replace ezv63_3 := ezv63_3.symm; subst ezv63_3; replace ezv39 := ezv39.symm; subst ezv39; replace ezv27 := ezv27.symm; subst ezv27; replace ezs7 := ezs7.symm; subst ezs7; replace ezs2 := ezs2.symm; subst ezs2; first | exact ix2s (hm.dv zc99) v12 | exact ix2s (hm.dv zc99_2) v02 | exact ix2s (hm.dv zc99) v02) dX7_take_144 (fun zs144_9 H locs ezs144_9 w => ?_)
              refine lv_iinc (v := (-1)) (lv' := [(3, .int (-1)), (2, .int zv81_9), (5, .int zv81_6), (4, .int zv39_5), (0, .ref (aa G 4 0)), (1, .int x1)]) hx hb dX7_take_145 hl (k := 3) rfl (by decide) (by decide) rfl (fun ls hl => ?_)
              refine lv_goto (tgt := 30) hx hb dX7_take_148 (by decide) ?_
              refine lv_iload_n hx hb dX7_take_30 rfl (lv_at hl 0 rfl) ?_
              refine lv_if_lt (tgt := 151) hx hb dX7_take_31 (by decide) (fun _ => ?_) (fun zc31 => absurd (by decide) zc31)
              refine lv_aload_n hx hb dX7_take_151 rfl (lv_at hl 4 rfl) ?_
              refine lv_dup hx hb dX7_take_152 rfl ?_
              refine gf7_203 X w dX7_take_153 ?_
              refine lv_aload_n hx hb dX7_take_156 rfl (lv_at hl 4 rfl) ?_
              refine gf7_197 X w dX7_take_157 ?_
              refine lv_iadd hx hb dX7_take_160 ?_
              change W _ _ _ _ _ _ _ _ _ _ _ _ _ _ _ (F0 m 161 ls _)
              refine pf7_203 X w dX7_take_161 (fun zs161_13 H locs ezs161_13 w => ?_)
              exact t_v X w hr hlk dX7_take_164 (by replace ezs161_13 := ezs161_13.symm; subst ezs161_13; replace ezs144_9 := ezs144_9.symm; subst ezs144_9; replace ezs90_9 := ezs90_9.symm; subst ezs90_9; replace ezv81_9 := ezv81_9.symm; subst ezv81_9; replace ezs76_9 := ezs76_9.symm; subst ezs76_9; replace ezv39_5 := ezv39_5.symm; subst ezv39_5; replace ezs121_8 := ezs121_8.symm; subst ezs121_8; replace ezs110_8 := ezs110_8.symm; subst ezs110_8; replace ezs90_6 := ezs90_6.symm; subst ezs90_6; replace ezv81_6 := ezv81_6.symm; subst ezv81_6; replace ezs76_6 := ezs76_6.symm; subst ezs76_6; replace ezv63_3 := ezv63_3.symm; subst ezv63_3; replace ezv39 := ezv39.symm; subst ezv39; replace ezv27 := ezv27.symm; subst ezv27; replace ezs7 := ezs7.symm; subst ezs7; replace ezs2 := ezs2.symm; subst ezs2; simp only [g_X7_take, if_neg zc11, if_neg zc19, if_neg zc49, if_pos zc99, if_pos zc49_2, if_neg zc99_2])
            · -- 102
              refine lv_aload_n hx hb dX7_take_102 rfl (lv_at hl 4 rfl) ?_
              refine lv_dup hx hb dX7_take_103 rfl ?_
              refine gf7_200 X w dX7_take_104 ?_
              refine lv_iload hx hb dX7_take_107 (lv_at hl 1 rfl) ?_
              refine lv_iadd hx hb dX7_take_109 ?_
              refine pf7_200 X w dX7_take_110 (fun zs110_9 H locs ezs110_9 w => ?_)
              refine lv_aload_n hx hb dX7_take_113 rfl (lv_at hl 4 rfl) ?_
              refine lv_dup hx hb dX7_take_114 rfl ?_
              refine gf7_194 X w dX7_take_115 ?_
              refine lv_iload hx hb dX7_take_118 (lv_at hl 1 rfl) ?_
              refine lv_iadd hx hb dX7_take_120 ?_
              change W _ _ _ _ _ _ _ _ _ _ _ _ _ _ _ (F0 m 121 ls _)
              refine pf7_194 X w dX7_take_121 (fun zs121_9 H locs ezs121_9 w => ?_)
              refine lv_goto (tgt := 145) hx hb dX7_take_124 (by decide) ?_
              refine lv_iinc (v := (-1)) (lv' := [(3, .int (-1)), (2, .int zv81_9), (5, .int zv81_6), (4, .int zv39_5), (0, .ref (aa G 4 0)), (1, .int x1)]) hx hb dX7_take_145 hl (k := 3) rfl (by decide) (by decide) rfl (fun ls hl => ?_)
              refine lv_goto (tgt := 30) hx hb dX7_take_148 (by decide) ?_
              refine lv_iload_n hx hb dX7_take_30 rfl (lv_at hl 0 rfl) ?_
              refine lv_if_lt (tgt := 151) hx hb dX7_take_31 (by decide) (fun _ => ?_) (fun zc31 => absurd (by decide) zc31)
              refine lv_aload_n hx hb dX7_take_151 rfl (lv_at hl 4 rfl) ?_
              refine lv_dup hx hb dX7_take_152 rfl ?_
              refine gf7_203 X w dX7_take_153 ?_
              refine lv_aload_n hx hb dX7_take_156 rfl (lv_at hl 4 rfl) ?_
              refine gf7_197 X w dX7_take_157 ?_
              refine lv_iadd hx hb dX7_take_160 ?_
              change W _ _ _ _ _ _ _ _ _ _ _ _ _ _ _ (F0 m 161 ls _)
              refine pf7_203 X w dX7_take_161 (fun zs161_14 H locs ezs161_14 w => ?_)
              exact t_v X w hr hlk dX7_take_164 (by replace ezs161_14 := ezs161_14.symm; subst ezs161_14; replace ezs121_9 := ezs121_9.symm; subst ezs121_9; replace ezs110_9 := ezs110_9.symm; subst ezs110_9; replace ezs90_9 := ezs90_9.symm; subst ezs90_9; replace ezv81_9 := ezv81_9.symm; subst ezv81_9; replace ezs76_9 := ezs76_9.symm; subst ezs76_9; replace ezv39_5 := ezv39_5.symm; subst ezv39_5; replace ezs121_8 := ezs121_8.symm; subst ezs121_8; replace ezs110_8 := ezs110_8.symm; subst ezs110_8; replace ezs90_6 := ezs90_6.symm; subst ezs90_6; replace ezv81_6 := ezv81_6.symm; subst ezv81_6; replace ezs76_6 := ezs76_6.symm; subst ezs76_6; replace ezv63_3 := ezv63_3.symm; subst ezv63_3; replace ezv39 := ezv39.symm; subst ezv39; replace ezv27 := ezv27.symm; subst ezv27; replace ezs7 := ezs7.symm; subst ezs7; replace ezs2 := ezs2.symm; subst ezs2; simp only [g_X7_take, if_neg zc11, if_neg zc19, if_neg zc49, if_pos zc99, if_pos zc49_2, if_pos zc99_2])
          · -- 52
            refine lv_aload_n hx hb dX7_take_52 rfl (lv_at hl 4 rfl) ?_
            refine gf7_28 X w dX7_take_53 ?_
            refine lv_iload hx hb dX7_take_56 (lv_at hl 0 rfl) ?_
            refine ia (f := 7) (n := 16) X w m4_7 rfl (by replace ezv39_5 := ezv39_5.symm; subst ezv39_5; replace ezs121_8 := ezs121_8.symm; subst ezs121_8; replace ezs110_8 := ezs110_8.symm; subst ezs110_8; replace ezs90_6 := ezs90_6.symm; subst ezs90_6; replace ezv81_6 := ezv81_6.symm; subst ezv81_6; replace ezs76_6 := ezs76_6.symm; subst ezs76_6; replace ezv63_3 := ezv63_3.symm; subst ezv63_3; replace ezv39 := ezv39.symm; subst ezv39; replace ezv27 := ezv27.symm; subst ezv27; replace ezs7 := ezs7.symm; subst ezs7; replace ezs2 := ezs2.symm; subst ezs2; first | exact ix2s (hfrom.resolve_left zc11) v12 | exact ix2s (hfrom.resolve_left zc11) v02) dX7_take_58 ?_
            refine lv_goto (tgt := 63) hx hb dX7_take_59 (by decide) ?_
            refine lv_topi (fun zv63_5 ezv63_5 => ?_)
            refine lv_istore (lv' := [(5, .int zv63_5), (4, .int zv39_5), (3, .int 0), (2, .int zv81_6), (0, .ref (aa G 4 0)), (1, .int x1)]) hx hb dX7_take_63 hl (by decide) rfl (fun ls hl => ?_)
            refine lv_aload_n hx hb dX7_take_65 rfl (lv_at hl 4 rfl) ?_
            refine gf7_28 X w dX7_take_66 ?_
            refine lv_iload hx hb dX7_take_69 (lv_at hl 1 rfl) ?_
            refine lv_dup2_11 hx hb dX7_take_71 rfl rfl ?_
            refine ia (f := 7) (n := 16) X w m4_7 rfl (by replace ezv63_5 := ezv63_5.symm; subst ezv63_5; replace ezv39_5 := ezv39_5.symm; subst ezv39_5; replace ezs121_8 := ezs121_8.symm; subst ezs121_8; replace ezs110_8 := ezs110_8.symm; subst ezs110_8; replace ezs90_6 := ezs90_6.symm; subst ezs90_6; replace ezv81_6 := ezv81_6.symm; subst ezv81_6; replace ezs76_6 := ezs76_6.symm; subst ezs76_6; replace ezv63_3 := ezv63_3.symm; subst ezv63_3; replace ezv39 := ezv39.symm; subst ezv39; replace ezv27 := ezv27.symm; subst ezv27; replace ezs7 := ezs7.symm; subst ezs7; replace ezs2 := ezs2.symm; subst ezs2; first | exact ix2s (hfrom.resolve_left zc11) v12 | exact ix2s (hfrom.resolve_left zc11) v02) dX7_take_72 ?_
            change W _ _ _ _ _ _ _ _ _ _ _ _ _ _ _ (F0 m 73 ls _)
            refine lv_iload hx hb dX7_take_73 (lv_at hl 0 rfl) ?_
            refine lv_isub hx hb dX7_take_75 ?_
            refine iS (f := 7) (n := 16) X w m4_7 rfl (by replace ezv63_5 := ezv63_5.symm; subst ezv63_5; replace ezv39_5 := ezv39_5.symm; subst ezv39_5; replace ezs121_8 := ezs121_8.symm; subst ezs121_8; replace ezs110_8 := ezs110_8.symm; subst ezs110_8; replace ezs90_6 := ezs90_6.symm; subst ezs90_6; replace ezv81_6 := ezv81_6.symm; subst ezv81_6; replace ezs76_6 := ezs76_6.symm; subst ezs76_6; replace ezv63_3 := ezv63_3.symm; subst ezv63_3; replace ezv39 := ezv39.symm; subst ezv39; replace ezv27 := ezv27.symm; subst ezv27; replace ezs7 := ezs7.symm; subst ezs7; replace ezs2 := ezs2.symm; subst ezs2; first | exact ix2s (hfrom.resolve_left zc11) v12 | exact ix2s (hfrom.resolve_left zc11) v02) dX7_take_76 (fun zs76_10 H locs ezs76_10 w => ?_)
            refine lv_iload_n hx hb dX7_take_77 rfl (lv_at hl 3 rfl) ?_
            refine lv_iload hx hb dX7_take_78 (lv_at hl 0 rfl) ?_
            refine lv_isub hx hb dX7_take_80 ?_
            refine lv_topi (fun zv81_10 ezv81_10 => ?_)
            refine lv_istore_n (lv' := [(2, .int zv81_10), (5, .int zv63_5), (4, .int zv39_5), (3, .int 0), (0, .ref (aa G 4 0)), (1, .int x1)]) hx hb dX7_take_81 rfl hl (by decide) rfl (fun ls hl => ?_)
            refine lv_aload_n hx hb dX7_take_82 rfl (lv_at hl 4 rfl) ?_
            refine lv_dup hx hb dX7_take_83 rfl ?_
            refine gf7_197 X w dX7_take_84 ?_
            refine lv_iload hx hb dX7_take_87 (lv_at hl 1 rfl) ?_
            refine lv_iadd hx hb dX7_take_89 ?_
            change W _ _ _ _ _ _ _ _ _ _ _ _ _ _ _ (F0 m 90 ls _)
            refine pf7_197 X w dX7_take_90 (fun zs90_10 H locs ezs90_10 w => ?_)
            refine lv_aload_n hx hb dX7_take_93 rfl (lv_at hl 4 rfl) ?_
            refine gf7_66 X w dX7_take_94 ?_
            refine lv_bipush (v := 8) hx hb dX7_take_97 (by decide) ?_
            refine lv_icmp_ne (tgt := 127) hx hb dX7_take_99 (by decide) (fun zc99_2 => ?_) (fun zc99_2 => ?_)
            · -- 127
              refine lv_aload_n hx hb dX7_take_127 rfl (lv_at hl 4 rfl) ?_
              refine gf7_25 X w dX7_take_128 ?_
              refine lv_iconst (v := 2) hx hb dX7_take_131 (by decide) ?_
              refine lv_aload_n hx hb dX7_take_132 rfl (lv_at hl 4 rfl) ?_
              refine gf7_66 X w dX7_take_133 ?_
              refine lv_imul hx hb dX7_take_136 ?_
              refine lv_iload_n hx hb dX7_take_137 rfl (lv_at hl 3 rfl) ?_
              refine lv_iadd hx hb dX7_take_138 ?_
              refine lv_dup2_11 hx hb dX7_take_139 rfl rfl ?_
              refine ia (f := 6) (n := 16) X w m4_6 rfl (by replace ezs90_10 := ezs90_10.symm; subst ezs90_10; replace ezv81_10 := ezv81_10.symm; subst ezv81_10; replace ezs76_10 := ezs76_10.symm; subst ezs76_10; replace ezv63_5 := ezv63_5.symm; subst ezv63_5; replace ezv39_5 := ezv39_5.symm; subst ezv39_5; replace ezs121_8 := ezs121_8.symm; subst ezs121_8; replace ezs110_8 := ezs110_8.symm; subst ezs110_8; replace ezs90_6 := ezs90_6.symm; subst ezs90_6; replace ezv81_6 := ezv81_6.symm; subst ezv81_6; replace ezs76_6 := ezs76_6.symm; subst ezs76_6; replace ezv63_3 := ezv63_3.symm; subst ezv63_3; replace ezv39 := ezv39.symm; subst ezv39; replace ezv27 := ezv27.symm; subst ezv27; replace ezs7 := ezs7.symm; subst ezs7; replace ezs2 := ezs2.symm; subst ezs2; first | exact ix2s (hm.dv zc99) v12 | exact ix2s (hm.dv zc99_2) v02 | exact ix2s (hm.dv zc99) v02) dX7_take_140 ?_
              refine lv_iload hx hb dX7_take_141 (lv_at hl 1 rfl) ?_
              change W _ _ _ _ _ _ _ _ _ _ _ _ _ _ _ (F0 m 143 ls _)
              refine lv_iadd hx hb dX7_take_143 ?_
              refine iS (f := 6) (n := 16) X w m4_6 rfl (by replace ezs90_10 := ezs90_10.symm; subst ezs90_10; replace ezv81_10 := ezv81_10.symm; subst ezv81_10; replace ezs76_10 := ezs76_10.symm; subst ezs76_10; replace ezv63_5 := ezv63_5.symm; subst ezv63_5; replace ezv39_5 := ezv39_5.symm; subst ezv39_5; replace ezs121_8 := ezs121_8.symm; subst ezs121_8; replace ezs110_8 := ezs110_8.symm; subst ezs110_8; replace ezs90_6 := ezs90_6.symm; subst ezs90_6; replace ezv81_6 := ezv81_6.symm; subst ezv81_6; replace ezs76_6 := ezs76_6.symm; subst ezs76_6; replace ezv63_3 := ezv63_3.symm; subst ezv63_3; replace ezv39 := ezv39.symm; subst ezv39; replace ezv27 := ezv27.symm; subst ezv27; replace ezs7 := ezs7.symm; subst ezs7; replace ezs2 := ezs2.symm; subst ezs2; first | exact ix2s (hm.dv zc99) v12 | exact ix2s (hm.dv zc99_2) v02 | exact ix2s (hm.dv zc99) v02) dX7_take_144 (fun zs144_10 H locs ezs144_10 w => ?_)
              refine lv_iinc (v := (-1)) (lv' := [(3, .int (-1)), (2, .int zv81_10), (5, .int zv63_5), (4, .int zv39_5), (0, .ref (aa G 4 0)), (1, .int x1)]) hx hb dX7_take_145 hl (k := 3) rfl (by decide) (by decide) rfl (fun ls hl => ?_)
              refine lv_goto (tgt := 30) hx hb dX7_take_148 (by decide) ?_
              refine lv_iload_n hx hb dX7_take_30 rfl (lv_at hl 0 rfl) ?_
              refine lv_if_lt (tgt := 151) hx hb dX7_take_31 (by decide) (fun _ => ?_) (fun zc31 => absurd (by decide) zc31)
              refine lv_aload_n hx hb dX7_take_151 rfl (lv_at hl 4 rfl) ?_
              refine lv_dup hx hb dX7_take_152 rfl ?_
              refine gf7_203 X w dX7_take_153 ?_
              refine lv_aload_n hx hb dX7_take_156 rfl (lv_at hl 4 rfl) ?_
              refine gf7_197 X w dX7_take_157 ?_
              refine lv_iadd hx hb dX7_take_160 ?_
              change W _ _ _ _ _ _ _ _ _ _ _ _ _ _ _ (F0 m 161 ls _)
              refine pf7_203 X w dX7_take_161 (fun zs161_15 H locs ezs161_15 w => ?_)
              exact t_v X w hr hlk dX7_take_164 (by replace ezs161_15 := ezs161_15.symm; subst ezs161_15; replace ezs144_10 := ezs144_10.symm; subst ezs144_10; replace ezs90_10 := ezs90_10.symm; subst ezs90_10; replace ezv81_10 := ezv81_10.symm; subst ezv81_10; replace ezs76_10 := ezs76_10.symm; subst ezs76_10; replace ezv63_5 := ezv63_5.symm; subst ezv63_5; replace ezv39_5 := ezv39_5.symm; subst ezv39_5; replace ezs121_8 := ezs121_8.symm; subst ezs121_8; replace ezs110_8 := ezs110_8.symm; subst ezs110_8; replace ezs90_6 := ezs90_6.symm; subst ezs90_6; replace ezv81_6 := ezv81_6.symm; subst ezv81_6; replace ezs76_6 := ezs76_6.symm; subst ezs76_6; replace ezv63_3 := ezv63_3.symm; subst ezv63_3; replace ezv39 := ezv39.symm; subst ezv39; replace ezv27 := ezv27.symm; subst ezv27; replace ezs7 := ezs7.symm; subst ezs7; replace ezs2 := ezs2.symm; subst ezs2; simp only [g_X7_take, if_neg zc11, if_neg zc19, if_neg zc49, if_pos zc99, if_neg zc49_2, if_neg zc99_2])
            · -- 102
              refine lv_aload_n hx hb dX7_take_102 rfl (lv_at hl 4 rfl) ?_
              refine lv_dup hx hb dX7_take_103 rfl ?_
              refine gf7_200 X w dX7_take_104 ?_
              refine lv_iload hx hb dX7_take_107 (lv_at hl 1 rfl) ?_
              refine lv_iadd hx hb dX7_take_109 ?_
              refine pf7_200 X w dX7_take_110 (fun zs110_10 H locs ezs110_10 w => ?_)
              refine lv_aload_n hx hb dX7_take_113 rfl (lv_at hl 4 rfl) ?_
              refine lv_dup hx hb dX7_take_114 rfl ?_
              refine gf7_194 X w dX7_take_115 ?_
              refine lv_iload hx hb dX7_take_118 (lv_at hl 1 rfl) ?_
              refine lv_iadd hx hb dX7_take_120 ?_
              change W _ _ _ _ _ _ _ _ _ _ _ _ _ _ _ (F0 m 121 ls _)
              refine pf7_194 X w dX7_take_121 (fun zs121_10 H locs ezs121_10 w => ?_)
              refine lv_goto (tgt := 145) hx hb dX7_take_124 (by decide) ?_
              refine lv_iinc (v := (-1)) (lv' := [(3, .int (-1)), (2, .int zv81_10), (5, .int zv63_5), (4, .int zv39_5), (0, .ref (aa G 4 0)), (1, .int x1)]) hx hb dX7_take_145 hl (k := 3) rfl (by decide) (by decide) rfl (fun ls hl => ?_)
              refine lv_goto (tgt := 30) hx hb dX7_take_148 (by decide) ?_
              refine lv_iload_n hx hb dX7_take_30 rfl (lv_at hl 0 rfl) ?_
              refine lv_if_lt (tgt := 151) hx hb dX7_take_31 (by decide) (fun _ => ?_) (fun zc31 => absurd (by decide) zc31)
              refine lv_aload_n hx hb dX7_take_151 rfl (lv_at hl 4 rfl) ?_
              refine lv_dup hx hb dX7_take_152 rfl ?_
              refine gf7_203 X w dX7_take_153 ?_
              refine lv_aload_n hx hb dX7_take_156 rfl (lv_at hl 4 rfl) ?_
              refine gf7_197 X w dX7_take_157 ?_
              refine lv_iadd hx hb dX7_take_160 ?_
              change W _ _ _ _ _ _ _ _ _ _ _ _ _ _ _ (F0 m 161 ls _)
              refine pf7_203 X w dX7_take_161 (fun zs161_16 H locs ezs161_16 w => ?_)
              exact t_v X w hr hlk dX7_take_164 (by replace ezs161_16 := ezs161_16.symm; subst ezs161_16; replace ezs121_10 := ezs121_10.symm; subst ezs121_10; replace ezs110_10 := ezs110_10.symm; subst ezs110_10; replace ezs90_10 := ezs90_10.symm; subst ezs90_10; replace ezv81_10 := ezv81_10.symm; subst ezv81_10; replace ezs76_10 := ezs76_10.symm; subst ezs76_10; replace ezv63_5 := ezv63_5.symm; subst ezv63_5; replace ezv39_5 := ezv39_5.symm; subst ezv39_5; replace ezs121_8 := ezs121_8.symm; subst ezs121_8; replace ezs110_8 := ezs110_8.symm; subst ezs110_8; replace ezs90_6 := ezs90_6.symm; subst ezs90_6; replace ezv81_6 := ezv81_6.symm; subst ezv81_6; replace ezs76_6 := ezs76_6.symm; subst ezs76_6; replace ezv63_3 := ezv63_3.symm; subst ezv63_3; replace ezv39 := ezv39.symm; subst ezv39; replace ezv27 := ezv27.symm; subst ezv27; replace ezs7 := ezs7.symm; subst ezs7; replace ezs2 := ezs2.symm; subst ezs2; simp only [g_X7_take, if_neg zc11, if_neg zc19, if_neg zc49, if_pos zc99, if_neg zc49_2, if_pos zc99_2])
    · -- 22
      exact t_v X w hr hlk dX7_take_22 (by replace ezs7 := ezs7.symm; subst ezs7; replace ezs2 := ezs2.symm; subst ezs2; simp only [g_X7_take, if_neg zc11, if_pos zc19])

theorem take_Fm (ρ : Gr) (x : Int32) : Fm ρ (g_X7_take ρ x) := by
  dsimp only [g_X7_take]
  repeat (first | exact Fm.rf | apply Fm.ite | apply Fm.p6 | apply Fm.p7 | apply Fm.p36 | apply Fm.p37 | apply Fm.p22 | apply Fm.p23)

noncomputable def g_X7_passTide (ρ : Gr)  : Gr :=
  let zs1 : Gr := g_X7_flow ρ
  let zs17 : Gr := g_X7_take zs1 (f_X7_chosen zs1 (f_X7_kindAt zs1 (zs1 0 21)))
  let zs27 : Gr := up zs17 0 21 ((zs17 0 21) + 1)
  zs27
set_option maxRecDepth 100000 in
set_option maxHeartbeats 4000000 in
theorem c_X7_passTide {l : Launch} {G : GG} {σ : St} {ρ : Gr}  (B : Nat) (hB : B < 2 ^ 31) (hm : WFm B ρ) : MM l G yX7_passTide cX7_passTide 1 5 109 none [.ref (aa G 4 0)] (setG σ 4 ρ) (Qv G (setG σ 4 (g_X7_passTide ρ))) := by
  refine MM.of (by decide) (Nat.le_of_ble_eq_true rfl) ?_
  intro p e s m below meth c ls X hr hlk w hl
  have hx := X.1.1
  have hb := X.1.2.1
  have hl : lv_has ls 1 [(0, .ref (aa G 4 0))] := hl
  refine lv_aload_n hx hb dX7_passTide_0 rfl (lv_at hl 0 rfl) ?_
  refine k_v (rr_v (rest := []) X w mX7_flow kw994 (c_X7_flow B hB hm) m4_0 rfl rfl ⟨Nat.le_of_ble_eq_true rfl, Nat.le_of_ble_eq_true rfl⟩ rfl hl.1 rfl (Nat.le_of_ble_eq_true rfl) dX7_passTide_1 ⟨Nat.zero_le _, Nat.zero_le _⟩) w (fun H locs w => ?_)
  obtain ⟨zs1, ezs1⟩ : ∃ y : Gr, y = g_X7_flow ρ := ⟨_, rfl⟩; rw [← ezs1] at w
  have hm : WFm B zs1 := by rw [ezs1]; exact hm.fr (flow_Fm _)
  refine lv_aload_n hx hb dX7_passTide_4 rfl (lv_at hl 0 rfl) ?_
  refine lv_aload_n hx hb dX7_passTide_5 rfl (lv_at hl 0 rfl) ?_
  refine lv_aload_n hx hb dX7_passTide_6 rfl (lv_at hl 0 rfl) ?_
  refine lv_aload_n hx hb dX7_passTide_7 rfl (lv_at hl 0 rfl) ?_
  refine gf7_186 X w dX7_passTide_8 ?_
  refine k_i (rr_v (rest := [.ref (aa G 4 0), .ref (aa G 4 0)]) X w mX7_kindAt kw966 (c_X7_kindAt (zs1 0 21) hm.m (hm.t (by omega))) m4_0 rfl rfl ⟨Nat.le_of_ble_eq_true rfl, Nat.le_of_ble_eq_true rfl⟩ rfl hl.1 rfl (Nat.le_of_ble_eq_true rfl) dX7_passTide_11 ⟨Nat.zero_le _, Nat.zero_le _⟩) w (fun H locs w => ?_)
  refine k_i (rr_v (rest := [.ref (aa G 4 0)]) X w mX7_chosen kw970 (c_X7_chosen (f_X7_kindAt zs1 (zs1 0 21)) hm.n) m4_0 rfl rfl ⟨Nat.le_of_ble_eq_true rfl, Nat.le_of_ble_eq_true rfl⟩ rfl hl.1 rfl (Nat.le_of_ble_eq_true rfl) dX7_passTide_14 ⟨Nat.zero_le _, Nat.zero_le _⟩) w (fun H locs w => ?_)
  refine k_v (rr_v (rest := []) X w mX7_take kw999 (c_X7_take (f_X7_chosen zs1 (f_X7_kindAt zs1 (zs1 0 21))) B hm (ch_rg hm _)) m4_0 rfl rfl ⟨Nat.le_of_ble_eq_true rfl, Nat.le_of_ble_eq_true rfl⟩ rfl hl.1 rfl (Nat.le_of_ble_eq_true rfl) dX7_passTide_17 ⟨Nat.zero_le _, Nat.zero_le _⟩) w (fun H locs w => ?_)
  obtain ⟨zs17, ezs17⟩ : ∃ y : Gr, y = g_X7_take zs1 (f_X7_chosen zs1 (f_X7_kindAt zs1 (zs1 0 21))) := ⟨_, rfl⟩; rw [← ezs17] at w
  have hm : WFm B zs17 := by rw [ezs17]; exact hm.fr (take_Fm _ _)
  refine lv_aload_n hx hb dX7_passTide_20 rfl (lv_at hl 0 rfl) ?_
  change W _ _ _ _ _ _ _ _ _ _ _ _ _ _ _ (F0 m 21 ls _)
  refine lv_dup hx hb dX7_passTide_21 rfl ?_
  refine gf7_186 X w dX7_passTide_22 ?_
  refine lv_iconst (v := 1) hx hb dX7_passTide_25 (by decide) ?_
  refine lv_iadd hx hb dX7_passTide_26 ?_
  refine pf7_186 X w dX7_passTide_27 (fun zs27 H locs ezs27 w => ?_)
  exact t_v X w hr hlk dX7_passTide_30 (by replace ezs27 := ezs27.symm; subst ezs27; replace ezs17 := ezs17.symm; subst ezs17; replace ezs1 := ezs1.symm; subst ezs1; simp only [g_X7_passTide])

theorem passTide_WF {B : Nat} {ρ : Gr} (h : WFm B ρ) : WFm (B + 1) (g_X7_passTide ρ) := ((h.fr (flow_Fm _)).fr (take_Fm _ _)).tick

noncomputable def b_X7_save_2  (k : Nat) (v : Gr) : Gr :=
  let zs19 : Gr := up v 38 (nI k).toNatClampNeg (v 6 (nI k).toNatClampNeg)
  let zs31 : Gr := up zs19 39 (nI k).toNatClampNeg (zs19 7 (nI k).toNatClampNeg)
  zs31
noncomputable def l_X7_save_2  (v0 : Gr) : Gr := itn (b_X7_save_2) (nn 16) v0
noncomputable def g_X7_save (ρ : Gr)  : Gr :=
  let zl2 : Gr := (l_X7_save_2 ρ)
  let zs43 : Gr := up zl2 0 40 (zl2 0 21)
  let zs51 : Gr := up zs43 0 41 (zs43 0 22)
  let zs59 : Gr := up zs51 0 42 (zs51 0 23)
  zs59
set_option maxRecDepth 100000 in
set_option maxHeartbeats 4000000 in
theorem lp_X7_save_2 {l : Launch} {G : GG} {p : Program} {e : Env} {s : State} {m : MethodId} {args : Array Value} {below : List Frame} {meth : Method} {c : Code} {Q : State → Prop} {σ : St} (X : Cx p m c cX7_save 2 s args RX7 G)  (v0 : Gr) 
    (kk : ∀ (H : Heap) (locs : List Loc) (ls : Array Slot), Wh G s σ 4 (l_X7_save_2 v0) H locs → lv_has ls 2 [(0, .ref (aa G 4 0)), (1, .int (nI (16)))] → W p l e (rmv 0 0) s m args below meth c H locs 0 0 Q (F0 m 38 ls [])) :
    ∀ (n k : Nat) (v : Gr), k ≤ 16 → 16 - k < n → v = itn (b_X7_save_2) k v0 → ∀ (H : Heap) (locs : List Loc) (ls : Array Slot), Wh G s σ 4 v H locs → lv_has ls 2 [(0, .ref (aa G 4 0)), (1, .int (nI k))] → W p l e (rmv 0 0) s m args below meth c H locs 0 0 Q (F0 m 2 ls []) := by
  have hx := X.1.1
  have hb := X.1.2.1
  intro n
  induction n with
  | zero => intro k v _ h; omega
  | succ n ih =>
    intro k v hkN hn ev H locs ls w hl
    refine lv_iload_n hx hb dX7_save_2 rfl (lv_at hl 1 rfl) ?_
    refine lv_bipush (v := 16) hx hb dX7_save_3 (by decide) ?_
    refine lv_icmp_ge (tgt := 38) hx hb dX7_save_5 (by decide) (fun zc5 => ?_) (fun zc5 => ?_)
    · -- 38
      have hkE : k = 16 := lp_eqN hkN (by decide) zc5
      have ev2 : l_X7_save_2 v0 = v := by unfold l_X7_save_2; rw [nn_eq, ← hkE]; exact ev.symm
      rw [ev2] at kk
      rw [hkE] at hl
      exact kk _ _ _ w (lv_sub hl [0, 1] rfl)
    · -- 8
      have hk : k < 16 := lp_ltN hkN (by decide) zc5
      refine lv_aload_n hx hb dX7_save_8 rfl (lv_at hl 0 rfl) ?_
      refine gf7_87 X w dX7_save_9 ?_
      refine lv_iload_n hx hb dX7_save_12 rfl (lv_at hl 1 rfl) ?_
      refine lv_aload_n hx hb dX7_save_13 rfl (lv_at hl 0 rfl) ?_
      refine gf7_25 X w dX7_save_14 ?_
      refine lv_iload_n hx hb dX7_save_17 rfl (lv_at hl 1 rfl) ?_
      refine ia (f := 6) (n := 16) X w m4_6 rfl (vp_in_nI (by omega) (by decide)) dX7_save_18 ?_
      refine iS (f := 38) (n := 16) X w m4_38 rfl (vp_in_nI (by omega) (by decide)) dX7_save_19 (fun zs19 H locs ezs19 w => ?_)
      refine lv_aload_n hx hb dX7_save_20 rfl (lv_at hl 0 rfl) ?_
      refine gf7_90 X w dX7_save_21 ?_
      refine lv_iload_n hx hb dX7_save_24 rfl (lv_at hl 1 rfl) ?_
      change W _ _ _ _ _ _ _ _ _ _ _ _ _ _ _ (F0 m 25 ls _)
      refine lv_aload_n hx hb dX7_save_25 rfl (lv_at hl 0 rfl) ?_
      refine gf7_28 X w dX7_save_26 ?_
      refine lv_iload_n hx hb dX7_save_29 rfl (lv_at hl 1 rfl) ?_
      refine ia (f := 7) (n := 16) X w m4_7 rfl (vp_in_nI (by omega) (by decide)) dX7_save_30 ?_
      refine iS (f := 39) (n := 16) X w m4_39 rfl (vp_in_nI (by omega) (by decide)) dX7_save_31 (fun zs31 H locs ezs31 w => ?_)
      refine lv_iinc (v := nI (k + 1)) (lv' := [(1, .int (nI (k + 1))), (0, .ref (aa G 4 0))]) hx hb dX7_save_32 hl (k := 1) rfl (nI_1 _) (by decide) rfl (fun ls hl => ?_)
      refine lv_goto (tgt := 2) hx hb dX7_save_35 (by decide) ?_
      exact ih (k + 1) zs31 (by omega) (by omega) (by replace ezs31 := ezs31.symm; subst ezs31; replace ezs19 := ezs19.symm; subst ezs19; simp only [itn, ← ev, b_X7_save_2])  _ _ _ w (lv_sub hl [1, 0] rfl)
set_option maxRecDepth 100000 in
set_option maxHeartbeats 4000000 in
theorem c_X7_save {l : Launch} {G : GG} {σ : St} {ρ : Gr}   : MM l G yX7_save cX7_save 2 0 0 none [.ref (aa G 4 0)] (setG σ 4 ρ) (Qv G (setG σ 4 (g_X7_save ρ))) := by
  refine MM.of (by decide) (Nat.le_of_ble_eq_true rfl) ?_
  intro p e s m below meth c ls X hr hlk w hl
  have hx := X.1.1
  have hb := X.1.2.1
  have hl : lv_has ls 2 [(0, .ref (aa G 4 0))] := hl
  refine lv_iconst (v := 0) hx hb dX7_save_0 (by decide) ?_
  refine lv_istore_n (lv' := [(1, .int 0), (0, .ref (aa G 4 0))]) hx hb dX7_save_1 rfl hl (by decide) rfl (fun ls hl => ?_)
  refine lp_X7_save_2 X  ρ  (fun H locs ls w hl => ?_) (16 + 1) 0 _ (Nat.zero_le _) (Nat.lt_succ_of_le (Nat.sub_le _ _)) rfl  _ _ _ w (lv_sub hl [1, 0] rfl)
  obtain ⟨zl2, ezl2⟩ : ∃ y : Gr, y = (l_X7_save_2 ρ) := ⟨_, rfl⟩
  rw [← ezl2] at w
  refine lv_aload_n hx hb dX7_save_38 rfl (lv_at hl 0 rfl) ?_
  refine lv_aload_n hx hb dX7_save_39 rfl (lv_at hl 0 rfl) ?_
  refine gf7_186 X w dX7_save_40 ?_
  refine pf7_226 X w dX7_save_43 (fun zs43 H locs ezs43 w => ?_)
  refine lv_aload_n hx hb dX7_save_46 rfl (lv_at hl 0 rfl) ?_
  refine lv_aload_n hx hb dX7_save_47 rfl (lv_at hl 0 rfl) ?_
  refine gf7_194 X w dX7_save_48 ?_
  refine pf7_229 X w dX7_save_51 (fun zs51 H locs ezs51 w => ?_)
  refine lv_aload_n hx hb dX7_save_54 rfl (lv_at hl 0 rfl) ?_
  refine lv_aload_n hx hb dX7_save_55 rfl (lv_at hl 0 rfl) ?_
  refine gf7_203 X w dX7_save_56 ?_
  change W _ _ _ _ _ _ _ _ _ _ _ _ _ _ _ (F0 m 59 ls _)
  refine pf7_232 X w dX7_save_59 (fun zs59 H locs ezs59 w => ?_)
  exact t_v X w hr hlk dX7_save_62 (by replace ezs59 := ezs59.symm; subst ezs59; replace ezs51 := ezs51.symm; subst ezs51; replace ezs43 := ezs43.symm; subst ezs43; replace ezl2 := ezl2.symm; subst ezl2; simp only [g_X7_save])

noncomputable def b_X7_putBack_2  (k : Nat) (v : Gr) : Gr :=
  let zs19 : Gr := up v 6 (nI k).toNatClampNeg (v 38 (nI k).toNatClampNeg)
  let zs31 : Gr := up zs19 7 (nI k).toNatClampNeg (zs19 39 (nI k).toNatClampNeg)
  zs31
noncomputable def l_X7_putBack_2  (v0 : Gr) : Gr := itn (b_X7_putBack_2) (nn 16) v0
noncomputable def g_X7_putBack (ρ : Gr)  : Gr :=
  let zl2 : Gr := (l_X7_putBack_2 ρ)
  let zs43 : Gr := up zl2 0 21 (zl2 0 40)
  let zs51 : Gr := up zs43 0 22 (zs43 0 41)
  let zs59 : Gr := up zs51 0 23 (zs51 0 42)
  zs59
set_option maxRecDepth 100000 in
set_option maxHeartbeats 4000000 in
theorem lp_X7_putBack_2 {l : Launch} {G : GG} {p : Program} {e : Env} {s : State} {m : MethodId} {args : Array Value} {below : List Frame} {meth : Method} {c : Code} {Q : State → Prop} {σ : St} (X : Cx p m c cX7_putBack 2 s args RX7 G)  (v0 : Gr) 
    (kk : ∀ (H : Heap) (locs : List Loc) (ls : Array Slot), Wh G s σ 4 (l_X7_putBack_2 v0) H locs → lv_has ls 2 [(0, .ref (aa G 4 0)), (1, .int (nI (16)))] → W p l e (rmv 0 0) s m args below meth c H locs 0 0 Q (F0 m 38 ls [])) :
    ∀ (n k : Nat) (v : Gr), k ≤ 16 → 16 - k < n → v = itn (b_X7_putBack_2) k v0 → ∀ (H : Heap) (locs : List Loc) (ls : Array Slot), Wh G s σ 4 v H locs → lv_has ls 2 [(0, .ref (aa G 4 0)), (1, .int (nI k))] → W p l e (rmv 0 0) s m args below meth c H locs 0 0 Q (F0 m 2 ls []) := by
  have hx := X.1.1
  have hb := X.1.2.1
  intro n
  induction n with
  | zero => intro k v _ h; omega
  | succ n ih =>
    intro k v hkN hn ev H locs ls w hl
    refine lv_iload_n hx hb dX7_putBack_2 rfl (lv_at hl 1 rfl) ?_
    refine lv_bipush (v := 16) hx hb dX7_putBack_3 (by decide) ?_
    refine lv_icmp_ge (tgt := 38) hx hb dX7_putBack_5 (by decide) (fun zc5 => ?_) (fun zc5 => ?_)
    · -- 38
      have hkE : k = 16 := lp_eqN hkN (by decide) zc5
      have ev2 : l_X7_putBack_2 v0 = v := by unfold l_X7_putBack_2; rw [nn_eq, ← hkE]; exact ev.symm
      rw [ev2] at kk
      rw [hkE] at hl
      exact kk _ _ _ w (lv_sub hl [0, 1] rfl)
    · -- 8
      have hk : k < 16 := lp_ltN hkN (by decide) zc5
      refine lv_aload_n hx hb dX7_putBack_8 rfl (lv_at hl 0 rfl) ?_
      refine gf7_25 X w dX7_putBack_9 ?_
      refine lv_iload_n hx hb dX7_putBack_12 rfl (lv_at hl 1 rfl) ?_
      refine lv_aload_n hx hb dX7_putBack_13 rfl (lv_at hl 0 rfl) ?_
      refine gf7_87 X w dX7_putBack_14 ?_
      refine lv_iload_n hx hb dX7_putBack_17 rfl (lv_at hl 1 rfl) ?_
      refine ia (f := 38) (n := 16) X w m4_38 rfl (vp_in_nI (by omega) (by decide)) dX7_putBack_18 ?_
      refine iS (f := 6) (n := 16) X w m4_6 rfl (vp_in_nI (by omega) (by decide)) dX7_putBack_19 (fun zs19 H locs ezs19 w => ?_)
      refine lv_aload_n hx hb dX7_putBack_20 rfl (lv_at hl 0 rfl) ?_
      refine gf7_28 X w dX7_putBack_21 ?_
      refine lv_iload_n hx hb dX7_putBack_24 rfl (lv_at hl 1 rfl) ?_
      change W _ _ _ _ _ _ _ _ _ _ _ _ _ _ _ (F0 m 25 ls _)
      refine lv_aload_n hx hb dX7_putBack_25 rfl (lv_at hl 0 rfl) ?_
      refine gf7_90 X w dX7_putBack_26 ?_
      refine lv_iload_n hx hb dX7_putBack_29 rfl (lv_at hl 1 rfl) ?_
      refine ia (f := 39) (n := 16) X w m4_39 rfl (vp_in_nI (by omega) (by decide)) dX7_putBack_30 ?_
      refine iS (f := 7) (n := 16) X w m4_7 rfl (vp_in_nI (by omega) (by decide)) dX7_putBack_31 (fun zs31 H locs ezs31 w => ?_)
      refine lv_iinc (v := nI (k + 1)) (lv' := [(1, .int (nI (k + 1))), (0, .ref (aa G 4 0))]) hx hb dX7_putBack_32 hl (k := 1) rfl (nI_1 _) (by decide) rfl (fun ls hl => ?_)
      refine lv_goto (tgt := 2) hx hb dX7_putBack_35 (by decide) ?_
      exact ih (k + 1) zs31 (by omega) (by omega) (by replace ezs31 := ezs31.symm; subst ezs31; replace ezs19 := ezs19.symm; subst ezs19; simp only [itn, ← ev, b_X7_putBack_2])  _ _ _ w (lv_sub hl [1, 0] rfl)
set_option maxRecDepth 100000 in
set_option maxHeartbeats 4000000 in
theorem c_X7_putBack {l : Launch} {G : GG} {σ : St} {ρ : Gr}   : MM l G yX7_putBack cX7_putBack 2 0 0 none [.ref (aa G 4 0)] (setG σ 4 ρ) (Qv G (setG σ 4 (g_X7_putBack ρ))) := by
  refine MM.of (by decide) (Nat.le_of_ble_eq_true rfl) ?_
  intro p e s m below meth c ls X hr hlk w hl
  have hx := X.1.1
  have hb := X.1.2.1
  have hl : lv_has ls 2 [(0, .ref (aa G 4 0))] := hl
  refine lv_iconst (v := 0) hx hb dX7_putBack_0 (by decide) ?_
  refine lv_istore_n (lv' := [(1, .int 0), (0, .ref (aa G 4 0))]) hx hb dX7_putBack_1 rfl hl (by decide) rfl (fun ls hl => ?_)
  refine lp_X7_putBack_2 X  ρ  (fun H locs ls w hl => ?_) (16 + 1) 0 _ (Nat.zero_le _) (Nat.lt_succ_of_le (Nat.sub_le _ _)) rfl  _ _ _ w (lv_sub hl [1, 0] rfl)
  obtain ⟨zl2, ezl2⟩ : ∃ y : Gr, y = (l_X7_putBack_2 ρ) := ⟨_, rfl⟩
  rw [← ezl2] at w
  refine lv_aload_n hx hb dX7_putBack_38 rfl (lv_at hl 0 rfl) ?_
  refine lv_aload_n hx hb dX7_putBack_39 rfl (lv_at hl 0 rfl) ?_
  refine gf7_226 X w dX7_putBack_40 ?_
  refine pf7_186 X w dX7_putBack_43 (fun zs43 H locs ezs43 w => ?_)
  refine lv_aload_n hx hb dX7_putBack_46 rfl (lv_at hl 0 rfl) ?_
  refine lv_aload_n hx hb dX7_putBack_47 rfl (lv_at hl 0 rfl) ?_
  refine gf7_229 X w dX7_putBack_48 ?_
  refine pf7_194 X w dX7_putBack_51 (fun zs51 H locs ezs51 w => ?_)
  refine lv_aload_n hx hb dX7_putBack_54 rfl (lv_at hl 0 rfl) ?_
  refine lv_aload_n hx hb dX7_putBack_55 rfl (lv_at hl 0 rfl) ?_
  refine gf7_232 X w dX7_putBack_56 ?_
  change W _ _ _ _ _ _ _ _ _ _ _ _ _ _ _ (F0 m 59 ls _)
  refine pf7_203 X w dX7_putBack_59 (fun zs59 H locs ezs59 w => ?_)
  exact t_v X w hr hlk dX7_putBack_62 (by replace ezs59 := ezs59.symm; subst ezs59; replace ezs51 := ezs51.symm; subst ezs51; replace ezs43 := ezs43.symm; subst ezs43; replace ezl2 := ezl2.symm; subst ezl2; simp only [g_X7_putBack])
