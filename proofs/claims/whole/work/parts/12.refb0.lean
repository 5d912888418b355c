theorem jstep {v w0 : Gr} {k : Nat} (hv : v = w0) (hk : k < 2 ^ 31) (h : v 31 (nI k).toNatClampNeg = 9 ∨ ¬ f_X7_isCell v (v 31 (nI k).toNatClampNeg) = 0) : w0 31 k = 9 ∨ ¬ f_X7_isCell w0 (w0 31 k) = 0 := by
  subst hv
  rw [nI_clamp hk] at h
  exact h
theorem feed_t {x y : Int32} (hy : rg y 0 96) (h1 : 1 ≤ x) (h8 : ¬ 8 < x) (hs : y + x ≤ 96) : ∃ t : Nat, y = nI (t + 0) ∧ t + x.toNatClampNeg ≤ 96 := by
  obtain ⟨t, _, ht, rfl⟩ := hy
  have h0 : ¬ x < 0 := fun q => by
    have a := Int32.lt_iff_toInt_lt.mp q
    have b := Int32.le_iff_toInt_le.mp h1
    have z0 : (0 : Int32).toInt = 0 := by decide
    have z1 : (1 : Int32).toInt = 1 := by decide
    omega
  obtain ⟨j, hj, rfl⟩ := nI_of h0
  have hj8 : j ≤ 8 := by
    have := mt (nI_ltI (a := 8) (b := j) (by decide) hj).mpr h8
    omega
  rw [nI_add] at hs
  have := (nI_leI (a := t + j) (b := 96) (by omega) (by decide)).mp hs
  exact ⟨t, rfl, by rw [nI_clamp hj]; exact this⟩
noncomputable def b_X7_bestDrop_31 (y1 : Int32) (y2 : Int32) (k : Nat) (v : Int32 × Int64 × Gr) : Int32 × Int64 × Gr :=
  if (nI k) = 8 then
    let zs57 : Gr := up v.2.2 0 25 (nI k)
    let zs62 : Gr := g_X7_costOf zs57 y1
    let zv65 : Int64 := f_X7_costOf zs57 y1
    if v.1 < 0 then
      let zv81 : Int32 := nI k
      (zv81, zv65, zs62)
    else
      if 0 ≤ (lg_cmp zv65 v.2.1) then
        (v.1, v.2.1, zs62)
      else
        let zv81_2 : Int32 := nI k
        (zv81_2, zv65, zs62)
  else
    if (f_X7_isCell v.2.2 (nI k)) = 0 then
      (v.1, v.2.1, v.2.2)
    else
      let zs57_2 : Gr := up v.2.2 0 25 (nI k)
      let zs62_2 : Gr := g_X7_costOf zs57_2 y1
      let zv65_2 : Int64 := f_X7_costOf zs57_2 y1
      if v.1 < 0 then
        let zv81_3 : Int32 := nI k
        (zv81_3, zv65_2, zs62_2)
      else
        if 0 ≤ (lg_cmp zv65_2 v.2.1) then
          (v.1, v.2.1, zs62_2)
        else
          let zv81_4 : Int32 := nI k
          (zv81_4, zv65_2, zs62_2)
noncomputable def l_X7_bestDrop_31 (y1 : Int32) (y2 : Int32) (v0 : Int32 × Int64 × Gr) : Int32 × Int64 × Gr := itn (b_X7_bestDrop_31 y1 y2) (nn 9) v0
noncomputable def f_X7_bestDrop (ρ : Gr) (x1 : Int32) : Int32 :=
  if 0 ≤ (f_X7_wrongTides ρ x1) then
    let zv22 : Int32 := ρ 0 25
    let zl31 : Int32 × Int64 × Gr := (l_X7_bestDrop_31 x1 zv22 ((-1), 0, ρ))
    let zs94 : Gr := up zl31.2.2 0 25 zv22
    zl31.1
  else
    let zs14 : Gr := g_X7_refuse ρ (f_X7_wrongTides ρ x1)
    f_X7_refuse ρ (f_X7_wrongTides ρ x1)
noncomputable def g_X7_bestDrop (ρ : Gr) (x1 : Int32) : Gr :=
  if 0 ≤ (f_X7_wrongTides ρ x1) then
    let zv22 : Int32 := ρ 0 25
    let zl31 : Int32 × Int64 × Gr := (l_X7_bestDrop_31 x1 zv22 ((-1), 0, ρ))
    let zs94 : Gr := up zl31.2.2 0 25 zv22
    zs94
  else
    let zs14 : Gr := g_X7_refuse ρ (f_X7_wrongTides ρ x1)
    zs14
set_option maxRecDepth 100000 in
set_option maxHeartbeats 4000000 in
theorem lp_X7_bestDrop_31 {l : Launch} {G : GG} {p : Program} {e : Env} {s : State} {m : MethodId} {args : Array Value} {below : List Frame} {meth : Method} {c : Code} {Q : State → Prop} {σ : St} (X : Cx p m c cX7_bestDrop 9 s args RX7 G) (y1 : Int32) (y2 : Int32) (v0 : Int32 × Int64 × Gr) (B : Nat) (hB : B < 2 ^ 30) (hN : y1.toNatClampNeg ≤ 200)
    (kk : ∀ (H : Heap) (locs : List Loc) (ls : Array Slot), Wh G s σ 4 ((l_X7_bestDrop_31 y1 y2 v0).2.2) H locs → lv_has ls 9 [(0, .ref (aa G 4 0)), (1, .int y1), (2, .int y2), (3, .int ((l_X7_bestDrop_31 y1 y2 v0).1)), (4, .long ((l_X7_bestDrop_31 y1 y2 v0).2.1)), (6, .int (nI (9)))] → W p l e (rmv 7 153) s m args below meth c H locs 0 0 Q (F0 m 92 ls [])) :
    ∀ (n k : Nat) (v : Int32 × Int64 × Gr), k ≤ 9 → 9 - k < n → v = itn (b_X7_bestDrop_31 y1 y2) k v0 → (WFm B v.2.2) → ∀ (H : Heap) (locs : List Loc) (ls : Array Slot), Wh G s σ 4 v.2.2 H locs → lv_has ls 9 [(0, .ref (aa G 4 0)), (1, .int y1), (2, .int y2), (3, .int v.1), (4, .long v.2.1), (6, .int (nI k))] → W p l e (rmv 7 153) s m args below meth c H locs 0 0 Q (F0 m 31 ls []) := by
  have hx := X.1.1
  have hb := X.1.2.1
  intro n
  induction n with
  | zero => intro k v _ h; omega
  | succ n ih =>
    intro k v hkN hn ev hm H locs ls w hl
    refine lv_iload hx hb dX7_bestDrop_31 (lv_at hl 5 rfl) ?_
    refine lv_bipush (v := 8) hx hb dX7_bestDrop_33 (by decide) ?_
    refine lv_icmp_gt (tgt := 92) hx hb dX7_bestDrop_35 (by decide) (fun zc35 => ?_) (fun zc35 => ?_)
    · -- 92
      have hkE : k = 9 := lp_eqG hkN (by decide) (by decide) (by decide) zc35
      have ev2 : l_X7_bestDrop_31 y1 y2 v0 = v := by unfold l_X7_bestDrop_31; rw [nn_eq, ← hkE]; exact ev.symm
      rw [ev2] at kk
      rw [hkE] at hl
      exact kk _ _ _ w (lv_sub hl [0, 1, 2, 3, 4, 5] rfl)
    · -- 38
      have hk : k < 9 := lp_ltG hkN (by decide) (by decide) (by decide) zc35
      refine lv_iload hx hb dX7_bestDrop_38 (lv_at hl 5 rfl) ?_
      refine lv_bipush (v := 8) hx hb dX7_bestDrop_40 (by decide) ?_
      refine lv_icmp_eq (tgt := 54) hx hb dX7_bestDrop_42 (by decide) (fun zc42 => ?_) (fun zc42 => ?_)
      · -- 54
        refine lv_aload_n hx hb dX7_bestDrop_54 rfl (lv_at hl 0 rfl) ?_
        refine lv_iload hx hb dX7_bestDrop_55 (lv_at hl 5 rfl) ?_
        refine pf7_66 X w dX7_bestDrop_57 (fun zs57 H locs ezs57 w => ?_)
        have hm : WFm B zs57 := by rw [ezs57]; exact hm.drop ⟨k, by omega, by omega, rfl⟩
        refine lv_aload_n hx hb dX7_bestDrop_60 rfl (lv_at hl 0 rfl) ?_
        refine lv_iload_n hx hb dX7_bestDrop_61 rfl (lv_at hl 1 rfl) ?_
        refine k_l (rr_v (rest := []) X w mX7_costOf kw1008 (c_X7_costOf y1 B hB hm hN) m4_0 rfl rfl ⟨Nat.le_of_ble_eq_true rfl, Nat.le_of_ble_eq_true rfl⟩ rfl hl.1 rfl (Nat.le_of_ble_eq_true rfl) dX7_bestDrop_62 ⟨Nat.zero_le _, Nat.zero_le _⟩) w (fun H locs w => ?_)
        obtain ⟨zs62, ezs62⟩ : ∃ y : Gr, y = g_X7_costOf zs57 y1 := ⟨_, rfl⟩; rw [← ezs62] at w
        have hm : WFm B zs62 := by rw [ezs62]; exact (costOf_Sv _ _).wf hm
        refine lv_topl (fun zv65 ezv65 => ?_)
        refine lv_lstore (lv' := [(7, .long zv65), (0, .ref (aa G 4 0)), (1, .int y1), (2, .int y2), (3, .int v.1), (4, .long v.2.1), (6, .int (nI k))]) hx hb dX7_bestDrop_65 hl (by decide) rfl (fun ls hl => ?_)
        refine lv_iload_n hx hb dX7_bestDrop_67 rfl (lv_at hl 4 rfl) ?_
        refine lv_if_lt (tgt := 79) hx hb dX7_bestDrop_68 (by decide) (fun zc68 => ?_) (fun zc68 => ?_)
        · -- 79
          refine lv_iload hx hb dX7_bestDrop_79 (lv_at hl 6 rfl) ?_
          refine lv_topi (fun zv81 ezv81 => ?_)
          refine lv_istore_n (lv' := [(3, .int zv81), (7, .long zv65), (0, .ref (aa G 4 0)), (1, .int y1), (2, .int y2), (4, .long v.2.1), (6, .int (nI k))]) hx hb dX7_bestDrop_81 rfl hl (by decide) rfl (fun ls hl => ?_)
          refine lv_lload hx hb dX7_bestDrop_82 (lv_at hl 1 rfl) ?_
          refine lv_lstore (lv' := [(4, .long zv65), (3, .int zv81), (7, .long zv65), (0, .ref (aa G 4 0)), (1, .int y1), (2, .int y2), (6, .int (nI k))]) hx hb dX7_bestDrop_84 hl (by decide) rfl (fun ls hl => ?_)
          refine lv_iinc (v := nI (k + 1)) (lv' := [(6, .int (nI (k + 1))), (4, .long zv65), (3, .int zv81), (7, .long zv65), (0, .ref (aa G 4 0)), (1, .int y1), (2, .int y2)]) hx hb dX7_bestDrop_86 hl (k := 6) rfl (nI_1 _) (by decide) rfl (fun ls hl => ?_)
          refine lv_goto (tgt := 31) hx hb dX7_bestDrop_89 (by decide) ?_
          exact ih (k + 1) (zv81, zv65, zs62) (by omega) (by omega) (by replace ezv81 := ezv81.symm; subst ezv81; replace ezv65 := ezv65.symm; subst ezv65; replace ezs62 := ezs62.symm; subst ezs62; replace ezs57 := ezs57.symm; subst ezs57; simp only [itn, ← ev, b_X7_bestDrop_31, if_pos zc42, if_pos zc68]) hm _ _ _ w (lv_sub hl [4, 5, 6, 2, 1, 0] rfl)
        · -- 71
          refine lv_lload hx hb dX7_bestDrop_71 (lv_at hl 0 rfl) ?_
          refine lv_lload hx hb dX7_bestDrop_73 (lv_at hl 5 rfl) ?_
          refine W.lcmp hx hb dX7_bestDrop_75 ?_
          refine lv_if_ge (tgt := 86) hx hb dX7_bestDrop_76 (by decide) (fun zc76 => ?_) (fun zc76 => ?_)
          · -- 86
            refine lv_iinc (v := nI (k + 1)) (lv' := [(6, .int (nI (k + 1))), (7, .long zv65), (0, .ref (aa G 4 0)), (1, .int y1), (2, .int y2), (3, .int v.1), (4, .long v.2.1)]) hx hb dX7_bestDrop_86 hl (k := 6) rfl (nI_1 _) (by decide) rfl (fun ls hl => ?_)
            refine lv_goto (tgt := 31) hx hb dX7_bestDrop_89 (by decide) ?_
            exact ih (k + 1) (v.1, v.2.1, zs62) (by omega) (by omega) (by replace ezv65 := ezv65.symm; subst ezv65; replace ezs62 := ezs62.symm; subst ezs62; replace ezs57 := ezs57.symm; subst ezs57; simp only [itn, ← ev, b_X7_bestDrop_31, if_pos zc42, if_neg zc68, if_pos zc76]) hm _ _ _ w (lv_sub hl [2, 3, 4, 5, 6, 0] rfl)
          · -- 79
            refine lv_iload hx hb dX7_bestDrop_79 (lv_at hl 6 rfl) ?_
            refine lv_topi (fun zv81_2 ezv81_2 => ?_)
            refine lv_istore_n (lv' := [(3, .int zv81_2), (7, .long zv65), (0, .ref (aa G 4 0)), (1, .int y1), (2, .int y2), (4, .long v.2.1), (6, .int (nI k))]) hx hb dX7_bestDrop_81 rfl hl (by decide) rfl (fun ls hl => ?_)
            refine lv_lload hx hb dX7_bestDrop_82 (lv_at hl 1 rfl) ?_
            refine lv_lstore (lv' := [(4, .long zv65), (3, .int zv81_2), (7, .long zv65), (0, .ref (aa G 4 0)), (1, .int y1), (2, .int y2), (6, .int (nI k))]) hx hb dX7_bestDrop_84 hl (by decide) rfl (fun ls hl => ?_)
            refine lv_iinc (v := nI (k + 1)) (lv' := [(6, .int (nI (k + 1))), (4, .long zv65), (3, .int zv81_2), (7, .long zv65), (0, .ref (aa G 4 0)), (1, .int y1), (2, .int y2)]) hx hb dX7_bestDrop_86 hl (k := 6) rfl (nI_1 _) (by decide) rfl (fun ls hl => ?_)
            refine lv_goto (tgt := 31) hx hb dX7_bestDrop_89 (by decide) ?_
            exact ih (k + 1) (zv81_2, zv65, zs62) (by omega) (by omega) (by replace ezv81_2 := ezv81_2.symm; subst ezv81_2; replace ezv65 := ezv65.symm; subst ezv65; replace ezs62 := ezs62.symm; subst ezs62; replace ezs57 := ezs57.symm; subst ezs57; simp only [itn, ← ev, b_X7_bestDrop_31, if_pos zc42, if_neg zc68, if_neg zc76]) hm _ _ _ w (lv_sub hl [4, 5, 6, 2, 1, 0] rfl)
      · -- 45
        refine lv_aload_n hx hb dX7_bestDrop_45 rfl (lv_at hl 0 rfl) ?_
        refine lv_iload hx hb dX7_bestDrop_46 (lv_at hl 5 rfl) ?_
        refine k_i (rr_v (rest := []) X w mX7_isCell kw884 (c_X7_isCell (nI k)) m4_0 rfl rfl ⟨Nat.le_of_ble_eq_true rfl, Nat.le_of_ble_eq_true rfl⟩ rfl hl.1 rfl (Nat.le_of_ble_eq_true rfl) dX7_bestDrop_48 ⟨Nat.zero_le _, Nat.zero_le _⟩) w (fun H locs w => ?_)
        refine lv_if_eq (tgt := 86) hx hb dX7_bestDrop_51 (by decide) (fun zc51 => ?_) (fun zc51 => ?_)
        · -- 86
          refine lv_iinc (v := nI (k + 1)) (lv' := [(6, .int (nI (k + 1))), (0, .ref (aa G 4 0)), (1, .int y1), (2, .int y2), (3, .int v.1), (4, .long v.2.1)]) hx hb dX7_bestDrop_86 hl (k := 5) rfl (nI_1 _) (by decide) rfl (fun ls hl => ?_)
          refine lv_goto (tgt := 31) hx hb dX7_bestDrop_89 (by decide) ?_
          exact ih (k + 1) (v.1, v.2.1, v.2.2) (by omega) (by omega) (by simp only [itn, ← ev, b_X7_bestDrop_31, if_neg zc42, if_pos zc51]) hm _ _ _ w (lv_sub hl [1, 2, 3, 4, 5, 0] rfl)
        · -- 54
          refine lv_aload_n hx hb dX7_bestDrop_54 rfl (lv_at hl 0 rfl) ?_
          refine lv_iload hx hb dX7_bestDrop_55 (lv_at hl 5 rfl) ?_
          refine pf7_66 X w dX7_bestDrop_57 (fun zs57_2 H locs ezs57_2 w => ?_)
          have hm : WFm B zs57_2 := by rw [ezs57_2]; exact hm.drop ⟨k, by omega, by omega, rfl⟩
          refine lv_aload_n hx hb dX7_bestDrop_60 rfl (lv_at hl 0 rfl) ?_
          refine lv_iload_n hx hb dX7_bestDrop_61 rfl (lv_at hl 1 rfl) ?_
          refine k_l (rr_v (rest := []) X w mX7_costOf kw1008 (c_X7_costOf y1 B hB hm hN) m4_0 rfl rfl ⟨Nat.le_of_ble_eq_true rfl, Nat.le_of_ble_eq_true rfl⟩ rfl hl.1 rfl (Nat.le_of_ble_eq_true rfl) dX7_bestDrop_62 ⟨Nat.zero_le _, Nat.zero_le _⟩) w (fun H locs w => ?_)
          obtain ⟨zs62_2, ezs62_2⟩ : ∃ y : Gr, y = g_X7_costOf zs57_2 y1 := ⟨_, rfl⟩; rw [← ezs62_2] at w
          have hm : WFm B zs62_2 := by rw [ezs62_2]; exact (costOf_Sv _ _).wf hm
          refine lv_topl (fun zv65_2 ezv65_2 => ?_)
          refine lv_lstore (lv' := [(7, .long zv65_2), (0, .ref (aa G 4 0)), (1, .int y1), (2, .int y2), (3, .int v.1), (4, .long v.2.1), (6, .int (nI k))]) hx hb dX7_bestDrop_65 hl (by decide) rfl (fun ls hl => ?_)
          refine lv_iload_n hx hb dX7_bestDrop_67 rfl (lv_at hl 4 rfl) ?_
          refine lv_if_lt (tgt := 79) hx hb dX7_bestDrop_68 (by decide) (fun zc68 => ?_) (fun zc68 => ?_)
          · -- 79
            refine lv_iload hx hb dX7_bestDrop_79 (lv_at hl 6 rfl) ?_
            refine lv_topi (fun zv81_3 ezv81_3 => ?_)
            refine lv_istore_n (lv' := [(3, .int zv81_3), (7, .long zv65_2), (0, .ref (aa G 4 0)), (1, .int y1), (2, .int y2), (4, .long v.2.1), (6, .int (nI k))]) hx hb dX7_bestDrop_81 rfl hl (by decide) rfl (fun ls hl => ?_)
            refine lv_lload hx hb dX7_bestDrop_82 (lv_at hl 1 rfl) ?_
            refine lv_lstore (lv' := [(4, .long zv65_2), (3, .int zv81_3), (7, .long zv65_2), (0, .ref (aa G 4 0)), (1, .int y1), (2, .int y2), (6, .int (nI k))]) hx hb dX7_bestDrop_84 hl (by decide) rfl (fun ls hl => ?_)
            refine lv_iinc (v := nI (k + 1)) (lv' := [(6, .int (nI (k + 1))), (4, .long zv65_2), (3, .int zv81_3), (7, .long zv65_2), (0, .ref (aa G 4 0)), (1, .int y1), (2, .int y2)]) hx hb dX7_bestDrop_86 hl (k := 6) rfl (nI_1 _) (by decide) rfl (fun ls hl => ?_)
            refine lv_goto (tgt := 31) hx hb dX7_bestDrop_89 (by decide) ?_
            exact ih (k + 1) (zv81_3, zv65_2, zs62_2) (by omega) (by omega) (by replace ezv81_3 := ezv81_3.symm; subst ezv81_3; replace ezv65_2 := ezv65_2.symm; subst ezv65_2; replace ezs62_2 := ezs62_2.symm; subst ezs62_2; replace ezs57_2 := ezs57_2.symm; subst ezs57_2; simp only [itn, ← ev, b_X7_bestDrop_31, if_neg zc42, if_neg zc51, if_pos zc68]) hm _ _ _ w (lv_sub hl [4, 5, 6, 2, 1, 0] rfl)
          · -- 71
            refine lv_lload hx hb dX7_bestDrop_71 (lv_at hl 0 rfl) ?_
            refine lv_lload hx hb dX7_bestDrop_73 (lv_at hl 5 rfl) ?_
            refine W.lcmp hx hb dX7_bestDrop_75 ?_
            refine lv_if_ge (tgt := 86) hx hb dX7_bestDrop_76 (by decide) (fun zc76 => ?_) (fun zc76 => ?_)
            · -- 86
              refine lv_iinc (v := nI (k + 1)) (lv' := [(6, .int (nI (k + 1))), (7, .long zv65_2), (0, .ref (aa G 4 0)), (1, .int y1), (2, .int y2), (3, .int v.1), (4, .long v.2.1)]) hx hb dX7_bestDrop_86 hl (k := 6) rfl (nI_1 _) (by decide) rfl (fun ls hl => ?_)
              refine lv_goto (tgt := 31) hx hb dX7_bestDrop_89 (by decide) ?_
              exact ih (k + 1) (v.1, v.2.1, zs62_2) (by omega) (by omega) (by replace ezv65_2 := ezv65_2.symm; subst ezv65_2; replace ezs62_2 := ezs62_2.symm; subst ezs62_2; replace ezs57_2 := ezs57_2.symm; subst ezs57_2; simp only [itn, ← ev, b_X7_bestDrop_31, if_neg zc42, if_neg zc51, if_neg zc68, if_pos zc76]) hm _ _ _ w (lv_sub hl [2, 3, 4, 5, 6, 0] rfl)
            · -- 79
              refine lv_iload hx hb dX7_bestDrop_79 (lv_at hl 6 rfl) ?_
              refine lv_topi (fun zv81_4 ezv81_4 => ?_)
              refine lv_istore_n (lv' := [(3, .int zv81_4), (7, .long zv65_2), (0, .ref (aa G 4 0)), (1, .int y1), (2, .int y2), (4, .long v.2.1), (6, .int (nI k))]) hx hb dX7_bestDrop_81 rfl hl (by decide) rfl (fun ls hl => ?_)
              refine lv_lload hx hb dX7_bestDrop_82 (lv_at hl 1 rfl) ?_
              refine lv_lstore (lv' := [(4, .long zv65_2), (3, .int zv81_4), (7, .long zv65_2), (0, .ref (aa G 4 0)), (1, .int y1), (2, .int y2), (6, .int (nI k))]) hx hb dX7_bestDrop_84 hl (by decide) rfl (fun ls hl => ?_)
              refine lv_iinc (v := nI (k + 1)) (lv' := [(6, .int (nI (k + 1))), (4, .long zv65_2), (3, .int zv81_4), (7, .long zv65_2), (0, .ref (aa G 4 0)), (1, .int y1), (2, .int y2)]) hx hb dX7_bestDrop_86 hl (k := 6) rfl (nI_1 _) (by decide) rfl (fun ls hl => ?_)
              refine lv_goto (tgt := 31) hx hb dX7_bestDrop_89 (by decide) ?_
              exact ih (k + 1) (zv81_4, zv65_2, zs62_2) (by omega) (by omega) (by replace ezv81_4 := ezv81_4.symm; subst ezv81_4; replace ezv65_2 := ezv65_2.symm; subst ezv65_2; replace ezs62_2 := ezs62_2.symm; subst ezs62_2; replace ezs57_2 := ezs57_2.symm; subst ezs57_2; simp only [itn, ← ev, b_X7_bestDrop_31, if_neg zc42, if_neg zc51, if_neg zc68, if_neg zc76]) hm _ _ _ w (lv_sub hl [4, 5, 6, 2, 1, 0] rfl)
set_option maxRecDepth 100000 in
set_option maxHeartbeats 4000000 in
theorem c_X7_bestDrop {l : Launch} {G : GG} {σ : St} {ρ : Gr}  (x1 : Int32) (B : Nat) (hB : B < 2 ^ 30) (hm : WFm B ρ) : MM l G yX7_bestDrop cX7_bestDrop 9 7 153 (some .int) [.ref (aa G 4 0), .int x1] (setG σ 4 ρ) (Qi G (f_X7_bestDrop ρ x1) (setG σ 4 (g_X7_bestDrop ρ x1))) := by
  refine MM.of (by decide) (Nat.le_of_ble_eq_true rfl) ?_
  intro p e s m below meth c ls X hr hlk w hl
  have hx := X.1.1
  have hb := X.1.2.1
  have hl : lv_has ls 9 [(0, .ref (aa G 4 0)), (1, .int x1)] := hl
  refine lv_aload_n hx hb dX7_bestDrop_0 rfl (lv_at hl 0 rfl) ?_
  refine lv_iload_n hx hb dX7_bestDrop_1 rfl (lv_at hl 1 rfl) ?_
  refine k_i (rr_v (rest := []) X w mX7_wrongTides kw986 (c_X7_wrongTides x1) m4_0 rfl rfl ⟨Nat.le_of_ble_eq_true rfl, Nat.le_of_ble_eq_true rfl⟩ rfl hl.1 rfl (Nat.le_of_ble_eq_true rfl) dX7_bestDrop_2 ⟨Nat.zero_le _, Nat.zero_le _⟩) w (fun H locs w => ?_)
  refine lv_if_ge (tgt := 18) hx hb dX7_bestDrop_5 (by decide) (fun zc5 => ?_) (fun zc5 => ?_)
  · -- 18
    refine lv_aload_n hx hb dX7_bestDrop_18 rfl (lv_at hl 0 rfl) ?_
    refine gf7_66 X w dX7_bestDrop_19 ?_
    refine lv_topi (fun zv22 ezv22 => ?_)
    refine lv_istore_n (lv' := [(2, .int zv22), (0, .ref (aa G 4 0)), (1, .int x1)]) hx hb dX7_bestDrop_22 rfl hl (by decide) rfl (fun ls hl => ?_)
    refine lv_iconst (v := (-1)) hx hb dX7_bestDrop_23 (by decide) ?_
    refine lv_istore_n (lv' := [(3, .int (-1)), (2, .int zv22), (0, .ref (aa G 4 0)), (1, .int x1)]) hx hb dX7_bestDrop_24 rfl hl (by decide) rfl (fun ls hl => ?_)
    refine lv_lconst (v := 0) hx hb dX7_bestDrop_25 (by decide) ?_
    refine lv_lstore (lv' := [(4, .long 0), (3, .int (-1)), (2, .int zv22), (0, .ref (aa G 4 0)), (1, .int x1)]) hx hb dX7_bestDrop_26 hl (by decide) rfl (fun ls hl => ?_)
    refine lv_iconst (v := 0) hx hb dX7_bestDrop_28 (by decide) ?_
    refine lv_istore (lv' := [(6, .int 0), (4, .long 0), (3, .int (-1)), (2, .int zv22), (0, .ref (aa G 4 0)), (1, .int x1)]) hx hb dX7_bestDrop_29 hl (by decide) rfl (fun ls hl => ?_)
    refine lp_X7_bestDrop_31 X x1 zv22 ((-1), 0, ρ) B hB (wt_200 zc5) (fun H locs ls w hl => ?_) (9 + 1) 0 _ (Nat.zero_le _) (Nat.lt_succ_of_le (Nat.sub_le _ _)) rfl hm _ _ _ w (lv_sub hl [4, 5, 3, 2, 1, 0] rfl)
    obtain ⟨zl31, ezl31⟩ : ∃ y : Int32 × Int64 × Gr, y = (l_X7_bestDrop_31 x1 zv22 ((-1), 0, ρ)) := ⟨_, rfl⟩
    rw [← ezl31] at w hl
    refine lv_aload_n hx hb dX7_bestDrop_92 rfl (lv_at hl 0 rfl) ?_
    refine lv_iload_n hx hb dX7_bestDrop_93 rfl (lv_at hl 2 rfl) ?_
    refine pf7_66 X w dX7_bestDrop_94 (fun zs94 H locs ezs94 w => ?_)
    refine lv_iload_n hx hb dX7_bestDrop_97 rfl (lv_at hl 3 rfl) ?_
    exact t_i X w hr hlk dX7_bestDrop_98 (by replace ezs94 := ezs94.symm; subst ezs94; replace ezl31 := ezl31.symm; subst ezl31; replace ezv22 := ezv22.symm; subst ezv22; simp only [f_X7_bestDrop, if_pos zc5]) (by replace ezs94 := ezs94.symm; subst ezs94; replace ezl31 := ezl31.symm; subst ezl31; replace ezv22 := ezv22.symm; subst ezv22; simp only [g_X7_bestDrop, if_pos zc5])
  · -- 8
    refine lv_aload_n hx hb dX7_bestDrop_8 rfl (lv_at hl 0 rfl) ?_
    refine lv_aload_n hx hb dX7_bestDrop_9 rfl (lv_at hl 0 rfl) ?_
    refine lv_iload_n hx hb dX7_bestDrop_10 rfl (lv_at hl 1 rfl) ?_
    refine k_i (rr_v (rest := [.ref (aa G 4 0)]) X w mX7_wrongTides kw986 (c_X7_wrongTides x1) m4_0 rfl rfl ⟨Nat.le_of_ble_eq_true rfl, Nat.le_of_ble_eq_true rfl⟩ rfl hl.1 rfl (Nat.le_of_ble_eq_true rfl) dX7_bestDrop_11 ⟨Nat.zero_le _, Nat.zero_le _⟩) w (fun H locs w => ?_)
    refine k_i (rr_v (rest := []) X w mX7_refuse kw872 (c_X7_refuse (f_X7_wrongTides ρ x1) (wt_in zc5)) m4_0 rfl rfl ⟨Nat.le_of_ble_eq_true rfl, Nat.le_of_ble_eq_true rfl⟩ rfl hl.1 rfl (Nat.le_of_ble_eq_true rfl) dX7_bestDrop_14 ⟨Nat.zero_le _, Nat.zero_le _⟩) w (fun H locs w => ?_)
    obtain ⟨zs14, ezs14⟩ : ∃ y : Gr, y = g_X7_refuse ρ (f_X7_wrongTides ρ x1) := ⟨_, rfl⟩; rw [← ezs14] at w
    exact t_i X w hr hlk dX7_bestDrop_17 (by replace ezs14 := ezs14.symm; subst ezs14; simp only [f_X7_bestDrop, if_neg zc5]) (by replace ezs14 := ezs14.symm; subst ezs14; simp only [g_X7_bestDrop, if_neg zc5])
