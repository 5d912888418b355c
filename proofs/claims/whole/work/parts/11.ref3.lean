noncomputable def b_X7_costOf_9 (y1 : Int32) (k : Nat) (v : Int64 × Gr) : Int64 × Gr :=
  let zs16 : Gr := g_X7_passTide v.2
  let zv26 : Int64 := v.1 + ((f_X7_costNow zs16).toInt64)
  (zv26, zs16)
noncomputable def l_X7_costOf_9 (y1 : Int32) (v0 : Int64 × Gr) : Int64 × Gr := itn (b_X7_costOf_9 y1) y1.toNatClampNeg v0
noncomputable def f_X7_costOf (ρ : Gr) (x1 : Int32) : Int64 :=
  let zs1 : Gr := g_X7_save ρ
  let zl9 : Int64 × Gr := (l_X7_costOf_9 x1 (0, zs1))
  let zs34 : Gr := g_X7_putBack zl9.2
  zl9.1
noncomputable def g_X7_costOf (ρ : Gr) (x1 : Int32) : Gr :=
  let zs1 : Gr := g_X7_save ρ
  let zl9 : Int64 × Gr := (l_X7_costOf_9 x1 (0, zs1))
  let zs34 : Gr := g_X7_putBack zl9.2
  zs34
set_option maxRecDepth 100000 in
set_option maxHeartbeats 4000000 in
theorem lp_X7_costOf_9 {l : Launch} {G : GG} {p : Program} {e : Env} {s : State} {m : MethodId} {args : Array Value} {below : List Frame} {meth : Method} {c : Code} {Q : State → Prop} {σ : St} (X : Cx p m c cX7_costOf 5 s args RX7 G) (y1 : Int32) (v0 : Int64 × Gr) (B : Nat) (hB : B < 2 ^ 30) (hN : y1.toNatClampNeg ≤ 200)
    (kk : ∀ (H : Heap) (locs : List Loc) (ls : Array Slot), Wh G s σ 4 ((l_X7_costOf_9 y1 v0).2) H locs → lv_has ls 5 [(0, .ref (aa G 4 0)), (1, .int y1), (2, .long ((l_X7_costOf_9 y1 v0).1)), (4, .int (nI (y1.toNatClampNeg)))] → W p l e (rmv 6 129) s m args below meth c H locs 0 0 Q (F0 m 33 ls [])) :
    ∀ (n k : Nat) (v : Int64 × Gr), k ≤ y1.toNatClampNeg → y1.toNatClampNeg - k < n → v = itn (b_X7_costOf_9 y1) k v0 → (WFm (B + k) v.2) → ∀ (H : Heap) (locs : List Loc) (ls : Array Slot), Wh G s σ 4 v.2 H locs → lv_has ls 5 [(0, .ref (aa G 4 0)), (1, .int y1), (2, .long v.1), (4, .int (nI k))] → W p l e (rmv 6 129) s m args below meth c H locs 0 0 Q (F0 m 9 ls []) := by
  have hx := X.1.1
  have hb := X.1.2.1
  intro n
  induction n with
  | zero => intro k v _ h; omega
  | succ n ih =>
    intro k v hkN hn ev hm H locs ls w hl
    refine lv_iload hx hb dX7_costOf_9 (lv_at hl 3 rfl) ?_
    refine lv_iload_n hx hb dX7_costOf_11 rfl (lv_at hl 1 rfl) ?_
    refine lv_icmp_ge (tgt := 33) hx hb dX7_costOf_12 (by decide) (fun zc12 => ?_) (fun zc12 => ?_)
    · -- 33
      have hkE : k = y1.toNatClampNeg := lp_eq hkN zc12
      have ev2 : l_X7_costOf_9 y1 v0 = v := by unfold l_X7_costOf_9; rw [← hkE]; exact ev.symm
      rw [ev2] at kk
      rw [hkE] at hl
      exact kk _ _ _ w (lv_sub hl [0, 1, 2, 3] rfl)
    · -- 15
      have hk : k < y1.toNatClampNeg := lp_lt hkN zc12
      refine lv_aload_n hx hb dX7_costOf_15 rfl (lv_at hl 0 rfl) ?_
      refine k_v (rr_v (rest := []) X w mX7_passTide kw990 (c_X7_passTide (B + k) (by omega) hm) m4_0 rfl rfl ⟨Nat.le_of_ble_eq_true rfl, Nat.le_of_ble_eq_true rfl⟩ rfl hl.1 rfl (Nat.le_of_ble_eq_true rfl) dX7_costOf_16 ⟨Nat.zero_le _, Nat.zero_le _⟩) w (fun H locs w => ?_)
      obtain ⟨zs16, ezs16⟩ : ∃ y : Gr, y = g_X7_passTide v.2 := ⟨_, rfl⟩; rw [← ezs16] at w
      have hm : WFm (B + k + 1) zs16 := by rw [ezs16]; exact passTide_WF hm
      refine lv_lload_n hx hb dX7_costOf_19 rfl (lv_at hl 2 rfl) ?_
      refine lv_aload_n hx hb dX7_costOf_20 rfl (lv_at hl 0 rfl) ?_
      refine k_i (rr_v (rest := [.long v.1]) X w mX7_costNow kw1016 (c_X7_costNow hm.n) m4_0 rfl rfl ⟨Nat.le_of_ble_eq_true rfl, Nat.le_of_ble_eq_true rfl⟩ rfl hl.1 rfl (Nat.le_of_ble_eq_true rfl) dX7_costOf_21 ⟨Nat.zero_le _, Nat.zero_le _⟩) w (fun H locs w => ?_)
      refine lv_i2l hx hb dX7_costOf_24 rfl ?_
      refine lv_ladd hx hb dX7_costOf_25 ?_
      refine lv_topl (fun zv26 ezv26 => ?_)
      refine lv_lstore_n (lv' := [(2, .long zv26), (0, .ref (aa G 4 0)), (1, .int y1), (4, .int (nI k))]) hx hb dX7_costOf_26 rfl hl (by decide) rfl (fun ls hl => ?_)
      refine lv_iinc (v := nI (k + 1)) (lv' := [(4, .int (nI (k + 1))), (2, .long zv26), (0, .ref (aa G 4 0)), (1, .int y1)]) hx hb dX7_costOf_27 hl (k := 3) rfl (nI_1 _) (by decide) rfl (fun ls hl => ?_)
      refine lv_goto (tgt := 9) hx hb dX7_costOf_30 (by decide) ?_
      exact ih (k + 1) (zv26, zs16) (by omega) (by omega) (by replace ezv26 := ezv26.symm; subst ezv26; replace ezs16 := ezs16.symm; subst ezs16; simp only [itn, ← ev, b_X7_costOf_9]) hm _ _ _ w (lv_sub hl [2, 3, 1, 0] rfl)
set_option maxRecDepth 100000 in
set_option maxHeartbeats 4000000 in
theorem c_X7_costOf {l : Launch} {G : GG} {σ : St} {ρ : Gr}  (x1 : Int32) (B : Nat) (hB : B < 2 ^ 30) (hm : WFm B ρ) (hN : x1.toNatClampNeg ≤ 200) : MM l G yX7_costOf cX7_costOf 5 6 129 (some .long) [.ref (aa G 4 0), .int x1] (setG σ 4 ρ) (Ql G (f_X7_costOf ρ x1) (setG σ 4 (g_X7_costOf ρ x1))) := by
  refine MM.of (by decide) (Nat.le_of_ble_eq_true rfl) ?_
  intro p e s m below meth c ls X hr hlk w hl
  have hx := X.1.1
  have hb := X.1.2.1
  have hl : lv_has ls 5 [(0, .ref (aa G 4 0)), (1, .int x1)] := hl
  refine lv_aload_n hx hb dX7_costOf_0 rfl (lv_at hl 0 rfl) ?_
  refine k_v (rr_v (rest := []) X w mX7_save kw1012 (c_X7_save ) m4_0 rfl rfl ⟨Nat.le_of_ble_eq_true rfl, Nat.le_of_ble_eq_true rfl⟩ rfl hl.1 rfl (Nat.le_of_ble_eq_true rfl) dX7_costOf_1 ⟨Nat.zero_le _, Nat.zero_le _⟩) w (fun H locs w => ?_)
  obtain ⟨zs1, ezs1⟩ : ∃ y : Gr, y = g_X7_save ρ := ⟨_, rfl⟩; rw [← ezs1] at w
  have hm : WFm B zs1 := by rw [ezs1]; exact save_WF hm
  refine lv_lconst (v := 0) hx hb dX7_costOf_4 (by decide) ?_
  refine lv_lstore_n (lv' := [(2, .long 0), (0, .ref (aa G 4 0)), (1, .int x1)]) hx hb dX7_costOf_5 rfl hl (by decide) rfl (fun ls hl => ?_)
  refine lv_iconst (v := 0) hx hb dX7_costOf_6 (by decide) ?_
  refine lv_istore (lv' := [(4, .int 0), (2, .long 0), (0, .ref (aa G 4 0)), (1, .int x1)]) hx hb dX7_costOf_7 hl (by decide) rfl (fun ls hl => ?_)
  refine lp_X7_costOf_9 X x1 (0, zs1) B hB hN (fun H locs ls w hl => ?_) (x1.toNatClampNeg + 1) 0 _ (Nat.zero_le _) (Nat.lt_succ_of_le (Nat.sub_le _ _)) rfl hm _ _ _ w (lv_sub hl [2, 3, 1, 0] rfl)
  obtain ⟨zl9, ezl9⟩ : ∃ y : Int64 × Gr, y = (l_X7_costOf_9 x1 (0, zs1)) := ⟨_, rfl⟩
  rw [← ezl9] at w hl
  refine lv_aload_n hx hb dX7_costOf_33 rfl (lv_at hl 0 rfl) ?_
  refine k_v (rr_v (rest := []) X w mX7_putBack kw1024 (c_X7_putBack ) m4_0 rfl rfl ⟨Nat.le_of_ble_eq_true rfl, Nat.le_of_ble_eq_true rfl⟩ rfl hl.1 rfl (Nat.le_of_ble_eq_true rfl) dX7_costOf_34 ⟨Nat.zero_le _, Nat.zero_le _⟩) w (fun H locs w => ?_)
  obtain ⟨zs34, ezs34⟩ : ∃ y : Gr, y = g_X7_putBack zl9.2 := ⟨_, rfl⟩; rw [← ezs34] at w
  refine lv_lload_n hx hb dX7_costOf_37 rfl (lv_at hl 2 rfl) ?_
  exact t_l X w hr hlk dX7_costOf_38 (by replace ezs34 := ezs34.symm; subst ezs34; replace ezl9 := ezl9.symm; subst ezl9; replace ezs1 := ezs1.symm; subst ezs1; simp only [f_X7_costOf]) (by replace ezs34 := ezs34.symm; subst ezs34; replace ezl9 := ezl9.symm; subst ezl9; replace ezs1 := ezs1.symm; subst ezs1; simp only [g_X7_costOf])

theorem costOf_Sv (ρ : Gr) (x : Int32) : Sv ρ (g_X7_costOf ρ x) := by
  refine Sv.of ?_
  exact itn_P (fun v : Int64 × Gr => Tt (g_X7_save ρ) v.2) (fun k v h => h.trans (passTide_Tt _)) _ _ Tt.rf

noncomputable def b_X7_holdsFor_9 (y1 : Int32) (k : Nat) (v : Int32 × Gr) : Bool × Nat × Int32 × Int32 × Gr :=
  if y1 ≤ (nI k) then
    (false, 43, 0, (v.1, v.2))
  else
    if 0 ≤ v.1 then
      (false, 43, 0, (v.1, v.2))
    else
      let zs19 : Gr := g_X7_passTide v.2
      if (f_X7_feetLacking zs19 0) ≤ 0 then
        (true, 0, 0, ((-9), zs19))
      else
        let zv36 : Int32 := nI k
        (true, 0, 0, (zv36, zs19))
noncomputable def l_X7_holdsFor_9 (y1 : Int32) (v0 : Int32 × Gr) : Nat × Int32 × Int32 × Gr   := wl (b_X7_holdsFor_9 y1) (nn (y1.toNatClampNeg + 1)) 0 v0
noncomputable def f_X7_holdsFor (ρ : Gr) (x1 : Int32) : Int32 :=
  let zs1 : Gr := g_X7_save ρ
  let zl9 : Nat × Int32 × Int32 × Gr := (l_X7_holdsFor_9 x1 ((-9), zs1))
  let zs44 : Gr := g_X7_putBack zl9.2.2.2
  zl9.2.2.1
noncomputable def g_X7_holdsFor (ρ : Gr) (x1 : Int32) : Gr :=
  let zs1 : Gr := g_X7_save ρ
  let zl9 : Nat × Int32 × Int32 × Gr := (l_X7_holdsFor_9 x1 ((-9), zs1))
  let zs44 : Gr := g_X7_putBack zl9.2.2.2
  zs44
set_option maxRecDepth 100000 in
set_option maxHeartbeats 4000000 in
theorem lp_X7_holdsFor_9 {l : Launch} {G : GG} {p : Program} {e : Env} {s : State} {m : MethodId} {args : Array Value} {below : List Frame} {meth : Method} {c : Code} {Q : State → Prop} {σ : St} (X : Cx p m c cX7_holdsFor 4 s args RX7 G) (y1 : Int32) (B : Nat) (hB : B < 2 ^ 30) (hN : y1.toNatClampNeg ≤ 200) (z : Nat × Int32 × Int32 × Gr)
    (kk43 : z.1 = 43 → ∀ (H : Heap) (locs : List Loc) (ls : Array Slot), Wh G s σ 4 z.2.2.2 H locs → lv_has ls 4 [(0, .ref (aa G 4 0)), (1, .int y1), (2, .int z.2.2.1)] → W p l e (rmv 6 129) s m args below meth c H locs 0 0 Q (F0 m 43 ls [])) :
    ∀ (n k : Nat) (v : Int32 × Gr), k ≤ y1.toNatClampNeg → y1.toNatClampNeg - k < n → wl (b_X7_holdsFor_9 y1) n k v = z → (WFm (B + k) v.2) → ∀ (H : Heap) (locs : List Loc) (ls : Array Slot), Wh G s σ 4 v.2 H locs → lv_has ls 4 [(0, .ref (aa G 4 0)), (1, .int y1), (2, .int v.1), (3, .int (nI k))] → W p l e (rmv 6 129) s m args below meth c H locs 0 0 Q (F0 m 9 ls []) := by
  have hx := X.1.1
  have hb := X.1.2.1
  intro n
  induction n with
  | zero => intro k v _ h; omega
  | succ n ih =>
    intro k v hkN hn hz hm H locs ls w hl
    refine lv_iload_n hx hb dX7_holdsFor_9 rfl (lv_at hl 3 rfl) ?_
    refine lv_iload_n hx hb dX7_holdsFor_10 rfl (lv_at hl 1 rfl) ?_
    refine lv_icmp_ge (tgt := 43) hx hb dX7_holdsFor_11 (by decide) (fun zc11 => ?_) (fun zc11 => ?_)
    · -- 43
      have hz1 : z = ((43, 0, (v.1, v.2)) : Nat × Int32 × Int32 × Gr) := by rw [← hz]; exact wl_out (by simp only [b_X7_holdsFor_9, if_pos zc11])
      subst hz1
      exact kk43 rfl _ _ _ w (lv_sub hl [0, 1, 2] rfl)
    · -- 14
      have hk : k < y1.toNatClampNeg := (lp_lt hkN zc11)
      refine lv_iload_n hx hb dX7_holdsFor_14 rfl (lv_at hl 2 rfl) ?_
      refine lv_if_ge (tgt := 43) hx hb dX7_holdsFor_15 (by decide) (fun zc15 => ?_) (fun zc15 => ?_)
      · -- 43
        have hz1 : z = ((43, 0, (v.1, v.2)) : Nat × Int32 × Int32 × Gr) := by rw [← hz]; exact wl_out (by simp only [b_X7_holdsFor_9, if_neg zc11, if_pos zc15])
        subst hz1
        exact kk43 rfl _ _ _ w (lv_sub hl [0, 1, 2] rfl)
      · -- 18
        refine lv_aload_n hx hb dX7_holdsFor_18 rfl (lv_at hl 0 rfl) ?_
        refine k_v (rr_v (rest := []) X w mX7_passTide kw990 (c_X7_passTide (B + k) (by omega) hm) m4_0 rfl rfl ⟨Nat.le_of_ble_eq_true rfl, Nat.le_of_ble_eq_true rfl⟩ rfl hl.1 rfl (Nat.le_of_ble_eq_true rfl) dX7_holdsFor_19 ⟨Nat.zero_le _, Nat.zero_le _⟩) w (fun H locs w => ?_)
        obtain ⟨zs19, ezs19⟩ : ∃ y : Gr, y = g_X7_passTide v.2 := ⟨_, rfl⟩; rw [← ezs19] at w
        have hm : WFm (B + k + 1) zs19 := by rw [ezs19]; exact passTide_WF hm
        refine lv_aload_n hx hb dX7_holdsFor_22 rfl (lv_at hl 0 rfl) ?_
        refine lv_iconst (v := 0) hx hb dX7_holdsFor_23 (by decide) ?_
        refine k_i (rr_v (rest := []) X w mX7_feetLacking kw1020 (c_X7_feetLacking 0 hm.n) m4_0 rfl rfl ⟨Nat.le_of_ble_eq_true rfl, Nat.le_of_ble_eq_true rfl⟩ rfl hl.1 rfl (Nat.le_of_ble_eq_true rfl) dX7_holdsFor_24 ⟨Nat.zero_le _, Nat.zero_le _⟩) w (fun H locs w => ?_)
        refine lv_if_le (tgt := 34) hx hb dX7_holdsFor_27 (by decide) (fun zc27 => ?_) (fun zc27 => ?_)
        · -- 34
          refine lv_bipush (v := (-9)) hx hb dX7_holdsFor_34 (by decide) ?_
          refine lv_istore_n (lv' := [(2, .int (-9)), (0, .ref (aa G 4 0)), (1, .int y1), (3, .int (nI k))]) hx hb dX7_holdsFor_36 rfl hl (by decide) rfl (fun ls hl => ?_)
          refine lv_iinc (v := nI (k + 1)) (lv' := [(3, .int (nI (k + 1))), (2, .int (-9)), (0, .ref (aa G 4 0)), (1, .int y1)]) hx hb dX7_holdsFor_37 hl (k := 3) rfl (nI_1 _) (by decide) rfl (fun ls hl => ?_)
          refine lv_goto (tgt := 9) hx hb dX7_holdsFor_40 (by decide) ?_
          have hk : k < y1.toNatClampNeg := (lp_lt hkN zc11)
          exact ih (k + 1) ((-9), zs19) (by omega) (by omega) (by rw [← hz]; replace ezs19 := ezs19.symm; subst ezs19; exact (wl_go (t := 0) (r := 0) (by simp only [b_X7_holdsFor_9, if_neg zc11, if_neg zc15, if_pos zc27])).symm) hm _ _ _ w (lv_sub hl [2, 3, 1, 0] rfl)
        · -- 30
          refine lv_iload_n hx hb dX7_holdsFor_30 rfl (lv_at hl 3 rfl) ?_
          refine lv_goto (tgt := 36) hx hb dX7_holdsFor_31 (by decide) ?_
          refine lv_topi (fun zv36 ezv36 => ?_)
          refine lv_istore_n (lv' := [(2, .int zv36), (0, .ref (aa G 4 0)), (1, .int y1), (3, .int (nI k))]) hx hb dX7_holdsFor_36 rfl hl (by decide) rfl (fun ls hl => ?_)
          refine lv_iinc (v := nI (k + 1)) (lv' := [(3, .int (nI (k + 1))), (2, .int zv36), (0, .ref (aa G 4 0)), (1, .int y1)]) hx hb dX7_holdsFor_37 hl (k := 3) rfl (nI_1 _) (by decide) rfl (fun ls hl => ?_)
          refine lv_goto (tgt := 9) hx hb dX7_holdsFor_40 (by decide) ?_
          have hk : k < y1.toNatClampNeg := (lp_lt hkN zc11)
          exact ih (k + 1) (zv36, zs19) (by omega) (by omega) (by rw [← hz]; replace ezv36 := ezv36.symm; subst ezv36; replace ezs19 := ezs19.symm; subst ezs19; exact (wl_go (t := 0) (r := 0) (by simp only [b_X7_holdsFor_9, if_neg zc11, if_neg zc15, if_neg zc27])).symm) hm _ _ _ w (lv_sub hl [2, 3, 1, 0] rfl)
set_option maxRecDepth 100000 in
set_option maxHeartbeats 4000000 in
theorem c_X7_holdsFor {l : Launch} {G : GG} {σ : St} {ρ : Gr}  (x1 : Int32) (B : Nat) (hB : B < 2 ^ 30) (hm : WFm B ρ) (hN : x1.toNatClampNeg ≤ 200) : MM l G yX7_holdsFor cX7_holdsFor 4 6 129 (some .int) [.ref (aa G 4 0), .int x1] (setG σ 4 ρ) (Qi G (f_X7_holdsFor ρ x1) (setG σ 4 (g_X7_holdsFor ρ x1))) := by
  refine MM.of (by decide) (Nat.le_of_ble_eq_true rfl) ?_
  intro p e s m below meth c ls X hr hlk w hl
  have hx := X.1.1
  have hb := X.1.2.1
  have hl : lv_has ls 4 [(0, .ref (aa G 4 0)), (1, .int x1)] := hl
  refine lv_aload_n hx hb dX7_holdsFor_0 rfl (lv_at hl 0 rfl) ?_
  refine k_v (rr_v (rest := []) X w mX7_save kw1012 (c_X7_save ) m4_0 rfl rfl ⟨Nat.le_of_ble_eq_true rfl, Nat.le_of_ble_eq_true rfl⟩ rfl hl.1 rfl (Nat.le_of_ble_eq_true rfl) dX7_holdsFor_1 ⟨Nat.zero_le _, Nat.zero_le _⟩) w (fun H locs w => ?_)
  obtain ⟨zs1, ezs1⟩ : ∃ y : Gr, y = g_X7_save ρ := ⟨_, rfl⟩; rw [← ezs1] at w
  have hm : WFm B zs1 := by rw [ezs1]; exact save_WF hm
  refine lv_bipush (v := (-9)) hx hb dX7_holdsFor_4 (by decide) ?_
  refine lv_istore_n (lv' := [(2, .int (-9)), (0, .ref (aa G 4 0)), (1, .int x1)]) hx hb dX7_holdsFor_6 rfl hl (by decide) rfl (fun ls hl => ?_)
  refine lv_iconst (v := 0) hx hb dX7_holdsFor_7 (by decide) ?_
  refine lv_istore_n (lv' := [(3, .int 0), (2, .int (-9)), (0, .ref (aa G 4 0)), (1, .int x1)]) hx hb dX7_holdsFor_8 rfl hl (by decide) rfl (fun ls hl => ?_)
  obtain ⟨zl9, ezl9⟩ : ∃ y : Nat × Int32 × Int32 × Gr, y = (l_X7_holdsFor_9 x1 ((-9), zs1)) := ⟨_, rfl⟩
  refine lp_X7_holdsFor_9 X x1 B hB hN zl9 (fun hz43 H locs ls w hl => ?_) (nn (x1.toNatClampNeg + 1)) 0 ((-9), zs1) (Nat.zero_le _) (by rw [nn_eq]; exact Nat.lt_succ_of_le (Nat.sub_le _ _)) ezl9.symm hm _ _ _ w (lv_sub hl [2, 3, 1, 0] rfl)
  · -- leaves at 43
    refine lv_aload_n hx hb dX7_holdsFor_43 rfl (lv_at hl 0 rfl) ?_
    refine k_v (rr_v (rest := []) X w mX7_putBack kw1024 (c_X7_putBack ) m4_0 rfl rfl ⟨Nat.le_of_ble_eq_true rfl, Nat.le_of_ble_eq_true rfl⟩ rfl hl.1 rfl (Nat.le_of_ble_eq_true rfl) dX7_holdsFor_44 ⟨Nat.zero_le _, Nat.zero_le _⟩) w (fun H locs w => ?_)
    obtain ⟨zs44, ezs44⟩ : ∃ y : Gr, y = g_X7_putBack zl9.2.2.2 := ⟨_, rfl⟩; rw [← ezs44] at w
    refine lv_iload_n hx hb dX7_holdsFor_47 rfl (lv_at hl 2 rfl) ?_
    exact t_i X w hr hlk dX7_holdsFor_48 (by replace ezs44 := ezs44.symm; subst ezs44; replace ezl9 := ezl9.symm; subst ezl9; replace ezs1 := ezs1.symm; subst ezs1; simp only [f_X7_holdsFor]) (by replace ezs44 := ezs44.symm; subst ezs44; replace ezl9 := ezl9.symm; subst ezl9; replace ezs1 := ezs1.symm; subst ezs1; simp only [g_X7_holdsFor])

theorem holdsFor_Sv (ρ : Gr) (x : Int32) : Sv ρ (g_X7_holdsFor ρ x) := by
  refine Sv.of ?_
  refine wl_P (fun v : Int32 × Gr => Tt (g_X7_save ρ) v.2) (fun k v h => ?_) _ _ _ Tt.rf
  dsimp only [b_X7_holdsFor_9]
  repeat' split
  all_goals first | exact h | exact h.trans (passTide_Tt _)

noncomputable def b_X7_tonsAfter_21 (y1 : Int32) (y2 : Int32) (y3 : Int32) (y4 : Int32) (y5 : Int32) (k : Nat) (v : Gr) : Gr :=
  let zs29 : Gr := g_X7_flow v
  let zs39 : Gr := up zs29 0 21 ((zs29 0 21) + 1)
  zs39
noncomputable def l_X7_tonsAfter_21 (y1 : Int32) (y2 : Int32) (y3 : Int32) (y4 : Int32) (y5 : Int32) (v0 : Gr) : Gr := itn (b_X7_tonsAfter_21 y1 y2 y3 y4 y5) y5.toNatClampNeg v0
noncomputable def b_X7_tonsAfter_54 (ρ : Gr) (y1 : Int32) (y2 : Int32) (y3 : Int32) (y4 : Int32) (y5 : Int32) (k : Nat) (v : Int32) : Int32 :=
  if ((y4 >>> ((nI k) &&& 31)) &&& 1) = 1 then
    let zv104_2 : Int32 := v + ((ρ 6 ((2 * (nI k)) + y2).toNatClampNeg) + (ρ 7 ((2 * (nI k)) + y2).toNatClampNeg))
    zv104_2
  else
    let zv104 : Int32 := v + 0
    zv104
noncomputable def l_X7_tonsAfter_54 (ρ : Gr) (y1 : Int32) (y2 : Int32) (y3 : Int32) (y4 : Int32) (y5 : Int32) (v0 : Int32) : Int32 := itn (b_X7_tonsAfter_54 ρ y1 y2 y3 y4 y5) (ρ 0 0).toNatClampNeg v0
noncomputable def f_X7_tonsAfter (ρ : Gr) (x1 : Int32) (x2 : Int32) (x3 : Int32) (x4 : Int32) (x5 : Int32) : Int32 :=
  let zs1 : Gr := g_X7_save ρ
  let zs17 : Gr := up zs1 6 ((2 * x1) + x2).toNatClampNeg ((zs1 6 ((2 * x1) + x2).toNatClampNeg) + x3)
  let zl21 : Gr := (l_X7_tonsAfter_21 x1 x2 x3 x4 x5 zs17)
  let zl54 : Int32 := (l_X7_tonsAfter_54 zl21 x1 x2 x3 x4 x5 0)
  let zs113 : Gr := g_X7_putBack zl21
  zl54
noncomputable def g_X7_tonsAfter (ρ : Gr) (x1 : Int32) (x2 : Int32) (x3 : Int32) (x4 : Int32) (x5 : Int32) : Gr :=
  let zs1 : Gr := g_X7_save ρ
  let zs17 : Gr := up zs1 6 ((2 * x1) + x2).toNatClampNeg ((zs1 6 ((2 * x1) + x2).toNatClampNeg) + x3)
  let zl21 : Gr := (l_X7_tonsAfter_21 x1 x2 x3 x4 x5 zs17)
  let zl54 : Int32 := (l_X7_tonsAfter_54 zl21 x1 x2 x3 x4 x5 0)
  let zs113 : Gr := g_X7_putBack zl21
  zs113
theorem ta_WF {B : Nat} {v : Gr} (h : WFm B v) (y1 y2 y3 y4 y5 : Int32) : WFm (B + y5.toNatClampNeg) (l_X7_tonsAfter_21 y1 y2 y3 y4 y5 v) := by
  have key : ∀ n, WFm (B + n) (itn (b_X7_tonsAfter_21 y1 y2 y3 y4 y5) n v) := by
    intro n
    induction n with
    | zero => exact h
    | succ n ih => exact (ih.fr (flow_Fm _)).tick
  exact key _
set_option maxRecDepth 100000 in
set_option maxHeartbeats 4000000 in
theorem lp_X7_tonsAfter_21 {l : Launch} {G : GG} {p : Program} {e : Env} {s : State} {m : MethodId} {args : Array Value} {below : List Frame} {meth : Method} {c : Code} {Q : State → Prop} {σ : St} (X : Cx p m c cX7_tonsAfter 8 s args RX7 G) (y1 : Int32) (y2 : Int32) (y3 : Int32) (y4 : Int32) (y5 : Int32) (v0 : Gr) (B : Nat) (hB : B < 2 ^ 30) (hN : y5.toNatClampNeg ≤ 200)
    (kk : ∀ (H : Heap) (locs : List Loc) (ls : Array Slot), Wh G s σ 4 (l_X7_tonsAfter_21 y1 y2 y3 y4 y5 v0) H locs → lv_has ls 8 [(0, .ref (aa G 4 0)), (1, .int y1), (2, .int y2), (3, .int y3), (4, .int y4), (5, .int y5), (6, .int (nI (y5.toNatClampNeg)))] → W p l e (rmv 2 45) s m args below meth c H locs 0 0 Q (F0 m 48 ls [])) :
    ∀ (n k : Nat) (v : Gr), k ≤ y5.toNatClampNeg → y5.toNatClampNeg - k < n → v = itn (b_X7_tonsAfter_21 y1 y2 y3 y4 y5) k v0 → (WFm (B + k) v) → ∀ (H : Heap) (locs : List Loc) (ls : Array Slot), Wh G s σ 4 v H locs → lv_has ls 8 [(0, .ref (aa G 4 0)), (1, .int y1), (2, .int y2), (3, .int y3), (4, .int y4), (5, .int y5), (6, .int (nI k))] → W p l e (rmv 2 45) s m args below meth c H locs 0 0 Q (F0 m 21 ls []) := by
  have hx := X.1.1
  have hb := X.1.2.1
  intro n
  induction n with
  | zero => intro k v _ h; omega
  | succ n ih =>
    intro k v hkN hn ev hm H locs ls w hl
    refine lv_iload hx hb dX7_tonsAfter_21 (lv_at hl 6 rfl) ?_
    refine lv_iload hx hb dX7_tonsAfter_23 (lv_at hl 5 rfl) ?_
    refine lv_icmp_ge (tgt := 48) hx hb dX7_tonsAfter_25 (by decide) (fun zc25 => ?_) (fun zc25 => ?_)
    · -- 48
      have hkE : k = y5.toNatClampNeg := lp_eq hkN zc25
      have ev2 : l_X7_tonsAfter_21 y1 y2 y3 y4 y5 v0 = v := by unfold l_X7_tonsAfter_21; rw [← hkE]; exact ev.symm
      rw [ev2] at kk
      rw [hkE] at hl
      exact kk _ _ _ w (lv_sub hl [0, 1, 2, 3, 4, 5, 6] rfl)
    · -- 28
      have hk : k < y5.toNatClampNeg := lp_lt hkN zc25
      refine lv_aload_n hx hb dX7_tonsAfter_28 rfl (lv_at hl 0 rfl) ?_
      refine k_v (rr_v (rest := []) X w mX7_flow kw994 (c_X7_flow (B + k) (by omega) hm) m4_0 rfl rfl ⟨Nat.le_of_ble_eq_true rfl, Nat.le_of_ble_eq_true rfl⟩ rfl hl.1 rfl (Nat.le_of_ble_eq_true rfl) dX7_tonsAfter_29 ⟨Nat.zero_le _, Nat.zero_le _⟩) w (fun H locs w => ?_)
      obtain ⟨zs29, ezs29⟩ : ∃ y : Gr, y = g_X7_flow v := ⟨_, rfl⟩; rw [← ezs29] at w
      have hm : WFm (B + k) zs29 := by rw [ezs29]; exact hm.fr (flow_Fm _)
      refine lv_aload_n hx hb dX7_tonsAfter_32 rfl (lv_at hl 0 rfl) ?_
      refine lv_dup hx hb dX7_tonsAfter_33 rfl ?_
      refine gf7_186 X w dX7_tonsAfter_34 ?_
      refine lv_iconst (v := 1) hx hb dX7_tonsAfter_37 (by decide) ?_
      refine lv_iadd hx hb dX7_tonsAfter_38 ?_
      refine pf7_186 X w dX7_tonsAfter_39 (fun zs39 H locs ezs39 w => ?_)
      refine lv_iinc (v := nI (k + 1)) (lv' := [(6, .int (nI (k + 1))), (0, .ref (aa G 4 0)), (1, .int y1), (2, .int y2), (3, .int y3), (4, .int y4), (5, .int y5)]) hx hb dX7_tonsAfter_42 hl (k := 6) rfl (nI_1 _) (by decide) rfl (fun ls hl => ?_)
      refine lv_goto (tgt := 21) hx hb dX7_tonsAfter_45 (by decide) ?_
      exact ih (k + 1) zs39 (by omega) (by omega) (by replace ezs39 := ezs39.symm; subst ezs39; replace ezs29 := ezs29.symm; subst ezs29; simp only [itn, ← ev, b_X7_tonsAfter_21]) (by rw [ezs39]; exact hm.tick) _ _ _ w (lv_sub hl [1, 2, 3, 4, 5, 6, 0] rfl)
set_option maxRecDepth 100000 in
set_option maxHeartbeats 4000000 in
theorem lp_X7_tonsAfter_54 {l : Launch} {G : GG} {p : Program} {e : Env} {s : State} {m : MethodId} {args : Array Value} {below : List Frame} {meth : Method} {c : Code} {Q : State → Prop} {σ : St} {ρ : Gr} (X : Cx p m c cX7_tonsAfter 8 s args RX7 G) (y1 : Int32) (y2 : Int32) (y3 : Int32) (y4 : Int32) (y5 : Int32) (v0 : Int32) (hn : (ρ 0 0).toNatClampNeg ≤ 8) (hs2 : vp_in y2 2)
    (kk : ∀ (H : Heap) (locs : List Loc) (ls : Array Slot), Wh G s σ 4 ρ H locs → lv_has ls 8 [(0, .ref (aa G 4 0)), (1, .int y1), (2, .int y2), (3, .int y3), (4, .int y4), (5, .int y5), (6, .int (l_X7_tonsAfter_54 ρ y1 y2 y3 y4 y5 v0)), (7, .int (nI ((ρ 0 0).toNatClampNeg)))] → W p l e (rmv 2 45) s m args below meth c H locs 0 0 Q (F0 m 112 ls [])) :
    ∀ (n k : Nat) (v : Int32), k ≤ (ρ 0 0).toNatClampNeg → (ρ 0 0).toNatClampNeg - k < n → v = itn (b_X7_tonsAfter_54 ρ y1 y2 y3 y4 y5) k v0 → ∀ (H : Heap) (locs : List Loc) (ls : Array Slot), Wh G s σ 4 ρ H locs → lv_has ls 8 [(0, .ref (aa G 4 0)), (1, .int y1), (2, .int y2), (3, .int y3), (4, .int y4), (5, .int y5), (6, .int v), (7, .int (nI k))] → W p l e (rmv 2 45) s m args below meth c H locs 0 0 Q (F0 m 54 ls []) := by
  have hx := X.1.1
  have hb := X.1.2.1
  intro n
  induction n with
  | zero => intro k v _ h; omega
  | succ n ih =>
    intro k v hkN hn ev H locs ls w hl
    refine lv_iload hx hb dX7_tonsAfter_54 (lv_at hl 7 rfl) ?_
    refine lv_aload_n hx hb dX7_tonsAfter_56 rfl (lv_at hl 0 rfl) ?_
    refine gf7_111 X w dX7_tonsAfter_57 ?_
    refine lv_icmp_ge (tgt := 112) hx hb dX7_tonsAfter_60 (by decide) (fun zc60 => ?_) (fun zc60 => ?_)
    · -- 112
      have hkE : k = (ρ 0 0).toNatClampNeg := lp_eq hkN zc60
      have ev2 : l_X7_tonsAfter_54 ρ y1 y2 y3 y4 y5 v0 = v := by unfold l_X7_tonsAfter_54; rw [← hkE]; exact ev.symm
      rw [ev2] at kk
      rw [hkE] at hl
      exact kk _ _ _ w (lv_sub hl [0, 1, 2, 3, 4, 5, 6, 7] rfl)
    · -- 63
      have hk : k < (ρ 0 0).toNatClampNeg := lp_lt hkN zc60
      refine lv_iload hx hb dX7_tonsAfter_63 (lv_at hl 6 rfl) ?_
      refine lv_iload hx hb dX7_tonsAfter_65 (lv_at hl 4 rfl) ?_
      refine lv_iload hx hb dX7_tonsAfter_67 (lv_at hl 7 rfl) ?_
      refine lv_ishr hx hb dX7_tonsAfter_69 ?_
      refine lv_iconst (v := 1) hx hb dX7_tonsAfter_70 (by decide) ?_
      refine lv_iand hx hb dX7_tonsAfter_71 ?_
      refine lv_iconst (v := 1) hx hb dX7_tonsAfter_72 (by decide) ?_
      refine lv_icmp_ne (tgt := 102) hx hb dX7_tonsAfter_73 (by decide) (fun zc73 => ?_) (fun zc73 => ?_)
      · -- 102
        refine lv_iconst (v := 0) hx hb dX7_tonsAfter_102 (by decide) ?_
        refine lv_iadd hx hb dX7_tonsAfter_103 ?_
        refine lv_topi (fun zv104 ezv104 => ?_)
        refine lv_istore (lv' := [(6, .int zv104), (0, .ref (aa G 4 0)), (1, .int y1), (2, .int y2), (3, .int y3), (4, .int y4), (5, .int y5), (7, .int (nI k))]) hx hb dX7_tonsAfter_104 hl (by decide) rfl (fun ls hl => ?_)
        refine lv_iinc (v := nI (k + 1)) (lv' := [(7, .int (nI (k + 1))), (6, .int zv104), (0, .ref (aa G 4 0)), (1, .int y1), (2, .int y2), (3, .int y3), (4, .int y4), (5, .int y5)]) hx hb dX7_tonsAfter_106 hl (k := 7) rfl (nI_1 _) (by decide) rfl (fun ls hl => ?_)
        refine lv_goto (tgt := 54) hx hb dX7_tonsAfter_109 (by decide) ?_
        exact ih (k + 1) zv104 (by omega) (by omega) (by replace ezv104 := ezv104.symm; subst ezv104; simp only [itn, ← ev, b_X7_tonsAfter_54, if_neg zc73])  _ _ _ w (lv_sub hl [2, 3, 4, 5, 6, 7, 1, 0] rfl)
      · -- 76
        refine lv_aload_n hx hb dX7_tonsAfter_76 rfl (lv_at hl 0 rfl) ?_
        refine gf7_25 X w dX7_tonsAfter_77 ?_
        refine lv_iconst (v := 2) hx hb dX7_tonsAfter_80 (by decide) ?_
        refine lv_iload hx hb dX7_tonsAfter_81 (lv_at hl 7 rfl) ?_
        refine lv_imul hx hb dX7_tonsAfter_83 ?_
        refine lv_iload_n hx hb dX7_tonsAfter_84 rfl (lv_at hl 2 rfl) ?_
        refine lv_iadd hx hb dX7_tonsAfter_85 ?_
        refine ia (f := 6) (n := 16) X w m4_6 rfl (ix2s (vp_in_nI (by omega) (by decide)) hs2) dX7_tonsAfter_86 ?_
        refine lv_aload_n hx hb dX7_tonsAfter_87 rfl (lv_at hl 0 rfl) ?_
        refine gf7_28 X w dX7_tonsAfter_88 ?_
        refine lv_iconst (v := 2) hx hb dX7_tonsAfter_91 (by decide) ?_
        change W _ _ _ _ _ _ _ _ _ _ _ _ _ _ _ (F0 m 92 ls _)
        refine lv_iload hx hb dX7_tonsAfter_92 (lv_at hl 7 rfl) ?_
        refine lv_imul hx hb dX7_tonsAfter_94 ?_
        refine lv_iload_n hx hb dX7_tonsAfter_95 rfl (lv_at hl 2 rfl) ?_
        refine lv_iadd hx hb dX7_tonsAfter_96 ?_
        refine ia (f := 7) (n := 16) X w m4_7 rfl (ix2s (vp_in_nI (by omega) (by decide)) hs2) dX7_tonsAfter_97 ?_
        refine lv_iadd hx hb dX7_tonsAfter_98 ?_
        refine lv_goto (tgt := 103) hx hb dX7_tonsAfter_99 (by decide) ?_
        refine lv_iadd hx hb dX7_tonsAfter_103 ?_
        refine lv_topi (fun zv104_2 ezv104_2 => ?_)
        refine lv_istore (lv' := [(6, .int zv104_2), (0, .ref (aa G 4 0)), (1, .int y1), (2, .int y2), (3, .int y3), (4, .int y4), (5, .int y5), (7, .int (nI k))]) hx hb dX7_tonsAfter_104 hl (by decide) rfl (fun ls hl => ?_)
        refine lv_iinc (v := nI (k + 1)) (lv' := [(7, .int (nI (k + 1))), (6, .int zv104_2), (0, .ref (aa G 4 0)), (1, .int y1), (2, .int y2), (3, .int y3), (4, .int y4), (5, .int y5)]) hx hb dX7_tonsAfter_106 hl (k := 7) rfl (nI_1 _) (by decide) rfl (fun ls hl => ?_)
        refine lv_goto (tgt := 54) hx hb dX7_tonsAfter_109 (by decide) ?_
        exact ih (k + 1) zv104_2 (by omega) (by omega) (by replace ezv104_2 := ezv104_2.symm; subst ezv104_2; simp only [itn, ← ev, b_X7_tonsAfter_54, if_pos zc73])  _ _ _ w (lv_sub hl [2, 3, 4, 5, 6, 7, 1, 0] rfl)
set_option maxRecDepth 100000 in
set_option maxHeartbeats 4000000 in
theorem c_X7_tonsAfter {l : Launch} {G : GG} {σ : St} {ρ : Gr}  (x1 : Int32) (x2 : Int32) (x3 : Int32) (x4 : Int32) (x5 : Int32) (B : Nat) (hB : B < 2 ^ 30) (hm : WFm B ρ) (hN : x5.toNatClampNeg ≤ 200) (hc : vp_in x1 8) (hs2 : vp_in x2 2) : MM l G yX7_tonsAfter cX7_tonsAfter 8 2 45 (some .int) [.ref (aa G 4 0), .int x1, .int x2, .int x3, .int x4, .int x5] (setG σ 4 ρ) (Qi G (f_X7_tonsAfter ρ x1 x2 x3 x4 x5) (setG σ 4 (g_X7_tonsAfter ρ x1 x2 x3 x4 x5))) := by
  refine MM.of (by decide) (Nat.le_of_ble_eq_true rfl) ?_
  intro p e s m below meth c ls X hr hlk w hl
  have hx := X.1.1
  have hb := X.1.2.1
  have hl : lv_has ls 8 [(0, .ref (aa G 4 0)), (1, .int x1), (2, .int x2), (3, .int x3), (4, .int x4), (5, .int x5)] := hl
  refine lv_aload_n hx hb dX7_tonsAfter_0 rfl (lv_at hl 0 rfl) ?_
  refine k_v (rr_v (rest := []) X w mX7_save kw1012 (c_X7_save ) m4_0 rfl rfl ⟨Nat.le_of_ble_eq_true rfl, Nat.le_of_ble_eq_true rfl⟩ rfl hl.1 rfl (Nat.le_of_ble_eq_true rfl) dX7_tonsAfter_1 ⟨Nat.zero_le _, Nat.zero_le _⟩) w (fun H locs w => ?_)
  obtain ⟨zs1, ezs1⟩ : ∃ y : Gr, y = g_X7_save ρ := ⟨_, rfl⟩; rw [← ezs1] at w
  have hm : WFm B zs1 := by rw [ezs1]; exact save_WF hm
  refine lv_aload_n hx hb dX7_tonsAfter_4 rfl (lv_at hl 0 rfl) ?_
  refine gf7_25 X w dX7_tonsAfter_5 ?_
  refine lv_iconst (v := 2) hx hb dX7_tonsAfter_8 (by decide) ?_
  refine lv_iload_n hx hb dX7_tonsAfter_9 rfl (lv_at hl 1 rfl) ?_
  refine lv_imul hx hb dX7_tonsAfter_10 ?_
  refine lv_iload_n hx hb dX7_tonsAfter_11 rfl (lv_at hl 2 rfl) ?_
  refine lv_iadd hx hb dX7_tonsAfter_12 ?_
  refine lv_dup2_11 hx hb dX7_tonsAfter_13 rfl rfl ?_
  refine ia (f := 6) (n := 16) X w m4_6 rfl (ix2s hc hs2) dX7_tonsAfter_14 ?_
  change W _ _ _ _ _ _ _ _ _ _ _ _ _ _ _ (F0 m 15 ls _)
  refine lv_iload_n hx hb dX7_tonsAfter_15 rfl (lv_at hl 3 rfl) ?_
  refine lv_iadd hx hb dX7_tonsAfter_16 ?_
  refine iS (f := 6) (n := 16) X w m4_6 rfl (ix2s hc hs2) dX7_tonsAfter_17 (fun zs17 H locs ezs17 w => ?_)
  have hm : WFm B zs17 := by rw [ezs17]; exact hm.fr Fm.u6
  refine lv_iconst (v := 0) hx hb dX7_tonsAfter_18 (by decide) ?_
  refine lv_istore (lv' := [(6, .int 0), (0, .ref (aa G 4 0)), (1, .int x1), (2, .int x2), (3, .int x3), (4, .int x4), (5, .int x5)]) hx hb dX7_tonsAfter_19 hl (by decide) rfl (fun ls hl => ?_)
  refine lp_X7_tonsAfter_21 X x1 x2 x3 x4 x5 zs17 B hB hN (fun H locs ls w hl => ?_) (x5.toNatClampNeg + 1) 0 _ (Nat.zero_le _) (Nat.lt_succ_of_le (Nat.sub_le _ _)) rfl hm _ _ _ w (lv_sub hl [1, 2, 3, 4, 5, 6, 0] rfl)
  obtain ⟨zl21, ezl21⟩ : ∃ y : Gr, y = (l_X7_tonsAfter_21 x1 x2 x3 x4 x5 zs17) := ⟨_, rfl⟩
  rw [← ezl21] at w
  have hm9 : WFm (B + x5.toNatClampNeg) zl21 := by rw [ezl21]; exact ta_WF hm _ _ _ _ _
  refine lv_iconst (v := 0) hx hb dX7_tonsAfter_48 (by decide) ?_
  refine lv_istore (lv' := [(6, .int 0), (0, .ref (aa G 4 0)), (1, .int x1), (2, .int x2), (3, .int x3), (4, .int x4), (5, .int x5)]) hx hb dX7_tonsAfter_49 hl (by decide) rfl (fun ls hl => ?_)
  refine lv_iconst (v := 0) hx hb dX7_tonsAfter_51 (by decide) ?_
  refine lv_istore (lv' := [(7, .int 0), (6, .int 0), (0, .ref (aa G 4 0)), (1, .int x1), (2, .int x2), (3, .int x3), (4, .int x4), (5, .int x5)]) hx hb dX7_tonsAfter_52 hl (by decide) rfl (fun ls hl => ?_)
  refine lp_X7_tonsAfter_54 X x1 x2 x3 x4 x5 0 hm9.n hs2 (fun H locs ls w hl => ?_) ((zl21 0 0).toNatClampNeg + 1) 0 _ (Nat.zero_le _) (Nat.lt_succ_of_le (Nat.sub_le _ _)) rfl  _ _ _ w (lv_sub hl [2, 3, 4, 5, 6, 7, 1, 0] rfl)
  obtain ⟨zl54, ezl54⟩ : ∃ y : Int32, y = (l_X7_tonsAfter_54 zl21 x1 x2 x3 x4 x5 0) := ⟨_, rfl⟩
  rw [← ezl54] at hl
  refine lv_aload_n hx hb dX7_tonsAfter_112 rfl (lv_at hl 0 rfl) ?_
  refine k_v (rr_v (rest := []) X w mX7_putBack kw1024 (c_X7_putBack ) m4_0 rfl rfl ⟨Nat.le_of_ble_eq_true rfl, Nat.le_of_ble_eq_true rfl⟩ rfl hl.1 rfl (Nat.le_of_ble_eq_true rfl) dX7_tonsAfter_113 ⟨Nat.zero_le _, Nat.zero_le _⟩) w (fun H locs w => ?_)
  obtain ⟨zs113, ezs113⟩ : ∃ y : Gr, y = g_X7_putBack zl21 := ⟨_, rfl⟩; rw [← ezs113] at w
  refine lv_iload hx hb dX7_tonsAfter_116 (lv_at hl 6 rfl) ?_
  exact t_i X w hr hlk dX7_tonsAfter_118 (by replace ezs113 := ezs113.symm; subst ezs113; replace ezl54 := ezl54.symm; subst ezl54; replace ezl21 := ezl21.symm; subst ezl21; replace ezs17 := ezs17.symm; subst ezs17; replace ezs1 := ezs1.symm; subst ezs1; simp only [f_X7_tonsAfter]) (by replace ezs113 := ezs113.symm; subst ezs113; replace ezl54 := ezl54.symm; subst ezl54; replace ezl21 := ezl21.symm; subst ezl21; replace ezs17 := ezs17.symm; subst ezs17; replace ezs1 := ezs1.symm; subst ezs1; simp only [g_X7_tonsAfter])

theorem tonsAfter_Sv (ρ : Gr) (x1 x2 x3 x4 x5 : Int32) : Sv ρ (g_X7_tonsAfter ρ x1 x2 x3 x4 x5) := by
  refine Sv.of ?_
  exact (Fm.u6.tt).trans (itn_P (f := b_X7_tonsAfter_21 x1 x2 x3 x4 x5) (fun v : Gr => Tt _ v) (fun k v h => h.trans ((flow_Fm _).tt.trans Tt.u21)) _ _ Tt.rf)

noncomputable def b_X7_settledAfter_11 (y1 : Int32) (y2 : Int32) (k : Nat) (v : Gr) : Gr :=
  let zs17 : Gr := g_X7_passTide v
  zs17
noncomputable def l_X7_settledAfter_11 (y1 : Int32) (y2 : Int32) (v0 : Gr) : Gr := itn (b_X7_settledAfter_11 y1 y2) y1.toNatClampNeg v0
noncomputable def b_X7_settledAfter_36 (ρ : Gr) (y1 : Int32) (y2 : Int32) (k : Nat) (v : Int32) : Int32 :=
  let zv53 : Int32 := v + (f_X7_settledIn ρ (nI k))
  zv53
noncomputable def l_X7_settledAfter_36 (ρ : Gr) (y1 : Int32) (y2 : Int32) (v0 : Int32) : Int32 := itn (b_X7_settledAfter_36 ρ y1 y2) (ρ 0 0).toNatClampNeg v0
noncomputable def f_X7_settledAfter (ρ : Gr) (x1 : Int32) (x2 : Int32) : Int32 :=
  let zs1 : Gr := g_X7_save ρ
  let zs6 : Gr := up zs1 0 34 x2
  let zl11 : Gr := (l_X7_settledAfter_11 x1 x2 zs6)
  let zs28 : Gr := up zl11 0 34 (-1)
  let zl36 : Int32 := (l_X7_settledAfter_36 zs28 x1 x2 0)
  let zs61 : Gr := g_X7_putBack zs28
  zl36
noncomputable def g_X7_settledAfter (ρ : Gr) (x1 : Int32) (x2 : Int32) : Gr :=
  let zs1 : Gr := g_X7_save ρ
  let zs6 : Gr := up zs1 0 34 x2
  let zl11 : Gr := (l_X7_settledAfter_11 x1 x2 zs6)
  let zs28 : Gr := up zl11 0 34 (-1)
  let zl36 : Int32 := (l_X7_settledAfter_36 zs28 x1 x2 0)
  let zs61 : Gr := g_X7_putBack zs28
  zs61
theorem sa_WF {B : Nat} {v : Gr} (h : WFm B v) (y1 y2 : Int32) : WFm (B + y1.toNatClampNeg) (l_X7_settledAfter_11 y1 y2 v) := by
  have key : ∀ n, WFm (B + n) (itn (b_X7_settledAfter_11 y1 y2) n v) := by
    intro n
    induction n with
    | zero => exact h
    | succ n ih => exact passTide_WF ih
  exact key _
set_option maxRecDepth 100000 in
set_option maxHeartbeats 4000000 in
theorem lp_X7_settledAfter_11 {l : Launch} {G : GG} {p : Program} {e : Env} {s : State} {m : MethodId} {args : Array Value} {below : List Frame} {meth : Method} {c : Code} {Q : State → Prop} {σ : St} (X : Cx p m c cX7_settledAfter 5 s args RX7 G) (y1 : Int32) (y2 : Int32) (v0 : Gr) (B : Nat) (hB : B < 2 ^ 30) (hN : y1.toNatClampNeg ≤ 200)
    (kk : ∀ (H : Heap) (locs : List Loc) (ls : Array Slot), Wh G s σ 4 (l_X7_settledAfter_11 y1 y2 v0) H locs → lv_has ls 5 [(0, .ref (aa G 4 0)), (1, .int y1), (2, .int y2), (3, .int (nI (y1.toNatClampNeg)))] → W p l e (rmv 6 129) s m args below meth c H locs 0 0 Q (F0 m 26 ls [])) :
    ∀ (n k : Nat) (v : Gr), k ≤ y1.toNatClampNeg → y1.toNatClampNeg - k < n → v = itn (b_X7_settledAfter_11 y1 y2) k v0 → (WFm (B + k) v) → ∀ (H : Heap) (locs : List Loc) (ls : Array Slot), Wh G s σ 4 v H locs → lv_has ls 5 [(0, .ref (aa G 4 0)), (1, .int y1), (2, .int y2), (3, .int (nI k))] → W p l e (rmv 6 129) s m args below meth c H locs 0 0 Q (F0 m 11 ls []) := by
  have hx := X.1.1
  have hb := X.1.2.1
  intro n
  induction n with
  | zero => intro k v _ h; omega
  | succ n ih =>
    intro k v hkN hn ev hm H locs ls w hl
    refine lv_iload_n hx hb dX7_settledAfter_11 rfl (lv_at hl 3 rfl) ?_
    refine lv_iload_n hx hb dX7_settledAfter_12 rfl (lv_at hl 1 rfl) ?_
    refine lv_icmp_ge (tgt := 26) hx hb dX7_settledAfter_13 (by decide) (fun zc13 => ?_) (fun zc13 => ?_)
    · -- 26
      have hkE : k = y1.toNatClampNeg := lp_eq hkN zc13
      have ev2 : l_X7_settledAfter_11 y1 y2 v0 = v := by unfold l_X7_settledAfter_11; rw [← hkE]; exact ev.symm
      rw [ev2] at kk
      rw [hkE] at hl
      exact kk _ _ _ w (lv_sub hl [0, 1, 2, 3] rfl)
    · -- 16
      have hk : k < y1.toNatClampNeg := lp_lt hkN zc13
      refine lv_aload_n hx hb dX7_settledAfter_16 rfl (lv_at hl 0 rfl) ?_
      refine k_v (rr_v (rest := []) X w mX7_passTide kw990 (c_X7_passTide (B + k) (by omega) hm) m4_0 rfl rfl ⟨Nat.le_of_ble_eq_true rfl, Nat.le_of_ble_eq_true rfl⟩ rfl hl.1 rfl (Nat.le_of_ble_eq_true rfl) dX7_settledAfter_17 ⟨Nat.zero_le _, Nat.zero_le _⟩) w (fun H locs w => ?_)
      obtain ⟨zs17, ezs17⟩ : ∃ y : Gr, y = g_X7_passTide v := ⟨_, rfl⟩; rw [← ezs17] at w
      refine lv_iinc (v := nI (k + 1)) (lv' := [(3, .int (nI (k + 1))), (0, .ref (aa G 4 0)), (1, .int y1), (2, .int y2)]) hx hb dX7_settledAfter_20 hl (k := 3) rfl (nI_1 _) (by decide) rfl (fun ls hl => ?_)
      refine lv_goto (tgt := 11) hx hb dX7_settledAfter_23 (by decide) ?_
      exact ih (k + 1) zs17 (by omega) (by omega) (by replace ezs17 := ezs17.symm; subst ezs17; simp only [itn, ← ev, b_X7_settledAfter_11]) (by rw [ezs17]; exact passTide_WF hm) _ _ _ w (lv_sub hl [1, 2, 3, 0] rfl)
set_option maxRecDepth 100000 in
set_option maxHeartbeats 4000000 in
theorem lp_X7_settledAfter_36 {l : Launch} {G : GG} {p : Program} {e : Env} {s : State} {m : MethodId} {args : Array Value} {below : List Frame} {meth : Method} {c : Code} {Q : State → Prop} {σ : St} {ρ : Gr} (X : Cx p m c cX7_settledAfter 5 s args RX7 G) (y1 : Int32) (y2 : Int32) (v0 : Int32) (hn : (ρ 0 0).toNatClampNeg ≤ 8)
    (kk : ∀ (H : Heap) (locs : List Loc) (ls : Array Slot), Wh G s σ 4 ρ H locs → lv_has ls 5 [(0, .ref (aa G 4 0)), (1, .int y1), (2, .int y2), (3, .int (l_X7_settledAfter_36 ρ y1 y2 v0)), (4, .int (nI ((ρ 0 0).toNatClampNeg)))] → W p l e (rmv 6 129) s m args below meth c H locs 0 0 Q (F0 m 60 ls [])) :
    ∀ (n k : Nat) (v : Int32), k ≤ (ρ 0 0).toNatClampNeg → (ρ 0 0).toNatClampNeg - k < n → v = itn (b_X7_settledAfter_36 ρ y1 y2) k v0 → ∀ (H : Heap) (locs : List Loc) (ls : Array Slot), Wh G s σ 4 ρ H locs → lv_has ls 5 [(0, .ref (aa G 4 0)), (1, .int y1), (2, .int y2), (3, .int v), (4, .int (nI k))] → W p l e (rmv 6 129) s m args below meth c H locs 0 0 Q (F0 m 36 ls []) := by
  have hx := X.1.1
  have hb := X.1.2.1
  intro n
  induction n with
  | zero => intro k v _ h; omega
  | succ n ih =>
    intro k v hkN hn ev H locs ls w hl
    refine lv_iload hx hb dX7_settledAfter_36 (lv_at hl 4 rfl) ?_
    refine lv_aload_n hx hb dX7_settledAfter_38 rfl (lv_at hl 0 rfl) ?_
    refine gf7_111 X w dX7_settledAfter_39 ?_
    refine lv_icmp_ge (tgt := 60) hx hb dX7_settledAfter_42 (by decide) (fun zc42 => ?_) (fun zc42 => ?_)
    · -- 60
      have hkE : k = (ρ 0 0).toNatClampNeg := lp_eq hkN zc42
      have ev2 : l_X7_settledAfter_36 ρ y1 y2 v0 = v := by unfold l_X7_settledAfter_36; rw [← hkE]; exact ev.symm
      rw [ev2] at kk
      rw [hkE] at hl
      exact kk _ _ _ w (lv_sub hl [0, 1, 2, 3, 4] rfl)
    · -- 45
      have hk : k < (ρ 0 0).toNatClampNeg := lp_lt hkN zc42
      refine lv_iload_n hx hb dX7_settledAfter_45 rfl (lv_at hl 3 rfl) ?_
      refine lv_aload_n hx hb dX7_settledAfter_46 rfl (lv_at hl 0 rfl) ?_
      refine lv_iload hx hb dX7_settledAfter_47 (lv_at hl 4 rfl) ?_
      refine k_i (rr_v (rest := [.int v]) X w mX7_settledIn kw944 (c_X7_settledIn (nI k) (vp_in_nI (by omega) (by decide))) m4_0 rfl rfl ⟨Nat.le_of_ble_eq_true rfl, Nat.le_of_ble_eq_true rfl⟩ rfl hl.1 rfl (Nat.le_of_ble_eq_true rfl) dX7_settledAfter_49 ⟨Nat.zero_le _, Nat.zero_le _⟩) w (fun H locs w => ?_)
      refine lv_iadd hx hb dX7_settledAfter_52 ?_
      refine lv_topi (fun zv53 ezv53 => ?_)
      refine lv_istore_n (lv' := [(3, .int zv53), (0, .ref (aa G 4 0)), (1, .int y1), (2, .int y2), (4, .int (nI k))]) hx hb dX7_settledAfter_53 rfl hl (by decide) rfl (fun ls hl => ?_)
      refine lv_iinc (v := nI (k + 1)) (lv' := [(4, .int (nI (k + 1))), (3, .int zv53), (0, .ref (aa G 4 0)), (1, .int y1), (2, .int y2)]) hx hb dX7_settledAfter_54 hl (k := 4) rfl (nI_1 _) (by decide) rfl (fun ls hl => ?_)
      refine lv_goto (tgt := 36) hx hb dX7_settledAfter_57 (by decide) ?_
      exact ih (k + 1) zv53 (by omega) (by omega) (by replace ezv53 := ezv53.symm; subst ezv53; simp only [itn, ← ev, b_X7_settledAfter_36])  _ _ _ w (lv_sub hl [2, 3, 4, 1, 0] rfl)
set_option maxRecDepth 100000 in
set_option maxHeartbeats 4000000 in
theorem c_X7_settledAfter {l : Launch} {G : GG} {σ : St} {ρ : Gr}  (x1 : Int32) (x2 : Int32) (B : Nat) (hB : B < 2 ^ 30) (hm : WFm B ρ) (hN : x1.toNatClampNeg ≤ 200) : MM l G yX7_settledAfter cX7_settledAfter 5 6 129 (some .int) [.ref (aa G 4 0), .int x1, .int x2] (setG σ 4 ρ) (Qi G (f_X7_settledAfter ρ x1 x2) (setG σ 4 (g_X7_settledAfter ρ x1 x2))) := by
  refine MM.of (by decide) (Nat.le_of_ble_eq_true rfl) ?_
  intro p e s m below meth c ls X hr hlk w hl
  have hx := X.1.1
  have hb := X.1.2.1
  have hl : lv_has ls 5 [(0, .ref (aa G 4 0)), (1, .int x1), (2, .int x2)] := hl
  refine lv_aload_n hx hb dX7_settledAfter_0 rfl (lv_at hl 0 rfl) ?_
  refine k_v (rr_v (rest := []) X w mX7_save kw1012 (c_X7_save ) m4_0 rfl rfl ⟨Nat.le_of_ble_eq_true rfl, Nat.le_of_ble_eq_true rfl⟩ rfl hl.1 rfl (Nat.le_of_ble_eq_true rfl) dX7_settledAfter_1 ⟨Nat.zero_le _, Nat.zero_le _⟩) w (fun H locs w => ?_)
  obtain ⟨zs1, ezs1⟩ : ∃ y : Gr, y = g_X7_save ρ := ⟨_, rfl⟩; rw [← ezs1] at w
  have hm : WFm B zs1 := by rw [ezs1]; exact save_WF hm
  refine lv_aload_n hx hb dX7_settledAfter_4 rfl (lv_at hl 0 rfl) ?_
  refine lv_iload_n hx hb dX7_settledAfter_5 rfl (lv_at hl 2 rfl) ?_
  refine pf7_81 X w dX7_settledAfter_6 (fun zs6 H locs ezs6 w => ?_)
  have hm : WFm B zs6 := by rw [ezs6]; exact hm
  refine lv_iconst (v := 0) hx hb dX7_settledAfter_9 (by decide) ?_
  refine lv_istore_n (lv' := [(3, .int 0), (0, .ref (aa G 4 0)), (1, .int x1), (2, .int x2)]) hx hb dX7_settledAfter_10 rfl hl (by decide) rfl (fun ls hl => ?_)
  refine lp_X7_settledAfter_11 X x1 x2 zs6 B hB hN (fun H locs ls w hl => ?_) (x1.toNatClampNeg + 1) 0 _ (Nat.zero_le _) (Nat.lt_succ_of_le (Nat.sub_le _ _)) rfl hm _ _ _ w (lv_sub hl [1, 2, 3, 0] rfl)
  obtain ⟨zl11, ezl11⟩ : ∃ y : Gr, y = (l_X7_settledAfter_11 x1 x2 zs6) := ⟨_, rfl⟩
  rw [← ezl11] at w
  have hm9 : WFm (B + x1.toNatClampNeg) zl11 := by rw [ezl11]; exact sa_WF hm _ _
  refine lv_aload_n hx hb dX7_settledAfter_26 rfl (lv_at hl 0 rfl) ?_
  refine lv_iconst (v := (-1)) hx hb dX7_settledAfter_27 (by decide) ?_
  refine pf7_81 X w dX7_settledAfter_28 (fun zs28 H locs ezs28 w => ?_)
  have hm9 : WFm (B + x1.toNatClampNeg) zs28 := by rw [ezs28]; exact hm9
  refine lv_iconst (v := 0) hx hb dX7_settledAfter_31 (by decide) ?_
  refine lv_istore_n (lv' := [(3, .int 0), (0, .ref (aa G 4 0)), (1, .int x1), (2, .int x2)]) hx hb dX7_settledAfter_32 rfl hl (by decide) rfl (fun ls hl => ?_)
  refine lv_iconst (v := 0) hx hb dX7_settledAfter_33 (by decide) ?_
  refine lv_istore (lv' := [(4, .int 0), (3, .int 0), (0, .ref (aa G 4 0)), (1, .int x1), (2, .int x2)]) hx hb dX7_settledAfter_34 hl (by decide) rfl (fun ls hl => ?_)
  refine lp_X7_settledAfter_36 X x1 x2 0 hm9.n (fun H locs ls w hl => ?_) ((zs28 0 0).toNatClampNeg + 1) 0 _ (Nat.zero_le _) (Nat.lt_succ_of_le (Nat.sub_le _ _)) rfl  _ _ _ w (lv_sub hl [2, 3, 4, 1, 0] rfl)
  obtain ⟨zl36, ezl36⟩ : ∃ y : Int32, y = (l_X7_settledAfter_36 zs28 x1 x2 0) := ⟨_, rfl⟩
  rw [← ezl36] at hl
  refine lv_aload_n hx hb dX7_settledAfter_60 rfl (lv_at hl 0 rfl) ?_
  refine k_v (rr_v (rest := []) X w mX7_putBack kw1024 (c_X7_putBack ) m4_0 rfl rfl ⟨Nat.le_of_ble_eq_true rfl, Nat.le_of_ble_eq_true rfl⟩ rfl hl.1 rfl (Nat.le_of_ble_eq_true rfl) dX7_settledAfter_61 ⟨Nat.zero_le _, Nat.zero_le _⟩) w (fun H locs w => ?_)
  obtain ⟨zs61, ezs61⟩ : ∃ y : Gr, y = g_X7_putBack zs28 := ⟨_, rfl⟩; rw [← ezs61] at w
  refine lv_iload_n hx hb dX7_settledAfter_64 rfl (lv_at hl 3 rfl) ?_
  exact t_i X w hr hlk dX7_settledAfter_65 (by replace ezs61 := ezs61.symm; subst ezs61; replace ezl36 := ezl36.symm; subst ezl36; replace ezs28 := ezs28.symm; subst ezs28; replace ezl11 := ezl11.symm; subst ezl11; replace ezs6 := ezs6.symm; subst ezs6; replace ezs1 := ezs1.symm; subst ezs1; simp only [f_X7_settledAfter]) (by replace ezs61 := ezs61.symm; subst ezs61; replace ezl36 := ezl36.symm; subst ezl36; replace ezs28 := ezs28.symm; subst ezs28; replace ezl11 := ezl11.symm; subst ezl11; replace ezs6 := ezs6.symm; subst ezs6; replace ezs1 := ezs1.symm; subst ezs1; simp only [g_X7_settledAfter])
