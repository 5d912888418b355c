noncomputable def b_X7_feed_39 (y1 : Int32) (y2 : Int64) (k : Nat) (v : Gr) : Gr :=
  let zs65 : Gr := up v 29 (v 0 30).toNatClampNeg (((y2 >>> ((8 * (nI k)).toInt64 &&& 63)) &&& 255).toInt32)
  let zs73 : Gr := up zs65 0 30 ((zs65 0 30) + 1)
  zs73
noncomputable def l_X7_feed_39 (y1 : Int32) (y2 : Int64) (v0 : Gr) : Gr := itn (b_X7_feed_39 y1 y2) y1.toNatClampNeg v0
noncomputable def f_X7_feed (ρ : Gr) (x1 : Int32) (x2 : Int64) : Int32 :=
  if 1 ≤ x1 then
    if 8 < x1 then
      let zs32 : Gr := g_X7_refuse ρ (-6)
      f_X7_refuse ρ (-6)
    else
      if ((ρ 0 30) + x1) ≤ 96 then
        let zl39 : Gr := (l_X7_feed_39 x1 x2 ρ)
        zl39 0 30
      else
        let zs32_2 : Gr := g_X7_refuse ρ (-6)
        f_X7_refuse ρ (-6)
  else
    let zs8 : Gr := g_X7_refuse ρ (-4)
    f_X7_refuse ρ (-4)
noncomputable def g_X7_feed (ρ : Gr) (x1 : Int32) (x2 : Int64) : Gr :=
  if 1 ≤ x1 then
    if 8 < x1 then
      let zs32 : Gr := g_X7_refuse ρ (-6)
      zs32
    else
      if ((ρ 0 30) + x1) ≤ 96 then
        let zl39 : Gr := (l_X7_feed_39 x1 x2 ρ)
        zl39
      else
        let zs32_2 : Gr := g_X7_refuse ρ (-6)
        zs32_2
  else
    let zs8 : Gr := g_X7_refuse ρ (-4)
    zs8
set_option maxRecDepth 100000 in
set_option maxHeartbeats 4000000 in
theorem lp_X7_feed_39 {l : Launch} {G : GG} {p : Program} {e : Env} {s : State} {m : MethodId} {args : Array Value} {below : List Frame} {meth : Method} {c : Code} {Q : State → Prop} {σ : St} (X : Cx p m c cX7_feed 5 s args RX7 G) (y1 : Int32) (y2 : Int64) (v0 : Gr) 
    (kk : ∀ (H : Heap) (locs : List Loc) (ls : Array Slot), Wh G s σ 4 (l_X7_feed_39 y1 y2 v0) H locs → lv_has ls 5 [(0, .ref (aa G 4 0)), (1, .int y1), (2, .long y2), (4, .int (nI (y1.toNatClampNeg)))] → W p l e (rmv 1 21) s m args below meth c H locs 0 0 Q (F0 m 82 ls [])) :
    ∀ (n k : Nat) (v : Gr), k ≤ y1.toNatClampNeg → y1.toNatClampNeg - k < n → v = itn (b_X7_feed_39 y1 y2) k v0 → (∃ t : Nat, v 0 30 = nI (t + k) ∧ t + y1.toNatClampNeg ≤ 96) → ∀ (H : Heap) (locs : List Loc) (ls : Array Slot), Wh G s σ 4 v H locs → lv_has ls 5 [(0, .ref (aa G 4 0)), (1, .int y1), (2, .long y2), (4, .int (nI k))] → W p l e (rmv 1 21) s m args below meth c H locs 0 0 Q (F0 m 39 ls []) := by
  have hx := X.1.1
  have hb := X.1.2.1
  intro n
  induction n with
  | zero => intro k v _ h; omega
  | succ n ih =>
    intro k v hkN hn ev ht H locs ls w hl
    refine lv_iload hx hb dX7_feed_39 (lv_at hl 3 rfl) ?_
    refine lv_iload_n hx hb dX7_feed_41 rfl (lv_at hl 1 rfl) ?_
    refine lv_icmp_ge (tgt := 82) hx hb dX7_feed_42 (by decide) (fun zc42 => ?_) (fun zc42 => ?_)
    · -- 82
      have hkE : k = y1.toNatClampNeg := lp_eq hkN zc42
      have ev2 : l_X7_feed_39 y1 y2 v0 = v := by unfold l_X7_feed_39; rw [← hkE]; exact ev.symm
      rw [ev2] at kk
      rw [hkE] at hl
      exact kk _ _ _ w (lv_sub hl [0, 1, 2, 3] rfl)
    · -- 45
      have hk : k < y1.toNatClampNeg := lp_lt hkN zc42
      refine lv_aload_n hx hb dX7_feed_45 rfl (lv_at hl 0 rfl) ?_
      refine gf7_72 X w dX7_feed_46 ?_
      refine lv_aload_n hx hb dX7_feed_49 rfl (lv_at hl 0 rfl) ?_
      refine gf7_108 X w dX7_feed_50 ?_
      refine lv_lload_n hx hb dX7_feed_53 rfl (lv_at hl 2 rfl) ?_
      refine lv_bipush (v := 8) hx hb dX7_feed_54 (by decide) ?_
      refine lv_iload hx hb dX7_feed_56 (lv_at hl 3 rfl) ?_
      refine lv_imul hx hb dX7_feed_58 ?_
      refine lv_lshr hx hb dX7_feed_59 rfl ?_
      refine lv_ldc2 hx hb X.1.2.2.2.1 (X.1.2.2.2.2 _ kw1085) dX7_feed_60 ?_
      refine lv_land hx hb dX7_feed_63 ?_
      change W _ _ _ _ _ _ _ _ _ _ _ _ _ _ _ (F0 m 64 ls _)
      refine lv_l2i hx hb dX7_feed_64 rfl ?_
      refine iS (f := 29) (n := 96) X w m4_29 rfl (by obtain ⟨t, e1, e2⟩ := ht; rw [e1]; exact vp_in_nI (by omega) (by decide)) dX7_feed_65 (fun zs65 H locs ezs65 w => ?_)
      refine lv_aload_n hx hb dX7_feed_66 rfl (lv_at hl 0 rfl) ?_
      refine lv_dup hx hb dX7_feed_67 rfl ?_
      refine gf7_108 X w dX7_feed_68 ?_
      refine lv_iconst (v := 1) hx hb dX7_feed_71 (by decide) ?_
      refine lv_iadd hx hb dX7_feed_72 ?_
      refine pf7_108 X w dX7_feed_73 (fun zs73 H locs ezs73 w => ?_)
      refine lv_iinc (v := nI (k + 1)) (lv' := [(4, .int (nI (k + 1))), (0, .ref (aa G 4 0)), (1, .int y1), (2, .long y2)]) hx hb dX7_feed_76 hl (k := 3) rfl (nI_1 _) (by decide) rfl (fun ls hl => ?_)
      refine lv_goto (tgt := 39) hx hb dX7_feed_79 (by decide) ?_
      exact ih (k + 1) zs73 (by omega) (by omega) (by replace ezs73 := ezs73.symm; subst ezs73; replace ezs65 := ezs65.symm; subst ezs65; simp only [itn, ← ev, b_X7_feed_39]) (by replace ezs73 := ezs73.symm; subst ezs73; replace ezs65 := ezs65.symm; subst ezs65; obtain ⟨t, e1, e2⟩ := ht; exact ⟨t, by show v 0 30 + 1 = nI (t + (k + 1)); rw [e1, nI_1]; rfl, e2⟩) _ _ _ w (lv_sub hl [1, 2, 3, 0] rfl)
set_option maxRecDepth 100000 in
set_option maxHeartbeats 4000000 in
theorem c_X7_feed {l : Launch} {G : GG} {σ : St} {ρ : Gr}  (x1 : Int32) (x2 : Int64) (B : Nat) (hB : B < 2 ^ 30) (hm : WFm B ρ) : MM l G yX7_feed cX7_feed 5 1 21 (some .int) [.ref (aa G 4 0), .int x1, .long x2] (setG σ 4 ρ) (Qi G (f_X7_feed ρ x1 x2) (setG σ 4 (g_X7_feed ρ x1 x2))) := by
  refine MM.of (by decide) (Nat.le_of_ble_eq_true rfl) ?_
  intro p e s m below meth c ls X hr hlk w hl
  have hx := X.1.1
  have hb := X.1.2.1
  have hl : lv_has ls 5 [(0, .ref (aa G 4 0)), (1, .int x1), (2, .long x2)] := hl
  refine lv_iload_n hx hb dX7_feed_0 rfl (lv_at hl 1 rfl) ?_
  refine lv_iconst (v := 1) hx hb dX7_feed_1 (by decide) ?_
  refine lv_icmp_ge (tgt := 12) hx hb dX7_feed_2 (by decide) (fun zc2 => ?_) (fun zc2 => ?_)
  · -- 12
    refine lv_iload_n hx hb dX7_feed_12 rfl (lv_at hl 1 rfl) ?_
    refine lv_bipush (v := 8) hx hb dX7_feed_13 (by decide) ?_
    refine lv_icmp_gt (tgt := 29) hx hb dX7_feed_15 (by decide) (fun zc15 => ?_) (fun zc15 => ?_)
    · -- 29
      refine lv_aload_n hx hb dX7_feed_29 rfl (lv_at hl 0 rfl) ?_
      refine lv_bipush (v := (-6)) hx hb dX7_feed_30 (by decide) ?_
      refine k_i (rr_v (rest := []) X w mX7_refuse kw872 (c_X7_refuse (-6) (vin_lit (by decide +kernel))) m4_0 rfl rfl ⟨Nat.le_of_ble_eq_true rfl, Nat.le_of_ble_eq_true rfl⟩ rfl hl.1 rfl (Nat.le_of_ble_eq_true rfl) dX7_feed_32 ⟨Nat.zero_le _, Nat.zero_le _⟩) w (fun H locs w => ?_)
      obtain ⟨zs32, ezs32⟩ : ∃ y : Gr, y = g_X7_refuse ρ (-6) := ⟨_, rfl⟩; rw [← ezs32] at w
      exact t_i X w hr hlk dX7_feed_35 (by replace ezs32 := ezs32.symm; subst ezs32; simp only [f_X7_feed, if_pos zc2, if_pos zc15]) (by replace ezs32 := ezs32.symm; subst ezs32; simp only [g_X7_feed, if_pos zc2, if_pos zc15])
    · -- 18
      refine lv_aload_n hx hb dX7_feed_18 rfl (lv_at hl 0 rfl) ?_
      refine gf7_108 X w dX7_feed_19 ?_
      refine lv_iload_n hx hb dX7_feed_22 rfl (lv_at hl 1 rfl) ?_
      refine lv_iadd hx hb dX7_feed_23 ?_
      refine lv_bipush (v := 96) hx hb dX7_feed_24 (by decide) ?_
      refine lv_icmp_le (tgt := 36) hx hb dX7_feed_26 (by decide) (fun zc26 => ?_) (fun zc26 => ?_)
      · -- 36
        refine lv_iconst (v := 0) hx hb dX7_feed_36 (by decide) ?_
        refine lv_istore (lv' := [(4, .int 0), (0, .ref (aa G 4 0)), (1, .int x1), (2, .long x2)]) hx hb dX7_feed_37 hl (by decide) rfl (fun ls hl => ?_)
        refine lp_X7_feed_39 X x1 x2 ρ  (fun H locs ls w hl => ?_) (x1.toNatClampNeg + 1) 0 _ (Nat.zero_le _) (Nat.lt_succ_of_le (Nat.sub_le _ _)) rfl (feed_t hm.2.2.2.2.2.2.2.2.2.1 zc2 zc15 zc26) _ _ _ w (lv_sub hl [1, 2, 3, 0] rfl)
        obtain ⟨zl39, ezl39⟩ : ∃ y : Gr, y = (l_X7_feed_39 x1 x2 ρ) := ⟨_, rfl⟩
        rw [← ezl39] at w
        refine lv_aload_n hx hb dX7_feed_82 rfl (lv_at hl 0 rfl) ?_
        refine gf7_108 X w dX7_feed_83 ?_
        exact t_i X w hr hlk dX7_feed_86 (by replace ezl39 := ezl39.symm; subst ezl39; simp only [f_X7_feed, if_pos zc2, if_neg zc15, if_pos zc26]) (by replace ezl39 := ezl39.symm; subst ezl39; simp only [g_X7_feed, if_pos zc2, if_neg zc15, if_pos zc26])
      · -- 29
        refine lv_aload_n hx hb dX7_feed_29 rfl (lv_at hl 0 rfl) ?_
        refine lv_bipush (v := (-6)) hx hb dX7_feed_30 (by decide) ?_
        refine k_i (rr_v (rest := []) X w mX7_refuse kw872 (c_X7_refuse (-6) (vin_lit (by decide +kernel))) m4_0 rfl rfl ⟨Nat.le_of_ble_eq_true rfl, Nat.le_of_ble_eq_true rfl⟩ rfl hl.1 rfl (Nat.le_of_ble_eq_true rfl) dX7_feed_32 ⟨Nat.zero_le _, Nat.zero_le _⟩) w (fun H locs w => ?_)
        obtain ⟨zs32_2, ezs32_2⟩ : ∃ y : Gr, y = g_X7_refuse ρ (-6) := ⟨_, rfl⟩; rw [← ezs32_2] at w
        exact t_i X w hr hlk dX7_feed_35 (by replace ezs32_2 := ezs32_2.symm; subst ezs32_2; simp only [f_X7_feed, if_pos zc2, if_neg zc15, if_neg zc26]) (by replace ezs32_2 := ezs32_2.symm; subst ezs32_2; simp only [g_X7_feed, if_pos zc2, if_neg zc15, if_neg zc26])
  · -- 5
    refine lv_aload_n hx hb dX7_feed_5 rfl (lv_at hl 0 rfl) ?_
    refine lv_bipush (v := (-4)) hx hb dX7_feed_6 (by decide) ?_
    refine k_i (rr_v (rest := []) X w mX7_refuse kw872 (c_X7_refuse (-4) (vin_lit (by decide +kernel))) m4_0 rfl rfl ⟨Nat.le_of_ble_eq_true rfl, Nat.le_of_ble_eq_true rfl⟩ rfl hl.1 rfl (Nat.le_of_ble_eq_true rfl) dX7_feed_8 ⟨Nat.zero_le _, Nat.zero_le _⟩) w (fun H locs w => ?_)
    obtain ⟨zs8, ezs8⟩ : ∃ y : Gr, y = g_X7_refuse ρ (-4) := ⟨_, rfl⟩; rw [← ezs8] at w
    exact t_i X w hr hlk dX7_feed_11 (by replace ezs8 := ezs8.symm; subst ezs8; simp only [f_X7_feed, if_neg zc2]) (by replace ezs8 := ezs8.symm; subst ezs8; simp only [g_X7_feed, if_neg zc2])
