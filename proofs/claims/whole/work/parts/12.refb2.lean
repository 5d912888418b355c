noncomputable def b_X7_leastCap_29 (y1 : Int32) (y2 : Int32) (k : Nat) (v : Int32 × Gr) : Bool × Nat × Int32 × Int32 × Gr :=
  if 1000 ≤ (nI (50 * k)) then
    (false, 69, 0, (v.1, v.2))
  else
    if 0 ≤ v.1 then
      (false, 69, 0, (v.1, v.2))
    else
      let zs44 : Gr := up v.2 0 24 (nI (50 * k))
      let zs49 : Gr := g_X7_holdsFor zs44 y1
      if 0 ≤ (f_X7_holdsFor zs44 y1) then
        (true, 0, 0, ((-9), zs49))
      else
        let zv62 : Int32 := nI (50 * k)
        (true, 0, 0, (zv62, zs49))
noncomputable def l_X7_leastCap_29 (y1 : Int32) (y2 : Int32) (v0 : Int32 × Gr) : Nat × Int32 × Int32 × Gr   := wl (b_X7_leastCap_29 y1 y2) (nn (20 + 1)) 0 v0
noncomputable def f_X7_leastCap (ρ : Gr) (x1 : Int32) : Int32 :=
  if 0 ≤ (f_X7_wrongTides ρ x1) then
    let zv22 : Int32 := ρ 0 24
    let zl29 : Nat × Int32 × Int32 × Gr := (l_X7_leastCap_29 x1 zv22 ((-9), ρ))
    let zs71 : Gr := up zl29.2.2.2 0 24 zv22
    zl29.2.2.1
  else
    let zs14 : Gr := g_X7_refuse ρ (f_X7_wrongTides ρ x1)
    f_X7_refuse ρ (f_X7_wrongTides ρ x1)
noncomputable def g_X7_leastCap (ρ : Gr) (x1 : Int32) : Gr :=
  if 0 ≤ (f_X7_wrongTides ρ x1) then
    let zv22 : Int32 := ρ 0 24
    let zl29 : Nat × Int32 × Int32 × Gr := (l_X7_leastCap_29 x1 zv22 ((-9), ρ))
    let zs71 : Gr := up zl29.2.2.2 0 24 zv22
    zs71
  else
    let zs14 : Gr := g_X7_refuse ρ (f_X7_wrongTides ρ x1)
    zs14
set_option maxRecDepth 100000 in
set_option maxHeartbeats 4000000 in
theorem lp_X7_leastCap_29 {l : Launch} {G : GG} {p : Program} {e : Env} {s : State} {m : MethodId} {args : Array Value} {below : List Frame} {meth : Method} {c : Code} {Q : State → Prop} {σ : St} (X : Cx p m c cX7_leastCap 5 s args RX7 G) (y1 : Int32) (y2 : Int32) (B : Nat) (hB : B < 2 ^ 30) (hN : y1.toNatClampNeg ≤ 200) (z : Nat × Int32 × Int32 × Gr)
    (kk69 : z.1 = 69 → ∀ (H : Heap) (locs : List Loc) (ls : Array Slot), Wh G s σ 4 z.2.2.2 H locs → lv_has ls 5 [(0, .ref (aa G 4 0)), (1, .int y1), (2, .int y2), (3, .int z.2.2.1)] → W p l e (rmv 7 152) s m args below meth c H locs 0 0 Q (F0 m 69 ls [])) :
    ∀ (n k : Nat) (v : Int32 × Gr), k ≤ 20 → 20 - k < n → wl (b_X7_leastCap_29 y1 y2) n k v = z → (WFm B v.2) → ∀ (H : Heap) (locs : List Loc) (ls : Array Slot), Wh G s σ 4 v.2 H locs → lv_has ls 5 [(0, .ref (aa G 4 0)), (1, .int y1), (2, .int y2), (3, .int v.1), (4, .int (nI (50 * k)))] → W p l e (rmv 7 152) s m args below meth c H locs 0 0 Q (F0 m 29 ls []) := by
  have hx := X.1.1
  have hb := X.1.2.1
  intro n
  induction n with
  | zero => intro k v _ h; omega
  | succ n ih =>
    intro k v hkN hn hz hm H locs ls w hl
    refine lv_iload hx hb dX7_leastCap_29 (lv_at hl 4 rfl) ?_
    refine lv_sipush (v := 1000) hx hb dX7_leastCap_31 (by decide) ?_
    refine lv_icmp_ge (tgt := 69) hx hb dX7_leastCap_34 (by decide) (fun zc34 => ?_) (fun zc34 => ?_)
    · -- 69
      have hz1 : z = ((69, 0, (v.1, v.2)) : Nat × Int32 × Int32 × Gr) := by rw [← hz]; exact wl_out (by simp only [b_X7_leastCap_29, if_pos zc34])
      subst hz1
      exact kk69 rfl _ _ _ w (lv_sub hl [0, 1, 2, 3] rfl)
    · -- 37
      have hk : k < 20 := (lc20' hkN zc34)
      refine lv_iload_n hx hb dX7_leastCap_37 rfl (lv_at hl 3 rfl) ?_
      refine lv_if_ge (tgt := 69) hx hb dX7_leastCap_38 (by decide) (fun zc38 => ?_) (fun zc38 => ?_)
      · -- 69
        have hz1 : z = ((69, 0, (v.1, v.2)) : Nat × Int32 × Int32 × Gr) := by rw [← hz]; exact wl_out (by simp only [b_X7_leastCap_29, if_neg zc34, if_pos zc38])
        subst hz1
        exact kk69 rfl _ _ _ w (lv_sub hl [0, 1, 2, 3] rfl)
      · -- 41
        refine lv_aload_n hx hb dX7_leastCap_41 rfl (lv_at hl 0 rfl) ?_
        refine lv_iload hx hb dX7_leastCap_42 (lv_at hl 4 rfl) ?_
        refine pf7_170 X w dX7_leastCap_44 (fun zs44 H locs ezs44 w => ?_)
        have hm : WFm B zs44 := by rw [ezs44]; exact hm
        refine lv_aload_n hx hb dX7_leastCap_47 rfl (lv_at hl 0 rfl) ?_
        refine lv_iload_n hx hb dX7_leastCap_48 rfl (lv_at hl 1 rfl) ?_
        refine k_i (rr_v (rest := []) X w mX7_holdsFor kw1032 (c_X7_holdsFor y1 B hB hm hN) m4_0 rfl rfl ⟨Nat.le_of_ble_eq_true rfl, Nat.le_of_ble_eq_true rfl⟩ rfl hl.1 rfl (Nat.le_of_ble_eq_true rfl) dX7_leastCap_49 ⟨Nat.zero_le _, Nat.zero_le _⟩) w (fun H locs w => ?_)
        obtain ⟨zs49, ezs49⟩ : ∃ y : Gr, y = g_X7_holdsFor zs44 y1 := ⟨_, rfl⟩; rw [← ezs49] at w
        have hm : WFm B zs49 := by rw [ezs49]; exact (holdsFor_Sv _ _).wf hm
        refine lv_if_ge (tgt := 60) hx hb dX7_leastCap_52 (by decide) (fun zc52 => ?_) (fun zc52 => ?_)
        · -- 60
          refine lv_bipush (v := (-9)) hx hb dX7_leastCap_60 (by decide) ?_
          refine lv_istore_n (lv' := [(3, .int (-9)), (0, .ref (aa G 4 0)), (1, .int y1), (2, .int y2), (4, .int (nI (50 * k)))]) hx hb dX7_leastCap_62 rfl hl (by decide) rfl (fun ls hl => ?_)
          refine lv_iinc (v := nI ((50 * k) + 50)) (lv' := [(4, .int (nI ((50 * k) + 50))), (3, .int (-9)), (0, .ref (aa G 4 0)), (1, .int y1), (2, .int y2)]) hx hb dX7_leastCap_63 hl (k := 4) rfl (nI_add _ 50) (by decide) rfl (fun ls hl => ?_)
          refine lv_goto (tgt := 29) hx hb dX7_leastCap_66 (by decide) ?_
          have hk : k < 20 := (lc20' hkN zc34)
          exact ih (k + 1) ((-9), zs49) (by omega) (by omega) (by rw [← hz]; replace ezs49 := ezs49.symm; subst ezs49; replace ezs44 := ezs44.symm; subst ezs44; exact (wl_go (t := 0) (r := 0) (by simp only [b_X7_leastCap_29, if_neg zc34, if_neg zc38, if_pos zc52])).symm) hm _ _ _ w (lv_sub hl [2, 3, 4, 1, 0] rfl)
        · -- 55
          refine lv_iload hx hb dX7_leastCap_55 (lv_at hl 4 rfl) ?_
          refine lv_goto (tgt := 62) hx hb dX7_leastCap_57 (by decide) ?_
          refine lv_topi (fun zv62 ezv62 => ?_)
          refine lv_istore_n (lv' := [(3, .int zv62), (0, .ref (aa G 4 0)), (1, .int y1), (2, .int y2), (4, .int (nI (50 * k)))]) hx hb dX7_leastCap_62 rfl hl (by decide) rfl (fun ls hl => ?_)
          refine lv_iinc (v := nI ((50 * k) + 50)) (lv' := [(4, .int (nI ((50 * k) + 50))), (3, .int zv62), (0, .ref (aa G 4 0)), (1, .int y1), (2, .int y2)]) hx hb dX7_leastCap_63 hl (k := 4) rfl (nI_add _ 50) (by decide) rfl (fun ls hl => ?_)
          refine lv_goto (tgt := 29) hx hb dX7_leastCap_66 (by decide) ?_
          have hk : k < 20 := (lc20' hkN zc34)
          exact ih (k + 1) (zv62, zs49) (by omega) (by omega) (by rw [← hz]; replace ezv62 := ezv62.symm; subst ezv62; replace ezs49 := ezs49.symm; subst ezs49; replace ezs44 := ezs44.symm; subst ezs44; exact (wl_go (t := 0) (r := 0) (by simp only [b_X7_leastCap_29, if_neg zc34, if_neg zc38, if_neg zc52])).symm) hm _ _ _ w (lv_sub hl [2, 3, 4, 1, 0] rfl)
set_option maxRecDepth 100000 in
set_option maxHeartbeats 4000000 in
theorem c_X7_leastCap {l : Launch} {G : GG} {σ : St} {ρ : Gr}  (x1 : Int32) (B : Nat) (hB : B < 2 ^ 30) (hm : WFm B ρ) : MM l G yX7_leastCap cX7_leastCap 5 7 152 (some .int) [.ref (aa G 4 0), .int x1] (setG σ 4 ρ) (Qi G (f_X7_leastCap ρ x1) (setG σ 4 (g_X7_leastCap ρ x1))) := by
  refine MM.of (by decide) (Nat.le_of_ble_eq_true rfl) ?_
  intro p e s m below meth c ls X hr hlk w hl
  have hx := X.1.1
  have hb := X.1.2.1
  have hl : lv_has ls 5 [(0, .ref (aa G 4 0)), (1, .int x1)] := hl
  refine lv_aload_n hx hb dX7_leastCap_0 rfl (lv_at hl 0 rfl) ?_
  refine lv_iload_n hx hb dX7_leastCap_1 rfl (lv_at hl 1 rfl) ?_
  refine k_i (rr_v (rest := []) X w mX7_wrongTides kw986 (c_X7_wrongTides x1) m4_0 rfl rfl ⟨Nat.le_of_ble_eq_true rfl, Nat.le_of_ble_eq_true rfl⟩ rfl hl.1 rfl (Nat.le_of_ble_eq_true rfl) dX7_leastCap_2 ⟨Nat.zero_le _, Nat.zero_le _⟩) w (fun H locs w => ?_)
  refine lv_if_ge (tgt := 18) hx hb dX7_leastCap_5 (by decide) (fun zc5 => ?_) (fun zc5 => ?_)
  · -- 18
    refine lv_aload_n hx hb dX7_leastCap_18 rfl (lv_at hl 0 rfl) ?_
    refine gf7_170 X w dX7_leastCap_19 ?_
    refine lv_topi (fun zv22 ezv22 => ?_)
    refine lv_istore_n (lv' := [(2, .int zv22), (0, .ref (aa G 4 0)), (1, .int x1)]) hx hb dX7_leastCap_22 rfl hl (by decide) rfl (fun ls hl => ?_)
    refine lv_bipush (v := (-9)) hx hb dX7_leastCap_23 (by decide) ?_
    refine lv_istore_n (lv' := [(3, .int (-9)), (2, .int zv22), (0, .ref (aa G 4 0)), (1, .int x1)]) hx hb dX7_leastCap_25 rfl hl (by decide) rfl (fun ls hl => ?_)
    refine lv_iconst (v := 0) hx hb dX7_leastCap_26 (by decide) ?_
    refine lv_istore (lv' := [(4, .int 0), (3, .int (-9)), (2, .int zv22), (0, .ref (aa G 4 0)), (1, .int x1)]) hx hb dX7_leastCap_27 hl (by decide) rfl (fun ls hl => ?_)
    obtain ⟨zl29, ezl29⟩ : ∃ y : Nat × Int32 × Int32 × Gr, y = (l_X7_leastCap_29 x1 zv22 ((-9), ρ)) := ⟨_, rfl⟩
    refine lp_X7_leastCap_29 X x1 zv22 B hB (wt_200 zc5) zl29 (fun hz69 H locs ls w hl => ?_) (nn (20 + 1)) 0 ((-9), ρ) (Nat.zero_le _) (by rw [nn_eq]; exact Nat.lt_succ_of_le (Nat.sub_le _ _)) ezl29.symm hm _ _ _ w (lv_sub hl [3, 4, 2, 1, 0] rfl)
    · -- leaves at 69
      refine lv_aload_n hx hb dX7_leastCap_69 rfl (lv_at hl 0 rfl) ?_
      refine lv_iload_n hx hb dX7_leastCap_70 rfl (lv_at hl 2 rfl) ?_
      refine pf7_170 X w dX7_leastCap_71 (fun zs71 H locs ezs71 w => ?_)
      refine lv_iload_n hx hb dX7_leastCap_74 rfl (lv_at hl 3 rfl) ?_
      exact t_i X w hr hlk dX7_leastCap_75 (by replace ezs71 := ezs71.symm; subst ezs71; replace ezl29 := ezl29.symm; subst ezl29; replace ezv22 := ezv22.symm; subst ezv22; simp only [f_X7_leastCap, if_pos zc5]) (by replace ezs71 := ezs71.symm; subst ezs71; replace ezl29 := ezl29.symm; subst ezl29; replace ezv22 := ezv22.symm; subst ezv22; simp only [g_X7_leastCap, if_pos zc5])
  · -- 8
    refine lv_aload_n hx hb dX7_leastCap_8 rfl (lv_at hl 0 rfl) ?_
    refine lv_aload_n hx hb dX7_leastCap_9 rfl (lv_at hl 0 rfl) ?_
    refine lv_iload_n hx hb dX7_leastCap_10 rfl (lv_at hl 1 rfl) ?_
    refine k_i (rr_v (rest := [.ref (aa G 4 0)]) X w mX7_wrongTides kw986 (c_X7_wrongTides x1) m4_0 rfl rfl ⟨Nat.le_of_ble_eq_true rfl, Nat.le_of_ble_eq_true rfl⟩ rfl hl.1 rfl (Nat.le_of_ble_eq_true rfl) dX7_leastCap_11 ⟨Nat.zero_le _, Nat.zero_le _⟩) w (fun H locs w => ?_)
    refine k_i (rr_v (rest := []) X w mX7_refuse kw872 (c_X7_refuse (f_X7_wrongTides ρ x1) (wt_in zc5)) m4_0 rfl rfl ⟨Nat.le_of_ble_eq_true rfl, Nat.le_of_ble_eq_true rfl⟩ rfl hl.1 rfl (Nat.le_of_ble_eq_true rfl) dX7_leastCap_14 ⟨Nat.zero_le _, Nat.zero_le _⟩) w (fun H locs w => ?_)
    obtain ⟨zs14, ezs14⟩ : ∃ y : Gr, y = g_X7_refuse ρ (f_X7_wrongTides ρ x1) := ⟨_, rfl⟩; rw [← ezs14] at w
    exact t_i X w hr hlk dX7_leastCap_17 (by replace ezs14 := ezs14.symm; subst ezs14; simp only [f_X7_leastCap, if_neg zc5]) (by replace ezs14 := ezs14.symm; subst ezs14; simp only [g_X7_leastCap, if_neg zc5])
