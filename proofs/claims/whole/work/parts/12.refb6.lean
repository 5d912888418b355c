noncomputable def b_X7_judge_21 (y1 : Int32) (k : Nat) (v : Gr) : Bool × Nat × Int32 × Gr :=
  if (v 0 32) ≤ (nI k) then
    (false, 65, 0, v)
  else
    if (v 31 (nI k).toNatClampNeg) = 9 then
      (true, 0, 0, v)
    else
      if (f_X7_isCell v (v 31 (nI k).toNatClampNeg)) = 0 then
        let zs55 : Gr := g_X7_refuse v (-1)
        (false, 58, f_X7_refuse v (-1), zs55)
      else
        (true, 0, 0, v)
noncomputable def l_X7_judge_21 (y1 : Int32) (v0 : Gr) : Nat × Int32 × Gr   := wl (b_X7_judge_21 y1) (nn ((v0 0 32).toNatClampNeg + 1)) 0 v0
noncomputable def b_X7_judge_91 (y1 : Int32) (k : Nat) (v : Int32 × Int32 × Gr) : Int32 × Int32 × Gr :=
  let zs101 : Gr := g_X7_flow v.2.2
  if (zs101 31 (nI k).toNatClampNeg) = 9 then
    let zs129_2 : Gr := g_X7_take zs101 (-9)
    let zs139_2 : Gr := up zs129_2 0 21 ((zs129_2 0 21) + 1)
    let zv148_2 : Int32 := v.2.1 + (f_X7_costNow zs139_2)
    if 0 ≤ v.1 then
      (v.1, zv148_2, zs139_2)
    else
      if (zs139_2 31 (nI k).toNatClampNeg) = 9 then
        (v.1, zv148_2, zs139_2)
      else
        if (zs139_2 0 36) = 0 then
          let zv178_2 : Int32 := nI k
          (zv178_2, zv148_2, zs139_2)
        else
          (v.1, zv148_2, zs139_2)
  else
    let zs129 : Gr := g_X7_take zs101 (zs101 31 (nI k).toNatClampNeg)
    let zs139 : Gr := up zs129 0 21 ((zs129 0 21) + 1)
    let zv148 : Int32 := v.2.1 + (f_X7_costNow zs139)
    if 0 ≤ v.1 then
      (v.1, zv148, zs139)
    else
      if (zs139 31 (nI k).toNatClampNeg) = 9 then
        (v.1, zv148, zs139)
      else
        if (zs139 0 36) = 0 then
          let zv178 : Int32 := nI k
          (zv178, zv148, zs139)
        else
          (v.1, zv148, zs139)
noncomputable def l_X7_judge_91 (y1 : Int32) (v0 : Int32 × Int32 × Gr) : Int32 × Int32 × Gr := itn (b_X7_judge_91 y1) (v0.2.2 0 32).toNatClampNeg v0
noncomputable def f_X7_judge (ρ : Gr) (x1 : Int32) : Int32 :=
  if (f_X7_in x1.toInt64 0 2) = 0 then
    let zs15 : Gr := g_X7_refuse ρ (-2)
    f_X7_refuse ρ (-2)
  else
    let zl21 : Nat × Int32 × Gr := (l_X7_judge_21 x1 ρ)
    if zl21.1 = 65 then
      if (zl21.2.2 0 0) = 0 then
        let zs75 : Gr := g_X7_refuse zl21.2.2 (-3)
        f_X7_refuse zl21.2.2 (-3)
      else
        let zs80 : Gr := g_X7_save zl21.2.2
        let zl91 : Int32 × Int32 × Gr := (l_X7_judge_91 x1 ((-9), 0, zs80))
        let zv190 : Int32 := f_X7_feetLacking zl91.2.2 0
        let zs194 : Gr := up zl91.2.2 0 32 0
        let zs198 : Gr := g_X7_putBack zs194
        if x1 = 0 then
          zl91.1
        else
          if x1 = 1 then
            zl91.2.1
          else
            zv190
    else
      zl21.2.1
noncomputable def g_X7_judge (ρ : Gr) (x1 : Int32) : Gr :=
  if (f_X7_in x1.toInt64 0 2) = 0 then
    let zs15 : Gr := g_X7_refuse ρ (-2)
    zs15
  else
    let zl21 : Nat × Int32 × Gr := (l_X7_judge_21 x1 ρ)
    if zl21.1 = 65 then
      if (zl21.2.2 0 0) = 0 then
        let zs75 : Gr := g_X7_refuse zl21.2.2 (-3)
        zs75
      else
        let zs80 : Gr := g_X7_save zl21.2.2
        let zl91 : Int32 × Int32 × Gr := (l_X7_judge_91 x1 ((-9), 0, zs80))
        let zv190 : Int32 := f_X7_feetLacking zl91.2.2 0
        let zs194 : Gr := up zl91.2.2 0 32 0
        let zs198 : Gr := g_X7_putBack zs194
        zs198
    else
      zl21.2.2
theorem jl_Tt (y1 : Int32) (v0 : Int32 × Int32 × Gr) : Tt v0.2.2 (l_X7_judge_91 y1 v0).2.2 := by
  refine itn_P (f := b_X7_judge_91 y1) (fun v : Int32 × Int32 × Gr => Tt v0.2.2 v.2.2) (fun k v h => ?_) _ _ Tt.rf
  dsimp only [b_X7_judge_91]
  repeat' split
  all_goals exact h.trans (((flow_Fm _).trans (take_Fm _ _)).tt.trans Tt.u21)
set_option maxRecDepth 100000 in
set_option maxHeartbeats 4000000 in
theorem lp_X7_judge_21 {l : Launch} {G : GG} {p : Program} {e : Env} {s : State} {m : MethodId} {args : Array Value} {below : List Frame} {meth : Method} {c : Code} {Q : State → Prop} {σ : St} (X : Cx p m c cX7_judge 5 s args RX7 G) (y1 : Int32) (w0 : Gr) (hr0 : (w0 0 32).toNatClampNeg ≤ 28) (z : Nat × Int32 × Gr)
    (kk65 : z.1 = 65 → (z.1 = 65 → (z.2.2 = w0 ∧ ∀ i, i < (w0 0 32).toNatClampNeg → w0 31 i = 9 ∨ ¬ f_X7_isCell w0 (w0 31 i) = 0)) → ∀ (H : Heap) (locs : List Loc) (ls : Array Slot), Wh G s σ 4 z.2.2 H locs → lv_has ls 5 [(0, .ref (aa G 4 0)), (1, .int y1)] → W p l e (rmv 5 108) s m args below meth c H locs 0 0 Q (F0 m 65 ls []))
    (kk58 : z.1 = 58 → (z.1 = 65 → (z.2.2 = w0 ∧ ∀ i, i < (w0 0 32).toNatClampNeg → w0 31 i = 9 ∨ ¬ f_X7_isCell w0 (w0 31 i) = 0)) → ∀ (H : Heap) (locs : List Loc) (ls : Array Slot), Wh G s σ 4 z.2.2 H locs → lv_has ls 5 [(0, .ref (aa G 4 0)), (1, .int y1)] → W p l e (rmv 5 108) s m args below meth c H locs 0 0 Q (F0 m 58 ls [.int z.2.1])) :
    ∀ (n k : Nat) (v : Gr), k ≤ (w0 0 32).toNatClampNeg → (w0 0 32).toNatClampNeg - k < n → wl (b_X7_judge_21 y1) n k v = z → (v = w0) → (∀ i, i < k → w0 31 i = 9 ∨ ¬ f_X7_isCell w0 (w0 31 i) = 0) → ∀ (H : Heap) (locs : List Loc) (ls : Array Slot), Wh G s σ 4 v H locs → lv_has ls 5 [(0, .ref (aa G 4 0)), (1, .int y1), (2, .int (nI k))] → W p l e (rmv 5 108) s m args below meth c H locs 0 0 Q (F0 m 21 ls []) := by
  have hx := X.1.1
  have hb := X.1.2.1
  intro n
  induction n with
  | zero => intro k v _ h; omega
  | succ n ih =>
    intro k v hkN hn hz hv hr H locs ls w hl
    refine lv_iload_n hx hb dX7_judge_21 rfl (lv_at hl 2 rfl) ?_
    refine lv_aload_n hx hb dX7_judge_22 rfl (lv_at hl 0 rfl) ?_
    refine gf7_261 X w dX7_judge_23 ?_
    refine lv_icmp_ge (tgt := 65) hx hb dX7_judge_26 (by decide) (fun zc26 => ?_) (fun zc26 => ?_)
    · -- 65
      have hz1 : z = ((65, 0, v) : Nat × Int32 × Gr) := by rw [← hz]; exact wl_out (by simp only [b_X7_judge_21, if_pos zc26])
      subst hz1
      exact kk65 rfl (by first | (intro h; exact absurd (show (58 : Nat) = 65 from h) (by decide)) | exact fun _ => ⟨hv, fun i hi => hr i (by have := lp_eq hkN (show (w0 0 32) ≤ nI k by rw [← hv]; exact zc26); omega)⟩) _ _ _ w (lv_sub hl [0, 1] rfl)
    · -- 29
      have hk : k < (w0 0 32).toNatClampNeg := (lp_lt hkN (by rw [← hv]; exact zc26))
      refine lv_aload_n hx hb dX7_judge_29 rfl (lv_at hl 0 rfl) ?_
      refine gf7_75 X w dX7_judge_30 ?_
      refine lv_iload_n hx hb dX7_judge_33 rfl (lv_at hl 2 rfl) ?_
      refine ia (f := 31) (n := 28) X w m4_31 rfl (vp_in_nI (by omega) (by decide)) dX7_judge_34 ?_
      refine lv_bipush (v := 9) hx hb dX7_judge_35 (by decide) ?_
      refine lv_icmp_eq (tgt := 59) hx hb dX7_judge_37 (by decide) (fun zc37 => ?_) (fun zc37 => ?_)
      · -- 59
        refine lv_iinc (v := nI (k + 1)) (lv' := [(2, .int (nI (k + 1))), (0, .ref (aa G 4 0)), (1, .int y1)]) hx hb dX7_judge_59 hl (k := 2) rfl (nI_1 _) (by decide) rfl (fun ls hl => ?_)
        refine lv_goto (tgt := 21) hx hb dX7_judge_62 (by decide) ?_
        have hk : k < (w0 0 32).toNatClampNeg := (lp_lt hkN (by rw [← hv]; exact zc26))
        exact ih (k + 1) v (by omega) (by omega) (by rw [← hz]; exact (wl_go (t := 0) (r := 0) (by simp only [b_X7_judge_21, if_neg zc26, if_pos zc37])).symm) hv (lt_s hr (jstep hv (by omega) (by first | exact Or.inl zc37 | exact Or.inr zc50))) _ _ _ w (lv_sub hl [1, 2, 0] rfl)
      · -- 40
        refine lv_aload_n hx hb dX7_judge_40 rfl (lv_at hl 0 rfl) ?_
        refine lv_aload_n hx hb dX7_judge_41 rfl (lv_at hl 0 rfl) ?_
        refine gf7_75 X w dX7_judge_42 ?_
        refine lv_iload_n hx hb dX7_judge_45 rfl (lv_at hl 2 rfl) ?_
        refine ia (f := 31) (n := 28) X w m4_31 rfl (vp_in_nI (by omega) (by decide)) dX7_judge_46 ?_
        refine k_i (rr_v (rest := []) X w mX7_isCell kw884 (c_X7_isCell (v 31 (nI k).toNatClampNeg)) m4_0 rfl rfl ⟨Nat.le_of_ble_eq_true rfl, Nat.le_of_ble_eq_true rfl⟩ rfl hl.1 rfl (Nat.le_of_ble_eq_true rfl) dX7_judge_47 ⟨Nat.zero_le _, Nat.zero_le _⟩) w (fun H locs w => ?_)
        refine lv_if_ne (tgt := 59) hx hb dX7_judge_50 (by decide) (fun zc50 => ?_) (fun zc50 => ?_)
        · -- 59
          refine lv_iinc (v := nI (k + 1)) (lv' := [(2, .int (nI (k + 1))), (0, .ref (aa G 4 0)), (1, .int y1)]) hx hb dX7_judge_59 hl (k := 2) rfl (nI_1 _) (by decide) rfl (fun ls hl => ?_)
          refine lv_goto (tgt := 21) hx hb dX7_judge_62 (by decide) ?_
          have hk : k < (w0 0 32).toNatClampNeg := (lp_lt hkN (by rw [← hv]; exact zc26))
          exact ih (k + 1) v (by omega) (by omega) (by rw [← hz]; exact (wl_go (t := 0) (r := 0) (by simp only [b_X7_judge_21, if_neg zc26, if_neg zc37, if_neg zc50])).symm) hv (lt_s hr (jstep hv (by omega) (by first | exact Or.inl zc37 | exact Or.inr zc50))) _ _ _ w (lv_sub hl [1, 2, 0] rfl)
        · -- 53
          refine lv_aload_n hx hb dX7_judge_53 rfl (lv_at hl 0 rfl) ?_
          refine lv_iconst (v := (-1)) hx hb dX7_judge_54 (by decide) ?_
          refine k_i (rr_v (rest := []) X w mX7_refuse kw872 (c_X7_refuse (-1) (vin_lit (by decide +kernel))) m4_0 rfl rfl ⟨Nat.le_of_ble_eq_true rfl, Nat.le_of_ble_eq_true rfl⟩ rfl hl.1 rfl (Nat.le_of_ble_eq_true rfl) dX7_judge_55 ⟨Nat.zero_le _, Nat.zero_le _⟩) w (fun H locs w => ?_)
          obtain ⟨zs55, ezs55⟩ : ∃ y : Gr, y = g_X7_refuse v (-1) := ⟨_, rfl⟩; rw [← ezs55] at w
          have hz1 : z = ((58, f_X7_refuse v (-1), zs55) : Nat × Int32 × Gr) := by rw [← hz]; subst ezs55; exact wl_out (by simp only [b_X7_judge_21, if_neg zc26, if_neg zc37, if_pos zc50])
          subst hz1
          exact kk58 rfl (by first | (intro h; exact absurd (show (58 : Nat) = 65 from h) (by decide)) | exact fun _ => ⟨hv, fun i hi => hr i (by have := lp_eq hkN (show (w0 0 32) ≤ nI k by rw [← hv]; exact zc26); omega)⟩) _ _ _ w (lv_sub hl [0, 1] rfl)
