theorem topeq {p : Program} {l : Launch} {e : Env} {R : Room} {s : State} {m : MethodId} {args : Array Value} {below : List Frame} {meth : Method} {c : Code} {H : Heap} {locs : List Loc} {cells slots : Nat} {Q : State → Prop} {pc : Nat} {ls : Array Slot} {rest : List Value} {x y : Int32} (h : x = y) (k : W p l e R s m args below meth c H locs cells slots Q (F0 m pc ls (.int y :: rest))) : W p l e R s m args below meth c H locs cells slots Q (F0 m pc ls (.int x :: rest)) := by rw [h]; exact k
/-- the place at which it reads, and the end -/
def PA (ρ : Gr) : Prop := ∃ a e : Nat, a ≤ e ∧ e ≤ 96 ∧ ρ 0 43 = nI a ∧ ρ 0 44 = nI e
theorem PA.i {ρ : Gr} (h : PA ρ) (c : ρ 0 43 < ρ 0 44) : vp_in (ρ 0 43) 96 := by
  obtain ⟨a, e, h1, h2, e1, e2⟩ := h
  rw [e1, e2] at c
  rw [e1]
  have := (nI_ltI (a := a) (b := e) (by omega) (by omega)).mp c
  exact vp_in_nI (by omega) (by decide)
theorem PA.inc {ρ : Gr} (h : PA ρ) (c : ρ 0 43 < ρ 0 44) : ∃ a e : Nat, a ≤ e ∧ e ≤ 96 ∧ ρ 0 43 + 1 = nI a ∧ ρ 0 44 = nI e := by
  obtain ⟨a, e, h1, h2, e1, e2⟩ := h
  rw [e1, e2] at c
  have := (nI_ltI (a := a) (b := e) (by omega) (by omega)).mp c
  exact ⟨a + 1, e, by omega, h2, by rw [e1, nI_1], e2⟩
theorem rn2 {k : Nat} (hk : k ≤ 2) (c : ¬ (3 : Int32) ≤ nI (1 + k)) : k < 2 := by
  have : ¬ 3 ≤ 1 + k := fun q => c ((nI_leI (a := 3) (by decide) (by omega)).mpr q)
  omega
noncomputable def f_X7_here (ρ : Gr)  : Int32 :=
  if (ρ 0 43) < (ρ 0 44) then
    ρ 29 (ρ 0 43).toNatClampNeg
  else
    (-1)
set_option maxRecDepth 100000 in
set_option maxHeartbeats 4000000 in
theorem c_X7_here {l : Launch} {G : GG} {σ : St} {ρ : Gr}  (hp : PA ρ) : MM l G yX7_here cX7_here 1 0 0 (some .int) [.ref (aa G 4 0)] (setG σ 4 ρ) (Qi G (f_X7_here ρ) (setG σ 4 ρ)) := by
  refine MM.of (by decide) (Nat.le_of_ble_eq_true rfl) ?_
  intro p e s m below meth c ls X hr hlk w hl
  have hx := X.1.1
  have hb := X.1.2.1
  have hl : lv_has ls 1 [(0, .ref (aa G 4 0))] := hl
  refine lv_aload_n hx hb dX7_here_0 rfl (lv_at hl 0 rfl) ?_
  refine gf7_268 X w dX7_here_1 ?_
  refine lv_aload_n hx hb dX7_here_4 rfl (lv_at hl 0 rfl) ?_
  refine gf7_271 X w dX7_here_5 ?_
  refine lv_icmp_lt (tgt := 15) hx hb dX7_here_8 (by decide) (fun zc8 => ?_) (fun zc8 => ?_)
  · -- 15
    refine lv_aload_n hx hb dX7_here_15 rfl (lv_at hl 0 rfl) ?_
    refine gf7_72 X w dX7_here_16 ?_
    refine lv_aload_n hx hb dX7_here_19 rfl (lv_at hl 0 rfl) ?_
    refine gf7_268 X w dX7_here_20 ?_
    refine ia (f := 29) (n := 96) X w m4_29 rfl (hp.i zc8) dX7_here_23 ?_
    exact t_i X w hr hlk dX7_here_24 (by simp only [f_X7_here, if_pos zc8]) rfl
  · -- 11
    refine lv_iconst (v := (-1)) hx hb dX7_here_11 (by decide) ?_
    refine lv_goto (tgt := 24) hx hb dX7_here_12 (by decide) ?_
    exact t_i X w hr hlk dX7_here_24 (by simp only [f_X7_here, if_neg zc8]) rfl

theorem here_lt {ρ : Gr} (h : ¬ f_X7_here ρ = -1) : ρ 0 43 < ρ 0 44 := by
  unfold f_X7_here at h
  by_cases c : ρ 0 43 < ρ 0 44
  · exact c
  · rw [if_neg c] at h; exact absurd rfl h
theorem here_c {ρ : Gr} {x : Int32} (h : f_X7_here ρ = x) (hx : ¬ x = -1) : ρ 0 43 < ρ 0 44 := here_lt (by rw [h]; exact hx)
theorem dig_lt {ρ : Gr} (h : ¬ f_X7_in (f_X7_here ρ).toInt64 48 57 = 0) : ρ 0 43 < ρ 0 44 := by
  have h' : ¬ f_X7_in (f_X7_here ρ).toInt64 (48 : Int32).toInt64 (57 : Int32).toInt64 = 0 := h
  refine here_lt (fun e => ?_)
  rw [e] at h'
  exact absurd (in_ii.mp h').1 (by decide)

noncomputable def g_X7_takeSign (ρ : Gr) (x1 : Int32) : Gr :=
  if (ρ 0 45) = 0 then
    if x1 = 0 then
      let zs17_3 : Gr := up ρ 0 45 1
      let zs38_3 : Gr := up zs17_3 0 43 ((ρ 0 43) + 0)
      zs38_3
    else
      let zs17_2 : Gr := up ρ 0 45 0
      let zs38_2 : Gr := up zs17_2 0 43 ((ρ 0 43) + 1)
      zs38_2
  else
    let zs17 : Gr := up ρ 0 45 1
    let zs38 : Gr := up zs17 0 43 ((ρ 0 43) + 0)
    zs38
set_option maxRecDepth 100000 in
set_option maxHeartbeats 4000000 in
theorem c_X7_takeSign {l : Launch} {G : GG} {σ : St} {ρ : Gr}  (x1 : Int32) : MM l G yX7_takeSign cX7_takeSign 2 0 0 none [.ref (aa G 4 0), .int x1] (setG σ 4 ρ) (Qv G (setG σ 4 (g_X7_takeSign ρ x1))) := by
  refine MM.of (by decide) (Nat.le_of_ble_eq_true rfl) ?_
  intro p e s m below meth c ls X hr hlk w hl
  have hx := X.1.1
  have hb := X.1.2.1
  have hl : lv_has ls 2 [(0, .ref (aa G 4 0)), (1, .int x1)] := hl
  refine lv_aload_n hx hb dX7_takeSign_0 rfl (lv_at hl 0 rfl) ?_
  refine lv_aload_n hx hb dX7_takeSign_1 rfl (lv_at hl 0 rfl) ?_
  refine gf7_274 X w dX7_takeSign_2 ?_
  refine lv_if_ne (tgt := 12) hx hb dX7_takeSign_5 (by decide) (fun zc5 => ?_) (fun zc5 => ?_)
  · -- 12
    refine lv_iconst (v := 1) hx hb dX7_takeSign_12 (by decide) ?_
    refine lv_goto (tgt := 17) hx hb dX7_takeSign_13 (by decide) ?_
    refine pf7_274 X w isB1 dX7_takeSign_17 (fun zs17 H locs ezs17 w => ?_)
    refine lv_aload_n hx hb dX7_takeSign_20 rfl (lv_at hl 0 rfl) ?_
    refine lv_dup hx hb dX7_takeSign_21 rfl ?_
    refine gf7_268 X w dX7_takeSign_22 ?_
    refine topeq (show zs17 0 43 = ρ 0 43 from by rw [ezs17]; rfl) ?_
    refine lv_aload_n hx hb dX7_takeSign_25 rfl (lv_at hl 0 rfl) ?_
    refine gf7_274 X w dX7_takeSign_26 ?_
    refine topeq (show zs17 0 45 = 1 from by rw [ezs17]; rfl) ?_
    refine lv_if_eq (tgt := 36) hx hb dX7_takeSign_29 (by decide) (fun zc29 => absurd zc29 (by decide)) (fun _ => ?_)
    refine lv_iconst (v := 0) hx hb dX7_takeSign_32 (by decide) ?_
    refine lv_goto (tgt := 37) hx hb dX7_takeSign_33 (by decide) ?_
    change W _ _ _ _ _ _ _ _ _ _ _ _ _ _ _ (F0 m 37 ls _)
    refine lv_iadd hx hb dX7_takeSign_37 ?_
    refine pf7_268 X w dX7_takeSign_38 (fun zs38 H locs ezs38 w => ?_)
    exact t_v X w hr hlk dX7_takeSign_41 (by replace ezs38 := ezs38.symm; subst ezs38; replace ezs17 := ezs17.symm; subst ezs17; simp only [g_X7_takeSign, if_neg zc5])
  · -- 8
    refine lv_iload_n hx hb dX7_takeSign_8 rfl (lv_at hl 1 rfl) ?_
    refine lv_if_ne (tgt := 16) hx hb dX7_takeSign_9 (by decide) (fun zc9 => ?_) (fun zc9 => ?_)
    · -- 16
      refine lv_iconst (v := 0) hx hb dX7_takeSign_16 (by decide) ?_
      refine pf7_274 X w isB0 dX7_takeSign_17 (fun zs17_2 H locs ezs17_2 w => ?_)
      refine lv_aload_n hx hb dX7_takeSign_20 rfl (lv_at hl 0 rfl) ?_
      refine lv_dup hx hb dX7_takeSign_21 rfl ?_
      refine gf7_268 X w dX7_takeSign_22 ?_
      refine topeq (show zs17_2 0 43 = ρ 0 43 from by rw [ezs17_2]; rfl) ?_
      refine lv_aload_n hx hb dX7_takeSign_25 rfl (lv_at hl 0 rfl) ?_
      refine gf7_274 X w dX7_takeSign_26 ?_
      refine topeq (show zs17_2 0 45 = 0 from by rw [ezs17_2]; rfl) ?_
      refine lv_if_eq (tgt := 36) hx hb dX7_takeSign_29 (by decide) (fun _ => ?_) (fun zc29 => absurd (by decide) zc29)
      refine lv_iconst (v := 1) hx hb dX7_takeSign_36 (by decide) ?_
      refine lv_iadd hx hb dX7_takeSign_37 ?_
      refine pf7_268 X w dX7_takeSign_38 (fun zs38_2 H locs ezs38_2 w => ?_)
      change W _ _ _ _ _ _ _ _ _ _ _ _ _ _ _ (F0 m 41 ls _)
      exact t_v X w hr hlk dX7_takeSign_41 (by replace ezs38_2 := ezs38_2.symm; subst ezs38_2; replace ezs17_2 := ezs17_2.symm; subst ezs17_2; simp only [g_X7_takeSign, if_pos zc5, if_neg zc9])
    · -- 12
      refine lv_iconst (v := 1) hx hb dX7_takeSign_12 (by decide) ?_
      refine lv_goto (tgt := 17) hx hb dX7_takeSign_13 (by decide) ?_
      refine pf7_274 X w isB1 dX7_takeSign_17 (fun zs17_3 H locs ezs17_3 w => ?_)
      refine lv_aload_n hx hb dX7_takeSign_20 rfl (lv_at hl 0 rfl) ?_
      refine lv_dup hx hb dX7_takeSign_21 rfl ?_
      refine gf7_268 X w dX7_takeSign_22 ?_
      refine topeq (show zs17_3 0 43 = ρ 0 43 from by rw [ezs17_3]; rfl) ?_
      refine lv_aload_n hx hb dX7_takeSign_25 rfl (lv_at hl 0 rfl) ?_
      refine gf7_274 X w dX7_takeSign_26 ?_
      refine topeq (show zs17_3 0 45 = 1 from by rw [ezs17_3]; rfl) ?_
      refine lv_if_eq (tgt := 36) hx hb dX7_takeSign_29 (by decide) (fun zc29 => absurd zc29 (by decide)) (fun _ => ?_)
      refine lv_iconst (v := 0) hx hb dX7_takeSign_32 (by decide) ?_
      refine lv_goto (tgt := 37) hx hb dX7_takeSign_33 (by decide) ?_
      change W _ _ _ _ _ _ _ _ _ _ _ _ _ _ _ (F0 m 37 ls _)
      refine lv_iadd hx hb dX7_takeSign_37 ?_
      refine pf7_268 X w dX7_takeSign_38 (fun zs38_3 H locs ezs38_3 w => ?_)
      exact t_v X w hr hlk dX7_takeSign_41 (by replace ezs38_3 := ezs38_3.symm; subst ezs38_3; replace ezs17_3 := ezs17_3.symm; subst ezs17_3; simp only [g_X7_takeSign, if_pos zc5, if_pos zc9])

theorem takeSign_PA {ρ : Gr} {x : Int32} (h : PA ρ) (hx : ¬ x = 0 → ρ 0 43 < ρ 0 44) : PA (g_X7_takeSign ρ x) := by
  have h0 : ∃ a e : Nat, a ≤ e ∧ e ≤ 96 ∧ ρ 0 43 + 0 = nI a ∧ ρ 0 44 = nI e := by
    obtain ⟨a, e, h1, h2, e1, e2⟩ := h
    exact ⟨a, e, h1, h2, by rw [e1]; exact Int32.add_zero _, e2⟩
  unfold g_X7_takeSign
  split
  · split
    · exact h0
    · rename_i h1 h2; exact h.inc (hx h2)
  · exact h0

noncomputable def f_X7_readDigit (ρ : Gr)  : Int32 :=
  let zv4 : Int32 := f_X7_here ρ
  let zs17 : Gr := g_X7_takeSign ρ (f_X7_in zv4.toInt64 48 57)
  if (zs17 0 45) = 0 then
    zv4 - 48
  else
    0
noncomputable def g_X7_readDigit (ρ : Gr)  : Gr :=
  let zv4 : Int32 := f_X7_here ρ
  let zs17 : Gr := g_X7_takeSign ρ (f_X7_in zv4.toInt64 48 57)
  zs17
set_option maxRecDepth 100000 in
set_option maxHeartbeats 4000000 in
theorem c_X7_readDigit {l : Launch} {G : GG} {σ : St} {ρ : Gr}  (hp : PA ρ) : MM l G yX7_readDigit cX7_readDigit 2 1 25 (some .int) [.ref (aa G 4 0)] (setG σ 4 ρ) (Qi G (f_X7_readDigit ρ) (setG σ 4 (g_X7_readDigit ρ))) := by
  refine MM.of (by decide) (Nat.le_of_ble_eq_true rfl) ?_
  intro p e s m below meth c ls X hr hlk w hl
  have hx := X.1.1
  have hb := X.1.2.1
  have hl : lv_has ls 2 [(0, .ref (aa G 4 0))] := hl
  refine lv_aload_n hx hb dX7_readDigit_0 rfl (lv_at hl 0 rfl) ?_
  refine k_i (rr_v (rest := []) X w mX7_here kw1094 (c_X7_here (by assumption)) m4_0 rfl rfl ⟨Nat.le_of_ble_eq_true rfl, Nat.le_of_ble_eq_true rfl⟩ rfl hl.1 rfl (Nat.le_of_ble_eq_true rfl) dX7_readDigit_1 ⟨Nat.zero_le _, Nat.zero_le _⟩) w (fun H locs w => ?_)
  refine lv_topi (fun zv4 ezv4 => ?_)
  refine lv_istore_n (lv' := [(1, .int zv4), (0, .ref (aa G 4 0))]) hx hb dX7_readDigit_4 rfl hl (by decide) rfl (fun ls hl => ?_)
  refine lv_aload_n hx hb dX7_readDigit_5 rfl (lv_at hl 1 rfl) ?_
  refine lv_iload_n hx hb dX7_readDigit_6 rfl (lv_at hl 0 rfl) ?_
  refine lv_i2l hx hb dX7_readDigit_7 rfl ?_
  refine lv_ldc2 hx hb X.1.2.2.2.1 (X.1.2.2.2.2 _ kw1110) dX7_readDigit_8 ?_
  refine lv_ldc2 hx hb X.1.2.2.2.1 (X.1.2.2.2.2 _ kw1111) dX7_readDigit_11 ?_
  refine k_i (rr_s (rest := [.ref (aa G 4 0)]) X w mX7_in kw888 (c_X7_in zv4.toInt64 48 57) ⟨Nat.le_of_ble_eq_true rfl, Nat.le_of_ble_eq_true rfl⟩ rfl hl.1 rfl (Nat.le_of_ble_eq_true rfl) dX7_readDigit_14 ⟨Nat.zero_le _, Nat.zero_le _⟩) w (fun H locs w => ?_)
  refine k_v (rr_v (rest := []) X w mX7_takeSign kw1098 (c_X7_takeSign (f_X7_in zv4.toInt64 48 57)) m4_0 rfl rfl ⟨Nat.le_of_ble_eq_true rfl, Nat.le_of_ble_eq_true rfl⟩ rfl hl.1 rfl (Nat.le_of_ble_eq_true rfl) dX7_readDigit_17 ⟨Nat.zero_le _, Nat.zero_le _⟩) w (fun H locs w => ?_)
  obtain ⟨zs17, ezs17⟩ : ∃ y : Gr, y = g_X7_takeSign ρ (f_X7_in zv4.toInt64 48 57) := ⟨_, rfl⟩; rw [← ezs17] at w
  refine lv_aload_n hx hb dX7_readDigit_20 rfl (lv_at hl 1 rfl) ?_
  change W _ _ _ _ _ _ _ _ _ _ _ _ _ _ _ (F0 m 21 ls _)
  refine gf7_274 X w dX7_readDigit_21 ?_
  refine lv_if_eq (tgt := 31) hx hb dX7_readDigit_24 (by decide) (fun zc24 => ?_) (fun zc24 => ?_)
  · -- 31
    refine lv_iload_n hx hb dX7_readDigit_31 rfl (lv_at hl 0 rfl) ?_
    refine lv_bipush (v := 48) hx hb dX7_readDigit_32 (by decide) ?_
    refine lv_isub hx hb dX7_readDigit_34 ?_
    exact t_i X w hr hlk dX7_readDigit_35 (by replace ezs17 := ezs17.symm; subst ezs17; replace ezv4 := ezv4.symm; subst ezv4; simp only [f_X7_readDigit, if_pos zc24]) (by replace ezs17 := ezs17.symm; subst ezs17; replace ezv4 := ezv4.symm; subst ezv4; simp only [g_X7_readDigit, if_pos zc24])
  · -- 27
    refine lv_iconst (v := 0) hx hb dX7_readDigit_27 (by decide) ?_
    refine lv_goto (tgt := 35) hx hb dX7_readDigit_28 (by decide) ?_
    exact t_i X w hr hlk dX7_readDigit_35 (by replace ezs17 := ezs17.symm; subst ezs17; replace ezv4 := ezv4.symm; subst ezv4; simp only [f_X7_readDigit, if_neg zc24]) (by replace ezs17 := ezs17.symm; subst ezs17; replace ezv4 := ezv4.symm; subst ezv4; simp only [g_X7_readDigit, if_neg zc24])

theorem readDigit_PA {ρ : Gr} (h : PA ρ) : PA (g_X7_readDigit ρ) := by
  have k : PA (g_X7_takeSign ρ (f_X7_in (f_X7_here ρ).toInt64 48 57)) := takeSign_PA h dig_lt
  unfold g_X7_readDigit
  exact k

noncomputable def f_X7_readOf (ρ : Gr) (x1 : Int32) (x2 : Int32) : Int32 :=
  let zv4 : Int32 := f_X7_here ρ
  if zv4 = x1 then
    let zs21 : Gr := g_X7_takeSign ρ 1
    if zv4 = x2 then
      1
    else
      0
  else
    if zv4 = x2 then
      let zs21_3 : Gr := g_X7_takeSign ρ 1
      1
    else
      let zs21_2 : Gr := g_X7_takeSign ρ 0
      0
noncomputable def g_X7_readOf (ρ : Gr) (x1 : Int32) (x2 : Int32) : Gr :=
  let zv4 : Int32 := f_X7_here ρ
  if zv4 = x1 then
    let zs21 : Gr := g_X7_takeSign ρ 1
    zs21
  else
    if zv4 = x2 then
      let zs21_3 : Gr := g_X7_takeSign ρ 1
      zs21_3
    else
      let zs21_2 : Gr := g_X7_takeSign ρ 0
      zs21_2
set_option maxRecDepth 100000 in
set_option maxHeartbeats 4000000 in
theorem c_X7_readOf {l : Launch} {G : GG} {σ : St} {ρ : Gr}  (x1 : Int32) (x2 : Int32) (hp : PA ρ) : MM l G yX7_readOf cX7_readOf 4 1 21 (some .int) [.ref (aa G 4 0), .int x1, .int x2] (setG σ 4 ρ) (Qi G (f_X7_readOf ρ x1 x2) (setG σ 4 (g_X7_readOf ρ x1 x2))) := by
  refine MM.of (by decide) (Nat.le_of_ble_eq_true rfl) ?_
  intro p e s m below meth c ls X hr hlk w hl
  have hx := X.1.1
  have hb := X.1.2.1
  have hl : lv_has ls 4 [(0, .ref (aa G 4 0)), (1, .int x1), (2, .int x2)] := hl
  refine lv_aload_n hx hb dX7_readOf_0 rfl (lv_at hl 0 rfl) ?_
  refine k_i (rr_v (rest := []) X w mX7_here kw1094 (c_X7_here (by assumption)) m4_0 rfl rfl ⟨Nat.le_of_ble_eq_true rfl, Nat.le_of_ble_eq_true rfl⟩ rfl hl.1 rfl (Nat.le_of_ble_eq_true rfl) dX7_readOf_1 ⟨Nat.zero_le _, Nat.zero_le _⟩) w (fun H locs w => ?_)
  refine lv_topi (fun zv4 ezv4 => ?_)
  refine lv_istore_n (lv' := [(3, .int zv4), (0, .ref (aa G 4 0)), (1, .int x1), (2, .int x2)]) hx hb dX7_readOf_4 rfl hl (by decide) rfl (fun ls hl => ?_)
  refine lv_aload_n hx hb dX7_readOf_5 rfl (lv_at hl 1 rfl) ?_
  refine lv_iload_n hx hb dX7_readOf_6 rfl (lv_at hl 0 rfl) ?_
  refine lv_iload_n hx hb dX7_readOf_7 rfl (lv_at hl 2 rfl) ?_
  refine lv_icmp_eq (tgt := 16) hx hb dX7_readOf_8 (by decide) (fun zc8 => ?_) (fun zc8 => ?_)
  · -- 16
    refine lv_iconst (v := 1) hx hb dX7_readOf_16 (by decide) ?_
    refine lv_goto (tgt := 21) hx hb dX7_readOf_17 (by decide) ?_
    refine k_v (rr_v (rest := []) X w mX7_takeSign kw1098 (c_X7_takeSign 1) m4_0 rfl rfl ⟨Nat.le_of_ble_eq_true rfl, Nat.le_of_ble_eq_true rfl⟩ rfl hl.1 rfl (Nat.le_of_ble_eq_true rfl) dX7_readOf_21 ⟨Nat.zero_le _, Nat.zero_le _⟩) w (fun H locs w => ?_)
    obtain ⟨zs21, ezs21⟩ : ∃ y : Gr, y = g_X7_takeSign ρ 1 := ⟨_, rfl⟩; rw [← ezs21] at w
    refine lv_iload_n hx hb dX7_readOf_24 rfl (lv_at hl 0 rfl) ?_
    refine lv_iload_n hx hb dX7_readOf_25 rfl (lv_at hl 3 rfl) ?_
    refine lv_icmp_ne (tgt := 33) hx hb dX7_readOf_26 (by decide) (fun zc26 => ?_) (fun zc26 => ?_)
    · -- 33
      refine lv_iconst (v := 0) hx hb dX7_readOf_33 (by decide) ?_
      exact t_i X w hr hlk dX7_readOf_34 (by replace ezs21 := ezs21.symm; subst ezs21; replace ezv4 := ezv4.symm; subst ezv4; simp only [f_X7_readOf, if_pos zc8, if_neg zc26]) (by replace ezs21 := ezs21.symm; subst ezs21; replace ezv4 := ezv4.symm; subst ezv4; simp only [g_X7_readOf, if_pos zc8, if_neg zc26])
    · -- 29
      refine lv_iconst (v := 1) hx hb dX7_readOf_29 (by decide) ?_
      refine lv_goto (tgt := 34) hx hb dX7_readOf_30 (by decide) ?_
      exact t_i X w hr hlk dX7_readOf_34 (by replace ezs21 := ezs21.symm; subst ezs21; replace ezv4 := ezv4.symm; subst ezv4; simp only [f_X7_readOf, if_pos zc8, if_pos zc26]) (by replace ezs21 := ezs21.symm; subst ezs21; replace ezv4 := ezv4.symm; subst ezv4; simp only [g_X7_readOf, if_pos zc8, if_pos zc26])
  · -- 11
    refine lv_iload_n hx hb dX7_readOf_11 rfl (lv_at hl 0 rfl) ?_
    refine lv_iload_n hx hb dX7_readOf_12 rfl (lv_at hl 3 rfl) ?_
    refine lv_icmp_ne (tgt := 20) hx hb dX7_readOf_13 (by decide) (fun zc13 => ?_) (fun zc13 => ?_)
    · -- 20
      refine lv_iconst (v := 0) hx hb dX7_readOf_20 (by decide) ?_
      refine k_v (rr_v (rest := []) X w mX7_takeSign kw1098 (c_X7_takeSign 0) m4_0 rfl rfl ⟨Nat.le_of_ble_eq_true rfl, Nat.le_of_ble_eq_true rfl⟩ rfl hl.1 rfl (Nat.le_of_ble_eq_true rfl) dX7_readOf_21 ⟨Nat.zero_le _, Nat.zero_le _⟩) w (fun H locs w => ?_)
      obtain ⟨zs21_2, ezs21_2⟩ : ∃ y : Gr, y = g_X7_takeSign ρ 0 := ⟨_, rfl⟩; rw [← ezs21_2] at w
      refine lv_iload_n hx hb dX7_readOf_24 rfl (lv_at hl 0 rfl) ?_
      refine lv_iload_n hx hb dX7_readOf_25 rfl (lv_at hl 3 rfl) ?_
      refine lv_icmp_ne (tgt := 33) hx hb dX7_readOf_26 (by decide) (fun _ => ?_) (fun zc26 => absurd zc26 zc13)
      refine lv_iconst (v := 0) hx hb dX7_readOf_33 (by decide) ?_
      exact t_i X w hr hlk dX7_readOf_34 (by replace ezs21_2 := ezs21_2.symm; subst ezs21_2; replace ezv4 := ezv4.symm; subst ezv4; simp only [f_X7_readOf, if_neg zc8, if_neg zc13]) (by replace ezs21_2 := ezs21_2.symm; subst ezs21_2; replace ezv4 := ezv4.symm; subst ezv4; simp only [g_X7_readOf, if_neg zc8, if_neg zc13])
    · -- 16
      refine lv_iconst (v := 1) hx hb dX7_readOf_16 (by decide) ?_
      refine lv_goto (tgt := 21) hx hb dX7_readOf_17 (by decide) ?_
      refine k_v (rr_v (rest := []) X w mX7_takeSign kw1098 (c_X7_takeSign 1) m4_0 rfl rfl ⟨Nat.le_of_ble_eq_true rfl, Nat.le_of_ble_eq_true rfl⟩ rfl hl.1 rfl (Nat.le_of_ble_eq_true rfl) dX7_readOf_21 ⟨Nat.zero_le _, Nat.zero_le _⟩) w (fun H locs w => ?_)
      obtain ⟨zs21_3, ezs21_3⟩ : ∃ y : Gr, y = g_X7_takeSign ρ 1 := ⟨_, rfl⟩; rw [← ezs21_3] at w
      refine lv_iload_n hx hb dX7_readOf_24 rfl (lv_at hl 0 rfl) ?_
      refine lv_iload_n hx hb dX7_readOf_25 rfl (lv_at hl 3 rfl) ?_
      refine lv_icmp_ne (tgt := 33) hx hb dX7_readOf_26 (by decide) (fun zc26 => absurd zc13 zc26) (fun _ => ?_)
      refine lv_iconst (v := 1) hx hb dX7_readOf_29 (by decide) ?_
      refine lv_goto (tgt := 34) hx hb dX7_readOf_30 (by decide) ?_
      exact t_i X w hr hlk dX7_readOf_34 (by replace ezs21_3 := ezs21_3.symm; subst ezs21_3; replace ezv4 := ezv4.symm; subst ezv4; simp only [f_X7_readOf, if_neg zc8, if_pos zc13]) (by replace ezs21_3 := ezs21_3.symm; subst ezs21_3; replace ezv4 := ezv4.symm; subst ezv4; simp only [g_X7_readOf, if_neg zc8, if_pos zc13])

theorem readOf_PA {ρ : Gr} {a b : Int32} (h : PA ρ) (ha : ¬ a = -1) (hb : ¬ b = -1) : PA (g_X7_readOf ρ a b) := by
  have k0 : PA (g_X7_takeSign ρ 0) := takeSign_PA h (fun q => absurd rfl q)
  unfold g_X7_readOf
  dsimp only
  by_cases h1 : f_X7_here ρ = a
  · rw [if_pos h1]
    exact takeSign_PA h (fun _ => here_c h1 ha)
  · rw [if_neg h1]
    by_cases h2 : f_X7_here ρ = b
    · rw [if_pos h2]
      exact takeSign_PA h (fun _ => here_c h2 hb)
    · rw [if_neg h2]
      exact k0

noncomputable def b_X7_readNumber_7  (k : Nat) (v : Int32 × Gr) : Bool × Nat × Int32 × Int32 × Gr :=
  if 3 ≤ (nI (1 + k)) then
    (false, 69, 0, (v.1, v.2))
  else
    if v.1 ≤ 0 then
      (false, 69, 0, (v.1, v.2))
    else
      if (v.2 0 45) = 0 then
        if (f_X7_in ((f_X7_here v.2).toInt64) 48 57) = 0 then
          (false, 69, 0, (v.1, v.2))
        else
          let zv52 : Int32 := ((10 * v.1) + (f_X7_here v.2)) - 48
          let zs60 : Gr := up v.2 0 43 ((v.2 0 43) + 1)
          (true, 0, 0, (zv52, zs60))
      else
        (false, 69, 0, (v.1, v.2))
noncomputable def l_X7_readNumber_7  (v0 : Int32 × Gr) : Nat × Int32 × Int32 × Gr   := wl (b_X7_readNumber_7) (nn (2 + 1)) 0 v0
noncomputable def f_X7_readNumber (ρ : Gr)  : Int32 :=
  let zs1 : Gr := g_X7_readDigit ρ
  let zv4 : Int32 := f_X7_readDigit ρ
  let zl7 : Nat × Int32 × Int32 × Gr := (l_X7_readNumber_7 (zv4, zs1))
  zl7.2.2.1
noncomputable def g_X7_readNumber (ρ : Gr)  : Gr :=
  let zs1 : Gr := g_X7_readDigit ρ
  let zv4 : Int32 := f_X7_readDigit ρ
  let zl7 : Nat × Int32 × Int32 × Gr := (l_X7_readNumber_7 (zv4, zs1))
  zl7.2.2.2
set_option maxRecDepth 100000 in
set_option maxHeartbeats 4000000 in
theorem lp_X7_readNumber_7 {l : Launch} {G : GG} {p : Program} {e : Env} {s : State} {m : MethodId} {args : Array Value} {below : List Frame} {meth : Method} {c : Code} {Q : State → Prop} {σ : St} (X : Cx p m c cX7_readNumber 3 s args RX7 G)   (z : Nat × Int32 × Int32 × Gr)
    (kk69 : z.1 = 69 → ∀ (H : Heap) (locs : List Loc) (ls : Array Slot), Wh G s σ 4 z.2.2.2 H locs → lv_has ls 3 [(0, .ref (aa G 4 0)), (1, .int z.2.2.1)] → W p l e (rmv 2 46) s m args below meth c H locs 0 0 Q (F0 m 69 ls [])) :
    ∀ (n k : Nat) (v : Int32 × Gr), k ≤ 2 → 2 - k < n → wl (b_X7_readNumber_7) n k v = z → (PA v.2) → ∀ (H : Heap) (locs : List Loc) (ls : Array Slot), Wh G s σ 4 v.2 H locs → lv_has ls 3 [(0, .ref (aa G 4 0)), (1, .int v.1), (2, .int (nI (1 + k)))] → W p l e (rmv 2 46) s m args below meth c H locs 0 0 Q (F0 m 7 ls []) := by
  have hx := X.1.1
  have hb := X.1.2.1
  intro n
  induction n with
  | zero => intro k v _ h; omega
  | succ n ih =>
    intro k v hkN hn hz hp H locs ls w hl
    refine lv_iload_n hx hb dX7_readNumber_7 rfl (lv_at hl 2 rfl) ?_
    refine lv_iconst (v := 3) hx hb dX7_readNumber_8 (by decide) ?_
    refine lv_icmp_ge (tgt := 69) hx hb dX7_readNumber_9 (by decide) (fun zc9 => ?_) (fun zc9 => ?_)
    · -- 69
      have hz1 : z = ((69, 0, (v.1, v.2)) : Nat × Int32 × Int32 × Gr) := by rw [← hz]; exact wl_out (by simp only [b_X7_readNumber_7, if_pos zc9])
      subst hz1
      exact kk69 rfl _ _ _ w (lv_sub hl [0, 1] rfl)
    · -- 12
      refine lv_iload_n hx hb dX7_readNumber_12 rfl (lv_at hl 1 rfl) ?_
      refine lv_if_le (tgt := 69) hx hb dX7_readNumber_13 (by decide) (fun zc13 => ?_) (fun zc13 => ?_)
      · -- 69
        have hz1 : z = ((69, 0, (v.1, v.2)) : Nat × Int32 × Int32 × Gr) := by rw [← hz]; exact wl_out (by simp only [b_X7_readNumber_7, if_neg zc9, if_pos zc13])
        subst hz1
        exact kk69 rfl _ _ _ w (lv_sub hl [0, 1] rfl)
      · -- 16
        refine lv_aload_n hx hb dX7_readNumber_16 rfl (lv_at hl 0 rfl) ?_
        refine gf7_274 X w dX7_readNumber_17 ?_
        refine lv_if_ne (tgt := 69) hx hb dX7_readNumber_20 (by decide) (fun zc20 => ?_) (fun zc20 => ?_)
        · -- 69
          have hz1 : z = ((69, 0, (v.1, v.2)) : Nat × Int32 × Int32 × Gr) := by rw [← hz]; exact wl_out (by simp only [b_X7_readNumber_7, if_neg zc9, if_neg zc13, if_neg zc20])
          subst hz1
          exact kk69 rfl _ _ _ w (lv_sub hl [0, 1] rfl)
        · -- 23
          refine lv_aload_n hx hb dX7_readNumber_23 rfl (lv_at hl 0 rfl) ?_
          refine k_i (rr_v (rest := []) X w mX7_here kw1094 (c_X7_here (by assumption)) m4_0 rfl rfl ⟨Nat.le_of_ble_eq_true rfl, Nat.le_of_ble_eq_true rfl⟩ rfl hl.1 rfl (Nat.le_of_ble_eq_true rfl) dX7_readNumber_24 ⟨Nat.zero_le _, Nat.zero_le _⟩) w (fun H locs w => ?_)
          refine lv_i2l hx hb dX7_readNumber_27 rfl ?_
          refine lv_ldc2 hx hb X.1.2.2.2.1 (X.1.2.2.2.2 _ kw1110) dX7_readNumber_28 ?_
          refine lv_ldc2 hx hb X.1.2.2.2.1 (X.1.2.2.2.2 _ kw1111) dX7_readNumber_31 ?_
          refine k_i (rr_s (rest := []) X w mX7_in kw888 (c_X7_in ((f_X7_here v.2).toInt64) 48 57) ⟨Nat.le_of_ble_eq_true rfl, Nat.le_of_ble_eq_true rfl⟩ rfl hl.1 rfl (Nat.le_of_ble_eq_true rfl) dX7_readNumber_34 ⟨Nat.zero_le _, Nat.zero_le _⟩) w (fun H locs w => ?_)
          refine lv_if_eq (tgt := 69) hx hb dX7_readNumber_37 (by decide) (fun zc37 => ?_) (fun zc37 => ?_)
          · -- 69
            have hz1 : z = ((69, 0, (v.1, v.2)) : Nat × Int32 × Int32 × Gr) := by rw [← hz]; exact wl_out (by simp only [b_X7_readNumber_7, if_neg zc9, if_neg zc13, if_pos zc20, if_pos zc37])
            subst hz1
            exact kk69 rfl _ _ _ w (lv_sub hl [0, 1] rfl)
          · -- 40
            refine lv_bipush (v := 10) hx hb dX7_readNumber_40 (by decide) ?_
            refine lv_iload_n hx hb dX7_readNumber_42 rfl (lv_at hl 1 rfl) ?_
            refine lv_imul hx hb dX7_readNumber_43 ?_
            refine lv_aload_n hx hb dX7_readNumber_44 rfl (lv_at hl 0 rfl) ?_
            refine k_i (rr_v (rest := [.int (10 * v.1)]) X w mX7_here kw1094 (c_X7_here (by assumption)) m4_0 rfl rfl ⟨Nat.le_of_ble_eq_true rfl, Nat.le_of_ble_eq_true rfl⟩ rfl hl.1 rfl (Nat.le_of_ble_eq_true rfl) dX7_readNumber_45 ⟨Nat.zero_le _, Nat.zero_le _⟩) w (fun H locs w => ?_)
            refine lv_iadd hx hb dX7_readNumber_48 ?_
            refine lv_bipush (v := 48) hx hb dX7_readNumber_49 (by decide) ?_
            refine lv_isub hx hb dX7_readNumber_51 ?_
            refine lv_topi (fun zv52 ezv52 => ?_)
            refine lv_istore_n (lv' := [(1, .int zv52), (0, .ref (aa G 4 0)), (2, .int (nI (1 + k)))]) hx hb dX7_readNumber_52 rfl hl (by decide) rfl (fun ls hl => ?_)
            refine lv_aload_n hx hb dX7_readNumber_53 rfl (lv_at hl 1 rfl) ?_
            refine lv_dup hx hb dX7_readNumber_54 rfl ?_
            change W _ _ _ _ _ _ _ _ _ _ _ _ _ _ _ (F0 m 55 ls _)
            refine gf7_268 X w dX7_readNumber_55 ?_
            refine lv_iconst (v := 1) hx hb dX7_readNumber_58 (by decide) ?_
            refine lv_iadd hx hb dX7_readNumber_59 ?_
            refine pf7_268 X w dX7_readNumber_60 (fun zs60 H locs ezs60 w => ?_)
            refine lv_iinc (v := nI ((1 + k) + 1)) (lv' := [(2, .int (nI ((1 + k) + 1))), (1, .int zv52), (0, .ref (aa G 4 0))]) hx hb dX7_readNumber_63 hl (k := 2) rfl (nI_1 _) (by decide) rfl (fun ls hl => ?_)
            refine lv_goto (tgt := 7) hx hb dX7_readNumber_66 (by decide) ?_
            have hk : k < 2 := (rn2 hkN zc9)
            exact ih (k + 1) (zv52, zs60) (by omega) (by omega) (by rw [← hz]; replace ezs60 := ezs60.symm; subst ezs60; replace ezv52 := ezv52.symm; subst ezv52; exact (wl_go (t := 0) (r := 0) (by simp only [b_X7_readNumber_7, if_neg zc9, if_neg zc13, if_pos zc20, if_neg zc37])).symm) (by rw [ezs60]; exact hp.inc (dig_lt zc37)) _ _ _ w (lv_sub hl [2, 1, 0] rfl)
set_option maxRecDepth 100000 in
set_option maxHeartbeats 4000000 in
theorem c_X7_readNumber {l : Launch} {G : GG} {σ : St} {ρ : Gr}  (hp : PA ρ) : MM l G yX7_readNumber cX7_readNumber 3 2 46 (some .int) [.ref (aa G 4 0)] (setG σ 4 ρ) (Qi G (f_X7_readNumber ρ) (setG σ 4 (g_X7_readNumber ρ))) := by
  refine MM.of (by decide) (Nat.le_of_ble_eq_true rfl) ?_
  intro p e s m below meth c ls X hr hlk w hl
  have hx := X.1.1
  have hb := X.1.2.1
  have hl : lv_has ls 3 [(0, .ref (aa G 4 0))] := hl
  refine lv_aload_n hx hb dX7_readNumber_0 rfl (lv_at hl 0 rfl) ?_
  refine k_i (rr_v (rest := []) X w mX7_readDigit kw1106 (c_X7_readDigit (by assumption)) m4_0 rfl rfl ⟨Nat.le_of_ble_eq_true rfl, Nat.le_of_ble_eq_true rfl⟩ rfl hl.1 rfl (Nat.le_of_ble_eq_true rfl) dX7_readNumber_1 ⟨Nat.zero_le _, Nat.zero_le _⟩) w (fun H locs w => ?_)
  obtain ⟨zs1, ezs1⟩ : ∃ y : Gr, y = g_X7_readDigit ρ := ⟨_, rfl⟩; rw [← ezs1] at w
  have hp : PA zs1 := by rw [ezs1]; exact readDigit_PA hp
  refine lv_topi (fun zv4 ezv4 => ?_)
  refine lv_istore_n (lv' := [(1, .int zv4), (0, .ref (aa G 4 0))]) hx hb dX7_readNumber_4 rfl hl (by decide) rfl (fun ls hl => ?_)
  refine lv_iconst (v := 1) hx hb dX7_readNumber_5 (by decide) ?_
  refine lv_istore_n (lv' := [(2, .int 1), (1, .int zv4), (0, .ref (aa G 4 0))]) hx hb dX7_readNumber_6 rfl hl (by decide) rfl (fun ls hl => ?_)
  obtain ⟨zl7, ezl7⟩ : ∃ y : Nat × Int32 × Int32 × Gr, y = (l_X7_readNumber_7 (zv4, zs1)) := ⟨_, rfl⟩
  refine lp_X7_readNumber_7 X   zl7 (fun hz69 H locs ls w hl => ?_) (nn (2 + 1)) 0 (zv4, zs1) (Nat.zero_le _) (by rw [nn_eq]; exact Nat.lt_succ_of_le (Nat.sub_le _ _)) ezl7.symm hp _ _ _ w (lv_sub hl [2, 1, 0] rfl)
  · -- leaves at 69
    refine lv_iload_n hx hb dX7_readNumber_69 rfl (lv_at hl 1 rfl) ?_
    exact t_i X w hr hlk dX7_readNumber_70 (by replace ezl7 := ezl7.symm; subst ezl7; replace ezv4 := ezv4.symm; subst ezv4; replace ezs1 := ezs1.symm; subst ezs1; simp only [f_X7_readNumber]) (by replace ezl7 := ezl7.symm; subst ezl7; replace ezv4 := ezv4.symm; subst ezv4; replace ezs1 := ezs1.symm; subst ezs1; simp only [g_X7_readNumber])

theorem readNumber_PA {ρ : Gr} (h : PA ρ) : PA (g_X7_readNumber ρ) := by
  refine wl_P (it := b_X7_readNumber_7) (fun v : Int32 × Gr => PA v.2) (fun k v hv => ?_) _ _ _ (readDigit_PA h)
  dsimp only [b_X7_readNumber_7]
  repeat' split
  all_goals first
    | exact hv
    | (rename_i q; exact hv.inc (dig_lt q))
