noncomputable def b_X7_coast_28  (k : Nat) (v : Gr) : Bool × Nat × Int32 × Gr :=
  if (v 0 45) = 0 then
    if (v 0 46) = 0 then
      let zs54 : Gr := g_X7_readStatement v
      (true, 0, 0, zs54)
    else
      if (v 0 44) ≤ (v 0 43) then
        (false, 60, 0, v)
      else
        let zs54_2 : Gr := g_X7_readStatement v
        (true, 0, 0, zs54_2)
  else
    (false, 60, 0, v)
noncomputable def l_X7_coast_28  (v0 : Gr) : Nat × Int32 × Gr   := wl (b_X7_coast_28) (nn (48 + 1)) 0 v0
noncomputable def b_X7_coast_100 (y1 : Int32) (y2 : Int32) (y3 : Int32) (y4 : Int32) (k : Nat) (v : Gr) : Gr :=
  let zs120 : Gr := up v 50 (nI k).toNatClampNeg (v 19 (nI k).toNatClampNeg)
  zs120
noncomputable def l_X7_coast_100 (y1 : Int32) (y2 : Int32) (y3 : Int32) (y4 : Int32) (v0 : Gr) : Gr := itn (b_X7_coast_100 y1 y2 y3 y4) (nn 28) v0
noncomputable def b_X7_coast_172 (y1 : Int32) (y2 : Int32) (y3 : Int32) (y4 : Int32) (y5 : Int32) (k : Nat) (v : Gr) : Gr :=
  let zs192 : Gr := up v 19 (nI k).toNatClampNeg (v 50 (nI k).toNatClampNeg)
  zs192
noncomputable def l_X7_coast_172 (y1 : Int32) (y2 : Int32) (y3 : Int32) (y4 : Int32) (y5 : Int32) (v0 : Gr) : Gr := itn (b_X7_coast_172 y1 y2 y3 y4 y5) (nn 28) v0
noncomputable def b_X7_coast_130 (y1 : Int32) (y2 : Int32) (y3 : Int32) (y4 : Int32) (k : Nat) (v : Gr) : Bool × Nat × Int32 × Gr :=
  if (v 0 46) ≤ (nI k) then
    (false, 217, 0, v)
  else
    let zs142 : Gr := g_X7_comes v (nI k)
    if (f_X7_comes v (nI k)) = 0 then
      let zs150 : Gr := up zs142 0 0 y1
      let zs155 : Gr := up zs150 0 8 y2
      let zs160 : Gr := up zs155 0 15 y3
      let zs166 : Gr := up zs160 0 20 y4
      let zl172 : Gr := (l_X7_coast_172 y1 y2 y3 y4 (nI k) zs166)
      (false, 210, (-2000) - (zl172 47 (nI k).toNatClampNeg), zl172)
    else
      (true, 0, 0, zs142)
noncomputable def l_X7_coast_130 (y1 : Int32) (y2 : Int32) (y3 : Int32) (y4 : Int32) (v0 : Gr) : Nat × Int32 × Gr   := wl (b_X7_coast_130 y1 y2 y3 y4) (nn ((v0 0 46).toNatClampNeg + 1)) 0 v0
noncomputable def f_X7_coast (ρ : Gr)  : Int32 :=
  let zs2 : Gr := up ρ 0 43 0
  let zs10 : Gr := up zs2 0 44 (ρ 0 30)
  let zs15 : Gr := up zs10 0 30 0
  let zs20 : Gr := up zs15 0 45 0
  let zs25 : Gr := up zs20 0 46 0
  let zl28 : Nat × Int32 × Gr := (l_X7_coast_28 zs25)
  if (zl28.2.2 0 45) = 0 then
    let zv80 : Int32 := zl28.2.2 0 0
    let zv85 : Int32 := zl28.2.2 0 8
    let zv90 : Int32 := zl28.2.2 0 15
    let zv95 : Int32 := zl28.2.2 0 20
    let zl100 : Gr := (l_X7_coast_100 zv80 zv85 zv90 zv95 zl28.2.2)
    let zl130 : Nat × Int32 × Gr := (l_X7_coast_130 zv80 zv85 zv90 zv95 zl100)
    if zl130.1 = 217 then
      zl130.2.2 0 46
    else
      zl130.2.1
  else
    (-1000) - (zl28.2.2 0 43)
noncomputable def g_X7_coast (ρ : Gr)  : Gr :=
  let zs2 : Gr := up ρ 0 43 0
  let zs10 : Gr := up zs2 0 44 (ρ 0 30)
  let zs15 : Gr := up zs10 0 30 0
  let zs20 : Gr := up zs15 0 45 0
  let zs25 : Gr := up zs20 0 46 0
  let zl28 : Nat × Int32 × Gr := (l_X7_coast_28 zs25)
  if (zl28.2.2 0 45) = 0 then
    let zv80 : Int32 := zl28.2.2 0 0
    let zv85 : Int32 := zl28.2.2 0 8
    let zv90 : Int32 := zl28.2.2 0 15
    let zv95 : Int32 := zl28.2.2 0 20
    let zl100 : Gr := (l_X7_coast_100 zv80 zv85 zv90 zv95 zl28.2.2)
    let zl130 : Nat × Int32 × Gr := (l_X7_coast_130 zv80 zv85 zv90 zv95 zl100)
    zl130.2.2
  else
    zl28.2.2
theorem co100_c (y1 y2 y3 y4 : Int32) (v : Gr) (f : Nat) (hf : f ≠ 50) : l_X7_coast_100 y1 y2 y3 y4 v f = v f := itn_fr (fun v : Gr => v f) (fun k v => up_ne hf) _ _
theorem co100_WF {B : Nat} {y1 y2 y3 y4 : Int32} {v : Gr} (h : WFm B v) : WFm B (l_X7_coast_100 y1 y2 y3 y4 v) := by
  unfold WFm
  rw [co100_c _ _ _ _ _ 0 (by decide), co100_c _ _ _ _ _ 9 (by decide), co100_c _ _ _ _ _ 10 (by decide), co100_c _ _ _ _ _ 12 (by decide), co100_c _ _ _ _ _ 16 (by decide), co100_c _ _ _ _ _ 17 (by decide)]
  exact h
set_option maxRecDepth 100000 in
set_option maxHeartbeats 4000000 in
theorem lp_X7_coast_28 {l : Launch} {G : GG} {p : Program} {e : Env} {s : State} {m : MethodId} {args : Array Value} {below : List Frame} {meth : Method} {c : Code} {Q : State → Prop} {σ : St} (X : Cx p m c cX7_coast 7 s args RX7 G)  (w0 : Gr) (t : Nat → Int32) (e0 : Nat) (z : Nat × Int32 × Gr)
    (kk60 : z.1 = 60 → (∃ k, RI w0 t e0 k z.2.2) → ∀ (H : Heap) (locs : List Loc) (ls : Array Slot), Wh G s σ 4 z.2.2 H locs → lv_has ls 7 [(0, .ref (aa G 4 0))] → W p l e (rmv 4 96) s m args below meth c H locs 0 0 Q (F0 m 60 ls [])) :
    ∀ (n k : Nat) (v : Gr), k ≤ 48 → 48 - k < n → wl (b_X7_coast_28) n k v = z → (RI w0 t e0 k v) → ∀ (H : Heap) (locs : List Loc) (ls : Array Slot), Wh G s σ 4 v H locs → lv_has ls 7 [(0, .ref (aa G 4 0))] → W p l e (rmv 4 96) s m args below meth c H locs 0 0 Q (F0 m 28 ls []) := by
  have hx := X.1.1
  have hb := X.1.2.1
  intro n
  induction n with
  | zero => intro k v _ h; omega
  | succ n ih =>
    intro k v hkN hn hz hi H locs ls w hl
    refine lv_aload_n hx hb dX7_coast_28 rfl (lv_at hl 0 rfl) ?_
    refine gf7_274 X w dX7_coast_29 ?_
    refine lv_if_ne (tgt := 60) hx hb dX7_coast_32 (by decide) (fun zc32 => ?_) (fun zc32 => ?_)
    · -- 60
      have hz1 : z = ((60, 0, v) : Nat × Int32 × Gr) := by rw [← hz]; exact wl_out (by simp only [b_X7_coast_28, if_neg zc32])
      subst hz1
      exact kk60 rfl ⟨k, hi⟩ _ _ _ w (lv_sub hl [0] rfl)
    · -- 35
      refine lv_aload_n hx hb dX7_coast_35 rfl (lv_at hl 0 rfl) ?_
      refine gf7_292 X w dX7_coast_36 ?_
      refine lv_if_eq (tgt := 53) hx hb dX7_coast_39 (by decide) (fun zc39 => ?_) (fun zc39 => ?_)
      · -- 53
        refine lv_aload_n hx hb dX7_coast_53 rfl (lv_at hl 0 rfl) ?_
        refine k_v (rr_v (rest := []) X w mX7_readStatement kw1090 (c_X7_readStatement (RI.lt hi zc32 (by first | exact Or.inl zc39 | exact Or.inr zc50)).2.1 (RI.lt hi zc32 (by first | exact Or.inl zc39 | exact Or.inr zc50)).2.2.1) m4_0 rfl rfl ⟨Nat.le_of_ble_eq_true rfl, Nat.le_of_ble_eq_true rfl⟩ rfl hl.1 rfl (Nat.le_of_ble_eq_true rfl) dX7_coast_54 ⟨Nat.zero_le _, Nat.zero_le _⟩) w (fun H locs w => ?_)
        obtain ⟨zs54, ezs54⟩ : ∃ y : Gr, y = g_X7_readStatement v := ⟨_, rfl⟩; rw [← ezs54] at w
        have hj : k < 48 := (RI.lt hi zc32 (by first | exact Or.inl zc39 | exact Or.inr zc50)).1
        have hi : RI w0 t e0 (k + 1) zs54 := by rw [ezs54]; exact hi.go zc32 hj
        refine lv_goto (tgt := 28) hx hb dX7_coast_57 (by decide) ?_
        have hk : k < 48 := hj
        exact ih (k + 1) zs54 (by omega) (by omega) (by rw [← hz]; replace ezs54 := ezs54.symm; subst ezs54; exact (wl_go (t := 0) (r := 0) (by simp only [b_X7_coast_28, if_pos zc32, if_pos zc39])).symm) hi _ _ _ w (lv_sub hl [0] rfl)
      · -- 42
        refine lv_aload_n hx hb dX7_coast_42 rfl (lv_at hl 0 rfl) ?_
        refine gf7_268 X w dX7_coast_43 ?_
        refine lv_aload_n hx hb dX7_coast_46 rfl (lv_at hl 0 rfl) ?_
        refine gf7_271 X w dX7_coast_47 ?_
        refine lv_icmp_ge (tgt := 60) hx hb dX7_coast_50 (by decide) (fun zc50 => ?_) (fun zc50 => ?_)
        · -- 60
          have hz1 : z = ((60, 0, v) : Nat × Int32 × Gr) := by rw [← hz]; exact wl_out (by simp only [b_X7_coast_28, if_pos zc32, if_neg zc39, if_pos zc50])
          subst hz1
          exact kk60 rfl ⟨k, hi⟩ _ _ _ w (lv_sub hl [0] rfl)
        · -- 53
          refine lv_aload_n hx hb dX7_coast_53 rfl (lv_at hl 0 rfl) ?_
          refine k_v (rr_v (rest := []) X w mX7_readStatement kw1090 (c_X7_readStatement (RI.lt hi zc32 (by first | exact Or.inl zc39 | exact Or.inr zc50)).2.1 (RI.lt hi zc32 (by first | exact Or.inl zc39 | exact Or.inr zc50)).2.2.1) m4_0 rfl rfl ⟨Nat.le_of_ble_eq_true rfl, Nat.le_of_ble_eq_true rfl⟩ rfl hl.1 rfl (Nat.le_of_ble_eq_true rfl) dX7_coast_54 ⟨Nat.zero_le _, Nat.zero_le _⟩) w (fun H locs w => ?_)
          obtain ⟨zs54_2, ezs54_2⟩ : ∃ y : Gr, y = g_X7_readStatement v := ⟨_, rfl⟩; rw [← ezs54_2] at w
          have hj : k < 48 := (RI.lt hi zc32 (by first | exact Or.inl zc39 | exact Or.inr zc50)).1
          have hi : RI w0 t e0 (k + 1) zs54_2 := by rw [ezs54_2]; exact hi.go zc32 hj
          refine lv_goto (tgt := 28) hx hb dX7_coast_57 (by decide) ?_
          have hk : k < 48 := hj
          exact ih (k + 1) zs54_2 (by omega) (by omega) (by rw [← hz]; replace ezs54_2 := ezs54_2.symm; subst ezs54_2; exact (wl_go (t := 0) (r := 0) (by simp only [b_X7_coast_28, if_pos zc32, if_neg zc39, if_neg zc50])).symm) hi _ _ _ w (lv_sub hl [0] rfl)
set_option maxRecDepth 100000 in
set_option maxHeartbeats 4000000 in
theorem lp_X7_coast_100 {l : Launch} {G : GG} {p : Program} {e : Env} {s : State} {m : MethodId} {args : Array Value} {below : List Frame} {meth : Method} {c : Code} {Q : State → Prop} {σ : St} (X : Cx p m c cX7_coast 7 s args RX7 G) (y1 : Int32) (y2 : Int32) (y3 : Int32) (y4 : Int32) (v0 : Gr) 
    (kk : ∀ (H : Heap) (locs : List Loc) (ls : Array Slot), Wh G s σ 4 (l_X7_coast_100 y1 y2 y3 y4 v0) H locs → lv_has ls 7 [(0, .ref (aa G 4 0)), (1, .int y1), (2, .int y2), (3, .int y3), (4, .int y4), (5, .int (nI (28)))] → W p l e (rmv 4 96) s m args below meth c H locs 0 0 Q (F0 m 127 ls [])) :
    ∀ (n k : Nat) (v : Gr), k ≤ 28 → 28 - k < n → v = itn (b_X7_coast_100 y1 y2 y3 y4) k v0 → ∀ (H : Heap) (locs : List Loc) (ls : Array Slot), Wh G s σ 4 v H locs → lv_has ls 7 [(0, .ref (aa G 4 0)), (1, .int y1), (2, .int y2), (3, .int y3), (4, .int y4), (5, .int (nI k))] → W p l e (rmv 4 96) s m args below meth c H locs 0 0 Q (F0 m 100 ls []) := by
  have hx := X.1.1
  have hb := X.1.2.1
  intro n
  induction n with
  | zero => intro k v _ h; omega
  | succ n ih =>
    intro k v hkN hn ev H locs ls w hl
    refine lv_iload hx hb dX7_coast_100 (lv_at hl 5 rfl) ?_
    refine lv_bipush (v := 28) hx hb dX7_coast_102 (by decide) ?_
    refine lv_icmp_ge (tgt := 127) hx hb dX7_coast_104 (by decide) (fun zc104 => ?_) (fun zc104 => ?_)
    · -- 127
      have hkE : k = 28 := lp_eqN hkN (by decide) zc104
      have ev2 : l_X7_coast_100 y1 y2 y3 y4 v0 = v := by unfold l_X7_coast_100; rw [nn_eq, ← hkE]; exact ev.symm
      rw [ev2] at kk
      rw [hkE] at hl
      exact kk _ _ _ w (lv_sub hl [0, 1, 2, 3, 4, 5] rfl)
    · -- 107
      have hk : k < 28 := lp_ltN hkN (by decide) zc104
      refine lv_aload_n hx hb dX7_coast_107 rfl (lv_at hl 0 rfl) ?_
      refine gf7_102 X w dX7_coast_108 ?_
      refine lv_iload hx hb dX7_coast_111 (lv_at hl 5 rfl) ?_
      refine lv_aload_n hx hb dX7_coast_113 rfl (lv_at hl 0 rfl) ?_
      refine gf7_59 X w dX7_coast_114 ?_
      refine lv_iload hx hb dX7_coast_117 (lv_at hl 5 rfl) ?_
      refine ia (f := 19) (n := 28) X w m4_19 rfl (vp_in_nI (by omega) (by decide)) dX7_coast_119 ?_
      refine iS (f := 50) (n := 28) X w m4_50 rfl (vp_in_nI (by omega) (by decide)) dX7_coast_120 (fun zs120 H locs ezs120 w => ?_)
      refine lv_iinc (v := nI (k + 1)) (lv' := [(5, .int (nI (k + 1))), (0, .ref (aa G 4 0)), (1, .int y1), (2, .int y2), (3, .int y3), (4, .int y4)]) hx hb dX7_coast_121 hl (k := 5) rfl (nI_1 _) (by decide) rfl (fun ls hl => ?_)
      refine lv_goto (tgt := 100) hx hb dX7_coast_124 (by decide) ?_
      exact ih (k + 1) zs120 (by omega) (by omega) (by replace ezs120 := ezs120.symm; subst ezs120; simp only [itn, ← ev, b_X7_coast_100])  _ _ _ w (lv_sub hl [1, 2, 3, 4, 5, 0] rfl)
set_option maxRecDepth 100000 in
set_option maxHeartbeats 4000000 in
theorem lp_X7_coast_172 {l : Launch} {G : GG} {p : Program} {e : Env} {s : State} {m : MethodId} {args : Array Value} {below : List Frame} {meth : Method} {c : Code} {Q : State → Prop} {σ : St} (X : Cx p m c cX7_coast 7 s args RX7 G) (y1 : Int32) (y2 : Int32) (y3 : Int32) (y4 : Int32) (y5 : Int32) (v0 : Gr) 
    (kk : ∀ (H : Heap) (locs : List Loc) (ls : Array Slot), Wh G s σ 4 (l_X7_coast_172 y1 y2 y3 y4 y5 v0) H locs → lv_has ls 7 [(0, .ref (aa G 4 0)), (1, .int y1), (2, .int y2), (3, .int y3), (4, .int y4), (5, .int y5), (6, .int (nI (28)))] → W p l e (rmv 4 96) s m args below meth c H locs 0 0 Q (F0 m 199 ls [])) :
    ∀ (n k : Nat) (v : Gr), k ≤ 28 → 28 - k < n → v = itn (b_X7_coast_172 y1 y2 y3 y4 y5) k v0 → ∀ (H : Heap) (locs : List Loc) (ls : Array Slot), Wh G s σ 4 v H locs → lv_has ls 7 [(0, .ref (aa G 4 0)), (1, .int y1), (2, .int y2), (3, .int y3), (4, .int y4), (5, .int y5), (6, .int (nI k))] → W p l e (rmv 4 96) s m args below meth c H locs 0 0 Q (F0 m 172 ls []) := by
  have hx := X.1.1
  have hb := X.1.2.1
  intro n
  induction n with
  | zero => intro k v _ h; omega
  | succ n ih =>
    intro k v hkN hn ev H locs ls w hl
    refine lv_iload hx hb dX7_coast_172 (lv_at hl 6 rfl) ?_
    refine lv_bipush (v := 28) hx hb dX7_coast_174 (by decide) ?_
    refine lv_icmp_ge (tgt := 199) hx hb dX7_coast_176 (by decide) (fun zc176 => ?_) (fun zc176 => ?_)
    · -- 199
      have hkE : k = 28 := lp_eqN hkN (by decide) zc176
      have ev2 : l_X7_coast_172 y1 y2 y3 y4 y5 v0 = v := by unfold l_X7_coast_172; rw [nn_eq, ← hkE]; exact ev.symm
      rw [ev2] at kk
      rw [hkE] at hl
      exact kk _ _ _ w (lv_sub hl [0, 1, 2, 3, 4, 5, 6] rfl)
    · -- 179
      have hk : k < 28 := lp_ltN hkN (by decide) zc176
      refine lv_aload_n hx hb dX7_coast_179 rfl (lv_at hl 0 rfl) ?_
      refine gf7_59 X w dX7_coast_180 ?_
      refine lv_iload hx hb dX7_coast_183 (lv_at hl 6 rfl) ?_
      refine lv_aload_n hx hb dX7_coast_185 rfl (lv_at hl 0 rfl) ?_
      refine gf7_102 X w dX7_coast_186 ?_
      refine lv_iload hx hb dX7_coast_189 (lv_at hl 6 rfl) ?_
      refine ia (f := 50) (n := 28) X w m4_50 rfl (vp_in_nI (by omega) (by decide)) dX7_coast_191 ?_
      refine iS (f := 19) (n := 28) X w m4_19 rfl (vp_in_nI (by omega) (by decide)) dX7_coast_192 (fun zs192 H locs ezs192 w => ?_)
      refine lv_iinc (v := nI (k + 1)) (lv' := [(6, .int (nI (k + 1))), (0, .ref (aa G 4 0)), (1, .int y1), (2, .int y2), (3, .int y3), (4, .int y4), (5, .int y5)]) hx hb dX7_coast_193 hl (k := 6) rfl (nI_1 _) (by decide) rfl (fun ls hl => ?_)
      refine lv_goto (tgt := 172) hx hb dX7_coast_196 (by decide) ?_
      exact ih (k + 1) zs192 (by omega) (by omega) (by replace ezs192 := ezs192.symm; subst ezs192; simp only [itn, ← ev, b_X7_coast_172])  _ _ _ w (lv_sub hl [1, 2, 3, 4, 5, 6, 0] rfl)
set_option maxRecDepth 100000 in
set_option maxHeartbeats 4000000 in
theorem lp_X7_coast_130 {l : Launch} {G : GG} {p : Program} {e : Env} {s : State} {m : MethodId} {args : Array Value} {below : List Frame} {meth : Method} {c : Code} {Q : State → Prop} {σ : St} (X : Cx p m c cX7_coast 7 s args RX7 G) (y1 : Int32) (y2 : Int32) (y3 : Int32) (y4 : Int32) (B : Nat) (hB : B < 2 ^ 30) (w0 : Gr) (hK : (w0 0 46).toNatClampNeg ≤ 48) (hsp : ∀ i, i < (w0 0 46).toNatClampNeg → SPr w0 i) (z : Nat × Int32 × Gr)
    (kk217 : z.1 = 217 → ∀ (H : Heap) (locs : List Loc) (ls : Array Slot), Wh G s σ 4 z.2.2 H locs → lv_has ls 7 [(0, .ref (aa G 4 0)), (1, .int y1), (2, .int y2), (3, .int y3), (4, .int y4)] → W p l e (rmv 4 96) s m args below meth c H locs 0 0 Q (F0 m 217 ls []))
    (kk210 : z.1 = 210 → ∀ (H : Heap) (locs : List Loc) (ls : Array Slot), Wh G s σ 4 z.2.2 H locs → lv_has ls 7 [(0, .ref (aa G 4 0)), (1, .int y1), (2, .int y2), (3, .int y3), (4, .int y4)] → W p l e (rmv 4 96) s m args below meth c H locs 0 0 Q (F0 m 210 ls [.int z.2.1])) :
    ∀ (n k : Nat) (v : Gr), k ≤ (w0 0 46).toNatClampNeg → (w0 0 46).toNatClampNeg - k < n → wl (b_X7_coast_130 y1 y2 y3 y4) n k v = z → (WFm B v) → (v 0 46 = w0 0 46) → (v 48 = w0 48) → (v 49 = w0 49) → ∀ (H : Heap) (locs : List Loc) (ls : Array Slot), Wh G s σ 4 v H locs → lv_has ls 7 [(0, .ref (aa G 4 0)), (1, .int y1), (2, .int y2), (3, .int y3), (4, .int y4), (5, .int (nI k))] → W p l e (rmv 4 96) s m args below meth c H locs 0 0 Q (F0 m 130 ls []) := by
  have hx := X.1.1
  have hb := X.1.2.1
  intro n
  induction n with
  | zero => intro k v _ h; omega
  | succ n ih =>
    intro k v hkN hn hz hm h46 h48 h49 H locs ls w hl
    refine lv_iload hx hb dX7_coast_130 (lv_at hl 5 rfl) ?_
    refine lv_aload_n hx hb dX7_coast_132 rfl (lv_at hl 0 rfl) ?_
    refine gf7_292 X w dX7_coast_133 ?_
    refine lv_icmp_ge (tgt := 217) hx hb dX7_coast_136 (by decide) (fun zc136 => ?_) (fun zc136 => ?_)
    · -- 217
      have hz1 : z = ((217, 0, v) : Nat × Int32 × Gr) := by rw [← hz]; exact wl_out (by simp only [b_X7_coast_130, if_pos zc136])
      subst hz1
      exact kk217 rfl _ _ _ w (lv_sub hl [0, 1, 2, 3, 4] rfl)
    · -- 139
      have hk : k < (w0 0 46).toNatClampNeg := (by first | assumption | exact lp_lt hkN (by rw [← h46]; exact zc136))
      refine lv_aload_n hx hb dX7_coast_139 rfl (lv_at hl 0 rfl) ?_
      refine lv_iload hx hb dX7_coast_140 (lv_at hl 5 rfl) ?_
      refine k_i (rr_v (rest := []) X w mX7_comes kw1116 (c_X7_comes (nI k) B hB hm ⟨k, by omega, by omega, rfl⟩ (cm28 h48 h49 (by omega) (hsp k hk))) m4_0 rfl rfl ⟨Nat.le_of_ble_eq_true rfl, Nat.le_of_ble_eq_true rfl⟩ rfl hl.1 rfl (Nat.le_of_ble_eq_true rfl) dX7_coast_142 ⟨Nat.zero_le _, Nat.zero_le _⟩) w (fun H locs w => ?_)
      obtain ⟨zs142, ezs142⟩ : ∃ y : Gr, y = g_X7_comes v (nI k) := ⟨_, rfl⟩; rw [← ezs142] at w
      have hm : WFm B zs142 := by rw [ezs142]; exact comes_WF hm rfl (by omega) (SPr.of h48 h49 (hsp k hk))
      have h46 : zs142 0 46 = w0 0 46 := by rw [ezs142, comes_s _ _ 46 (by decide)]; exact h46
      have h48 : zs142 48 = w0 48 := by rw [ezs142, comes_c _ _ 48 (by decide)]; exact h48
      have h49 : zs142 49 = w0 49 := by rw [ezs142, comes_c _ _ 49 (by decide)]; exact h49
      refine lv_if_ne (tgt := 211) hx hb dX7_coast_145 (by decide) (fun zc145 => ?_) (fun zc145 => ?_)
      · -- 211
        refine lv_iinc (v := nI (k + 1)) (lv' := [(5, .int (nI (k + 1))), (0, .ref (aa G 4 0)), (1, .int y1), (2, .int y2), (3, .int y3), (4, .int y4)]) hx hb dX7_coast_211 hl (k := 5) rfl (nI_1 _) (by decide) rfl (fun ls hl => ?_)
        refine lv_goto (tgt := 130) hx hb dX7_coast_214 (by decide) ?_
        have hk : k < (w0 0 46).toNatClampNeg := (by first | assumption | exact lp_lt hkN (by rw [← h46]; exact zc136))
        exact ih (k + 1) zs142 (by omega) (by omega) (by rw [← hz]; replace ezs142 := ezs142.symm; subst ezs142; exact (wl_go (t := 0) (r := 0) (by simp only [b_X7_coast_130, if_neg zc136, if_neg zc145])).symm) hm h46 h48 h49 _ _ _ w (lv_sub hl [1, 2, 3, 4, 5, 0] rfl)
      · -- 148
        refine lv_aload_n hx hb dX7_coast_148 rfl (lv_at hl 0 rfl) ?_
        refine lv_iload_n hx hb dX7_coast_149 rfl (lv_at hl 1 rfl) ?_
        refine pf7_111 X w dX7_coast_150 (fun zs150 H locs ezs150 w => ?_)
        refine lv_aload_n hx hb dX7_coast_153 rfl (lv_at hl 0 rfl) ?_
        refine lv_iload_n hx hb dX7_coast_154 rfl (lv_at hl 2 rfl) ?_
        refine pf7_132 X w dX7_coast_155 (fun zs155 H locs ezs155 w => ?_)
        refine lv_aload_n hx hb dX7_coast_158 rfl (lv_at hl 0 rfl) ?_
        refine lv_iload_n hx hb dX7_coast_159 rfl (lv_at hl 3 rfl) ?_
        refine pf7_147 X w dX7_coast_160 (fun zs160 H locs ezs160 w => ?_)
        refine lv_aload_n hx hb dX7_coast_163 rfl (lv_at hl 0 rfl) ?_
        refine lv_iload hx hb dX7_coast_164 (lv_at hl 4 rfl) ?_
        change W _ _ _ _ _ _ _ _ _ _ _ _ _ _ _ (F0 m 166 ls _)
        refine pf7_62 X w dX7_coast_166 (fun zs166 H locs ezs166 w => ?_)
        refine lv_iconst (v := 0) hx hb dX7_coast_169 (by decide) ?_
        refine lv_istore (lv' := [(6, .int 0), (0, .ref (aa G 4 0)), (1, .int y1), (2, .int y2), (3, .int y3), (4, .int y4), (5, .int (nI k))]) hx hb dX7_coast_170 hl (by decide) rfl (fun ls hl => ?_)
        refine lp_X7_coast_172 X y1 y2 y3 y4 (nI k) zs166  (fun H locs ls w hl => ?_) (28 + 1) 0 _ (Nat.zero_le _) (Nat.lt_succ_of_le (Nat.sub_le _ _)) rfl  _ _ _ w (lv_sub hl [1, 2, 3, 4, 5, 6, 0] rfl)
        obtain ⟨zl172, ezl172⟩ : ∃ y : Gr, y = (l_X7_coast_172 y1 y2 y3 y4 (nI k) zs166) := ⟨_, rfl⟩
        rw [← ezl172] at w
        refine lv_sipush (v := (-2000)) hx hb dX7_coast_199 (by decide) ?_
        refine lv_aload_n hx hb dX7_coast_202 rfl (lv_at hl 0 rfl) ?_
        refine gf7_93 X w dX7_coast_203 ?_
        refine lv_iload hx hb dX7_coast_206 (lv_at hl 5 rfl) ?_
        refine ia (f := 47) (n := 50) X w m4_47 rfl (vp_in_nI (by omega) (by decide)) dX7_coast_208 ?_
        refine lv_isub hx hb dX7_coast_209 ?_
        have hz1 : z = ((210, (-2000) - (zl172 47 (nI k).toNatClampNeg), zl172) : Nat × Int32 × Gr) := by rw [← hz]; replace ezl172 := ezl172.symm; subst ezl172; replace ezs166 := ezs166.symm; subst ezs166; replace ezs160 := ezs160.symm; subst ezs160; replace ezs155 := ezs155.symm; subst ezs155; replace ezs150 := ezs150.symm; subst ezs150; replace ezs142 := ezs142.symm; subst ezs142; exact wl_out (by simp only [b_X7_coast_130, if_neg zc136, if_pos zc145])
        subst hz1
        exact kk210 rfl _ _ _ w (lv_sub hl [0, 1, 2, 3, 4] rfl)
set_option maxRecDepth 100000 in
set_option maxHeartbeats 4000000 in
theorem c_X7_coast {l : Launch} {G : GG} {σ : St} {ρ : Gr}  (B : Nat) (hB : B < 2 ^ 30) (hm : WFm B ρ) : MM l G yX7_coast cX7_coast 7 4 96 (some .int) [.ref (aa G 4 0)] (setG σ 4 ρ) (Qi G (f_X7_coast ρ) (setG σ 4 (g_X7_coast ρ))) := by
  refine MM.of (by decide) (Nat.le_of_ble_eq_true rfl) ?_
  intro p e s m below meth c ls X hr hlk w hl
  have hx := X.1.1
  have hb := X.1.2.1
  have hl : lv_has ls 7 [(0, .ref (aa G 4 0))] := hl
  obtain ⟨e0, _, he0, ee0⟩ := hm.2.2.2.2.2.2.2.2.2.1
  refine lv_aload_n hx hb dX7_coast_0 rfl (lv_at hl 0 rfl) ?_
  refine lv_iconst (v := 0) hx hb dX7_coast_1 (by decide) ?_
  refine pf7_268 X w dX7_coast_2 (fun zs2 H locs ezs2 w => ?_)
  refine lv_aload_n hx hb dX7_coast_5 rfl (lv_at hl 0 rfl) ?_
  refine lv_aload_n hx hb dX7_coast_6 rfl (lv_at hl 0 rfl) ?_
  refine gf7_108 X w dX7_coast_7 ?_
  refine topeq (show zs2 0 30 = ρ 0 30 from by rw [ezs2]; rfl) ?_
  refine pf7_271 X w dX7_coast_10 (fun zs10 H locs ezs10 w => ?_)
  refine lv_aload_n hx hb dX7_coast_13 rfl (lv_at hl 0 rfl) ?_
  refine lv_iconst (v := 0) hx hb dX7_coast_14 (by decide) ?_
  refine pf7_108 X w dX7_coast_15 (fun zs15 H locs ezs15 w => ?_)
  refine lv_aload_n hx hb dX7_coast_18 rfl (lv_at hl 0 rfl) ?_
  change W _ _ _ _ _ _ _ _ _ _ _ _ _ _ _ (F0 m 19 ls _)
  refine lv_iconst (v := 0) hx hb dX7_coast_19 (by decide) ?_
  refine pf7_274 X w isB0 dX7_coast_20 (fun zs20 H locs ezs20 w => ?_)
  refine lv_aload_n hx hb dX7_coast_23 rfl (lv_at hl 0 rfl) ?_
  refine lv_iconst (v := 0) hx hb dX7_coast_24 (by decide) ?_
  refine pf7_292 X w dX7_coast_25 (fun zs25 H locs ezs25 w => ?_)
  have hmr : WFm B zs25 := by rw [ezs25, ezs20, ezs15, ezs10, ezs2]; exact hm.rd
  have hRX : RX 0 (ρ 29) e0 zs25 0 := by rw [ezs25, ezs20, ezs15, ezs10, ezs2]; exact ⟨rfl, ee0, he0, Nat.zero_le _, rfl, rfl⟩
  have h46s : zs25 0 46 = 0 := by rw [ezs25]; rfl
  obtain ⟨zl28, ezl28⟩ : ∃ y : Nat × Int32 × Gr, y = (l_X7_coast_28 zs25) := ⟨_, rfl⟩
  refine lp_X7_coast_28 X  zs25 (ρ 29) e0 zl28 (fun hz60 hix H locs ls w hl => ?_) (nn (48 + 1)) 0 zs25 (Nat.zero_le _) (by rw [nn_eq]; exact Nat.lt_succ_of_le (Nat.sub_le _ _)) ezl28.symm (RI.start hRX h46s) _ _ _ w (lv_sub hl [0] rfl)
  · -- leaves at 60
    obtain ⟨K, hi⟩ := hix
    have hm9 : WFm B zl28.2.2 := hi.1.wf hmr
    refine lv_aload_n hx hb dX7_coast_60 rfl (lv_at hl 0 rfl) ?_
    refine gf7_274 X w dX7_coast_61 ?_
    refine lv_if_eq (tgt := 76) hx hb dX7_coast_64 (by decide) (fun zc64 => ?_) (fun zc64 => ?_)
    · -- 76
      refine lv_aload_n hx hb dX7_coast_76 rfl (lv_at hl 0 rfl) ?_
      refine gf7_111 X w dX7_coast_77 ?_
      refine lv_topi (fun zv80 ezv80 => ?_)
      refine lv_istore_n (lv' := [(1, .int zv80), (0, .ref (aa G 4 0))]) hx hb dX7_coast_80 rfl hl (by decide) rfl (fun ls hl => ?_)
      refine lv_aload_n hx hb dX7_coast_81 rfl (lv_at hl 1 rfl) ?_
      refine gf7_132 X w dX7_coast_82 ?_
      refine lv_topi (fun zv85 ezv85 => ?_)
      refine lv_istore_n (lv' := [(2, .int zv85), (1, .int zv80), (0, .ref (aa G 4 0))]) hx hb dX7_coast_85 rfl hl (by decide) rfl (fun ls hl => ?_)
      refine lv_aload_n hx hb dX7_coast_86 rfl (lv_at hl 2 rfl) ?_
      refine gf7_147 X w dX7_coast_87 ?_
      refine lv_topi (fun zv90 ezv90 => ?_)
      refine lv_istore_n (lv' := [(3, .int zv90), (2, .int zv85), (1, .int zv80), (0, .ref (aa G 4 0))]) hx hb dX7_coast_90 rfl hl (by decide) rfl (fun ls hl => ?_)
      refine lv_aload_n hx hb dX7_coast_91 rfl (lv_at hl 3 rfl) ?_
      refine gf7_62 X w dX7_coast_92 ?_
      change W _ _ _ _ _ _ _ _ _ _ _ _ _ _ _ (F0 m 95 ls _)
      refine lv_topi (fun zv95 ezv95 => ?_)
      refine lv_istore (lv' := [(4, .int zv95), (3, .int zv90), (2, .int zv85), (1, .int zv80), (0, .ref (aa G 4 0))]) hx hb dX7_coast_95 hl (by decide) rfl (fun ls hl => ?_)
      refine lv_iconst (v := 0) hx hb dX7_coast_97 (by decide) ?_
      refine lv_istore (lv' := [(5, .int 0), (4, .int zv95), (3, .int zv90), (2, .int zv85), (1, .int zv80), (0, .ref (aa G 4 0))]) hx hb dX7_coast_98 hl (by decide) rfl (fun ls hl => ?_)
      refine lp_X7_coast_100 X zv80 zv85 zv90 zv95 zl28.2.2  (fun H locs ls w hl => ?_) (28 + 1) 0 _ (Nat.zero_le _) (Nat.lt_succ_of_le (Nat.sub_le _ _)) rfl  _ _ _ w (lv_sub hl [5, 4, 3, 2, 1, 0] rfl)
      obtain ⟨zl100, ezl100⟩ : ∃ y : Gr, y = (l_X7_coast_100 zv80 zv85 zv90 zv95 zl28.2.2) := ⟨_, rfl⟩
      rw [← ezl100] at w
      have hm : WFm B zl100 := by rw [ezl100]; exact co100_WF hm9
      have hK : (zl100 0 46).toNatClampNeg ≤ 48 := by rw [ezl100, co100_c _ _ _ _ _ 0 (by decide), hi.2.1, nI_clamp (by have := hi.2.2.1; omega)]; exact hi.2.2.1
      have hsp : ∀ i, i < (zl100 0 46).toNatClampNeg → SPr zl100 i := by rw [ezl100, co100_c _ _ _ _ _ 0 (by decide), hi.2.1, nI_clamp (by have := hi.2.2.1; omega)]; exact fun i hh => SPr.of (co100_c _ _ _ _ _ 48 (by decide)) (co100_c _ _ _ _ _ 49 (by decide)) ((hi.good zc64).2.2.sp i hh)
      refine lv_iconst (v := 0) hx hb dX7_coast_127 (by decide) ?_
      refine lv_istore (lv' := [(5, .int 0), (0, .ref (aa G 4 0)), (1, .int zv80), (2, .int zv85), (3, .int zv90), (4, .int zv95)]) hx hb dX7_coast_128 hl (by decide) rfl (fun ls hl => ?_)
      obtain ⟨zl130, ezl130⟩ : ∃ y : Nat × Int32 × Gr, y = (l_X7_coast_130 zv80 zv85 zv90 zv95 zl100) := ⟨_, rfl⟩
      refine lp_X7_coast_130 X zv80 zv85 zv90 zv95 B hB zl100 hK hsp zl130 (fun hz217 H locs ls w hl => ?_) (fun hz210 H locs ls w hl => ?_) (nn ((zl100 0 46).toNatClampNeg + 1)) 0 zl100 (Nat.zero_le _) (by rw [nn_eq]; exact Nat.lt_succ_of_le (Nat.sub_le _ _)) ezl130.symm hm rfl rfl rfl _ _ _ w (lv_sub hl [1, 2, 3, 4, 5, 0] rfl)
      · -- leaves at 217
        refine lv_aload_n hx hb dX7_coast_217 rfl (lv_at hl 0 rfl) ?_
        refine gf7_292 X w dX7_coast_218 ?_
        exact t_i X w hr hlk dX7_coast_221 (by replace ezl130 := ezl130.symm; subst ezl130; replace ezl100 := ezl100.symm; subst ezl100; replace ezv95 := ezv95.symm; subst ezv95; replace ezv90 := ezv90.symm; subst ezv90; replace ezv85 := ezv85.symm; subst ezv85; replace ezv80 := ezv80.symm; subst ezv80; replace ezl28 := ezl28.symm; subst ezl28; replace ezs25 := ezs25.symm; subst ezs25; replace ezs20 := ezs20.symm; subst ezs20; replace ezs15 := ezs15.symm; subst ezs15; replace ezs10 := ezs10.symm; subst ezs10; replace ezs2 := ezs2.symm; subst ezs2; simp only [f_X7_coast, if_pos zc64, if_pos hz217]) (by replace ezl130 := ezl130.symm; subst ezl130; replace ezl100 := ezl100.symm; subst ezl100; replace ezv95 := ezv95.symm; subst ezv95; replace ezv90 := ezv90.symm; subst ezv90; replace ezv85 := ezv85.symm; subst ezv85; replace ezv80 := ezv80.symm; subst ezv80; replace ezl28 := ezl28.symm; subst ezl28; replace ezs25 := ezs25.symm; subst ezs25; replace ezs20 := ezs20.symm; subst ezs20; replace ezs15 := ezs15.symm; subst ezs15; replace ezs10 := ezs10.symm; subst ezs10; replace ezs2 := ezs2.symm; subst ezs2; simp only [g_X7_coast, if_pos zc64, if_pos hz217])
      · -- leaves at 210
        have hn217 : ¬ zl130.1 = 217 := by rw [hz210]; decide
        exact t_i X w hr hlk dX7_coast_210 (by replace ezl130 := ezl130.symm; subst ezl130; replace ezl100 := ezl100.symm; subst ezl100; replace ezv95 := ezv95.symm; subst ezv95; replace ezv90 := ezv90.symm; subst ezv90; replace ezv85 := ezv85.symm; subst ezv85; replace ezv80 := ezv80.symm; subst ezv80; replace ezl28 := ezl28.symm; subst ezl28; replace ezs25 := ezs25.symm; subst ezs25; replace ezs20 := ezs20.symm; subst ezs20; replace ezs15 := ezs15.symm; subst ezs15; replace ezs10 := ezs10.symm; subst ezs10; replace ezs2 := ezs2.symm; subst ezs2; simp only [f_X7_coast, if_pos zc64, if_neg hn217]) (by replace ezl130 := ezl130.symm; subst ezl130; replace ezl100 := ezl100.symm; subst ezl100; replace ezv95 := ezv95.symm; subst ezv95; replace ezv90 := ezv90.symm; subst ezv90; replace ezv85 := ezv85.symm; subst ezv85; replace ezv80 := ezv80.symm; subst ezv80; replace ezl28 := ezl28.symm; subst ezl28; replace ezs25 := ezs25.symm; subst ezs25; replace ezs20 := ezs20.symm; subst ezs20; replace ezs15 := ezs15.symm; subst ezs15; replace ezs10 := ezs10.symm; subst ezs10; replace ezs2 := ezs2.symm; subst ezs2; simp only [g_X7_coast, if_pos zc64, if_neg hn217])
    · -- 67
      refine lv_sipush (v := (-1000)) hx hb dX7_coast_67 (by decide) ?_
      refine lv_aload_n hx hb dX7_coast_70 rfl (lv_at hl 0 rfl) ?_
      refine gf7_268 X w dX7_coast_71 ?_
      refine lv_isub hx hb dX7_coast_74 ?_
      exact t_i X w hr hlk dX7_coast_75 (by replace ezl28 := ezl28.symm; subst ezl28; replace ezs25 := ezs25.symm; subst ezs25; replace ezs20 := ezs20.symm; subst ezs20; replace ezs15 := ezs15.symm; subst ezs15; replace ezs10 := ezs10.symm; subst ezs10; replace ezs2 := ezs2.symm; subst ezs2; simp only [f_X7_coast, if_neg zc64]) (by replace ezl28 := ezl28.symm; subst ezl28; replace ezs25 := ezs25.symm; subst ezs25; replace ezs20 := ezs20.symm; subst ezs20; replace ezs15 := ezs15.symm; subst ezs15; replace ezs10 := ezs10.symm; subst ezs10; replace ezs2 := ezs2.symm; subst ezs2; simp only [g_X7_coast, if_neg zc64])
