theorem carry_i {ρ : Gr} {x : Int32} {n : Nat} (h : ρ 0 53 = nI n) : g_X7_carry ρ x 0 53 = nI (n + 1) := by
  unfold g_X7_carry
  split
  · show ρ 0 53 + 1 = _; rw [h, nI_1]
  · show ρ 0 53 + 1 = _; rw [h, nI_1]
noncomputable def b_X7_carryAll_151  (k : Nat) (v : Gr) : Gr :=
  let zs169 : Gr := g_X7_carry v (v 1 (nI k).toNatClampNeg)
  let zs172 : Gr := up zs169 1 (nI k).toNatClampNeg (f_X7_carry v (v 1 (nI k).toNatClampNeg))
  let zs185 : Gr := g_X7_carry zs172 (zs172 2 (nI k).toNatClampNeg)
  let zs188 : Gr := up zs185 2 (nI k).toNatClampNeg (f_X7_carry zs172 (zs172 2 (nI k).toNatClampNeg))
  let zs201 : Gr := g_X7_carry zs188 (zs188 3 (nI k).toNatClampNeg)
  let zs204 : Gr := up zs201 3 (nI k).toNatClampNeg (f_X7_carry zs188 (zs188 3 (nI k).toNatClampNeg))
  let zs217 : Gr := g_X7_carry zs204 (zs204 4 (nI k).toNatClampNeg)
  let zs220 : Gr := up zs217 4 (nI k).toNatClampNeg (f_X7_carry zs204 (zs204 4 (nI k).toNatClampNeg))
  let zs233 : Gr := g_X7_carry zs220 (zs220 5 (nI k).toNatClampNeg)
  let zs236 : Gr := up zs233 5 (nI k).toNatClampNeg (f_X7_carry zs220 (zs220 5 (nI k).toNatClampNeg))
  let zs249 : Gr := g_X7_carry zs236 (zs236 16 (nI k).toNatClampNeg)
  let zs252 : Gr := up zs249 16 (nI k).toNatClampNeg (f_X7_carry zs236 (zs236 16 (nI k).toNatClampNeg))
  let zs265 : Gr := g_X7_carry zs252 (zs252 17 (nI k).toNatClampNeg)
  let zs268 : Gr := up zs265 17 (nI k).toNatClampNeg (f_X7_carry zs252 (zs252 17 (nI k).toNatClampNeg))
  let zs281 : Gr := g_X7_carry zs268 (zs268 18 (nI k).toNatClampNeg)
  let zs284 : Gr := up zs281 18 (nI k).toNatClampNeg (f_X7_carry zs268 (zs268 18 (nI k).toNatClampNeg))
  zs284
noncomputable def l_X7_carryAll_151  (v0 : Gr) : Gr := itn (b_X7_carryAll_151) (nn 8) v0
noncomputable def b_X7_carryAll_293  (k : Nat) (v : Gr) : Gr :=
  let zs311 : Gr := g_X7_carry v (v 6 (nI k).toNatClampNeg)
  let zs314 : Gr := up zs311 6 (nI k).toNatClampNeg (f_X7_carry v (v 6 (nI k).toNatClampNeg))
  let zs327 : Gr := g_X7_carry zs314 (zs314 7 (nI k).toNatClampNeg)
  let zs330 : Gr := up zs327 7 (nI k).toNatClampNeg (f_X7_carry zs314 (zs314 7 (nI k).toNatClampNeg))
  zs330
noncomputable def l_X7_carryAll_293  (v0 : Gr) : Gr := itn (b_X7_carryAll_293) (nn 16) v0
noncomputable def b_X7_carryAll_339  (k : Nat) (v : Gr) : Gr :=
  let zs357 : Gr := g_X7_carry v (v 9 (nI k).toNatClampNeg)
  let zs360 : Gr := up zs357 9 (nI k).toNatClampNeg (f_X7_carry v (v 9 (nI k).toNatClampNeg))
  let zs373 : Gr := g_X7_carry zs360 (zs360 10 (nI k).toNatClampNeg)
  let zs376 : Gr := up zs373 10 (nI k).toNatClampNeg (f_X7_carry zs360 (zs360 10 (nI k).toNatClampNeg))
  let zs389 : Gr := g_X7_carry zs376 (zs376 11 (nI k).toNatClampNeg)
  let zs392 : Gr := up zs389 11 (nI k).toNatClampNeg (f_X7_carry zs376 (zs376 11 (nI k).toNatClampNeg))
  let zs405 : Gr := g_X7_carry zs392 (zs392 12 (nI k).toNatClampNeg)
  let zs408 : Gr := up zs405 12 (nI k).toNatClampNeg (f_X7_carry zs392 (zs392 12 (nI k).toNatClampNeg))
  let zs421 : Gr := g_X7_carry zs408 (zs408 13 (nI k).toNatClampNeg)
  let zs424 : Gr := up zs421 13 (nI k).toNatClampNeg (f_X7_carry zs408 (zs408 13 (nI k).toNatClampNeg))
  if (zs424 14 (nI k).toNatClampNeg) = 0 then
    let zs445 : Gr := g_X7_carry zs424 0
    if (f_X7_carry zs424 0) = 1 then
      let zs457_2 : Gr := up zs445 14 (nI k).toNatClampNeg 1
      zs457_2
    else
      let zs457 : Gr := up zs445 14 (nI k).toNatClampNeg 0
      zs457
  else
    let zs445_2 : Gr := g_X7_carry zs424 1
    if (f_X7_carry zs424 1) = 1 then
      let zs457_4 : Gr := up zs445_2 14 (nI k).toNatClampNeg 1
      zs457_4
    else
      let zs457_3 : Gr := up zs445_2 14 (nI k).toNatClampNeg 0
      zs457_3
noncomputable def l_X7_carryAll_339  (v0 : Gr) : Gr := itn (b_X7_carryAll_339) (nn 24) v0
noncomputable def b_X7_carryAll_466  (k : Nat) (v : Gr) : Gr :=
  let zs484 : Gr := g_X7_carry v (v 19 (nI k).toNatClampNeg)
  let zs487 : Gr := up zs484 19 (nI k).toNatClampNeg (f_X7_carry v (v 19 (nI k).toNatClampNeg))
  zs487
noncomputable def l_X7_carryAll_466  (v0 : Gr) : Gr := itn (b_X7_carryAll_466) (nn 28) v0
noncomputable def g_X7_carryAll (ρ : Gr)  : Gr :=
  let zs2 : Gr := up ρ 0 53 0
  let zs11 : Gr := g_X7_carry zs2 (zs2 0 0)
  let zs14 : Gr := up zs11 0 0 (f_X7_carry zs2 (zs2 0 0))
  let zs23 : Gr := g_X7_carry zs14 (zs14 0 8)
  let zs26 : Gr := up zs23 0 8 (f_X7_carry zs14 (zs14 0 8))
  let zs35 : Gr := g_X7_carry zs26 (zs26 0 15)
  let zs38 : Gr := up zs35 0 15 (f_X7_carry zs26 (zs26 0 15))
  let zs47 : Gr := g_X7_carry zs38 (zs38 0 20)
  let zs50 : Gr := up zs47 0 20 (f_X7_carry zs38 (zs38 0 20))
  let zs59 : Gr := g_X7_carry zs50 (zs50 0 21)
  let zs62 : Gr := up zs59 0 21 (f_X7_carry zs50 (zs50 0 21))
  let zs71 : Gr := g_X7_carry zs62 (zs62 0 22)
  let zs74 : Gr := up zs71 0 22 (f_X7_carry zs62 (zs62 0 22))
  let zs83 : Gr := g_X7_carry zs74 (zs74 0 23)
  let zs86 : Gr := up zs83 0 23 (f_X7_carry zs74 (zs74 0 23))
  let zs95 : Gr := g_X7_carry zs86 (zs86 0 24)
  let zs98 : Gr := up zs95 0 24 (f_X7_carry zs86 (zs86 0 24))
  let zs107 : Gr := g_X7_carry zs98 (zs98 0 25)
  let zs110 : Gr := up zs107 0 25 (f_X7_carry zs98 (zs98 0 25))
  let zs119 : Gr := g_X7_carry zs110 (zs110 0 26)
  let zs122 : Gr := up zs119 0 26 (f_X7_carry zs110 (zs110 0 26))
  let zs131 : Gr := g_X7_carry zs122 (zs122 0 27)
  let zs134 : Gr := up zs131 0 27 (f_X7_carry zs122 (zs122 0 27))
  let zs143 : Gr := g_X7_carry zs134 (zs134 0 28)
  let zs146 : Gr := up zs143 0 28 (f_X7_carry zs134 (zs134 0 28))
  let zl151 : Gr := (l_X7_carryAll_151 zs146)
  let zl293 : Gr := (l_X7_carryAll_293 zl151)
  let zl339 : Gr := (l_X7_carryAll_339 zl293)
  let zl466 : Gr := (l_X7_carryAll_466 zl339)
  zl466
set_option maxRecDepth 100000 in
set_option maxHeartbeats 4000000 in
theorem lp_X7_carryAll_151 {l : Launch} {G : GG} {p : Program} {e : Env} {s : State} {m : MethodId} {args : Array Value} {below : List Frame} {meth : Method} {c : Code} {Q : State → Prop} {σ : St} (X : Cx p m c cX7_carryAll 2 s args RX7 G)  (v0 : Gr) 
    (kk : ∀ (H : Heap) (locs : List Loc) (ls : Array Slot), ((l_X7_carryAll_151 v0) 0 53 = nI (12 + 8 * (8))) → Wh G s σ 4 (l_X7_carryAll_151 v0) H locs → lv_has ls 2 [(0, .ref (aa G 4 0)), (1, .int (nI (8)))] → W p l e (rmv 1 21) s m args below meth c H locs 0 0 Q (F0 m 291 ls [])) :
    ∀ (n k : Nat) (v : Gr), k ≤ 8 → 8 - k < n → v = itn (b_X7_carryAll_151) k v0 → (v 0 53 = nI (12 + 8 * k)) → ∀ (H : Heap) (locs : List Loc) (ls : Array Slot), Wh G s σ 4 v H locs → lv_has ls 2 [(0, .ref (aa G 4 0)), (1, .int (nI k))] → W p l e (rmv 1 21) s m args below meth c H locs 0 0 Q (F0 m 151 ls []) := by
  have hx := X.1.1
  have hb := X.1.2.1
  intro n
  induction n with
  | zero => intro k v _ h; omega
  | succ n ih =>
    intro k v hkN hn ev hi H locs ls w hl
    refine lv_iload_n hx hb dX7_carryAll_151 rfl (lv_at hl 1 rfl) ?_
    refine lv_bipush (v := 8) hx hb dX7_carryAll_152 (by decide) ?_
    refine lv_icmp_ge (tgt := 291) hx hb dX7_carryAll_154 (by decide) (fun zc154 => ?_) (fun zc154 => ?_)
    · -- 291
      have hkE : k = 8 := lp_eqN hkN (by decide) zc154
      have ev2 : l_X7_carryAll_151 v0 = v := by unfold l_X7_carryAll_151; rw [nn_eq, ← hkE]; exact ev.symm
      rw [ev2] at kk
      rw [hkE] at hl
      exact kk _ _ _ (by rw [hkE] at hi; exact hi) w (lv_sub hl [0, 1] rfl)
    · -- 157
      have hk : k < 8 := lp_ltN hkN (by decide) zc154
      refine lv_aload_n hx hb dX7_carryAll_157 rfl (lv_at hl 0 rfl) ?_
      refine gf7_7 X w dX7_carryAll_158 ?_
      refine lv_iload_n hx hb dX7_carryAll_161 rfl (lv_at hl 1 rfl) ?_
      refine lv_aload_n hx hb dX7_carryAll_162 rfl (lv_at hl 0 rfl) ?_
      refine lv_aload_n hx hb dX7_carryAll_163 rfl (lv_at hl 0 rfl) ?_
      refine gf7_7 X w dX7_carryAll_164 ?_
      refine lv_iload_n hx hb dX7_carryAll_167 rfl (lv_at hl 1 rfl) ?_
      refine ia (f := 1) (n := 8) X w m4_1 rfl (vp_in_nI (by omega) (by decide)) dX7_carryAll_168 ?_
      refine k_i (rr_v (rest := [.int (nI k), .ref (aa G 4 1)]) X w mX7_carry kw1130 (c_X7_carry (v 1 (nI k).toNatClampNeg) (by rw [hi]; exact vp_in_nI (by omega) (by decide))) m4_0 rfl rfl ⟨Nat.le_of_ble_eq_true rfl, Nat.le_of_ble_eq_true rfl⟩ rfl hl.1 rfl (Nat.le_of_ble_eq_true rfl) dX7_carryAll_169 ⟨Nat.zero_le _, Nat.zero_le _⟩) w (fun H locs w => ?_)
      obtain ⟨zs169, ezs169⟩ : ∃ y : Gr, y = g_X7_carry v (v 1 (nI k).toNatClampNeg) := ⟨_, rfl⟩; rw [← ezs169] at w
      have hi := (congrFun (congrFun ezs169 0) 53).trans (carry_i hi)
      refine iS (f := 1) (n := 8) X w m4_1 rfl (vp_in_nI (by omega) (by decide)) dX7_carryAll_172 (fun zs172 H locs ezs172 w => ?_)
      have hi := (congrFun (congrFun ezs172 0) 53).trans hi
      refine lv_aload_n hx hb dX7_carryAll_173 rfl (lv_at hl 0 rfl) ?_
      change W _ _ _ _ _ _ _ _ _ _ _ _ _ _ _ (F0 m 174 ls _)
      refine gf7_13 X w dX7_carryAll_174 ?_
      refine lv_iload_n hx hb dX7_carryAll_177 rfl (lv_at hl 1 rfl) ?_
      refine lv_aload_n hx hb dX7_carryAll_178 rfl (lv_at hl 0 rfl) ?_
      refine lv_aload_n hx hb dX7_carryAll_179 rfl (lv_at hl 0 rfl) ?_
      refine gf7_13 X w dX7_carryAll_180 ?_
      refine lv_iload_n hx hb dX7_carryAll_183 rfl (lv_at hl 1 rfl) ?_
      refine ia (f := 2) (n := 8) X w m4_2 rfl (vp_in_nI (by omega) (by decide)) dX7_carryAll_184 ?_
      refine k_i (rr_v (rest := [.int (nI k), .ref (aa G 4 2)]) X w mX7_carry kw1130 (c_X7_carry (zs172 2 (nI k).toNatClampNeg) (by rw [hi]; exact vp_in_nI (by omega) (by decide))) m4_0 rfl rfl ⟨Nat.le_of_ble_eq_true rfl, Nat.le_of_ble_eq_true rfl⟩ rfl hl.1 rfl (Nat.le_of_ble_eq_true rfl) dX7_carryAll_185 ⟨Nat.zero_le _, Nat.zero_le _⟩) w (fun H locs w => ?_)
      obtain ⟨zs185, ezs185⟩ : ∃ y : Gr, y = g_X7_carry zs172 (zs172 2 (nI k).toNatClampNeg) := ⟨_, rfl⟩; rw [← ezs185] at w
      have hi := (congrFun (congrFun ezs185 0) 53).trans (carry_i hi)
      refine iS (f := 2) (n := 8) X w m4_2 rfl (vp_in_nI (by omega) (by decide)) dX7_carryAll_188 (fun zs188 H locs ezs188 w => ?_)
      have hi := (congrFun (congrFun ezs188 0) 53).trans hi
      refine lv_aload_n hx hb dX7_carryAll_189 rfl (lv_at hl 0 rfl) ?_
      refine gf7_16 X w dX7_carryAll_190 ?_
      refine lv_iload_n hx hb dX7_carryAll_193 rfl (lv_at hl 1 rfl) ?_
      change W _ _ _ _ _ _ _ _ _ _ _ _ _ _ _ (F0 m 194 ls _)
      refine lv_aload_n hx hb dX7_carryAll_194 rfl (lv_at hl 0 rfl) ?_
      refine lv_aload_n hx hb dX7_carryAll_195 rfl (lv_at hl 0 rfl) ?_
      refine gf7_16 X w dX7_carryAll_196 ?_
      refine lv_iload_n hx hb dX7_carryAll_199 rfl (lv_at hl 1 rfl) ?_
      refine ia (f := 3) (n := 8) X w m4_3 rfl (vp_in_nI (by omega) (by decide)) dX7_carryAll_200 ?_
      refine k_i (rr_v (rest := [.int (nI k), .ref (aa G 4 3)]) X w mX7_carry kw1130 (c_X7_carry (zs188 3 (nI k).toNatClampNeg) (by rw [hi]; exact vp_in_nI (by omega) (by decide))) m4_0 rfl rfl ⟨Nat.le_of_ble_eq_true rfl, Nat.le_of_ble_eq_true rfl⟩ rfl hl.1 rfl (Nat.le_of_ble_eq_true rfl) dX7_carryAll_201 ⟨Nat.zero_le _, Nat.zero_le _⟩) w (fun H locs w => ?_)
      obtain ⟨zs201, ezs201⟩ : ∃ y : Gr, y = g_X7_carry zs188 (zs188 3 (nI k).toNatClampNeg) := ⟨_, rfl⟩; rw [← ezs201] at w
      have hi := (congrFun (congrFun ezs201 0) 53).trans (carry_i hi)
      refine iS (f := 3) (n := 8) X w m4_3 rfl (vp_in_nI (by omega) (by decide)) dX7_carryAll_204 (fun zs204 H locs ezs204 w => ?_)
      have hi := (congrFun (congrFun ezs204 0) 53).trans hi
      refine lv_aload_n hx hb dX7_carryAll_205 rfl (lv_at hl 0 rfl) ?_
      refine gf7_19 X w dX7_carryAll_206 ?_
      refine lv_iload_n hx hb dX7_carryAll_209 rfl (lv_at hl 1 rfl) ?_
      refine lv_aload_n hx hb dX7_carryAll_210 rfl (lv_at hl 0 rfl) ?_
      refine lv_aload_n hx hb dX7_carryAll_211 rfl (lv_at hl 0 rfl) ?_
      change W _ _ _ _ _ _ _ _ _ _ _ _ _ _ _ (F0 m 212 ls _)
      refine gf7_19 X w dX7_carryAll_212 ?_
      refine lv_iload_n hx hb dX7_carryAll_215 rfl (lv_at hl 1 rfl) ?_
      refine ia (f := 4) (n := 8) X w m4_4 rfl (vp_in_nI (by omega) (by decide)) dX7_carryAll_216 ?_
      refine k_i (rr_v (rest := [.int (nI k), .ref (aa G 4 4)]) X w mX7_carry kw1130 (c_X7_carry (zs204 4 (nI k).toNatClampNeg) (by rw [hi]; exact vp_in_nI (by omega) (by decide))) m4_0 rfl rfl ⟨Nat.le_of_ble_eq_true rfl, Nat.le_of_ble_eq_true rfl⟩ rfl hl.1 rfl (Nat.le_of_ble_eq_true rfl) dX7_carryAll_217 ⟨Nat.zero_le _, Nat.zero_le _⟩) w (fun H locs w => ?_)
      obtain ⟨zs217, ezs217⟩ : ∃ y : Gr, y = g_X7_carry zs204 (zs204 4 (nI k).toNatClampNeg) := ⟨_, rfl⟩; rw [← ezs217] at w
      have hi := (congrFun (congrFun ezs217 0) 53).trans (carry_i hi)
      refine iS (f := 4) (n := 8) X w m4_4 rfl (vp_in_nI (by omega) (by decide)) dX7_carryAll_220 (fun zs220 H locs ezs220 w => ?_)
      have hi := (congrFun (congrFun ezs220 0) 53).trans hi
      refine lv_aload_n hx hb dX7_carryAll_221 rfl (lv_at hl 0 rfl) ?_
      refine gf7_22 X w dX7_carryAll_222 ?_
      refine lv_iload_n hx hb dX7_carryAll_225 rfl (lv_at hl 1 rfl) ?_
      refine lv_aload_n hx hb dX7_carryAll_226 rfl (lv_at hl 0 rfl) ?_
      refine lv_aload_n hx hb dX7_carryAll_227 rfl (lv_at hl 0 rfl) ?_
      refine gf7_22 X w dX7_carryAll_228 ?_
      refine lv_iload_n hx hb dX7_carryAll_231 rfl (lv_at hl 1 rfl) ?_
      change W _ _ _ _ _ _ _ _ _ _ _ _ _ _ _ (F0 m 232 ls _)
      refine ia (f := 5) (n := 8) X w m4_5 rfl (vp_in_nI (by omega) (by decide)) dX7_carryAll_232 ?_
      refine k_i (rr_v (rest := [.int (nI k), .ref (aa G 4 5)]) X w mX7_carry kw1130 (c_X7_carry (zs220 5 (nI k).toNatClampNeg) (by rw [hi]; exact vp_in_nI (by omega) (by decide))) m4_0 rfl rfl ⟨Nat.le_of_ble_eq_true rfl, Nat.le_of_ble_eq_true rfl⟩ rfl hl.1 rfl (Nat.le_of_ble_eq_true rfl) dX7_carryAll_233 ⟨Nat.zero_le _, Nat.zero_le _⟩) w (fun H locs w => ?_)
      obtain ⟨zs233, ezs233⟩ : ∃ y : Gr, y = g_X7_carry zs220 (zs220 5 (nI k).toNatClampNeg) := ⟨_, rfl⟩; rw [← ezs233] at w
      have hi := (congrFun (congrFun ezs233 0) 53).trans (carry_i hi)
      refine iS (f := 5) (n := 8) X w m4_5 rfl (vp_in_nI (by omega) (by decide)) dX7_carryAll_236 (fun zs236 H locs ezs236 w => ?_)
      have hi := (congrFun (congrFun ezs236 0) 53).trans hi
      refine lv_aload_n hx hb dX7_carryAll_237 rfl (lv_at hl 0 rfl) ?_
      refine gf7_50 X w dX7_carryAll_238 ?_
      refine lv_iload_n hx hb dX7_carryAll_241 rfl (lv_at hl 1 rfl) ?_
      refine lv_aload_n hx hb dX7_carryAll_242 rfl (lv_at hl 0 rfl) ?_
      refine lv_aload_n hx hb dX7_carryAll_243 rfl (lv_at hl 0 rfl) ?_
      refine gf7_50 X w dX7_carryAll_244 ?_
      refine lv_iload_n hx hb dX7_carryAll_247 rfl (lv_at hl 1 rfl) ?_
      refine ia (f := 16) (n := 8) X w m4_16 rfl (vp_in_nI (by omega) (by decide)) dX7_carryAll_248 ?_
      refine k_i (rr_v (rest := [.int (nI k), .ref (aa G 4 16)]) X w mX7_carry kw1130 (c_X7_carry (zs236 16 (nI k).toNatClampNeg) (by rw [hi]; exact vp_in_nI (by omega) (by decide))) m4_0 rfl rfl ⟨Nat.le_of_ble_eq_true rfl, Nat.le_of_ble_eq_true rfl⟩ rfl hl.1 rfl (Nat.le_of_ble_eq_true rfl) dX7_carryAll_249 ⟨Nat.zero_le _, Nat.zero_le _⟩) w (fun H locs w => ?_)
      obtain ⟨zs249, ezs249⟩ : ∃ y : Gr, y = g_X7_carry zs236 (zs236 16 (nI k).toNatClampNeg) := ⟨_, rfl⟩; rw [← ezs249] at w
      have hi := (congrFun (congrFun ezs249 0) 53).trans (carry_i hi)
      change W _ _ _ _ _ _ _ _ _ _ _ _ _ _ _ (F0 m 252 ls _)
      refine iS (f := 16) (n := 8) X w m4_16 rfl (vp_in_nI (by omega) (by decide)) dX7_carryAll_252 (fun zs252 H locs ezs252 w => ?_)
      have hi := (congrFun (congrFun ezs252 0) 53).trans hi
      refine lv_aload_n hx hb dX7_carryAll_253 rfl (lv_at hl 0 rfl) ?_
      refine gf7_53 X w dX7_carryAll_254 ?_
      refine lv_iload_n hx hb dX7_carryAll_257 rfl (lv_at hl 1 rfl) ?_
      refine lv_aload_n hx hb dX7_carryAll_258 rfl (lv_at hl 0 rfl) ?_
      refine lv_aload_n hx hb dX7_carryAll_259 rfl (lv_at hl 0 rfl) ?_
      refine gf7_53 X w dX7_carryAll_260 ?_
      refine lv_iload_n hx hb dX7_carryAll_263 rfl (lv_at hl 1 rfl) ?_
      refine ia (f := 17) (n := 8) X w m4_17 rfl (vp_in_nI (by omega) (by decide)) dX7_carryAll_264 ?_
      refine k_i (rr_v (rest := [.int (nI k), .ref (aa G 4 17)]) X w mX7_carry kw1130 (c_X7_carry (zs252 17 (nI k).toNatClampNeg) (by rw [hi]; exact vp_in_nI (by omega) (by decide))) m4_0 rfl rfl ⟨Nat.le_of_ble_eq_true rfl, Nat.le_of_ble_eq_true rfl⟩ rfl hl.1 rfl (Nat.le_of_ble_eq_true rfl) dX7_carryAll_265 ⟨Nat.zero_le _, Nat.zero_le _⟩) w (fun H locs w => ?_)
      obtain ⟨zs265, ezs265⟩ : ∃ y : Gr, y = g_X7_carry zs252 (zs252 17 (nI k).toNatClampNeg) := ⟨_, rfl⟩; rw [← ezs265] at w
      have hi := (congrFun (congrFun ezs265 0) 53).trans (carry_i hi)
      refine iS (f := 17) (n := 8) X w m4_17 rfl (vp_in_nI (by omega) (by decide)) dX7_carryAll_268 (fun zs268 H locs ezs268 w => ?_)
      have hi := (congrFun (congrFun ezs268 0) 53).trans hi
      refine lv_aload_n hx hb dX7_carryAll_269 rfl (lv_at hl 0 rfl) ?_
      change W _ _ _ _ _ _ _ _ _ _ _ _ _ _ _ (F0 m 270 ls _)
      refine gf7_56 X w dX7_carryAll_270 ?_
      refine lv_iload_n hx hb dX7_carryAll_273 rfl (lv_at hl 1 rfl) ?_
      refine lv_aload_n hx hb dX7_carryAll_274 rfl (lv_at hl 0 rfl) ?_
      refine lv_aload_n hx hb dX7_carryAll_275 rfl (lv_at hl 0 rfl) ?_
      refine gf7_56 X w dX7_carryAll_276 ?_
      refine lv_iload_n hx hb dX7_carryAll_279 rfl (lv_at hl 1 rfl) ?_
      refine ia (f := 18) (n := 8) X w m4_18 rfl (vp_in_nI (by omega) (by decide)) dX7_carryAll_280 ?_
      refine k_i (rr_v (rest := [.int (nI k), .ref (aa G 4 18)]) X w mX7_carry kw1130 (c_X7_carry (zs268 18 (nI k).toNatClampNeg) (by rw [hi]; exact vp_in_nI (by omega) (by decide))) m4_0 rfl rfl ⟨Nat.le_of_ble_eq_true rfl, Nat.le_of_ble_eq_true rfl⟩ rfl hl.1 rfl (Nat.le_of_ble_eq_true rfl) dX7_carryAll_281 ⟨Nat.zero_le _, Nat.zero_le _⟩) w (fun H locs w => ?_)
      obtain ⟨zs281, ezs281⟩ : ∃ y : Gr, y = g_X7_carry zs268 (zs268 18 (nI k).toNatClampNeg) := ⟨_, rfl⟩; rw [← ezs281] at w
      have hi := (congrFun (congrFun ezs281 0) 53).trans (carry_i hi)
      refine iS (f := 18) (n := 8) X w m4_18 rfl (vp_in_nI (by omega) (by decide)) dX7_carryAll_284 (fun zs284 H locs ezs284 w => ?_)
      have hi := (congrFun (congrFun ezs284 0) 53).trans hi
      refine lv_iinc (v := nI (k + 1)) (lv' := [(1, .int (nI (k + 1))), (0, .ref (aa G 4 0))]) hx hb dX7_carryAll_285 hl (k := 1) rfl (nI_1 _) (by decide) rfl (fun ls hl => ?_)
      refine lv_goto (tgt := 151) hx hb dX7_carryAll_288 (by decide) ?_
      exact ih (k + 1) zs284 (by omega) (by omega) (by replace ezs284 := ezs284.symm; subst ezs284; replace ezs281 := ezs281.symm; subst ezs281; replace ezs268 := ezs268.symm; subst ezs268; replace ezs265 := ezs265.symm; subst ezs265; replace ezs252 := ezs252.symm; subst ezs252; replace ezs249 := ezs249.symm; subst ezs249; replace ezs236 := ezs236.symm; subst ezs236; replace ezs233 := ezs233.symm; subst ezs233; replace ezs220 := ezs220.symm; subst ezs220; replace ezs217 := ezs217.symm; subst ezs217; replace ezs204 := ezs204.symm; subst ezs204; replace ezs201 := ezs201.symm; subst ezs201; replace ezs188 := ezs188.symm; subst ezs188; replace ezs185 := ezs185.symm; subst ezs185; replace ezs172 := ezs172.symm; subst ezs172; replace ezs169 := ezs169.symm; subst ezs169; simp only [itn, ← ev, b_X7_carryAll_151]) hi _ _ _ w (lv_sub hl [1, 0] rfl)
set_option maxRecDepth 100000 in
set_option maxHeartbeats 4000000 in
theorem lp_X7_carryAll_293 {l : Launch} {G : GG} {p : Program} {e : Env} {s : State} {m : MethodId} {args : Array Value} {below : List Frame} {meth : Method} {c : Code} {Q : State → Prop} {σ : St} (X : Cx p m c cX7_carryAll 2 s args RX7 G)  (v0 : Gr) 
    (kk : ∀ (H : Heap) (locs : List Loc) (ls : Array Slot), ((l_X7_carryAll_293 v0) 0 53 = nI (76 + 2 * (16))) → Wh G s σ 4 (l_X7_carryAll_293 v0) H locs → lv_has ls 2 [(0, .ref (aa G 4 0)), (1, .int (nI (16)))] → W p l e (rmv 1 21) s m args below meth c H locs 0 0 Q (F0 m 337 ls [])) :
    ∀ (n k : Nat) (v : Gr), k ≤ 16 → 16 - k < n → v = itn (b_X7_carryAll_293) k v0 → (v 0 53 = nI (76 + 2 * k)) → ∀ (H : Heap) (locs : List Loc) (ls : Array Slot), Wh G s σ 4 v H locs → lv_has ls 2 [(0, .ref (aa G 4 0)), (1, .int (nI k))] → W p l e (rmv 1 21) s m args below meth c H locs 0 0 Q (F0 m 293 ls []) := by
  have hx := X.1.1
  have hb := X.1.2.1
  intro n
  induction n with
  | zero => intro k v _ h; omega
  | succ n ih =>
    intro k v hkN hn ev hi H locs ls w hl
    refine lv_iload_n hx hb dX7_carryAll_293 rfl (lv_at hl 1 rfl) ?_
    refine lv_bipush (v := 16) hx hb dX7_carryAll_294 (by decide) ?_
    refine lv_icmp_ge (tgt := 337) hx hb dX7_carryAll_296 (by decide) (fun zc296 => ?_) (fun zc296 => ?_)
    · -- 337
      have hkE : k = 16 := lp_eqN hkN (by decide) zc296
      have ev2 : l_X7_carryAll_293 v0 = v := by unfold l_X7_carryAll_293; rw [nn_eq, ← hkE]; exact ev.symm
      rw [ev2] at kk
      rw [hkE] at hl
      exact kk _ _ _ (by rw [hkE] at hi; exact hi) w (lv_sub hl [0, 1] rfl)
    · -- 299
      have hk : k < 16 := lp_ltN hkN (by decide) zc296
      refine lv_aload_n hx hb dX7_carryAll_299 rfl (lv_at hl 0 rfl) ?_
      refine gf7_25 X w dX7_carryAll_300 ?_
      refine lv_iload_n hx hb dX7_carryAll_303 rfl (lv_at hl 1 rfl) ?_
      refine lv_aload_n hx hb dX7_carryAll_304 rfl (lv_at hl 0 rfl) ?_
      refine lv_aload_n hx hb dX7_carryAll_305 rfl (lv_at hl 0 rfl) ?_
      refine gf7_25 X w dX7_carryAll_306 ?_
      refine lv_iload_n hx hb dX7_carryAll_309 rfl (lv_at hl 1 rfl) ?_
      refine ia (f := 6) (n := 16) X w m4_6 rfl (vp_in_nI (by omega) (by decide)) dX7_carryAll_310 ?_
      refine k_i (rr_v (rest := [.int (nI k), .ref (aa G 4 6)]) X w mX7_carry kw1130 (c_X7_carry (v 6 (nI k).toNatClampNeg) (by rw [hi]; exact vp_in_nI (by omega) (by decide))) m4_0 rfl rfl ⟨Nat.le_of_ble_eq_true rfl, Nat.le_of_ble_eq_true rfl⟩ rfl hl.1 rfl (Nat.le_of_ble_eq_true rfl) dX7_carryAll_311 ⟨Nat.zero_le _, Nat.zero_le _⟩) w (fun H locs w => ?_)
      obtain ⟨zs311, ezs311⟩ : ∃ y : Gr, y = g_X7_carry v (v 6 (nI k).toNatClampNeg) := ⟨_, rfl⟩; rw [← ezs311] at w
      have hi := (congrFun (congrFun ezs311 0) 53).trans (carry_i hi)
      refine iS (f := 6) (n := 16) X w m4_6 rfl (vp_in_nI (by omega) (by decide)) dX7_carryAll_314 (fun zs314 H locs ezs314 w => ?_)
      have hi := (congrFun (congrFun ezs314 0) 53).trans hi
      refine lv_aload_n hx hb dX7_carryAll_315 rfl (lv_at hl 0 rfl) ?_
      change W _ _ _ _ _ _ _ _ _ _ _ _ _ _ _ (F0 m 316 ls _)
      refine gf7_28 X w dX7_carryAll_316 ?_
      refine lv_iload_n hx hb dX7_carryAll_319 rfl (lv_at hl 1 rfl) ?_
      refine lv_aload_n hx hb dX7_carryAll_320 rfl (lv_at hl 0 rfl) ?_
      refine lv_aload_n hx hb dX7_carryAll_321 rfl (lv_at hl 0 rfl) ?_
      refine gf7_28 X w dX7_carryAll_322 ?_
      refine lv_iload_n hx hb dX7_carryAll_325 rfl (lv_at hl 1 rfl) ?_
      refine ia (f := 7) (n := 16) X w m4_7 rfl (vp_in_nI (by omega) (by decide)) dX7_carryAll_326 ?_
      refine k_i (rr_v (rest := [.int (nI k), .ref (aa G 4 7)]) X w mX7_carry kw1130 (c_X7_carry (zs314 7 (nI k).toNatClampNeg) (by rw [hi]; exact vp_in_nI (by omega) (by decide))) m4_0 rfl rfl ⟨Nat.le_of_ble_eq_true rfl, Nat.le_of_ble_eq_true rfl⟩ rfl hl.1 rfl (Nat.le_of_ble_eq_true rfl) dX7_carryAll_327 ⟨Nat.zero_le _, Nat.zero_le _⟩) w (fun H locs w => ?_)
      obtain ⟨zs327, ezs327⟩ : ∃ y : Gr, y = g_X7_carry zs314 (zs314 7 (nI k).toNatClampNeg) := ⟨_, rfl⟩; rw [← ezs327] at w
      have hi := (congrFun (congrFun ezs327 0) 53).trans (carry_i hi)
      refine iS (f := 7) (n := 16) X w m4_7 rfl (vp_in_nI (by omega) (by decide)) dX7_carryAll_330 (fun zs330 H locs ezs330 w => ?_)
      have hi := (congrFun (congrFun ezs330 0) 53).trans hi
      refine lv_iinc (v := nI (k + 1)) (lv' := [(1, .int (nI (k + 1))), (0, .ref (aa G 4 0))]) hx hb dX7_carryAll_331 hl (k := 1) rfl (nI_1 _) (by decide) rfl (fun ls hl => ?_)
      refine lv_goto (tgt := 293) hx hb dX7_carryAll_334 (by decide) ?_
      exact ih (k + 1) zs330 (by omega) (by omega) (by replace ezs330 := ezs330.symm; subst ezs330; replace ezs327 := ezs327.symm; subst ezs327; replace ezs314 := ezs314.symm; subst ezs314; replace ezs311 := ezs311.symm; subst ezs311; simp only [itn, ← ev, b_X7_carryAll_293]) hi _ _ _ w (lv_sub hl [1, 0] rfl)
set_option maxRecDepth 100000 in
set_option maxHeartbeats 4000000 in
theorem lp_X7_carryAll_339 {l : Launch} {G : GG} {p : Program} {e : Env} {s : State} {m : MethodId} {args : Array Value} {below : List Frame} {meth : Method} {c : Code} {Q : State → Prop} {σ : St} (X : Cx p m c cX7_carryAll 2 s args RX7 G)  (v0 : Gr) 
    (kk : ∀ (H : Heap) (locs : List Loc) (ls : Array Slot), ((l_X7_carryAll_339 v0) 0 53 = nI (108 + 6 * (24))) → Wh G s σ 4 (l_X7_carryAll_339 v0) H locs → lv_has ls 2 [(0, .ref (aa G 4 0)), (1, .int (nI (24)))] → W p l e (rmv 1 21) s m args below meth c H locs 0 0 Q (F0 m 464 ls [])) :
    ∀ (n k : Nat) (v : Gr), k ≤ 24 → 24 - k < n → v = itn (b_X7_carryAll_339) k v0 → (v 0 53 = nI (108 + 6 * k)) → ∀ (H : Heap) (locs : List Loc) (ls : Array Slot), Wh G s σ 4 v H locs → lv_has ls 2 [(0, .ref (aa G 4 0)), (1, .int (nI k))] → W p l e (rmv 1 21) s m args below meth c H locs 0 0 Q (F0 m 339 ls []) := by
  have hx := X.1.1
  have hb := X.1.2.1
  intro n
  induction n with
  | zero => intro k v _ h; omega
  | succ n ih =>
    intro k v hkN hn ev hi H locs ls w hl
    refine lv_iload_n hx hb dX7_carryAll_339 rfl (lv_at hl 1 rfl) ?_
    refine lv_bipush (v := 24) hx hb dX7_carryAll_340 (by decide) ?_
    refine lv_icmp_ge (tgt := 464) hx hb dX7_carryAll_342 (by decide) (fun zc342 => ?_) (fun zc342 => ?_)
    · -- 464
      have hkE : k = 24 := lp_eqN hkN (by decide) zc342
      have ev2 : l_X7_carryAll_339 v0 = v := by unfold l_X7_carryAll_339; rw [nn_eq, ← hkE]; exact ev.symm
      rw [ev2] at kk
      rw [hkE] at hl
      exact kk _ _ _ (by rw [hkE] at hi; exact hi) w (lv_sub hl [0, 1] rfl)
    · -- 345
      have hk : k < 24 := lp_ltN hkN (by decide) zc342
      refine lv_aload_n hx hb dX7_carryAll_345 rfl (lv_at hl 0 rfl) ?_
      refine gf7_31 X w dX7_carryAll_346 ?_
      refine lv_iload_n hx hb dX7_carryAll_349 rfl (lv_at hl 1 rfl) ?_
      refine lv_aload_n hx hb dX7_carryAll_350 rfl (lv_at hl 0 rfl) ?_
      refine lv_aload_n hx hb dX7_carryAll_351 rfl (lv_at hl 0 rfl) ?_
      refine gf7_31 X w dX7_carryAll_352 ?_
      refine lv_iload_n hx hb dX7_carryAll_355 rfl (lv_at hl 1 rfl) ?_
      refine ia (f := 9) (n := 24) X w m4_9 rfl (vp_in_nI (by omega) (by decide)) dX7_carryAll_356 ?_
      refine k_i (rr_v (rest := [.int (nI k), .ref (aa G 4 9)]) X w mX7_carry kw1130 (c_X7_carry (v 9 (nI k).toNatClampNeg) (by rw [hi]; exact vp_in_nI (by omega) (by decide))) m4_0 rfl rfl ⟨Nat.le_of_ble_eq_true rfl, Nat.le_of_ble_eq_true rfl⟩ rfl hl.1 rfl (Nat.le_of_ble_eq_true rfl) dX7_carryAll_357 ⟨Nat.zero_le _, Nat.zero_le _⟩) w (fun H locs w => ?_)
      obtain ⟨zs357, ezs357⟩ : ∃ y : Gr, y = g_X7_carry v (v 9 (nI k).toNatClampNeg) := ⟨_, rfl⟩; rw [← ezs357] at w
      have hi := (congrFun (congrFun ezs357 0) 53).trans (carry_i hi)
      refine iS (f := 9) (n := 24) X w m4_9 rfl (vp_in_nI (by omega) (by decide)) dX7_carryAll_360 (fun zs360 H locs ezs360 w => ?_)
      have hi := (congrFun (congrFun ezs360 0) 53).trans hi
      refine lv_aload_n hx hb dX7_carryAll_361 rfl (lv_at hl 0 rfl) ?_
      change W _ _ _ _ _ _ _ _ _ _ _ _ _ _ _ (F0 m 362 ls _)
      refine gf7_34 X w dX7_carryAll_362 ?_
      refine lv_iload_n hx hb dX7_carryAll_365 rfl (lv_at hl 1 rfl) ?_
      refine lv_aload_n hx hb dX7_carryAll_366 rfl (lv_at hl 0 rfl) ?_
      refine lv_aload_n hx hb dX7_carryAll_367 rfl (lv_at hl 0 rfl) ?_
      refine gf7_34 X w dX7_carryAll_368 ?_
      refine lv_iload_n hx hb dX7_carryAll_371 rfl (lv_at hl 1 rfl) ?_
      refine ia (f := 10) (n := 24) X w m4_10 rfl (vp_in_nI (by omega) (by decide)) dX7_carryAll_372 ?_
      refine k_i (rr_v (rest := [.int (nI k), .ref (aa G 4 10)]) X w mX7_carry kw1130 (c_X7_carry (zs360 10 (nI k).toNatClampNeg) (by rw [hi]; exact vp_in_nI (by omega) (by decide))) m4_0 rfl rfl ⟨Nat.le_of_ble_eq_true rfl, Nat.le_of_ble_eq_true rfl⟩ rfl hl.1 rfl (Nat.le_of_ble_eq_true rfl) dX7_carryAll_373 ⟨Nat.zero_le _, Nat.zero_le _⟩) w (fun H locs w => ?_)
      obtain ⟨zs373, ezs373⟩ : ∃ y : Gr, y = g_X7_carry zs360 (zs360 10 (nI k).toNatClampNeg) := ⟨_, rfl⟩; rw [← ezs373] at w
      have hi := (congrFun (congrFun ezs373 0) 53).trans (carry_i hi)
      refine iS (f := 10) (n := 24) X w m4_10 rfl (vp_in_nI (by omega) (by decide)) dX7_carryAll_376 (fun zs376 H locs ezs376 w => ?_)
      have hi := (congrFun (congrFun ezs376 0) 53).trans hi
      refine lv_aload_n hx hb dX7_carryAll_377 rfl (lv_at hl 0 rfl) ?_
      refine gf7_37 X w dX7_carryAll_378 ?_
      refine lv_iload_n hx hb dX7_carryAll_381 rfl (lv_at hl 1 rfl) ?_
      change W _ _ _ _ _ _ _ _ _ _ _ _ _ _ _ (F0 m 382 ls _)
      refine lv_aload_n hx hb dX7_carryAll_382 rfl (lv_at hl 0 rfl) ?_
      refine lv_aload_n hx hb dX7_carryAll_383 rfl (lv_at hl 0 rfl) ?_
      refine gf7_37 X w dX7_carryAll_384 ?_
      refine lv_iload_n hx hb dX7_carryAll_387 rfl (lv_at hl 1 rfl) ?_
      refine ia (f := 11) (n := 24) X w m4_11 rfl (vp_in_nI (by omega) (by decide)) dX7_carryAll_388 ?_
      refine k_i (rr_v (rest := [.int (nI k), .ref (aa G 4 11)]) X w mX7_carry kw1130 (c_X7_carry (zs376 11 (nI k).toNatClampNeg) (by rw [hi]; exact vp_in_nI (by omega) (by decide))) m4_0 rfl rfl ⟨Nat.le_of_ble_eq_true rfl, Nat.le_of_ble_eq_true rfl⟩ rfl hl.1 rfl (Nat.le_of_ble_eq_true rfl) dX7_carryAll_389 ⟨Nat.zero_le _, Nat.zero_le _⟩) w (fun H locs w => ?_)
      obtain ⟨zs389, ezs389⟩ : ∃ y : Gr, y = g_X7_carry zs376 (zs376 11 (nI k).toNatClampNeg) := ⟨_, rfl⟩; rw [← ezs389] at w
      have hi := (congrFun (congrFun ezs389 0) 53).trans (carry_i hi)
      refine iS (f := 11) (n := 24) X w m4_11 rfl (vp_in_nI (by omega) (by decide)) dX7_carryAll_392 (fun zs392 H locs ezs392 w => ?_)
      have hi := (congrFun (congrFun ezs392 0) 53).trans hi
      refine lv_aload_n hx hb dX7_carryAll_393 rfl (lv_at hl 0 rfl) ?_
      refine gf7_40 X w dX7_carryAll_394 ?_
      refine lv_iload_n hx hb dX7_carryAll_397 rfl (lv_at hl 1 rfl) ?_
      refine lv_aload_n hx hb dX7_carryAll_398 rfl (lv_at hl 0 rfl) ?_
      refine lv_aload_n hx hb dX7_carryAll_399 rfl (lv_at hl 0 rfl) ?_
      change W _ _ _ _ _ _ _ _ _ _ _ _ _ _ _ (F0 m 400 ls _)
      refine gf7_40 X w dX7_carryAll_400 ?_
      refine lv_iload_n hx hb dX7_carryAll_403 rfl (lv_at hl 1 rfl) ?_
      refine ia (f := 12) (n := 24) X w m4_12 rfl (vp_in_nI (by omega) (by decide)) dX7_carryAll_404 ?_
      refine k_i (rr_v (rest := [.int (nI k), .ref (aa G 4 12)]) X w mX7_carry kw1130 (c_X7_carry (zs392 12 (nI k).toNatClampNeg) (by rw [hi]; exact vp_in_nI (by omega) (by decide))) m4_0 rfl rfl ⟨Nat.le_of_ble_eq_true rfl, Nat.le_of_ble_eq_true rfl⟩ rfl hl.1 rfl (Nat.le_of_ble_eq_true rfl) dX7_carryAll_405 ⟨Nat.zero_le _, Nat.zero_le _⟩) w (fun H locs w => ?_)
      obtain ⟨zs405, ezs405⟩ : ∃ y : Gr, y = g_X7_carry zs392 (zs392 12 (nI k).toNatClampNeg) := ⟨_, rfl⟩; rw [← ezs405] at w
      have hi := (congrFun (congrFun ezs405 0) 53).trans (carry_i hi)
      refine iS (f := 12) (n := 24) X w m4_12 rfl (vp_in_nI (by omega) (by decide)) dX7_carryAll_408 (fun zs408 H locs ezs408 w => ?_)
      have hi := (congrFun (congrFun ezs408 0) 53).trans hi
      refine lv_aload_n hx hb dX7_carryAll_409 rfl (lv_at hl 0 rfl) ?_
      refine gf7_43 X w dX7_carryAll_410 ?_
      refine lv_iload_n hx hb dX7_carryAll_413 rfl (lv_at hl 1 rfl) ?_
      refine lv_aload_n hx hb dX7_carryAll_414 rfl (lv_at hl 0 rfl) ?_
      refine lv_aload_n hx hb dX7_carryAll_415 rfl (lv_at hl 0 rfl) ?_
      refine gf7_43 X w dX7_carryAll_416 ?_
      refine lv_iload_n hx hb dX7_carryAll_419 rfl (lv_at hl 1 rfl) ?_
      change W _ _ _ _ _ _ _ _ _ _ _ _ _ _ _ (F0 m 420 ls _)
      refine ia (f := 13) (n := 24) X w m4_13 rfl (vp_in_nI (by omega) (by decide)) dX7_carryAll_420 ?_
      refine k_i (rr_v (rest := [.int (nI k), .ref (aa G 4 13)]) X w mX7_carry kw1130 (c_X7_carry (zs408 13 (nI k).toNatClampNeg) (by rw [hi]; exact vp_in_nI (by omega) (by decide))) m4_0 rfl rfl ⟨Nat.le_of_ble_eq_true rfl, Nat.le_of_ble_eq_true rfl⟩ rfl hl.1 rfl (Nat.le_of_ble_eq_true rfl) dX7_carryAll_421 ⟨Nat.zero_le _, Nat.zero_le _⟩) w (fun H locs w => ?_)
      obtain ⟨zs421, ezs421⟩ : ∃ y : Gr, y = g_X7_carry zs408 (zs408 13 (nI k).toNatClampNeg) := ⟨_, rfl⟩; rw [← ezs421] at w
      have hi := (congrFun (congrFun ezs421 0) 53).trans (carry_i hi)
      refine iS (f := 13) (n := 24) X w m4_13 rfl (vp_in_nI (by omega) (by decide)) dX7_carryAll_424 (fun zs424 H locs ezs424 w => ?_)
      have hi := (congrFun (congrFun ezs424 0) 53).trans hi
      refine lv_aload_n hx hb dX7_carryAll_425 rfl (lv_at hl 0 rfl) ?_
      refine gf7_46 X w dX7_carryAll_426 ?_
      refine lv_iload_n hx hb dX7_carryAll_429 rfl (lv_at hl 1 rfl) ?_
      refine lv_aload_n hx hb dX7_carryAll_430 rfl (lv_at hl 0 rfl) ?_
      refine lv_aload_n hx hb dX7_carryAll_431 rfl (lv_at hl 0 rfl) ?_
      refine gf7_46 X w dX7_carryAll_432 ?_
      refine lv_iload_n hx hb dX7_carryAll_435 rfl (lv_at hl 1 rfl) ?_
      refine r_za (f := 14) (n := 24) X w m4_14 rfl (vp_in_nI (by omega) (by decide)) dX7_carryAll_436 ?_
      refine lv_if_eq (tgt := 444) hx hb dX7_carryAll_437 (by decide) (fun zc437 => ?_) (fun zc437 => ?_)
      · -- 444
        refine lv_iconst (v := 0) hx hb dX7_carryAll_444 (by decide) ?_
        refine k_i (rr_v (rest := [.int (nI k), .ref (aa G 4 14)]) X w mX7_carry kw1130 (c_X7_carry 0 (by rw [hi]; exact vp_in_nI (by omega) (by decide))) m4_0 rfl rfl ⟨Nat.le_of_ble_eq_true rfl, Nat.le_of_ble_eq_true rfl⟩ rfl hl.1 rfl (Nat.le_of_ble_eq_true rfl) dX7_carryAll_445 ⟨Nat.zero_le _, Nat.zero_le _⟩) w (fun H locs w => ?_)
        obtain ⟨zs445, ezs445⟩ : ∃ y : Gr, y = g_X7_carry zs424 0 := ⟨_, rfl⟩; rw [← ezs445] at w
        have hi := (congrFun (congrFun ezs445 0) 53).trans (carry_i hi)
        refine lv_iconst (v := 1) hx hb dX7_carryAll_448 (by decide) ?_
        refine lv_icmp_ne (tgt := 456) hx hb dX7_carryAll_449 (by decide) (fun zc449 => ?_) (fun zc449 => ?_)
        · -- 456
          refine lv_iconst (v := 0) hx hb dX7_carryAll_456 (by decide) ?_
          refine zS (f := 14) (n := 24) X w m4_14 rfl (vp_in_nI (by omega) (by decide)) isB0 dX7_carryAll_457 (fun zs457 H locs ezs457 w => ?_)
          have hi := (congrFun (congrFun ezs457 0) 53).trans hi
          refine lv_iinc (v := nI (k + 1)) (lv' := [(1, .int (nI (k + 1))), (0, .ref (aa G 4 0))]) hx hb dX7_carryAll_458 hl (k := 1) rfl (nI_1 _) (by decide) rfl (fun ls hl => ?_)
          refine lv_goto (tgt := 339) hx hb dX7_carryAll_461 (by decide) ?_
          exact ih (k + 1) zs457 (by omega) (by omega) (by replace ezs457 := ezs457.symm; subst ezs457; replace ezs445 := ezs445.symm; subst ezs445; replace ezs424 := ezs424.symm; subst ezs424; replace ezs421 := ezs421.symm; subst ezs421; replace ezs408 := ezs408.symm; subst ezs408; replace ezs405 := ezs405.symm; subst ezs405; replace ezs392 := ezs392.symm; subst ezs392; replace ezs389 := ezs389.symm; subst ezs389; replace ezs376 := ezs376.symm; subst ezs376; replace ezs373 := ezs373.symm; subst ezs373; replace ezs360 := ezs360.symm; subst ezs360; replace ezs357 := ezs357.symm; subst ezs357; simp only [itn, ← ev, b_X7_carryAll_339, if_pos zc437, if_neg zc449]) hi _ _ _ w (lv_sub hl [1, 0] rfl)
        · -- 452
          refine lv_iconst (v := 1) hx hb dX7_carryAll_452 (by decide) ?_
          refine lv_goto (tgt := 457) hx hb dX7_carryAll_453 (by decide) ?_
          refine zS (f := 14) (n := 24) X w m4_14 rfl (vp_in_nI (by omega) (by decide)) isB1 dX7_carryAll_457 (fun zs457_2 H locs ezs457_2 w => ?_)
          have hi := (congrFun (congrFun ezs457_2 0) 53).trans hi
          refine lv_iinc (v := nI (k + 1)) (lv' := [(1, .int (nI (k + 1))), (0, .ref (aa G 4 0))]) hx hb dX7_carryAll_458 hl (k := 1) rfl (nI_1 _) (by decide) rfl (fun ls hl => ?_)
          refine lv_goto (tgt := 339) hx hb dX7_carryAll_461 (by decide) ?_
          exact ih (k + 1) zs457_2 (by omega) (by omega) (by replace ezs457_2 := ezs457_2.symm; subst ezs457_2; replace ezs445 := ezs445.symm; subst ezs445; replace ezs424 := ezs424.symm; subst ezs424; replace ezs421 := ezs421.symm; subst ezs421; replace ezs408 := ezs408.symm; subst ezs408; replace ezs405 := ezs405.symm; subst ezs405; replace ezs392 := ezs392.symm; subst ezs392; replace ezs389 := ezs389.symm; subst ezs389; replace ezs376 := ezs376.symm; subst ezs376; replace ezs373 := ezs373.symm; subst ezs373; replace ezs360 := ezs360.symm; subst ezs360; replace ezs357 := ezs357.symm; subst ezs357; simp only [itn, ← ev, b_X7_carryAll_339, if_pos zc437, if_pos zc449]) hi _ _ _ w (lv_sub hl [1, 0] rfl)
      · -- 440
        refine lv_iconst (v := 1) hx hb dX7_carryAll_440 (by decide) ?_
        refine lv_goto (tgt := 445) hx hb dX7_carryAll_441 (by decide) ?_
        refine k_i (rr_v (rest := [.int (nI k), .ref (aa G 4 14)]) X w mX7_carry kw1130 (c_X7_carry 1 (by rw [hi]; exact vp_in_nI (by omega) (by decide))) m4_0 rfl rfl ⟨Nat.le_of_ble_eq_true rfl, Nat.le_of_ble_eq_true rfl⟩ rfl hl.1 rfl (Nat.le_of_ble_eq_true rfl) dX7_carryAll_445 ⟨Nat.zero_le _, Nat.zero_le _⟩) w (fun H locs w => ?_)
        obtain ⟨zs445_2, ezs445_2⟩ : ∃ y : Gr, y = g_X7_carry zs424 1 := ⟨_, rfl⟩; rw [← ezs445_2] at w
        have hi := (congrFun (congrFun ezs445_2 0) 53).trans (carry_i hi)
        refine lv_iconst (v := 1) hx hb dX7_carryAll_448 (by decide) ?_
        refine lv_icmp_ne (tgt := 456) hx hb dX7_carryAll_449 (by decide) (fun zc449 => ?_) (fun zc449 => ?_)
        · -- 456
          refine lv_iconst (v := 0) hx hb dX7_carryAll_456 (by decide) ?_
          refine zS (f := 14) (n := 24) X w m4_14 rfl (vp_in_nI (by omega) (by decide)) isB0 dX7_carryAll_457 (fun zs457_3 H locs ezs457_3 w => ?_)
          have hi := (congrFun (congrFun ezs457_3 0) 53).trans hi
          refine lv_iinc (v := nI (k + 1)) (lv' := [(1, .int (nI (k + 1))), (0, .ref (aa G 4 0))]) hx hb dX7_carryAll_458 hl (k := 1) rfl (nI_1 _) (by decide) rfl (fun ls hl => ?_)
          refine lv_goto (tgt := 339) hx hb dX7_carryAll_461 (by decide) ?_
          exact ih (k + 1) zs457_3 (by omega) (by omega) (by replace ezs457_3 := ezs457_3.symm; subst ezs457_3; replace ezs445_2 := ezs445_2.symm; subst ezs445_2; replace ezs424 := ezs424.symm; subst ezs424; replace ezs421 := ezs421.symm; subst ezs421; replace ezs408 := ezs408.symm; subst ezs408; replace ezs405 := ezs405.symm; subst ezs405; replace ezs392 := ezs392.symm; subst ezs392; replace ezs389 := ezs389.symm; subst ezs389; replace ezs376 := ezs376.symm; subst ezs376; replace ezs373 := ezs373.symm; subst ezs373; replace ezs360 := ezs360.symm; subst ezs360; replace ezs357 := ezs357.symm; subst ezs357; simp only [itn, ← ev, b_X7_carryAll_339, if_neg zc437, if_neg zc449]) hi _ _ _ w (lv_sub hl [1, 0] rfl)
        · -- 452
          refine lv_iconst (v := 1) hx hb dX7_carryAll_452 (by decide) ?_
          refine lv_goto (tgt := 457) hx hb dX7_carryAll_453 (by decide) ?_
          refine zS (f := 14) (n := 24) X w m4_14 rfl (vp_in_nI (by omega) (by decide)) isB1 dX7_carryAll_457 (fun zs457_4 H locs ezs457_4 w => ?_)
          have hi := (congrFun (congrFun ezs457_4 0) 53).trans hi
          refine lv_iinc (v := nI (k + 1)) (lv' := [(1, .int (nI (k + 1))), (0, .ref (aa G 4 0))]) hx hb dX7_carryAll_458 hl (k := 1) rfl (nI_1 _) (by decide) rfl (fun ls hl => ?_)
          refine lv_goto (tgt := 339) hx hb dX7_carryAll_461 (by decide) ?_
          exact ih (k + 1) zs457_4 (by omega) (by omega) (by replace ezs457_4 := ezs457_4.symm; subst ezs457_4; replace ezs445_2 := ezs445_2.symm; subst ezs445_2; replace ezs424 := ezs424.symm; subst ezs424; replace ezs421 := ezs421.symm; subst ezs421; replace ezs408 := ezs408.symm; subst ezs408; replace ezs405 := ezs405.symm; subst ezs405; replace ezs392 := ezs392.symm; subst ezs392; replace ezs389 := ezs389.symm; subst ezs389; replace ezs376 := ezs376.symm; subst ezs376; replace ezs373 := ezs373.symm; subst ezs373; replace ezs360 := ezs360.symm; subst ezs360; replace ezs357 := ezs357.symm; subst ezs357; simp only [itn, ← ev, b_X7_carryAll_339, if_neg zc437, if_pos zc449]) hi _ _ _ w (lv_sub hl [1, 0] rfl)
set_option maxRecDepth 100000 in
set_option maxHeartbeats 4000000 in
theorem lp_X7_carryAll_466 {l : Launch} {G : GG} {p : Program} {e : Env} {s : State} {m : MethodId} {args : Array Value} {below : List Frame} {meth : Method} {c : Code} {Q : State → Prop} {σ : St} (X : Cx p m c cX7_carryAll 2 s args RX7 G)  (v0 : Gr) 
    (kk : ∀ (H : Heap) (locs : List Loc) (ls : Array Slot), ((l_X7_carryAll_466 v0) 0 53 = nI (252 + 1 * (28))) → Wh G s σ 4 (l_X7_carryAll_466 v0) H locs → lv_has ls 2 [(0, .ref (aa G 4 0)), (1, .int (nI (28)))] → W p l e (rmv 1 21) s m args below meth c H locs 0 0 Q (F0 m 494 ls [])) :
    ∀ (n k : Nat) (v : Gr), k ≤ 28 → 28 - k < n → v = itn (b_X7_carryAll_466) k v0 → (v 0 53 = nI (252 + 1 * k)) → ∀ (H : Heap) (locs : List Loc) (ls : Array Slot), Wh G s σ 4 v H locs → lv_has ls 2 [(0, .ref (aa G 4 0)), (1, .int (nI k))] → W p l e (rmv 1 21) s m args below meth c H locs 0 0 Q (F0 m 466 ls []) := by
  have hx := X.1.1
  have hb := X.1.2.1
  intro n
  induction n with
  | zero => intro k v _ h; omega
  | succ n ih =>
    intro k v hkN hn ev hi H locs ls w hl
    refine lv_iload_n hx hb dX7_carryAll_466 rfl (lv_at hl 1 rfl) ?_
    refine lv_bipush (v := 28) hx hb dX7_carryAll_467 (by decide) ?_
    refine lv_icmp_ge (tgt := 494) hx hb dX7_carryAll_469 (by decide) (fun zc469 => ?_) (fun zc469 => ?_)
    · -- 494
      have hkE : k = 28 := lp_eqN hkN (by decide) zc469
      have ev2 : l_X7_carryAll_466 v0 = v := by unfold l_X7_carryAll_466; rw [nn_eq, ← hkE]; exact ev.symm
      rw [ev2] at kk
      rw [hkE] at hl
      exact kk _ _ _ (by rw [hkE] at hi; exact hi) w (lv_sub hl [0, 1] rfl)
    · -- 472
      have hk : k < 28 := lp_ltN hkN (by decide) zc469
      refine lv_aload_n hx hb dX7_carryAll_472 rfl (lv_at hl 0 rfl) ?_
      refine gf7_59 X w dX7_carryAll_473 ?_
      refine lv_iload_n hx hb dX7_carryAll_476 rfl (lv_at hl 1 rfl) ?_
      refine lv_aload_n hx hb dX7_carryAll_477 rfl (lv_at hl 0 rfl) ?_
      refine lv_aload_n hx hb dX7_carryAll_478 rfl (lv_at hl 0 rfl) ?_
      refine gf7_59 X w dX7_carryAll_479 ?_
      refine lv_iload_n hx hb dX7_carryAll_482 rfl (lv_at hl 1 rfl) ?_
      refine ia (f := 19) (n := 28) X w m4_19 rfl (vp_in_nI (by omega) (by decide)) dX7_carryAll_483 ?_
      refine k_i (rr_v (rest := [.int (nI k), .ref (aa G 4 19)]) X w mX7_carry kw1130 (c_X7_carry (v 19 (nI k).toNatClampNeg) (by rw [hi]; exact vp_in_nI (by omega) (by decide))) m4_0 rfl rfl ⟨Nat.le_of_ble_eq_true rfl, Nat.le_of_ble_eq_true rfl⟩ rfl hl.1 rfl (Nat.le_of_ble_eq_true rfl) dX7_carryAll_484 ⟨Nat.zero_le _, Nat.zero_le _⟩) w (fun H locs w => ?_)
      obtain ⟨zs484, ezs484⟩ : ∃ y : Gr, y = g_X7_carry v (v 19 (nI k).toNatClampNeg) := ⟨_, rfl⟩; rw [← ezs484] at w
      have hi := (congrFun (congrFun ezs484 0) 53).trans (carry_i hi)
      refine iS (f := 19) (n := 28) X w m4_19 rfl (vp_in_nI (by omega) (by decide)) dX7_carryAll_487 (fun zs487 H locs ezs487 w => ?_)
      have hi := (congrFun (congrFun ezs487 0) 53).trans hi
      refine lv_iinc (v := nI (k + 1)) (lv' := [(1, .int (nI (k + 1))), (0, .ref (aa G 4 0))]) hx hb dX7_carryAll_488 hl (k := 1) rfl (nI_1 _) (by decide) rfl (fun ls hl => ?_)
      change W _ _ _ _ _ _ _ _ _ _ _ _ _ _ _ (F0 m 491 ls _)
      refine lv_goto (tgt := 466) hx hb dX7_carryAll_491 (by decide) ?_
      exact ih (k + 1) zs487 (by omega) (by omega) (by replace ezs487 := ezs487.symm; subst ezs487; replace ezs484 := ezs484.symm; subst ezs484; simp only [itn, ← ev, b_X7_carryAll_466]) hi _ _ _ w (lv_sub hl [1, 0] rfl)
set_option maxRecDepth 100000 in
set_option maxHeartbeats 4000000 in
theorem c_X7_carryAll {l : Launch} {G : GG} {σ : St} {ρ : Gr}   : MM l G yX7_carryAll cX7_carryAll 2 1 21 none [.ref (aa G 4 0)] (setG σ 4 ρ) (Qv G (setG σ 4 (g_X7_carryAll ρ))) := by
  refine MM.of (by decide) (Nat.le_of_ble_eq_true rfl) ?_
  intro p e s m below meth c ls X hr hlk w hl
  have hx := X.1.1
  have hb := X.1.2.1
  have hl : lv_has ls 2 [(0, .ref (aa G 4 0))] := hl
  refine lv_aload_n hx hb dX7_carryAll_0 rfl (lv_at hl 0 rfl) ?_
  refine lv_iconst (v := 0) hx hb dX7_carryAll_1 (by decide) ?_
  refine pf7_314 X w dX7_carryAll_2 (fun zs2 H locs ezs2 w => ?_)
  have hi : zs2 0 53 = nI 0 := by rw [ezs2]; rfl
  refine lv_aload_n hx hb dX7_carryAll_5 rfl (lv_at hl 0 rfl) ?_
  refine lv_aload_n hx hb dX7_carryAll_6 rfl (lv_at hl 0 rfl) ?_
  refine lv_aload_n hx hb dX7_carryAll_7 rfl (lv_at hl 0 rfl) ?_
  refine gf7_111 X w dX7_carryAll_8 ?_
  refine k_i (rr_v (rest := [.ref (aa G 4 0)]) X w mX7_carry kw1130 (c_X7_carry (zs2 0 0) (by rw [hi]; exact vp_in_nI (by omega) (by decide))) m4_0 rfl rfl ⟨Nat.le_of_ble_eq_true rfl, Nat.le_of_ble_eq_true rfl⟩ rfl hl.1 rfl (Nat.le_of_ble_eq_true rfl) dX7_carryAll_11 ⟨Nat.zero_le _, Nat.zero_le _⟩) w (fun H locs w => ?_)
  obtain ⟨zs11, ezs11⟩ : ∃ y : Gr, y = g_X7_carry zs2 (zs2 0 0) := ⟨_, rfl⟩; rw [← ezs11] at w
  have hi := (congrFun (congrFun ezs11 0) 53).trans (carry_i hi)
  refine pf7_111 X w dX7_carryAll_14 (fun zs14 H locs ezs14 w => ?_)
  have hi := (congrFun (congrFun ezs14 0) 53).trans hi
  refine lv_aload_n hx hb dX7_carryAll_17 rfl (lv_at hl 0 rfl) ?_
  refine lv_aload_n hx hb dX7_carryAll_18 rfl (lv_at hl 0 rfl) ?_
  change W _ _ _ _ _ _ _ _ _ _ _ _ _ _ _ (F0 m 19 ls _)
  refine lv_aload_n hx hb dX7_carryAll_19 rfl (lv_at hl 0 rfl) ?_
  refine gf7_132 X w dX7_carryAll_20 ?_
  refine k_i (rr_v (rest := [.ref (aa G 4 0)]) X w mX7_carry kw1130 (c_X7_carry (zs14 0 8) (by rw [hi]; exact vp_in_nI (by omega) (by decide))) m4_0 rfl rfl ⟨Nat.le_of_ble_eq_true rfl, Nat.le_of_ble_eq_true rfl⟩ rfl hl.1 rfl (Nat.le_of_ble_eq_true rfl) dX7_carryAll_23 ⟨Nat.zero_le _, Nat.zero_le _⟩) w (fun H locs w => ?_)
  obtain ⟨zs23, ezs23⟩ : ∃ y : Gr, y = g_X7_carry zs14 (zs14 0 8) := ⟨_, rfl⟩; rw [← ezs23] at w
  have hi := (congrFun (congrFun ezs23 0) 53).trans (carry_i hi)
  refine pf7_132 X w dX7_carryAll_26 (fun zs26 H locs ezs26 w => ?_)
  have hi := (congrFun (congrFun ezs26 0) 53).trans hi
  refine lv_aload_n hx hb dX7_carryAll_29 rfl (lv_at hl 0 rfl) ?_
  refine lv_aload_n hx hb dX7_carryAll_30 rfl (lv_at hl 0 rfl) ?_
  refine lv_aload_n hx hb dX7_carryAll_31 rfl (lv_at hl 0 rfl) ?_
  refine gf7_147 X w dX7_carryAll_32 ?_
  refine k_i (rr_v (rest := [.ref (aa G 4 0)]) X w mX7_carry kw1130 (c_X7_carry (zs26 0 15) (by rw [hi]; exact vp_in_nI (by omega) (by decide))) m4_0 rfl rfl ⟨Nat.le_of_ble_eq_true rfl, Nat.le_of_ble_eq_true rfl⟩ rfl hl.1 rfl (Nat.le_of_ble_eq_true rfl) dX7_carryAll_35 ⟨Nat.zero_le _, Nat.zero_le _⟩) w (fun H locs w => ?_)
  obtain ⟨zs35, ezs35⟩ : ∃ y : Gr, y = g_X7_carry zs26 (zs26 0 15) := ⟨_, rfl⟩; rw [← ezs35] at w
  have hi := (congrFun (congrFun ezs35 0) 53).trans (carry_i hi)
  refine pf7_147 X w dX7_carryAll_38 (fun zs38 H locs ezs38 w => ?_)
  have hi := (congrFun (congrFun ezs38 0) 53).trans hi
  refine lv_aload_n hx hb dX7_carryAll_41 rfl (lv_at hl 0 rfl) ?_
  refine lv_aload_n hx hb dX7_carryAll_42 rfl (lv_at hl 0 rfl) ?_
  change W _ _ _ _ _ _ _ _ _ _ _ _ _ _ _ (F0 m 43 ls _)
  refine lv_aload_n hx hb dX7_carryAll_43 rfl (lv_at hl 0 rfl) ?_
  refine gf7_62 X w dX7_carryAll_44 ?_
  refine k_i (rr_v (rest := [.ref (aa G 4 0)]) X w mX7_carry kw1130 (c_X7_carry (zs38 0 20) (by rw [hi]; exact vp_in_nI (by omega) (by decide))) m4_0 rfl rfl ⟨Nat.le_of_ble_eq_true rfl, Nat.le_of_ble_eq_true rfl⟩ rfl hl.1 rfl (Nat.le_of_ble_eq_true rfl) dX7_carryAll_47 ⟨Nat.zero_le _, Nat.zero_le _⟩) w (fun H locs w => ?_)
  obtain ⟨zs47, ezs47⟩ : ∃ y : Gr, y = g_X7_carry zs38 (zs38 0 20) := ⟨_, rfl⟩; rw [← ezs47] at w
  have hi := (congrFun (congrFun ezs47 0) 53).trans (carry_i hi)
  refine pf7_62 X w dX7_carryAll_50 (fun zs50 H locs ezs50 w => ?_)
  have hi := (congrFun (congrFun ezs50 0) 53).trans hi
  refine lv_aload_n hx hb dX7_carryAll_53 rfl (lv_at hl 0 rfl) ?_
  refine lv_aload_n hx hb dX7_carryAll_54 rfl (lv_at hl 0 rfl) ?_
  refine lv_aload_n hx hb dX7_carryAll_55 rfl (lv_at hl 0 rfl) ?_
  refine gf7_186 X w dX7_carryAll_56 ?_
  refine k_i (rr_v (rest := [.ref (aa G 4 0)]) X w mX7_carry kw1130 (c_X7_carry (zs50 0 21) (by rw [hi]; exact vp_in_nI (by omega) (by decide))) m4_0 rfl rfl ⟨Nat.le_of_ble_eq_true rfl, Nat.le_of_ble_eq_true rfl⟩ rfl hl.1 rfl (Nat.le_of_ble_eq_true rfl) dX7_carryAll_59 ⟨Nat.zero_le _, Nat.zero_le _⟩) w (fun H locs w => ?_)
  obtain ⟨zs59, ezs59⟩ : ∃ y : Gr, y = g_X7_carry zs50 (zs50 0 21) := ⟨_, rfl⟩; rw [← ezs59] at w
  have hi := (congrFun (congrFun ezs59 0) 53).trans (carry_i hi)
  refine pf7_186 X w dX7_carryAll_62 (fun zs62 H locs ezs62 w => ?_)
  have hi := (congrFun (congrFun ezs62 0) 53).trans hi
  refine lv_aload_n hx hb dX7_carryAll_65 rfl (lv_at hl 0 rfl) ?_
  refine lv_aload_n hx hb dX7_carryAll_66 rfl (lv_at hl 0 rfl) ?_
  change W _ _ _ _ _ _ _ _ _ _ _ _ _ _ _ (F0 m 67 ls _)
  refine lv_aload_n hx hb dX7_carryAll_67 rfl (lv_at hl 0 rfl) ?_
  refine gf7_194 X w dX7_carryAll_68 ?_
  refine k_i (rr_v (rest := [.ref (aa G 4 0)]) X w mX7_carry kw1130 (c_X7_carry (zs62 0 22) (by rw [hi]; exact vp_in_nI (by omega) (by decide))) m4_0 rfl rfl ⟨Nat.le_of_ble_eq_true rfl, Nat.le_of_ble_eq_true rfl⟩ rfl hl.1 rfl (Nat.le_of_ble_eq_true rfl) dX7_carryAll_71 ⟨Nat.zero_le _, Nat.zero_le _⟩) w (fun H locs w => ?_)
  obtain ⟨zs71, ezs71⟩ : ∃ y : Gr, y = g_X7_carry zs62 (zs62 0 22) := ⟨_, rfl⟩; rw [← ezs71] at w
  have hi := (congrFun (congrFun ezs71 0) 53).trans (carry_i hi)
  refine pf7_194 X w dX7_carryAll_74 (fun zs74 H locs ezs74 w => ?_)
  have hi := (congrFun (congrFun ezs74 0) 53).trans hi
  refine lv_aload_n hx hb dX7_carryAll_77 rfl (lv_at hl 0 rfl) ?_
  refine lv_aload_n hx hb dX7_carryAll_78 rfl (lv_at hl 0 rfl) ?_
  refine lv_aload_n hx hb dX7_carryAll_79 rfl (lv_at hl 0 rfl) ?_
  refine gf7_203 X w dX7_carryAll_80 ?_
  refine k_i (rr_v (rest := [.ref (aa G 4 0)]) X w mX7_carry kw1130 (c_X7_carry (zs74 0 23) (by rw [hi]; exact vp_in_nI (by omega) (by decide))) m4_0 rfl rfl ⟨Nat.le_of_ble_eq_true rfl, Nat.le_of_ble_eq_true rfl⟩ rfl hl.1 rfl (Nat.le_of_ble_eq_true rfl) dX7_carryAll_83 ⟨Nat.zero_le _, Nat.zero_le _⟩) w (fun H locs w => ?_)
  obtain ⟨zs83, ezs83⟩ : ∃ y : Gr, y = g_X7_carry zs74 (zs74 0 23) := ⟨_, rfl⟩; rw [← ezs83] at w
  have hi := (congrFun (congrFun ezs83 0) 53).trans (carry_i hi)
  refine pf7_203 X w dX7_carryAll_86 (fun zs86 H locs ezs86 w => ?_)
  have hi := (congrFun (congrFun ezs86 0) 53).trans hi
  refine lv_aload_n hx hb dX7_carryAll_89 rfl (lv_at hl 0 rfl) ?_
  refine lv_aload_n hx hb dX7_carryAll_90 rfl (lv_at hl 0 rfl) ?_
  change W _ _ _ _ _ _ _ _ _ _ _ _ _ _ _ (F0 m 91 ls _)
  refine lv_aload_n hx hb dX7_carryAll_91 rfl (lv_at hl 0 rfl) ?_
  refine gf7_170 X w dX7_carryAll_92 ?_
  refine k_i (rr_v (rest := [.ref (aa G 4 0)]) X w mX7_carry kw1130 (c_X7_carry (zs86 0 24) (by rw [hi]; exact vp_in_nI (by omega) (by decide))) m4_0 rfl rfl ⟨Nat.le_of_ble_eq_true rfl, Nat.le_of_ble_eq_true rfl⟩ rfl hl.1 rfl (Nat.le_of_ble_eq_true rfl) dX7_carryAll_95 ⟨Nat.zero_le _, Nat.zero_le _⟩) w (fun H locs w => ?_)
  obtain ⟨zs95, ezs95⟩ : ∃ y : Gr, y = g_X7_carry zs86 (zs86 0 24) := ⟨_, rfl⟩; rw [← ezs95] at w
  have hi := (congrFun (congrFun ezs95 0) 53).trans (carry_i hi)
  refine pf7_170 X w dX7_carryAll_98 (fun zs98 H locs ezs98 w => ?_)
  have hi := (congrFun (congrFun ezs98 0) 53).trans hi
  refine lv_aload_n hx hb dX7_carryAll_101 rfl (lv_at hl 0 rfl) ?_
  refine lv_aload_n hx hb dX7_carryAll_102 rfl (lv_at hl 0 rfl) ?_
  refine lv_aload_n hx hb dX7_carryAll_103 rfl (lv_at hl 0 rfl) ?_
  refine gf7_66 X w dX7_carryAll_104 ?_
  refine k_i (rr_v (rest := [.ref (aa G 4 0)]) X w mX7_carry kw1130 (c_X7_carry (zs98 0 25) (by rw [hi]; exact vp_in_nI (by omega) (by decide))) m4_0 rfl rfl ⟨Nat.le_of_ble_eq_true rfl, Nat.le_of_ble_eq_true rfl⟩ rfl hl.1 rfl (Nat.le_of_ble_eq_true rfl) dX7_carryAll_107 ⟨Nat.zero_le _, Nat.zero_le _⟩) w (fun H locs w => ?_)
  obtain ⟨zs107, ezs107⟩ : ∃ y : Gr, y = g_X7_carry zs98 (zs98 0 25) := ⟨_, rfl⟩; rw [← ezs107] at w
  have hi := (congrFun (congrFun ezs107 0) 53).trans (carry_i hi)
  refine pf7_66 X w dX7_carryAll_110 (fun zs110 H locs ezs110 w => ?_)
  have hi := (congrFun (congrFun ezs110 0) 53).trans hi
  refine lv_aload_n hx hb dX7_carryAll_113 rfl (lv_at hl 0 rfl) ?_
  refine lv_aload_n hx hb dX7_carryAll_114 rfl (lv_at hl 0 rfl) ?_
  change W _ _ _ _ _ _ _ _ _ _ _ _ _ _ _ (F0 m 115 ls _)
  refine lv_aload_n hx hb dX7_carryAll_115 rfl (lv_at hl 0 rfl) ?_
  refine gf7_173 X w dX7_carryAll_116 ?_
  refine k_i (rr_v (rest := [.ref (aa G 4 0)]) X w mX7_carry kw1130 (c_X7_carry (zs110 0 26) (by rw [hi]; exact vp_in_nI (by omega) (by decide))) m4_0 rfl rfl ⟨Nat.le_of_ble_eq_true rfl, Nat.le_of_ble_eq_true rfl⟩ rfl hl.1 rfl (Nat.le_of_ble_eq_true rfl) dX7_carryAll_119 ⟨Nat.zero_le _, Nat.zero_le _⟩) w (fun H locs w => ?_)
  obtain ⟨zs119, ezs119⟩ : ∃ y : Gr, y = g_X7_carry zs110 (zs110 0 26) := ⟨_, rfl⟩; rw [← ezs119] at w
  have hi := (congrFun (congrFun ezs119 0) 53).trans (carry_i hi)
  refine pf7_173 X w dX7_carryAll_122 (fun zs122 H locs ezs122 w => ?_)
  have hi := (congrFun (congrFun ezs122 0) 53).trans hi
  refine lv_aload_n hx hb dX7_carryAll_125 rfl (lv_at hl 0 rfl) ?_
  refine lv_aload_n hx hb dX7_carryAll_126 rfl (lv_at hl 0 rfl) ?_
  refine lv_aload_n hx hb dX7_carryAll_127 rfl (lv_at hl 0 rfl) ?_
  refine gf7_176 X w dX7_carryAll_128 ?_
  refine k_i (rr_v (rest := [.ref (aa G 4 0)]) X w mX7_carry kw1130 (c_X7_carry (zs122 0 27) (by rw [hi]; exact vp_in_nI (by omega) (by decide))) m4_0 rfl rfl ⟨Nat.le_of_ble_eq_true rfl, Nat.le_of_ble_eq_true rfl⟩ rfl hl.1 rfl (Nat.le_of_ble_eq_true rfl) dX7_carryAll_131 ⟨Nat.zero_le _, Nat.zero_le _⟩) w (fun H locs w => ?_)
  obtain ⟨zs131, ezs131⟩ : ∃ y : Gr, y = g_X7_carry zs122 (zs122 0 27) := ⟨_, rfl⟩; rw [← ezs131] at w
  have hi := (congrFun (congrFun ezs131 0) 53).trans (carry_i hi)
  refine pf7_176 X w dX7_carryAll_134 (fun zs134 H locs ezs134 w => ?_)
  have hi := (congrFun (congrFun ezs134 0) 53).trans hi
  refine lv_aload_n hx hb dX7_carryAll_137 rfl (lv_at hl 0 rfl) ?_
  refine lv_aload_n hx hb dX7_carryAll_138 rfl (lv_at hl 0 rfl) ?_
  change W _ _ _ _ _ _ _ _ _ _ _ _ _ _ _ (F0 m 139 ls _)
  refine lv_aload_n hx hb dX7_carryAll_139 rfl (lv_at hl 0 rfl) ?_
  refine gf7_69 X w dX7_carryAll_140 ?_
  refine k_i (rr_v (rest := [.ref (aa G 4 0)]) X w mX7_carry kw1130 (c_X7_carry (zs134 0 28) (by rw [hi]; exact vp_in_nI (by omega) (by decide))) m4_0 rfl rfl ⟨Nat.le_of_ble_eq_true rfl, Nat.le_of_ble_eq_true rfl⟩ rfl hl.1 rfl (Nat.le_of_ble_eq_true rfl) dX7_carryAll_143 ⟨Nat.zero_le _, Nat.zero_le _⟩) w (fun H locs w => ?_)
  obtain ⟨zs143, ezs143⟩ : ∃ y : Gr, y = g_X7_carry zs134 (zs134 0 28) := ⟨_, rfl⟩; rw [← ezs143] at w
  have hi := (congrFun (congrFun ezs143 0) 53).trans (carry_i hi)
  refine pf7_69 X w dX7_carryAll_146 (fun zs146 H locs ezs146 w => ?_)
  have hi := (congrFun (congrFun ezs146 0) 53).trans hi
  refine lv_iconst (v := 0) hx hb dX7_carryAll_149 (by decide) ?_
  refine lv_istore_n (lv' := [(1, .int 0), (0, .ref (aa G 4 0))]) hx hb dX7_carryAll_150 rfl hl (by decide) rfl (fun ls hl => ?_)
  refine lp_X7_carryAll_151 X  zs146  (fun H locs ls hi w hl => ?_) (8 + 1) 0 _ (Nat.zero_le _) (Nat.lt_succ_of_le (Nat.sub_le _ _)) rfl hi _ _ _ w (lv_sub hl [1, 0] rfl)
  obtain ⟨zl151, ezl151⟩ : ∃ y : Gr, y = (l_X7_carryAll_151 zs146) := ⟨_, rfl⟩
  rw [← ezl151] at w hi
  refine lv_iconst (v := 0) hx hb dX7_carryAll_291 (by decide) ?_
  refine lv_istore_n (lv' := [(1, .int 0), (0, .ref (aa G 4 0))]) hx hb dX7_carryAll_292 rfl hl (by decide) rfl (fun ls hl => ?_)
  refine lp_X7_carryAll_293 X  zl151  (fun H locs ls hi w hl => ?_) (16 + 1) 0 _ (Nat.zero_le _) (Nat.lt_succ_of_le (Nat.sub_le _ _)) rfl hi _ _ _ w (lv_sub hl [1, 0] rfl)
  obtain ⟨zl293, ezl293⟩ : ∃ y : Gr, y = (l_X7_carryAll_293 zl151) := ⟨_, rfl⟩
  rw [← ezl293] at w hi
  refine lv_iconst (v := 0) hx hb dX7_carryAll_337 (by decide) ?_
  refine lv_istore_n (lv' := [(1, .int 0), (0, .ref (aa G 4 0))]) hx hb dX7_carryAll_338 rfl hl (by decide) rfl (fun ls hl => ?_)
  refine lp_X7_carryAll_339 X  zl293  (fun H locs ls hi w hl => ?_) (24 + 1) 0 _ (Nat.zero_le _) (Nat.lt_succ_of_le (Nat.sub_le _ _)) rfl hi _ _ _ w (lv_sub hl [1, 0] rfl)
  obtain ⟨zl339, ezl339⟩ : ∃ y : Gr, y = (l_X7_carryAll_339 zl293) := ⟨_, rfl⟩
  rw [← ezl339] at w hi
  refine lv_iconst (v := 0) hx hb dX7_carryAll_464 (by decide) ?_
  refine lv_istore_n (lv' := [(1, .int 0), (0, .ref (aa G 4 0))]) hx hb dX7_carryAll_465 rfl hl (by decide) rfl (fun ls hl => ?_)
  refine lp_X7_carryAll_466 X  zl339  (fun H locs ls hi w hl => ?_) (28 + 1) 0 _ (Nat.zero_le _) (Nat.lt_succ_of_le (Nat.sub_le _ _)) rfl hi _ _ _ w (lv_sub hl [1, 0] rfl)
  obtain ⟨zl466, ezl466⟩ : ∃ y : Gr, y = (l_X7_carryAll_466 zl339) := ⟨_, rfl⟩
  rw [← ezl466] at w hi
  exact t_v X w hr hlk dX7_carryAll_494 (by replace ezl466 := ezl466.symm; subst ezl466; replace ezl339 := ezl339.symm; subst ezl339; replace ezl293 := ezl293.symm; subst ezl293; replace ezl151 := ezl151.symm; subst ezl151; replace ezs146 := ezs146.symm; subst ezs146; replace ezs143 := ezs143.symm; subst ezs143; replace ezs134 := ezs134.symm; subst ezs134; replace ezs131 := ezs131.symm; subst ezs131; replace ezs122 := ezs122.symm; subst ezs122; replace ezs119 := ezs119.symm; subst ezs119; replace ezs110 := ezs110.symm; subst ezs110; replace ezs107 := ezs107.symm; subst ezs107; replace ezs98 := ezs98.symm; subst ezs98; replace ezs95 := ezs95.symm; subst ezs95; replace ezs86 := ezs86.symm; subst ezs86; replace ezs83 := ezs83.symm; subst ezs83; replace ezs74 := ezs74.symm; subst ezs74; replace ezs71 := ezs71.symm; subst ezs71; replace ezs62 := ezs62.symm; subst ezs62; replace ezs59 := ezs59.symm; subst ezs59; replace ezs50 := ezs50.symm; subst ezs50; replace ezs47 := ezs47.symm; subst ezs47; replace ezs38 := ezs38.symm; subst ezs38; replace ezs35 := ezs35.symm; subst ezs35; replace ezs26 := ezs26.symm; subst ezs26; replace ezs23 := ezs23.symm; subst ezs23; replace ezs14 := ezs14.symm; subst ezs14; replace ezs11 := ezs11.symm; subst ezs11; replace ezs2 := ezs2.symm; subst ezs2; simp only [g_X7_carryAll])
