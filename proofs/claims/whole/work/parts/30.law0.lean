theorem ix_in {j k L : Nat} (h : 6 * j + 6 ≤ L) (hL : L ≤ 3072) (hk : k < 6) : vp_in (nI (6 * j) + nI k) L := by
  rw [nI_add]
  exact vp_in_nI (by omega) (by omega)
theorem ix_in0 {j L : Nat} (h : 6 * j + 6 ≤ L) (hL : L ≤ 3072) : vp_in (nI (6 * j)) L := vp_in_nI (by omega) (by omega)
def HX (IV : Nat → St → Prop) : Prop := ∀ (j : Nat) (σ : St), j ≤ 512 → IV j σ → WFh (σ 1) ∧ rg (σ 0 0 6) 0 28 ∧ WFm (200 * j) (σ 4) ∧ σ 4 0 34 = -1
section Law
variable {p : Program} {l : Launch} {e : Env} {s : State} {m : MethodId} {below : List Frame} {meth : Method} {c : Code} {Q : State → Prop} {G : GG} {b L : Nat} {xs : Nat → Int32} {IV : Nat → St → Prop}
set_option maxRecDepth 100000 in
set_option maxHeartbeats 4000000 in
theorem law_feed (h_feed : ∀ (j : Nat) (σ : St) (x1 : Int32) (x2 : Int64), j < 512 → IV j σ → (g_X6_feed σ x1 x2) 4 = σ 4 ∧ f_X6_feed σ x1 x2 = f_X7_feed (σ 4) x1 x2 ∧ IV (j + 1) (setG (g_X6_feed σ x1 x2) 4 (g_X7_feed (σ 4) x1 x2))) (hh : HX IV) (X : Cx p m c cL_law 4 s #[Value.ref b] RL G) (hX : va_X b L xs s s.heap) (hbl : b < s.heap.size) (hbA : ¬ AA G b) (hL : L ≤ 3072) {j : Nat} {σ : St} (hj : 6 * j + 6 ≤ L) (hiv : IV j σ)
    (kk : ∀ (σ1 : St) (H : Heap) (locs : List Loc) (ls : Array Slot), IV (j + 1) σ1 → Wd G s σ1 H locs → lv_has ls 4 [(0, .ref b), (1, .ref (aa G 0 0)), (2, .ref (aa G 4 0)), (3, .int (nI (6 * j)))] → W p l e room_1 s m #[Value.ref b] below meth c H locs 97 2165 Q (F0 m 1090 ls []))
    {H : Heap} {locs : List Loc} {ls : Array Slot} (w : Wd G s σ H locs) (hl : lv_has ls 4 [(0, .ref b), (1, .ref (aa G 0 0)), (2, .ref (aa G 4 0)), (3, .int (nI (6 * j)))]) : W p l e room_1 s m #[Value.ref b] below meth c H locs 97 2165 Q (F0 m 164 ls []) := by
  have hx := X.1.1
  have hb := X.1.2.1
  have hj5 : j < 512 := by omega
  have hw := hh j σ (by omega) hiv
  obtain ⟨v1, hv1⟩ : ∃ y : Int32, y = xs (nI (6 * j) + nI 1).toNatClampNeg := ⟨_, rfl⟩
  obtain ⟨v2, hv2⟩ : ∃ y : Int32, y = xs (nI (6 * j) + nI 2).toNatClampNeg := ⟨_, rfl⟩
  obtain ⟨v3, hv3⟩ : ∃ y : Int32, y = xs (nI (6 * j) + nI 3).toNatClampNeg := ⟨_, rfl⟩
  refine lv_aload_n hx hb dL_law_164 rfl (lv_at hl 1 rfl) ?_
  refine lv_aload_n hx hb dL_law_165 rfl (lv_at hl 0 rfl) ?_
  refine lv_iload_n hx hb dL_law_166 rfl (lv_at hl 3 rfl) ?_
  refine lv_iconst (v := 1) hx hb dL_law_167 (by decide) ?_
  refine lv_iadd hx hb dL_law_168 ?_
  refine va_sld hx hb hX hbl hbA w.2 (ix_in (k := 1) hj hL (by decide)) dL_law_169 ?_
  refine topeq hv1.symm ?_
  refine lv_aload_n hx hb dL_law_170 rfl (lv_at hl 0 rfl) ?_
  refine lv_iload_n hx hb dL_law_171 rfl (lv_at hl 3 rfl) ?_
  refine lv_iconst (v := 2) hx hb dL_law_172 (by decide) ?_
  refine lv_iadd hx hb dL_law_173 ?_
  refine va_sld hx hb hX hbl hbA w.2 (ix_in (k := 2) hj hL (by decide)) dL_law_174 ?_
  refine topeq hv2.symm ?_
  change W _ _ _ _ _ _ _ _ _ _ _ _ _ _ _ (F0 m 175 ls _)
  refine lv_i2l hx hb dL_law_175 rfl ?_
  refine lv_bipush (v := 32) hx hb dL_law_176 (by decide) ?_
  refine lv_lshl hx hb dL_law_178 rfl ?_
  refine lv_aload_n hx hb dL_law_179 rfl (lv_at hl 0 rfl) ?_
  refine lv_iload_n hx hb dL_law_180 rfl (lv_at hl 3 rfl) ?_
  refine lv_iconst (v := 3) hx hb dL_law_181 (by decide) ?_
  refine lv_iadd hx hb dL_law_182 ?_
  refine va_sld hx hb hX hbl hbA w.2 (ix_in (k := 3) hj hL (by decide)) dL_law_183 ?_
  refine topeq hv3.symm ?_
  refine lv_i2l hx hb dL_law_184 rfl ?_
  refine lv_ldc2 hx hb X.1.2.2.2.1 (X.1.2.2.2.2 _ kw1144) dL_law_185 ?_
  refine lv_land hx hb dL_law_188 ?_
  refine lv_lor hx hb dL_law_189 ?_
  change W _ _ _ _ _ _ _ _ _ _ _ _ _ _ _ (F0 m 190 ls _)
  obtain ⟨st4, sfe, siv⟩ := h_feed j σ v1 ((v2.toInt64 <<< ((32 : Int32).toInt64 &&& 63)) ||| (v3.toInt64 &&& 4294967295)) hj5 hiv
  refine k_i (rr_v (rest := []) X w mX6_feed kw266 (c_X6_feed v1 ((v2.toInt64 <<< ((32 : Int32).toInt64 &&& 63)) ||| (v3.toInt64 &&& 4294967295))) m0_0 rfl rfl ⟨Nat.le_of_ble_eq_true rfl, Nat.le_of_ble_eq_true rfl⟩ rfl hl.1 rfl (Nat.le_of_ble_eq_true rfl) dL_law_190 ⟨Nat.le_of_ble_eq_true rfl, Nat.le_of_ble_eq_true rfl⟩) w (fun H locs w => ?_)
  obtain ⟨σ1, eσ1⟩ : ∃ y : St, y = g_X6_feed σ v1 ((v2.toInt64 <<< ((32 : Int32).toInt64 &&& 63)) ||| (v3.toInt64 &&& 4294967295)) := ⟨_, rfl⟩
  rw [← eσ1] at w st4 siv
  refine lv_aload_n hx hb dL_law_193 rfl (lv_at hl 2 rfl) ?_
  refine lv_aload_n hx hb dL_law_194 rfl (lv_at hl 0 rfl) ?_
  refine lv_iload_n hx hb dL_law_195 rfl (lv_at hl 3 rfl) ?_
  refine lv_iconst (v := 1) hx hb dL_law_196 (by decide) ?_
  refine lv_iadd hx hb dL_law_197 ?_
  refine va_sld hx hb hX hbl hbA w.2 (ix_in (k := 1) hj hL (by decide)) dL_law_198 ?_
  refine topeq hv1.symm ?_
  refine lv_aload_n hx hb dL_law_199 rfl (lv_at hl 0 rfl) ?_
  refine lv_iload_n hx hb dL_law_200 rfl (lv_at hl 3 rfl) ?_
  refine lv_iconst (v := 2) hx hb dL_law_201 (by decide) ?_
  refine lv_iadd hx hb dL_law_202 ?_
  refine va_sld hx hb hX hbl hbA w.2 (ix_in (k := 2) hj hL (by decide)) dL_law_203 ?_
  refine topeq hv2.symm ?_
  change W _ _ _ _ _ _ _ _ _ _ _ _ _ _ _ (F0 m 204 ls _)
  refine lv_i2l hx hb dL_law_204 rfl ?_
  refine lv_bipush (v := 32) hx hb dL_law_205 (by decide) ?_
  refine lv_lshl hx hb dL_law_207 rfl ?_
  refine lv_aload_n hx hb dL_law_208 rfl (lv_at hl 0 rfl) ?_
  refine lv_iload_n hx hb dL_law_209 rfl (lv_at hl 3 rfl) ?_
  refine lv_iconst (v := 3) hx hb dL_law_210 (by decide) ?_
  refine lv_iadd hx hb dL_law_211 ?_
  refine va_sld hx hb hX hbl hbA w.2 (ix_in (k := 3) hj hL (by decide)) dL_law_212 ?_
  refine topeq hv3.symm ?_
  refine lv_i2l hx hb dL_law_213 rfl ?_
  refine lv_ldc2 hx hb X.1.2.2.2.1 (X.1.2.2.2.2 _ kw1144) dL_law_214 ?_
  refine lv_land hx hb dL_law_217 ?_
  refine lv_lor hx hb dL_law_218 ?_
  change W _ _ _ _ _ _ _ _ _ _ _ _ _ _ _ (F0 m 219 ls _)
  have w4 : Wh G s σ1 4 (σ 4) H locs := by rw [← st4]; exact w.at 4
  refine k_i (rr_v (rest := [.int (f_X6_feed σ v1 ((v2.toInt64 <<< ((32 : Int32).toInt64 &&& 63)) ||| (v3.toInt64 &&& 4294967295)))]) X w4 mX7_feed kw1081 (c_X7_feed v1 ((v2.toInt64 <<< ((32 : Int32).toInt64 &&& 63)) ||| (v3.toInt64 &&& 4294967295)) (200 * j) (by omega) hw.2.2.1) m4_0 rfl rfl ⟨Nat.le_of_ble_eq_true rfl, Nat.le_of_ble_eq_true rfl⟩ rfl hl.1 rfl (Nat.le_of_ble_eq_true rfl) dL_law_219 ⟨Nat.le_of_ble_eq_true rfl, Nat.le_of_ble_eq_true rfl⟩) w4 (fun H locs w => ?_)
  refine lv_icmp_eq (tgt := 1090) hx hb dL_law_222 (by decide) (fun _ => ?_) (fun q => absurd sfe q)
  exact kk _ _ _ _ siv w hl
set_option maxRecDepth 100000 in
set_option maxHeartbeats 4000000 in
theorem law_coast (h_coast : ∀ (j : Nat) (σ : St) , j < 512 → IV j σ → (g_X6_coast σ ) 4 = σ 4 ∧ f_X6_coast σ = f_X7_coast (σ 4) ∧ IV (j + 1) (setG (g_X6_coast σ ) 4 (g_X7_coast (σ 4) ))) (hh : HX IV) (X : Cx p m c cL_law 4 s #[Value.ref b] RL G) (hX : va_X b L xs s s.heap) (hbl : b < s.heap.size) (hbA : ¬ AA G b) (hL : L ≤ 3072) {j : Nat} {σ : St} (hj : 6 * j + 6 ≤ L) (hiv : IV j σ)
    (kk : ∀ (σ1 : St) (H : Heap) (locs : List Loc) (ls : Array Slot), IV (j + 1) σ1 → Wd G s σ1 H locs → lv_has ls 4 [(0, .ref b), (1, .ref (aa G 0 0)), (2, .ref (aa G 4 0)), (3, .int (nI (6 * j)))] → W p l e room_1 s m #[Value.ref b] below meth c H locs 97 2165 Q (F0 m 1090 ls []))
    {H : Heap} {locs : List Loc} {ls : Array Slot} (w : Wd G s σ H locs) (hl : lv_has ls 4 [(0, .ref b), (1, .ref (aa G 0 0)), (2, .ref (aa G 4 0)), (3, .int (nI (6 * j)))]) : W p l e room_1 s m #[Value.ref b] below meth c H locs 97 2165 Q (F0 m 227 ls []) := by
  have hx := X.1.1
  have hb := X.1.2.1
  have hj5 : j < 512 := by omega
  have hw := hh j σ (by omega) hiv
  refine lv_aload_n hx hb dL_law_227 rfl (lv_at hl 1 rfl) ?_
  obtain ⟨st4, sfe, siv⟩ := h_coast j σ  hj5 hiv
  refine k_i (rr_v (rest := []) X w mX6_coast kw278 (c_X6_coast hw.1) m0_0 rfl rfl ⟨Nat.le_of_ble_eq_true rfl, Nat.le_of_ble_eq_true rfl⟩ rfl hl.1 rfl (Nat.le_of_ble_eq_true rfl) dL_law_228 ⟨Nat.le_of_ble_eq_true rfl, Nat.le_of_ble_eq_true rfl⟩) w (fun H locs w => ?_)
  obtain ⟨σ1, eσ1⟩ : ∃ y : St, y = g_X6_coast σ := ⟨_, rfl⟩
  rw [← eσ1] at w st4 siv
  refine lv_aload_n hx hb dL_law_231 rfl (lv_at hl 2 rfl) ?_
  have w4 : Wh G s σ1 4 (σ 4) H locs := by rw [← st4]; exact w.at 4
  refine k_i (rr_v (rest := [.int (f_X6_coast σ)]) X w4 mX7_coast kw1086 (c_X7_coast (200 * j) (by omega) hw.2.2.1) m4_0 rfl rfl ⟨Nat.le_of_ble_eq_true rfl, Nat.le_of_ble_eq_true rfl⟩ rfl hl.1 rfl (Nat.le_of_ble_eq_true rfl) dL_law_232 ⟨Nat.le_of_ble_eq_true rfl, Nat.le_of_ble_eq_true rfl⟩) w4 (fun H locs w => ?_)
  refine lv_icmp_eq (tgt := 1090) hx hb dL_law_235 (by decide) (fun _ => ?_) (fun q => absurd sfe q)
  exact kk _ _ _ _ siv w hl
set_option maxRecDepth 100000 in
set_option maxHeartbeats 4000000 in
theorem law_cell (h_cell : ∀ (j : Nat) (σ : St) (x1 : Int32) (x2 : Int32), j < 512 → IV j σ → (g_X6_cell σ x1 x2) 4 = σ 4 ∧ f_X6_cell σ x1 x2 = f_X7_cell (σ 4) x1 x2 ∧ IV (j + 1) (setG (g_X6_cell σ x1 x2) 4 (g_X7_cell (σ 4) x1 x2))) (hh : HX IV) (X : Cx p m c cL_law 4 s #[Value.ref b] RL G) (hX : va_X b L xs s s.heap) (hbl : b < s.heap.size) (hbA : ¬ AA G b) (hL : L ≤ 3072) {j : Nat} {σ : St} (hj : 6 * j + 6 ≤ L) (hiv : IV j σ)
    (kk : ∀ (σ1 : St) (H : Heap) (locs : List Loc) (ls : Array Slot), IV (j + 1) σ1 → Wd G s σ1 H locs → lv_has ls 4 [(0, .ref b), (1, .ref (aa G 0 0)), (2, .ref (aa G 4 0)), (3, .int (nI (6 * j)))] → W p l e room_1 s m #[Value.ref b] below meth c H locs 97 2165 Q (F0 m 1090 ls []))
    {H : Heap} {locs : List Loc} {ls : Array Slot} (w : Wd G s σ H locs) (hl : lv_has ls 4 [(0, .ref b), (1, .ref (aa G 0 0)), (2, .ref (aa G 4 0)), (3, .int (nI (6 * j)))]) : W p l e room_1 s m #[Value.ref b] below meth c H locs 97 2165 Q (F0 m 240 ls []) := by
  have hx := X.1.1
  have hb := X.1.2.1
  have hj5 : j < 512 := by omega
  have hw := hh j σ (by omega) hiv
  obtain ⟨v1, hv1⟩ : ∃ y : Int32, y = xs (nI (6 * j) + nI 1).toNatClampNeg := ⟨_, rfl⟩
  obtain ⟨v2, hv2⟩ : ∃ y : Int32, y = xs (nI (6 * j) + nI 2).toNatClampNeg := ⟨_, rfl⟩
  refine lv_aload_n hx hb dL_law_240 rfl (lv_at hl 1 rfl) ?_
  refine lv_aload_n hx hb dL_law_241 rfl (lv_at hl 0 rfl) ?_
  refine lv_iload_n hx hb dL_law_242 rfl (lv_at hl 3 rfl) ?_
  refine lv_iconst (v := 1) hx hb dL_law_243 (by decide) ?_
  refine lv_iadd hx hb dL_law_244 ?_
  refine va_sld hx hb hX hbl hbA w.2 (ix_in (k := 1) hj hL (by decide)) dL_law_245 ?_
  refine topeq hv1.symm ?_
  refine lv_aload_n hx hb dL_law_246 rfl (lv_at hl 0 rfl) ?_
  refine lv_iload_n hx hb dL_law_247 rfl (lv_at hl 3 rfl) ?_
  refine lv_iconst (v := 2) hx hb dL_law_248 (by decide) ?_
  refine lv_iadd hx hb dL_law_249 ?_
  refine va_sld hx hb hX hbl hbA w.2 (ix_in (k := 2) hj hL (by decide)) dL_law_250 ?_
  refine topeq hv2.symm ?_
  change W _ _ _ _ _ _ _ _ _ _ _ _ _ _ _ (F0 m 251 ls _)
  obtain ⟨st4, sfe, siv⟩ := h_cell j σ v1 v2 hj5 hiv
  refine k_i (rr_v (rest := []) X w mX6_cell kw399 (c_X6_cell v1 v2) m0_0 rfl rfl ⟨Nat.le_of_ble_eq_true rfl, Nat.le_of_ble_eq_true rfl⟩ rfl hl.1 rfl (Nat.le_of_ble_eq_true rfl) dL_law_251 ⟨Nat.le_of_ble_eq_true rfl, Nat.le_of_ble_eq_true rfl⟩) w (fun H locs w => ?_)
  obtain ⟨σ1, eσ1⟩ : ∃ y : St, y = g_X6_cell σ v1 v2 := ⟨_, rfl⟩
  rw [← eσ1] at w st4 siv
  refine lv_aload_n hx hb dL_law_254 rfl (lv_at hl 2 rfl) ?_
  refine lv_aload_n hx hb dL_law_255 rfl (lv_at hl 0 rfl) ?_
  refine lv_iload_n hx hb dL_law_256 rfl (lv_at hl 3 rfl) ?_
  refine lv_iconst (v := 1) hx hb dL_law_257 (by decide) ?_
  refine lv_iadd hx hb dL_law_258 ?_
  refine va_sld hx hb hX hbl hbA w.2 (ix_in (k := 1) hj hL (by decide)) dL_law_259 ?_
  refine topeq hv1.symm ?_
  refine lv_aload_n hx hb dL_law_260 rfl (lv_at hl 0 rfl) ?_
  refine lv_iload_n hx hb dL_law_261 rfl (lv_at hl 3 rfl) ?_
  refine lv_iconst (v := 2) hx hb dL_law_262 (by decide) ?_
  refine lv_iadd hx hb dL_law_263 ?_
  refine va_sld hx hb hX hbl hbA w.2 (ix_in (k := 2) hj hL (by decide)) dL_law_264 ?_
  refine topeq hv2.symm ?_
  change W _ _ _ _ _ _ _ _ _ _ _ _ _ _ _ (F0 m 265 ls _)
  have w4 : Wh G s σ1 4 (σ 4) H locs := by rw [← st4]; exact w.at 4
  refine k_i (rr_v (rest := [.int (f_X6_cell σ v1 v2)]) X w4 mX7_cell kw868 (c_X7_cell v1 v2 (200 * j) (by omega) hw.2.2.1) m4_0 rfl rfl ⟨Nat.le_of_ble_eq_true rfl, Nat.le_of_ble_eq_true rfl⟩ rfl hl.1 rfl (Nat.le_of_ble_eq_true rfl) dL_law_265 ⟨Nat.le_of_ble_eq_true rfl, Nat.le_of_ble_eq_true rfl⟩) w4 (fun H locs w => ?_)
  refine lv_icmp_eq (tgt := 1090) hx hb dL_law_268 (by decide) (fun _ => ?_) (fun q => absurd sfe q)
  exact kk _ _ _ _ siv w hl
set_option maxRecDepth 100000 in
set_option maxHeartbeats 4000000 in
theorem law_set (h_set : ∀ (j : Nat) (σ : St) (x1 : Int32) (x2 : Int32) (x3 : Int32), j < 512 → IV j σ → (g_X6_set σ x1 x2 x3) 4 = σ 4 ∧ f_X6_set σ x1 x2 x3 = f_X7_set (σ 4) x1 x2 x3 ∧ IV (j + 1) (setG (g_X6_set σ x1 x2 x3) 4 (g_X7_set (σ 4) x1 x2 x3))) (hh : HX IV) (X : Cx p m c cL_law 4 s #[Value.ref b] RL G) (hX : va_X b L xs s s.heap) (hbl : b < s.heap.size) (hbA : ¬ AA G b) (hL : L ≤ 3072) {j : Nat} {σ : St} (hj : 6 * j + 6 ≤ L) (hiv : IV j σ)
    (kk : ∀ (σ1 : St) (H : Heap) (locs : List Loc) (ls : Array Slot), IV (j + 1) σ1 → Wd G s σ1 H locs → lv_has ls 4 [(0, .ref b), (1, .ref (aa G 0 0)), (2, .ref (aa G 4 0)), (3, .int (nI (6 * j)))] → W p l e room_1 s m #[Value.ref b] below meth c H locs 97 2165 Q (F0 m 1090 ls []))
    {H : Heap} {locs : List Loc} {ls : Array Slot} (w : Wd G s σ H locs) (hl : lv_has ls 4 [(0, .ref b), (1, .ref (aa G 0 0)), (2, .ref (aa G 4 0)), (3, .int (nI (6 * j)))]) : W p l e room_1 s m #[Value.ref b] below meth c H locs 97 2165 Q (F0 m 273 ls []) := by
  have hx := X.1.1
  have hb := X.1.2.1
  have hj5 : j < 512 := by omega
  have hw := hh j σ (by omega) hiv
  obtain ⟨v1, hv1⟩ : ∃ y : Int32, y = xs (nI (6 * j) + nI 1).toNatClampNeg := ⟨_, rfl⟩
  obtain ⟨v2, hv2⟩ : ∃ y : Int32, y = xs (nI (6 * j) + nI 2).toNatClampNeg := ⟨_, rfl⟩
  obtain ⟨v3, hv3⟩ : ∃ y : Int32, y = xs (nI (6 * j) + nI 3).toNatClampNeg := ⟨_, rfl⟩
  refine lv_aload_n hx hb dL_law_273 rfl (lv_at hl 1 rfl) ?_
  refine lv_aload_n hx hb dL_law_274 rfl (lv_at hl 0 rfl) ?_
  refine lv_iload_n hx hb dL_law_275 rfl (lv_at hl 3 rfl) ?_
  refine lv_iconst (v := 1) hx hb dL_law_276 (by decide) ?_
  refine lv_iadd hx hb dL_law_277 ?_
  refine va_sld hx hb hX hbl hbA w.2 (ix_in (k := 1) hj hL (by decide)) dL_law_278 ?_
  refine topeq hv1.symm ?_
  refine lv_aload_n hx hb dL_law_279 rfl (lv_at hl 0 rfl) ?_
  refine lv_iload_n hx hb dL_law_280 rfl (lv_at hl 3 rfl) ?_
  refine lv_iconst (v := 2) hx hb dL_law_281 (by decide) ?_
  refine lv_iadd hx hb dL_law_282 ?_
  refine va_sld hx hb hX hbl hbA w.2 (ix_in (k := 2) hj hL (by decide)) dL_law_283 ?_
  refine topeq hv2.symm ?_
  change W _ _ _ _ _ _ _ _ _ _ _ _ _ _ _ (F0 m 284 ls _)
  refine lv_aload_n hx hb dL_law_284 rfl (lv_at hl 0 rfl) ?_
  refine lv_iload_n hx hb dL_law_285 rfl (lv_at hl 3 rfl) ?_
  refine lv_iconst (v := 3) hx hb dL_law_286 (by decide) ?_
  refine lv_iadd hx hb dL_law_287 ?_
  refine va_sld hx hb hX hbl hbA w.2 (ix_in (k := 3) hj hL (by decide)) dL_law_288 ?_
  refine topeq hv3.symm ?_
  obtain ⟨st4, sfe, siv⟩ := h_set j σ v1 v2 v3 hj5 hiv
  refine k_i (rr_v (rest := []) X w mX6_set kw408 (c_X6_set v1 v2 v3) m0_0 rfl rfl ⟨Nat.le_of_ble_eq_true rfl, Nat.le_of_ble_eq_true rfl⟩ rfl hl.1 rfl (Nat.le_of_ble_eq_true rfl) dL_law_289 ⟨Nat.le_of_ble_eq_true rfl, Nat.le_of_ble_eq_true rfl⟩) w (fun H locs w => ?_)
  obtain ⟨σ1, eσ1⟩ : ∃ y : St, y = g_X6_set σ v1 v2 v3 := ⟨_, rfl⟩
  rw [← eσ1] at w st4 siv
  refine lv_aload_n hx hb dL_law_292 rfl (lv_at hl 2 rfl) ?_
  refine lv_aload_n hx hb dL_law_293 rfl (lv_at hl 0 rfl) ?_
  refine lv_iload_n hx hb dL_law_294 rfl (lv_at hl 3 rfl) ?_
  refine lv_iconst (v := 1) hx hb dL_law_295 (by decide) ?_
  refine lv_iadd hx hb dL_law_296 ?_
  refine va_sld hx hb hX hbl hbA w.2 (ix_in (k := 1) hj hL (by decide)) dL_law_297 ?_
  refine topeq hv1.symm ?_
  change W _ _ _ _ _ _ _ _ _ _ _ _ _ _ _ (F0 m 298 ls _)
  refine lv_aload_n hx hb dL_law_298 rfl (lv_at hl 0 rfl) ?_
  refine lv_iload_n hx hb dL_law_299 rfl (lv_at hl 3 rfl) ?_
  refine lv_iconst (v := 2) hx hb dL_law_300 (by decide) ?_
  refine lv_iadd hx hb dL_law_301 ?_
  refine va_sld hx hb hX hbl hbA w.2 (ix_in (k := 2) hj hL (by decide)) dL_law_302 ?_
  refine topeq hv2.symm ?_
  refine lv_aload_n hx hb dL_law_303 rfl (lv_at hl 0 rfl) ?_
  refine lv_iload_n hx hb dL_law_304 rfl (lv_at hl 3 rfl) ?_
  refine lv_iconst (v := 3) hx hb dL_law_305 (by decide) ?_
  refine lv_iadd hx hb dL_law_306 ?_
  refine va_sld hx hb hX hbl hbA w.2 (ix_in (k := 3) hj hL (by decide)) dL_law_307 ?_
  refine topeq hv3.symm ?_
  have w4 : Wh G s σ1 4 (σ 4) H locs := by rw [← st4]; exact w.at 4
  refine k_i (rr_v (rest := [.int (f_X6_set σ v1 v2 v3)]) X w4 mX7_set kw880 (c_X7_set v1 v2 v3 (200 * j) (by omega) hw.2.2.1) m4_0 rfl rfl ⟨Nat.le_of_ble_eq_true rfl, Nat.le_of_ble_eq_true rfl⟩ rfl hl.1 rfl (Nat.le_of_ble_eq_true rfl) dL_law_308 ⟨Nat.le_of_ble_eq_true rfl, Nat.le_of_ble_eq_true rfl⟩) w4 (fun H locs w => ?_)
  refine lv_icmp_eq (tgt := 1090) hx hb dL_law_311 (by decide) (fun _ => ?_) (fun q => absurd sfe q)
  exact kk _ _ _ _ siv w hl
set_option maxRecDepth 100000 in
set_option maxHeartbeats 4000000 in
theorem law_way (h_way : ∀ (j : Nat) (σ : St) (x1 : Int32) (x2 : Int32) (x3 : Int32) (x4 : Int32), j < 512 → IV j σ → (g_X6_way σ x1 x2 x3 x4) 4 = σ 4 ∧ f_X6_way σ x1 x2 x3 x4 = f_X7_way (σ 4) x1 x2 x3 x4 ∧ IV (j + 1) (setG (g_X6_way σ x1 x2 x3 x4) 4 (g_X7_way (σ 4) x1 x2 x3 x4))) (hh : HX IV) (X : Cx p m c cL_law 4 s #[Value.ref b] RL G) (hX : va_X b L xs s s.heap) (hbl : b < s.heap.size) (hbA : ¬ AA G b) (hL : L ≤ 3072) {j : Nat} {σ : St} (hj : 6 * j + 6 ≤ L) (hiv : IV j σ)
    (kk : ∀ (σ1 : St) (H : Heap) (locs : List Loc) (ls : Array Slot), IV (j + 1) σ1 → Wd G s σ1 H locs → lv_has ls 4 [(0, .ref b), (1, .ref (aa G 0 0)), (2, .ref (aa G 4 0)), (3, .int (nI (6 * j)))] → W p l e room_1 s m #[Value.ref b] below meth c H locs 97 2165 Q (F0 m 1090 ls []))
    {H : Heap} {locs : List Loc} {ls : Array Slot} (w : Wd G s σ H locs) (hl : lv_has ls 4 [(0, .ref b), (1, .ref (aa G 0 0)), (2, .ref (aa G 4 0)), (3, .int (nI (6 * j)))]) : W p l e room_1 s m #[Value.ref b] below meth c H locs 97 2165 Q (F0 m 316 ls []) := by
  have hx := X.1.1
  have hb := X.1.2.1
  have hj5 : j < 512 := by omega
  have hw := hh j σ (by omega) hiv
  obtain ⟨v1, hv1⟩ : ∃ y : Int32, y = xs (nI (6 * j) + nI 1).toNatClampNeg := ⟨_, rfl⟩
  obtain ⟨v2, hv2⟩ : ∃ y : Int32, y = xs (nI (6 * j) + nI 2).toNatClampNeg := ⟨_, rfl⟩
  obtain ⟨v3, hv3⟩ : ∃ y : Int32, y = xs (nI (6 * j) + nI 3).toNatClampNeg := ⟨_, rfl⟩
  obtain ⟨v4, hv4⟩ : ∃ y : Int32, y = xs (nI (6 * j) + nI 4).toNatClampNeg := ⟨_, rfl⟩
  refine lv_aload_n hx hb dL_law_316 rfl (lv_at hl 1 rfl) ?_
  refine lv_aload_n hx hb dL_law_317 rfl (lv_at hl 0 rfl) ?_
  refine lv_iload_n hx hb dL_law_318 rfl (lv_at hl 3 rfl) ?_
  refine lv_iconst (v := 1) hx hb dL_law_319 (by decide) ?_
  refine lv_iadd hx hb dL_law_320 ?_
  refine va_sld hx hb hX hbl hbA w.2 (ix_in (k := 1) hj hL (by decide)) dL_law_321 ?_
  refine topeq hv1.symm ?_
  refine lv_aload_n hx hb dL_law_322 rfl (lv_at hl 0 rfl) ?_
  refine lv_iload_n hx hb dL_law_323 rfl (lv_at hl 3 rfl) ?_
  refine lv_iconst (v := 2) hx hb dL_law_324 (by decide) ?_
  refine lv_iadd hx hb dL_law_325 ?_
  refine va_sld hx hb hX hbl hbA w.2 (ix_in (k := 2) hj hL (by decide)) dL_law_326 ?_
  refine topeq hv2.symm ?_
  change W _ _ _ _ _ _ _ _ _ _ _ _ _ _ _ (F0 m 327 ls _)
  refine lv_aload_n hx hb dL_law_327 rfl (lv_at hl 0 rfl) ?_
  refine lv_iload_n hx hb dL_law_328 rfl (lv_at hl 3 rfl) ?_
  refine lv_iconst (v := 3) hx hb dL_law_329 (by decide) ?_
  refine lv_iadd hx hb dL_law_330 ?_
  refine va_sld hx hb hX hbl hbA w.2 (ix_in (k := 3) hj hL (by decide)) dL_law_331 ?_
  refine topeq hv3.symm ?_
  refine lv_aload_n hx hb dL_law_332 rfl (lv_at hl 0 rfl) ?_
  refine lv_iload_n hx hb dL_law_333 rfl (lv_at hl 3 rfl) ?_
  refine lv_iconst (v := 4) hx hb dL_law_334 (by decide) ?_
  refine lv_iadd hx hb dL_law_335 ?_
  refine va_sld hx hb hX hbl hbA w.2 (ix_in (k := 4) hj hL (by decide)) dL_law_336 ?_
  refine topeq hv4.symm ?_
  obtain ⟨st4, sfe, siv⟩ := h_way j σ v1 v2 v3 v4 hj5 hiv
  refine k_i (rr_v (rest := []) X w mX6_way kw417 (c_X6_way v1 v2 v3 v4 hw.1) m0_0 rfl rfl ⟨Nat.le_of_ble_eq_true rfl, Nat.le_of_ble_eq_true rfl⟩ rfl hl.1 rfl (Nat.le_of_ble_eq_true rfl) dL_law_337 ⟨Nat.le_of_ble_eq_true rfl, Nat.le_of_ble_eq_true rfl⟩) w (fun H locs w => ?_)
  obtain ⟨σ1, eσ1⟩ : ∃ y : St, y = g_X6_way σ v1 v2 v3 v4 := ⟨_, rfl⟩
  rw [← eσ1] at w st4 siv
  refine lv_aload_n hx hb dL_law_340 rfl (lv_at hl 2 rfl) ?_
  change W _ _ _ _ _ _ _ _ _ _ _ _ _ _ _ (F0 m 341 ls _)
  refine lv_aload_n hx hb dL_law_341 rfl (lv_at hl 0 rfl) ?_
  refine lv_iload_n hx hb dL_law_342 rfl (lv_at hl 3 rfl) ?_
  refine lv_iconst (v := 1) hx hb dL_law_343 (by decide) ?_
  refine lv_iadd hx hb dL_law_344 ?_
  refine va_sld hx hb hX hbl hbA w.2 (ix_in (k := 1) hj hL (by decide)) dL_law_345 ?_
  refine topeq hv1.symm ?_
  refine lv_aload_n hx hb dL_law_346 rfl (lv_at hl 0 rfl) ?_
  refine lv_iload_n hx hb dL_law_347 rfl (lv_at hl 3 rfl) ?_
  refine lv_iconst (v := 2) hx hb dL_law_348 (by decide) ?_
  refine lv_iadd hx hb dL_law_349 ?_
  refine va_sld hx hb hX hbl hbA w.2 (ix_in (k := 2) hj hL (by decide)) dL_law_350 ?_
  refine topeq hv2.symm ?_
  refine lv_aload_n hx hb dL_law_351 rfl (lv_at hl 0 rfl) ?_
  refine lv_iload_n hx hb dL_law_352 rfl (lv_at hl 3 rfl) ?_
  change W _ _ _ _ _ _ _ _ _ _ _ _ _ _ _ (F0 m 353 ls _)
  refine lv_iconst (v := 3) hx hb dL_law_353 (by decide) ?_
  refine lv_iadd hx hb dL_law_354 ?_
  refine va_sld hx hb hX hbl hbA w.2 (ix_in (k := 3) hj hL (by decide)) dL_law_355 ?_
  refine topeq hv3.symm ?_
  refine lv_aload_n hx hb dL_law_356 rfl (lv_at hl 0 rfl) ?_
  refine lv_iload_n hx hb dL_law_357 rfl (lv_at hl 3 rfl) ?_
  refine lv_iconst (v := 4) hx hb dL_law_358 (by decide) ?_
  refine lv_iadd hx hb dL_law_359 ?_
  refine va_sld hx hb hX hbl hbA w.2 (ix_in (k := 4) hj hL (by decide)) dL_law_360 ?_
  refine topeq hv4.symm ?_
  have w4 : Wh G s σ1 4 (σ 4) H locs := by rw [← st4]; exact w.at 4
  refine k_i (rr_v (rest := [.int (f_X6_way σ v1 v2 v3 v4)]) X w4 mX7_way kw892 (c_X7_way v1 v2 v3 v4 (200 * j) (by omega) hw.2.2.1) m4_0 rfl rfl ⟨Nat.le_of_ble_eq_true rfl, Nat.le_of_ble_eq_true rfl⟩ rfl hl.1 rfl (Nat.le_of_ble_eq_true rfl) dL_law_361 ⟨Nat.le_of_ble_eq_true rfl, Nat.le_of_ble_eq_true rfl⟩) w4 (fun H locs w => ?_)
  refine lv_icmp_eq (tgt := 1090) hx hb dL_law_364 (by decide) (fun _ => ?_) (fun q => absurd sfe q)
  exact kk _ _ _ _ siv w hl
set_option maxRecDepth 100000 in
set_option maxHeartbeats 4000000 in
theorem law_shut (h_shut : ∀ (j : Nat) (σ : St) (x1 : Int32) (x2 : Int32), j < 512 → IV j σ → isB x2 → (g_X6_shut σ x1 x2) 4 = σ 4 ∧ f_X6_shut σ x1 x2 = f_X7_shut (σ 4) x1 x2 ∧ IV (j + 1) (setG (g_X6_shut σ x1 x2) 4 (g_X7_shut (σ 4) x1 x2))) (hh : HX IV) (X : Cx p m c cL_law 4 s #[Value.ref b] RL G) (hX : va_X b L xs s s.heap) (hbl : b < s.heap.size) (hbA : ¬ AA G b) (hL : L ≤ 3072) {j : Nat} {σ : St} (hj : 6 * j + 6 ≤ L) (hiv : IV j σ)
    (kk : ∀ (σ1 : St) (H : Heap) (locs : List Loc) (ls : Array Slot), IV (j + 1) σ1 → Wd G s σ1 H locs → lv_has ls 4 [(0, .ref b), (1, .ref (aa G 0 0)), (2, .ref (aa G 4 0)), (3, .int (nI (6 * j)))] → W p l e room_1 s m #[Value.ref b] below meth c H locs 97 2165 Q (F0 m 1090 ls []))
    {H : Heap} {locs : List Loc} {ls : Array Slot} (w : Wd G s σ H locs) (hl : lv_has ls 4 [(0, .ref b), (1, .ref (aa G 0 0)), (2, .ref (aa G 4 0)), (3, .int (nI (6 * j)))]) : W p l e room_1 s m #[Value.ref b] below meth c H locs 97 2165 Q (F0 m 369 ls []) := by
  have hx := X.1.1
  have hb := X.1.2.1
  have hj5 : j < 512 := by omega
  have hw := hh j σ (by omega) hiv
  obtain ⟨v1, hv1⟩ : ∃ y : Int32, y = xs (nI (6 * j) + nI 1).toNatClampNeg := ⟨_, rfl⟩
  obtain ⟨v2, hv2⟩ : ∃ y : Int32, y = xs (nI (6 * j) + nI 2).toNatClampNeg := ⟨_, rfl⟩
  refine lv_aload_n hx hb dL_law_369 rfl (lv_at hl 1 rfl) ?_
  refine lv_aload_n hx hb dL_law_370 rfl (lv_at hl 0 rfl) ?_
  refine lv_iload_n hx hb dL_law_371 rfl (lv_at hl 3 rfl) ?_
  refine lv_iconst (v := 1) hx hb dL_law_372 (by decide) ?_
  refine lv_iadd hx hb dL_law_373 ?_
  refine va_sld hx hb hX hbl hbA w.2 (ix_in (k := 1) hj hL (by decide)) dL_law_374 ?_
  refine topeq hv1.symm ?_
  refine lv_aload_n hx hb dL_law_375 rfl (lv_at hl 0 rfl) ?_
  refine lv_iload_n hx hb dL_law_376 rfl (lv_at hl 3 rfl) ?_
  refine lv_iconst (v := 2) hx hb dL_law_377 (by decide) ?_
  refine lv_iadd hx hb dL_law_378 ?_
  refine va_sld hx hb hX hbl hbA w.2 (ix_in (k := 2) hj hL (by decide)) dL_law_379 ?_
  refine topeq hv2.symm ?_
  change W _ _ _ _ _ _ _ _ _ _ _ _ _ _ _ (F0 m 380 ls _)
  refine lv_if_eq (tgt := 387) hx hb dL_law_380 (by decide) (fun zv2 => ?_) (fun zv2 => ?_)
  · skip
    refine lv_iconst (v := 0) hx hb dL_law_387 (by decide) ?_
    obtain ⟨st4, sfe, siv⟩ := h_shut j σ v1 0 hj5 hiv isB0
    refine k_i (rr_v (rest := []) X w mX6_shut kw422 (c_X6_shut v1 0) m0_0 rfl rfl ⟨Nat.le_of_ble_eq_true rfl, Nat.le_of_ble_eq_true rfl⟩ rfl hl.1 rfl (Nat.le_of_ble_eq_true rfl) dL_law_388 ⟨Nat.le_of_ble_eq_true rfl, Nat.le_of_ble_eq_true rfl⟩) w (fun H locs w => ?_)
    obtain ⟨σ1, eσ1⟩ : ∃ y : St, y = g_X6_shut σ v1 0 := ⟨_, rfl⟩
    rw [← eσ1] at w st4 siv
    refine lv_aload_n hx hb dL_law_391 rfl (lv_at hl 2 rfl) ?_
    refine lv_aload_n hx hb dL_law_392 rfl (lv_at hl 0 rfl) ?_
    refine lv_iload_n hx hb dL_law_393 rfl (lv_at hl 3 rfl) ?_
    refine lv_iconst (v := 1) hx hb dL_law_394 (by decide) ?_
    refine lv_iadd hx hb dL_law_395 ?_
    refine va_sld hx hb hX hbl hbA w.2 (ix_in (k := 1) hj hL (by decide)) dL_law_396 ?_
    refine topeq hv1.symm ?_
    refine lv_aload_n hx hb dL_law_397 rfl (lv_at hl 0 rfl) ?_
    refine lv_iload_n hx hb dL_law_398 rfl (lv_at hl 3 rfl) ?_
    refine lv_iconst (v := 2) hx hb dL_law_399 (by decide) ?_
    change W _ _ _ _ _ _ _ _ _ _ _ _ _ _ _ (F0 m 400 ls _)
    refine lv_iadd hx hb dL_law_400 ?_
    refine va_sld hx hb hX hbl hbA w.2 (ix_in (k := 2) hj hL (by decide)) dL_law_401 ?_
    refine topeq hv2.symm ?_
    refine lv_if_eq (tgt := 409) hx hb dL_law_402 (by decide) (fun _ => ?_) (fun q => absurd zv2 q)
    refine lv_iconst (v := 0) hx hb dL_law_409 (by decide) ?_
    have w4 : Wh G s σ1 4 (σ 4) H locs := by rw [← st4]; exact w.at 4
    refine k_i (rr_v (rest := [.int (f_X6_shut σ v1 0)]) X w4 mX7_shut kw908 (c_X7_shut v1 0 (200 * j) (by omega) hw.2.2.1 isB0) m4_0 rfl rfl ⟨Nat.le_of_ble_eq_true rfl, Nat.le_of_ble_eq_true rfl⟩ rfl hl.1 rfl (Nat.le_of_ble_eq_true rfl) dL_law_410 ⟨Nat.le_of_ble_eq_true rfl, Nat.le_of_ble_eq_true rfl⟩) w4 (fun H locs w => ?_)
    refine lv_icmp_eq (tgt := 1090) hx hb dL_law_413 (by decide) (fun _ => ?_) (fun q => absurd sfe q)
    exact kk _ _ _ _ siv w hl
  · skip
    refine lv_iconst (v := 1) hx hb dL_law_383 (by decide) ?_
    refine lv_goto (tgt := 388) hx hb dL_law_384 (by decide) ?_
    obtain ⟨st4, sfe, siv⟩ := h_shut j σ v1 1 hj5 hiv isB1
    refine k_i (rr_v (rest := []) X w mX6_shut kw422 (c_X6_shut v1 1) m0_0 rfl rfl ⟨Nat.le_of_ble_eq_true rfl, Nat.le_of_ble_eq_true rfl⟩ rfl hl.1 rfl (Nat.le_of_ble_eq_true rfl) dL_law_388 ⟨Nat.le_of_ble_eq_true rfl, Nat.le_of_ble_eq_true rfl⟩) w (fun H locs w => ?_)
    obtain ⟨σ1, eσ1⟩ : ∃ y : St, y = g_X6_shut σ v1 1 := ⟨_, rfl⟩
    rw [← eσ1] at w st4 siv
    refine lv_aload_n hx hb dL_law_391 rfl (lv_at hl 2 rfl) ?_
    refine lv_aload_n hx hb dL_law_392 rfl (lv_at hl 0 rfl) ?_
    refine lv_iload_n hx hb dL_law_393 rfl (lv_at hl 3 rfl) ?_
    refine lv_iconst (v := 1) hx hb dL_law_394 (by decide) ?_
    refine lv_iadd hx hb dL_law_395 ?_
    refine va_sld hx hb hX hbl hbA w.2 (ix_in (k := 1) hj hL (by decide)) dL_law_396 ?_
    refine topeq hv1.symm ?_
    refine lv_aload_n hx hb dL_law_397 rfl (lv_at hl 0 rfl) ?_
    refine lv_iload_n hx hb dL_law_398 rfl (lv_at hl 3 rfl) ?_
    change W _ _ _ _ _ _ _ _ _ _ _ _ _ _ _ (F0 m 399 ls _)
    refine lv_iconst (v := 2) hx hb dL_law_399 (by decide) ?_
    refine lv_iadd hx hb dL_law_400 ?_
    refine va_sld hx hb hX hbl hbA w.2 (ix_in (k := 2) hj hL (by decide)) dL_law_401 ?_
    refine topeq hv2.symm ?_
    refine lv_if_eq (tgt := 409) hx hb dL_law_402 (by decide) (fun q => absurd q zv2) (fun _ => ?_)
    refine lv_iconst (v := 1) hx hb dL_law_405 (by decide) ?_
    refine lv_goto (tgt := 410) hx hb dL_law_406 (by decide) ?_
    have w4 : Wh G s σ1 4 (σ 4) H locs := by rw [← st4]; exact w.at 4
    refine k_i (rr_v (rest := [.int (f_X6_shut σ v1 1)]) X w4 mX7_shut kw908 (c_X7_shut v1 1 (200 * j) (by omega) hw.2.2.1 isB1) m4_0 rfl rfl ⟨Nat.le_of_ble_eq_true rfl, Nat.le_of_ble_eq_true rfl⟩ rfl hl.1 rfl (Nat.le_of_ble_eq_true rfl) dL_law_410 ⟨Nat.le_of_ble_eq_true rfl, Nat.le_of_ble_eq_true rfl⟩) w4 (fun H locs w => ?_)
    refine lv_icmp_eq (tgt := 1090) hx hb dL_law_413 (by decide) (fun _ => ?_) (fun q => absurd sfe q)
    exact kk _ _ _ _ siv w hl
set_option maxRecDepth 100000 in
set_option maxHeartbeats 4000000 in
theorem law_river (h_river : ∀ (j : Nat) (σ : St) (x1 : Int32) (x2 : Int32) (x3 : Int32), j < 512 → IV j σ → (g_X6_river σ x1 x2 x3) 4 = σ 4 ∧ f_X6_river σ x1 x2 x3 = f_X7_river (σ 4) x1 x2 x3 ∧ IV (j + 1) (setG (g_X6_river σ x1 x2 x3) 4 (g_X7_river (σ 4) x1 x2 x3))) (hh : HX IV) (X : Cx p m c cL_law 4 s #[Value.ref b] RL G) (hX : va_X b L xs s s.heap) (hbl : b < s.heap.size) (hbA : ¬ AA G b) (hL : L ≤ 3072) {j : Nat} {σ : St} (hj : 6 * j + 6 ≤ L) (hiv : IV j σ)
    (kk : ∀ (σ1 : St) (H : Heap) (locs : List Loc) (ls : Array Slot), IV (j + 1) σ1 → Wd G s σ1 H locs → lv_has ls 4 [(0, .ref b), (1, .ref (aa G 0 0)), (2, .ref (aa G 4 0)), (3, .int (nI (6 * j)))] → W p l e room_1 s m #[Value.ref b] below meth c H locs 97 2165 Q (F0 m 1090 ls []))
    {H : Heap} {locs : List Loc} {ls : Array Slot} (w : Wd G s σ H locs) (hl : lv_has ls 4 [(0, .ref b), (1, .ref (aa G 0 0)), (2, .ref (aa G 4 0)), (3, .int (nI (6 * j)))]) : W p l e room_1 s m #[Value.ref b] below meth c H locs 97 2165 Q (F0 m 418 ls []) := by
  have hx := X.1.1
  have hb := X.1.2.1
  have hj5 : j < 512 := by omega
  have hw := hh j σ (by omega) hiv
  obtain ⟨v1, hv1⟩ : ∃ y : Int32, y = xs (nI (6 * j) + nI 1).toNatClampNeg := ⟨_, rfl⟩
  obtain ⟨v2, hv2⟩ : ∃ y : Int32, y = xs (nI (6 * j) + nI 2).toNatClampNeg := ⟨_, rfl⟩
  obtain ⟨v3, hv3⟩ : ∃ y : Int32, y = xs (nI (6 * j) + nI 3).toNatClampNeg := ⟨_, rfl⟩
  refine lv_aload_n hx hb dL_law_418 rfl (lv_at hl 1 rfl) ?_
  refine lv_aload_n hx hb dL_law_419 rfl (lv_at hl 0 rfl) ?_
  refine lv_iload_n hx hb dL_law_420 rfl (lv_at hl 3 rfl) ?_
  refine lv_iconst (v := 1) hx hb dL_law_421 (by decide) ?_
  refine lv_iadd hx hb dL_law_422 ?_
  refine va_sld hx hb hX hbl hbA w.2 (ix_in (k := 1) hj hL (by decide)) dL_law_423 ?_
  refine topeq hv1.symm ?_
  refine lv_aload_n hx hb dL_law_424 rfl (lv_at hl 0 rfl) ?_
  refine lv_iload_n hx hb dL_law_425 rfl (lv_at hl 3 rfl) ?_
  refine lv_iconst (v := 2) hx hb dL_law_426 (by decide) ?_
  refine lv_iadd hx hb dL_law_427 ?_
  refine va_sld hx hb hX hbl hbA w.2 (ix_in (k := 2) hj hL (by decide)) dL_law_428 ?_
  refine topeq hv2.symm ?_
  change W _ _ _ _ _ _ _ _ _ _ _ _ _ _ _ (F0 m 429 ls _)
  refine lv_aload_n hx hb dL_law_429 rfl (lv_at hl 0 rfl) ?_
  refine lv_iload_n hx hb dL_law_430 rfl (lv_at hl 3 rfl) ?_
  refine lv_iconst (v := 3) hx hb dL_law_431 (by decide) ?_
  refine lv_iadd hx hb dL_law_432 ?_
  refine va_sld hx hb hX hbl hbA w.2 (ix_in (k := 3) hj hL (by decide)) dL_law_433 ?_
  refine topeq hv3.symm ?_
  obtain ⟨st4, sfe, siv⟩ := h_river j σ v1 v2 v3 hj5 hiv
  refine k_i (rr_v (rest := []) X w mX6_river kw438 (c_X6_river v1 v2 v3) m0_0 rfl rfl ⟨Nat.le_of_ble_eq_true rfl, Nat.le_of_ble_eq_true rfl⟩ rfl hl.1 rfl (Nat.le_of_ble_eq_true rfl) dL_law_434 ⟨Nat.le_of_ble_eq_true rfl, Nat.le_of_ble_eq_true rfl⟩) w (fun H locs w => ?_)
  obtain ⟨σ1, eσ1⟩ : ∃ y : St, y = g_X6_river σ v1 v2 v3 := ⟨_, rfl⟩
  rw [← eσ1] at w st4 siv
  refine lv_aload_n hx hb dL_law_437 rfl (lv_at hl 2 rfl) ?_
  refine lv_aload_n hx hb dL_law_438 rfl (lv_at hl 0 rfl) ?_
  refine lv_iload_n hx hb dL_law_439 rfl (lv_at hl 3 rfl) ?_
  refine lv_iconst (v := 1) hx hb dL_law_440 (by decide) ?_
  refine lv_iadd hx hb dL_law_441 ?_
  refine va_sld hx hb hX hbl hbA w.2 (ix_in (k := 1) hj hL (by decide)) dL_law_442 ?_
  refine topeq hv1.symm ?_
  change W _ _ _ _ _ _ _ _ _ _ _ _ _ _ _ (F0 m 443 ls _)
  refine lv_aload_n hx hb dL_law_443 rfl (lv_at hl 0 rfl) ?_
  refine lv_iload_n hx hb dL_law_444 rfl (lv_at hl 3 rfl) ?_
  refine lv_iconst (v := 2) hx hb dL_law_445 (by decide) ?_
  refine lv_iadd hx hb dL_law_446 ?_
  refine va_sld hx hb hX hbl hbA w.2 (ix_in (k := 2) hj hL (by decide)) dL_law_447 ?_
  refine topeq hv2.symm ?_
  refine lv_aload_n hx hb dL_law_448 rfl (lv_at hl 0 rfl) ?_
  refine lv_iload_n hx hb dL_law_449 rfl (lv_at hl 3 rfl) ?_
  refine lv_iconst (v := 3) hx hb dL_law_450 (by decide) ?_
  refine lv_iadd hx hb dL_law_451 ?_
  refine va_sld hx hb hX hbl hbA w.2 (ix_in (k := 3) hj hL (by decide)) dL_law_452 ?_
  refine topeq hv3.symm ?_
  have w4 : Wh G s σ1 4 (σ 4) H locs := by rw [← st4]; exact w.at 4
  refine k_i (rr_v (rest := [.int (f_X6_river σ v1 v2 v3)]) X w4 mX7_river kw912 (c_X7_river v1 v2 v3 (200 * j) (by omega) hw.2.2.1) m4_0 rfl rfl ⟨Nat.le_of_ble_eq_true rfl, Nat.le_of_ble_eq_true rfl⟩ rfl hl.1 rfl (Nat.le_of_ble_eq_true rfl) dL_law_453 ⟨Nat.le_of_ble_eq_true rfl, Nat.le_of_ble_eq_true rfl⟩) w4 (fun H locs w => ?_)
  refine lv_icmp_eq (tgt := 1090) hx hb dL_law_456 (by decide) (fun _ => ?_) (fun q => absurd sfe q)
  exact kk _ _ _ _ siv w hl
set_option maxRecDepth 100000 in
set_option maxHeartbeats 4000000 in
theorem law_moon (h_moon : ∀ (j : Nat) (σ : St) (x1 : Int32) (x2 : Int32), j < 512 → IV j σ → (g_X6_moon σ x1 x2) 4 = σ 4 ∧ f_X6_moon σ x1 x2 = f_X7_moon (σ 4) x1 x2 ∧ IV (j + 1) (setG (g_X6_moon σ x1 x2) 4 (g_X7_moon (σ 4) x1 x2))) (hh : HX IV) (X : Cx p m c cL_law 4 s #[Value.ref b] RL G) (hX : va_X b L xs s s.heap) (hbl : b < s.heap.size) (hbA : ¬ AA G b) (hL : L ≤ 3072) {j : Nat} {σ : St} (hj : 6 * j + 6 ≤ L) (hiv : IV j σ)
    (kk : ∀ (σ1 : St) (H : Heap) (locs : List Loc) (ls : Array Slot), IV (j + 1) σ1 → Wd G s σ1 H locs → lv_has ls 4 [(0, .ref b), (1, .ref (aa G 0 0)), (2, .ref (aa G 4 0)), (3, .int (nI (6 * j)))] → W p l e room_1 s m #[Value.ref b] below meth c H locs 97 2165 Q (F0 m 1090 ls []))
    {H : Heap} {locs : List Loc} {ls : Array Slot} (w : Wd G s σ H locs) (hl : lv_has ls 4 [(0, .ref b), (1, .ref (aa G 0 0)), (2, .ref (aa G 4 0)), (3, .int (nI (6 * j)))]) : W p l e room_1 s m #[Value.ref b] below meth c H locs 97 2165 Q (F0 m 461 ls []) := by
  have hx := X.1.1
  have hb := X.1.2.1
  have hj5 : j < 512 := by omega
  have hw := hh j σ (by omega) hiv
  obtain ⟨v1, hv1⟩ : ∃ y : Int32, y = xs (nI (6 * j) + nI 1).toNatClampNeg := ⟨_, rfl⟩
  obtain ⟨v2, hv2⟩ : ∃ y : Int32, y = xs (nI (6 * j) + nI 2).toNatClampNeg := ⟨_, rfl⟩
  refine lv_aload_n hx hb dL_law_461 rfl (lv_at hl 1 rfl) ?_
  refine lv_aload_n hx hb dL_law_462 rfl (lv_at hl 0 rfl) ?_
  refine lv_iload_n hx hb dL_law_463 rfl (lv_at hl 3 rfl) ?_
  refine lv_iconst (v := 1) hx hb dL_law_464 (by decide) ?_
  refine lv_iadd hx hb dL_law_465 ?_
  refine va_sld hx hb hX hbl hbA w.2 (ix_in (k := 1) hj hL (by decide)) dL_law_466 ?_
  refine topeq hv1.symm ?_
  refine lv_aload_n hx hb dL_law_467 rfl (lv_at hl 0 rfl) ?_
  refine lv_iload_n hx hb dL_law_468 rfl (lv_at hl 3 rfl) ?_
  refine lv_iconst (v := 2) hx hb dL_law_469 (by decide) ?_
  refine lv_iadd hx hb dL_law_470 ?_
  refine va_sld hx hb hX hbl hbA w.2 (ix_in (k := 2) hj hL (by decide)) dL_law_471 ?_
  refine topeq hv2.symm ?_
  change W _ _ _ _ _ _ _ _ _ _ _ _ _ _ _ (F0 m 472 ls _)
  obtain ⟨st4, sfe, siv⟩ := h_moon j σ v1 v2 hj5 hiv
  refine k_i (rr_v (rest := []) X w mX6_moon kw443 (c_X6_moon v1 v2) m0_0 rfl rfl ⟨Nat.le_of_ble_eq_true rfl, Nat.le_of_ble_eq_true rfl⟩ rfl hl.1 rfl (Nat.le_of_ble_eq_true rfl) dL_law_472 ⟨Nat.le_of_ble_eq_true rfl, Nat.le_of_ble_eq_true rfl⟩) w (fun H locs w => ?_)
  obtain ⟨σ1, eσ1⟩ : ∃ y : St, y = g_X6_moon σ v1 v2 := ⟨_, rfl⟩
  rw [← eσ1] at w st4 siv
  refine lv_aload_n hx hb dL_law_475 rfl (lv_at hl 2 rfl) ?_
  refine lv_aload_n hx hb dL_law_476 rfl (lv_at hl 0 rfl) ?_
  refine lv_iload_n hx hb dL_law_477 rfl (lv_at hl 3 rfl) ?_
  refine lv_iconst (v := 1) hx hb dL_law_478 (by decide) ?_
  refine lv_iadd hx hb dL_law_479 ?_
  refine va_sld hx hb hX hbl hbA w.2 (ix_in (k := 1) hj hL (by decide)) dL_law_480 ?_
  refine topeq hv1.symm ?_
  refine lv_aload_n hx hb dL_law_481 rfl (lv_at hl 0 rfl) ?_
  refine lv_iload_n hx hb dL_law_482 rfl (lv_at hl 3 rfl) ?_
  refine lv_iconst (v := 2) hx hb dL_law_483 (by decide) ?_
  refine lv_iadd hx hb dL_law_484 ?_
  refine va_sld hx hb hX hbl hbA w.2 (ix_in (k := 2) hj hL (by decide)) dL_law_485 ?_
  refine topeq hv2.symm ?_
  change W _ _ _ _ _ _ _ _ _ _ _ _ _ _ _ (F0 m 486 ls _)
  have w4 : Wh G s σ1 4 (σ 4) H locs := by rw [← st4]; exact w.at 4
  refine k_i (rr_v (rest := [.int (f_X6_moon σ v1 v2)]) X w4 mX7_moon kw923 (c_X7_moon v1 v2 (200 * j) (by omega) hw.2.2.1) m4_0 rfl rfl ⟨Nat.le_of_ble_eq_true rfl, Nat.le_of_ble_eq_true rfl⟩ rfl hl.1 rfl (Nat.le_of_ble_eq_true rfl) dL_law_486 ⟨Nat.le_of_ble_eq_true rfl, Nat.le_of_ble_eq_true rfl⟩) w4 (fun H locs w => ?_)
  refine lv_icmp_eq (tgt := 1090) hx hb dL_law_489 (by decide) (fun _ => ?_) (fun q => absurd sfe q)
  exact kk _ _ _ _ siv w hl
set_option maxRecDepth 100000 in
set_option maxHeartbeats 4000000 in
theorem law_put (h_put : ∀ (j : Nat) (σ : St) (x1 : Int32) (x2 : Int32) (x3 : Int32) (x4 : Int32), j < 512 → IV j σ → isB x3 → (g_X6_put σ x1 x2 x3 x4) 4 = σ 4 ∧ f_X6_put σ x1 x2 x3 x4 = f_X7_put (σ 4) x1 x2 x3 x4 ∧ IV (j + 1) (setG (g_X6_put σ x1 x2 x3 x4) 4 (g_X7_put (σ 4) x1 x2 x3 x4))) (hh : HX IV) (X : Cx p m c cL_law 4 s #[Value.ref b] RL G) (hX : va_X b L xs s s.heap) (hbl : b < s.heap.size) (hbA : ¬ AA G b) (hL : L ≤ 3072) {j : Nat} {σ : St} (hj : 6 * j + 6 ≤ L) (hiv : IV j σ)
    (kk : ∀ (σ1 : St) (H : Heap) (locs : List Loc) (ls : Array Slot), IV (j + 1) σ1 → Wd G s σ1 H locs → lv_has ls 4 [(0, .ref b), (1, .ref (aa G 0 0)), (2, .ref (aa G 4 0)), (3, .int (nI (6 * j)))] → W p l e room_1 s m #[Value.ref b] below meth c H locs 97 2165 Q (F0 m 1090 ls []))
    {H : Heap} {locs : List Loc} {ls : Array Slot} (w : Wd G s σ H locs) (hl : lv_has ls 4 [(0, .ref b), (1, .ref (aa G 0 0)), (2, .ref (aa G 4 0)), (3, .int (nI (6 * j)))]) : W p l e room_1 s m #[Value.ref b] below meth c H locs 97 2165 Q (F0 m 494 ls []) := by
  have hx := X.1.1
  have hb := X.1.2.1
  have hj5 : j < 512 := by omega
  have hw := hh j σ (by omega) hiv
  obtain ⟨v1, hv1⟩ : ∃ y : Int32, y = xs (nI (6 * j) + nI 1).toNatClampNeg := ⟨_, rfl⟩
  obtain ⟨v2, hv2⟩ : ∃ y : Int32, y = xs (nI (6 * j) + nI 2).toNatClampNeg := ⟨_, rfl⟩
  obtain ⟨v3, hv3⟩ : ∃ y : Int32, y = xs (nI (6 * j) + nI 3).toNatClampNeg := ⟨_, rfl⟩
  obtain ⟨v4, hv4⟩ : ∃ y : Int32, y = xs (nI (6 * j) + nI 4).toNatClampNeg := ⟨_, rfl⟩
  refine lv_aload_n hx hb dL_law_494 rfl (lv_at hl 1 rfl) ?_
  refine lv_aload_n hx hb dL_law_495 rfl (lv_at hl 0 rfl) ?_
  refine lv_iload_n hx hb dL_law_496 rfl (lv_at hl 3 rfl) ?_
  refine lv_iconst (v := 1) hx hb dL_law_497 (by decide) ?_
  refine lv_iadd hx hb dL_law_498 ?_
  refine va_sld hx hb hX hbl hbA w.2 (ix_in (k := 1) hj hL (by decide)) dL_law_499 ?_
  refine topeq hv1.symm ?_
  refine lv_aload_n hx hb dL_law_500 rfl (lv_at hl 0 rfl) ?_
  refine lv_iload_n hx hb dL_law_501 rfl (lv_at hl 3 rfl) ?_
  refine lv_iconst (v := 2) hx hb dL_law_502 (by decide) ?_
  refine lv_iadd hx hb dL_law_503 ?_
  refine va_sld hx hb hX hbl hbA w.2 (ix_in (k := 2) hj hL (by decide)) dL_law_504 ?_
  refine topeq hv2.symm ?_
  change W _ _ _ _ _ _ _ _ _ _ _ _ _ _ _ (F0 m 505 ls _)
  refine lv_aload_n hx hb dL_law_505 rfl (lv_at hl 0 rfl) ?_
  refine lv_iload_n hx hb dL_law_506 rfl (lv_at hl 3 rfl) ?_
  refine lv_iconst (v := 3) hx hb dL_law_507 (by decide) ?_
  refine lv_iadd hx hb dL_law_508 ?_
  refine va_sld hx hb hX hbl hbA w.2 (ix_in (k := 3) hj hL (by decide)) dL_law_509 ?_
  refine topeq hv3.symm ?_
  refine lv_if_eq (tgt := 517) hx hb dL_law_510 (by decide) (fun zv3 => ?_) (fun zv3 => ?_)
  · skip
    refine lv_iconst (v := 0) hx hb dL_law_517 (by decide) ?_
    refine lv_aload_n hx hb dL_law_518 rfl (lv_at hl 0 rfl) ?_
    refine lv_iload_n hx hb dL_law_519 rfl (lv_at hl 3 rfl) ?_
    refine lv_iconst (v := 4) hx hb dL_law_520 (by decide) ?_
    refine lv_iadd hx hb dL_law_521 ?_
    refine va_sld hx hb hX hbl hbA w.2 (ix_in (k := 4) hj hL (by decide)) dL_law_522 ?_
    refine topeq hv4.symm ?_
    change W _ _ _ _ _ _ _ _ _ _ _ _ _ _ _ (F0 m 523 ls _)
    obtain ⟨st4, sfe, siv⟩ := h_put j σ v1 v2 0 v4 hj5 hiv isB0
    refine k_i (rr_v (rest := []) X w mX6_put kw448 (c_X6_put v1 v2 0 v4) m0_0 rfl rfl ⟨Nat.le_of_ble_eq_true rfl, Nat.le_of_ble_eq_true rfl⟩ rfl hl.1 rfl (Nat.le_of_ble_eq_true rfl) dL_law_523 ⟨Nat.le_of_ble_eq_true rfl, Nat.le_of_ble_eq_true rfl⟩) w (fun H locs w => ?_)
    obtain ⟨σ1, eσ1⟩ : ∃ y : St, y = g_X6_put σ v1 v2 0 v4 := ⟨_, rfl⟩
    rw [← eσ1] at w st4 siv
    refine lv_aload_n hx hb dL_law_526 rfl (lv_at hl 2 rfl) ?_
    refine lv_aload_n hx hb dL_law_527 rfl (lv_at hl 0 rfl) ?_
    refine lv_iload_n hx hb dL_law_528 rfl (lv_at hl 3 rfl) ?_
    refine lv_iconst (v := 1) hx hb dL_law_529 (by decide) ?_
    refine lv_iadd hx hb dL_law_530 ?_
    refine va_sld hx hb hX hbl hbA w.2 (ix_in (k := 1) hj hL (by decide)) dL_law_531 ?_
    refine topeq hv1.symm ?_
    refine lv_aload_n hx hb dL_law_532 rfl (lv_at hl 0 rfl) ?_
    refine lv_iload_n hx hb dL_law_533 rfl (lv_at hl 3 rfl) ?_
    refine lv_iconst (v := 2) hx hb dL_law_534 (by decide) ?_
    refine lv_iadd hx hb dL_law_535 ?_
    refine va_sld hx hb hX hbl hbA w.2 (ix_in (k := 2) hj hL (by decide)) dL_law_536 ?_
    refine topeq hv2.symm ?_
    change W _ _ _ _ _ _ _ _ _ _ _ _ _ _ _ (F0 m 537 ls _)
    refine lv_aload_n hx hb dL_law_537 rfl (lv_at hl 0 rfl) ?_
    refine lv_iload_n hx hb dL_law_538 rfl (lv_at hl 3 rfl) ?_
    refine lv_iconst (v := 3) hx hb dL_law_539 (by decide) ?_
    refine lv_iadd hx hb dL_law_540 ?_
    refine va_sld hx hb hX hbl hbA w.2 (ix_in (k := 3) hj hL (by decide)) dL_law_541 ?_
    refine topeq hv3.symm ?_
    refine lv_if_eq (tgt := 549) hx hb dL_law_542 (by decide) (fun _ => ?_) (fun q => absurd zv3 q)
    refine lv_iconst (v := 0) hx hb dL_law_549 (by decide) ?_
    refine lv_aload_n hx hb dL_law_550 rfl (lv_at hl 0 rfl) ?_
    refine lv_iload_n hx hb dL_law_551 rfl (lv_at hl 3 rfl) ?_
    refine lv_iconst (v := 4) hx hb dL_law_552 (by decide) ?_
    refine lv_iadd hx hb dL_law_553 ?_
    refine va_sld hx hb hX hbl hbA w.2 (ix_in (k := 4) hj hL (by decide)) dL_law_554 ?_
    refine topeq hv4.symm ?_
    change W _ _ _ _ _ _ _ _ _ _ _ _ _ _ _ (F0 m 555 ls _)
    have w4 : Wh G s σ1 4 (σ 4) H locs := by rw [← st4]; exact w.at 4
    refine k_i (rr_v (rest := [.int (f_X6_put σ v1 v2 0 v4)]) X w4 mX7_put kw927 (c_X7_put v1 v2 0 v4 (200 * j) (by omega) hw.2.2.1) m4_0 rfl rfl ⟨Nat.le_of_ble_eq_true rfl, Nat.le_of_ble_eq_true rfl⟩ rfl hl.1 rfl (Nat.le_of_ble_eq_true rfl) dL_law_555 ⟨Nat.le_of_ble_eq_true rfl, Nat.le_of_ble_eq_true rfl⟩) w4 (fun H locs w => ?_)
    refine lv_icmp_eq (tgt := 1090) hx hb dL_law_558 (by decide) (fun _ => ?_) (fun q => absurd sfe q)
    exact kk _ _ _ _ siv w hl
  · skip
    refine lv_iconst (v := 1) hx hb dL_law_513 (by decide) ?_
    refine lv_goto (tgt := 518) hx hb dL_law_514 (by decide) ?_
    refine lv_aload_n hx hb dL_law_518 rfl (lv_at hl 0 rfl) ?_
    refine lv_iload_n hx hb dL_law_519 rfl (lv_at hl 3 rfl) ?_
    refine lv_iconst (v := 4) hx hb dL_law_520 (by decide) ?_
    refine lv_iadd hx hb dL_law_521 ?_
    change W _ _ _ _ _ _ _ _ _ _ _ _ _ _ _ (F0 m 522 ls _)
    refine va_sld hx hb hX hbl hbA w.2 (ix_in (k := 4) hj hL (by decide)) dL_law_522 ?_
    refine topeq hv4.symm ?_
    obtain ⟨st4, sfe, siv⟩ := h_put j σ v1 v2 1 v4 hj5 hiv isB1
    refine k_i (rr_v (rest := []) X w mX6_put kw448 (c_X6_put v1 v2 1 v4) m0_0 rfl rfl ⟨Nat.le_of_ble_eq_true rfl, Nat.le_of_ble_eq_true rfl⟩ rfl hl.1 rfl (Nat.le_of_ble_eq_true rfl) dL_law_523 ⟨Nat.le_of_ble_eq_true rfl, Nat.le_of_ble_eq_true rfl⟩) w (fun H locs w => ?_)
    obtain ⟨σ1, eσ1⟩ : ∃ y : St, y = g_X6_put σ v1 v2 1 v4 := ⟨_, rfl⟩
    rw [← eσ1] at w st4 siv
    refine lv_aload_n hx hb dL_law_526 rfl (lv_at hl 2 rfl) ?_
    refine lv_aload_n hx hb dL_law_527 rfl (lv_at hl 0 rfl) ?_
    refine lv_iload_n hx hb dL_law_528 rfl (lv_at hl 3 rfl) ?_
    refine lv_iconst (v := 1) hx hb dL_law_529 (by decide) ?_
    refine lv_iadd hx hb dL_law_530 ?_
    refine va_sld hx hb hX hbl hbA w.2 (ix_in (k := 1) hj hL (by decide)) dL_law_531 ?_
    refine topeq hv1.symm ?_
    refine lv_aload_n hx hb dL_law_532 rfl (lv_at hl 0 rfl) ?_
    refine lv_iload_n hx hb dL_law_533 rfl (lv_at hl 3 rfl) ?_
    refine lv_iconst (v := 2) hx hb dL_law_534 (by decide) ?_
    refine lv_iadd hx hb dL_law_535 ?_
    change W _ _ _ _ _ _ _ _ _ _ _ _ _ _ _ (F0 m 536 ls _)
    refine va_sld hx hb hX hbl hbA w.2 (ix_in (k := 2) hj hL (by decide)) dL_law_536 ?_
    refine topeq hv2.symm ?_
    refine lv_aload_n hx hb dL_law_537 rfl (lv_at hl 0 rfl) ?_
    refine lv_iload_n hx hb dL_law_538 rfl (lv_at hl 3 rfl) ?_
    refine lv_iconst (v := 3) hx hb dL_law_539 (by decide) ?_
    refine lv_iadd hx hb dL_law_540 ?_
    refine va_sld hx hb hX hbl hbA w.2 (ix_in (k := 3) hj hL (by decide)) dL_law_541 ?_
    refine topeq hv3.symm ?_
    refine lv_if_eq (tgt := 549) hx hb dL_law_542 (by decide) (fun q => absurd q zv3) (fun _ => ?_)
    refine lv_iconst (v := 1) hx hb dL_law_545 (by decide) ?_
    refine lv_goto (tgt := 550) hx hb dL_law_546 (by decide) ?_
    refine lv_aload_n hx hb dL_law_550 rfl (lv_at hl 0 rfl) ?_
    refine lv_iload_n hx hb dL_law_551 rfl (lv_at hl 3 rfl) ?_
    refine lv_iconst (v := 4) hx hb dL_law_552 (by decide) ?_
    change W _ _ _ _ _ _ _ _ _ _ _ _ _ _ _ (F0 m 553 ls _)
    refine lv_iadd hx hb dL_law_553 ?_
    refine va_sld hx hb hX hbl hbA w.2 (ix_in (k := 4) hj hL (by decide)) dL_law_554 ?_
    refine topeq hv4.symm ?_
    have w4 : Wh G s σ1 4 (σ 4) H locs := by rw [← st4]; exact w.at 4
    refine k_i (rr_v (rest := [.int (f_X6_put σ v1 v2 1 v4)]) X w4 mX7_put kw927 (c_X7_put v1 v2 1 v4 (200 * j) (by omega) hw.2.2.1) m4_0 rfl rfl ⟨Nat.le_of_ble_eq_true rfl, Nat.le_of_ble_eq_true rfl⟩ rfl hl.1 rfl (Nat.le_of_ble_eq_true rfl) dL_law_555 ⟨Nat.le_of_ble_eq_true rfl, Nat.le_of_ble_eq_true rfl⟩) w4 (fun H locs w => ?_)
    refine lv_icmp_eq (tgt := 1090) hx hb dL_law_558 (by decide) (fun _ => ?_) (fun q => absurd sfe q)
    exact kk _ _ _ _ siv w hl
set_option maxRecDepth 100000 in
set_option maxHeartbeats 4000000 in
theorem law_tons (h_tons : ∀ (j : Nat) (σ : St) (x1 : Int32) (x2 : Int32) (x3 : Int32), j < 512 → IV j σ → isB x3 → (g_X6_tons σ x1 x2 x3) 4 = σ 4 ∧ f_X6_tons σ x1 x2 x3 = f_X7_tons (σ 4) x1 x2 x3 ∧ IV (j + 1) (setG (g_X6_tons σ x1 x2 x3) 4 (g_X7_tons (σ 4) x1 x2 x3))) (hh : HX IV) (X : Cx p m c cL_law 4 s #[Value.ref b] RL G) (hX : va_X b L xs s s.heap) (hbl : b < s.heap.size) (hbA : ¬ AA G b) (hL : L ≤ 3072) {j : Nat} {σ : St} (hj : 6 * j + 6 ≤ L) (hiv : IV j σ)
    (kk : ∀ (σ1 : St) (H : Heap) (locs : List Loc) (ls : Array Slot), IV (j + 1) σ1 → Wd G s σ1 H locs → lv_has ls 4 [(0, .ref b), (1, .ref (aa G 0 0)), (2, .ref (aa G 4 0)), (3, .int (nI (6 * j)))] → W p l e room_1 s m #[Value.ref b] below meth c H locs 97 2165 Q (F0 m 1090 ls []))
    {H : Heap} {locs : List Loc} {ls : Array Slot} (w : Wd G s σ H locs) (hl : lv_has ls 4 [(0, .ref b), (1, .ref (aa G 0 0)), (2, .ref (aa G 4 0)), (3, .int (nI (6 * j)))]) : W p l e room_1 s m #[Value.ref b] below meth c H locs 97 2165 Q (F0 m 563 ls []) := by
  have hx := X.1.1
  have hb := X.1.2.1
  have hj5 : j < 512 := by omega
  have hw := hh j σ (by omega) hiv
  obtain ⟨v1, hv1⟩ : ∃ y : Int32, y = xs (nI (6 * j) + nI 1).toNatClampNeg := ⟨_, rfl⟩
  obtain ⟨v2, hv2⟩ : ∃ y : Int32, y = xs (nI (6 * j) + nI 2).toNatClampNeg := ⟨_, rfl⟩
  obtain ⟨v3, hv3⟩ : ∃ y : Int32, y = xs (nI (6 * j) + nI 3).toNatClampNeg := ⟨_, rfl⟩
  refine lv_aload_n hx hb dL_law_563 rfl (lv_at hl 1 rfl) ?_
  refine lv_aload_n hx hb dL_law_564 rfl (lv_at hl 0 rfl) ?_
  refine lv_iload_n hx hb dL_law_565 rfl (lv_at hl 3 rfl) ?_
  refine lv_iconst (v := 1) hx hb dL_law_566 (by decide) ?_
  refine lv_iadd hx hb dL_law_567 ?_
  refine va_sld hx hb hX hbl hbA w.2 (ix_in (k := 1) hj hL (by decide)) dL_law_568 ?_
  refine topeq hv1.symm ?_
  refine lv_aload_n hx hb dL_law_569 rfl (lv_at hl 0 rfl) ?_
  refine lv_iload_n hx hb dL_law_570 rfl (lv_at hl 3 rfl) ?_
  refine lv_iconst (v := 2) hx hb dL_law_571 (by decide) ?_
  refine lv_iadd hx hb dL_law_572 ?_
  refine va_sld hx hb hX hbl hbA w.2 (ix_in (k := 2) hj hL (by decide)) dL_law_573 ?_
  refine topeq hv2.symm ?_
  change W _ _ _ _ _ _ _ _ _ _ _ _ _ _ _ (F0 m 574 ls _)
  refine lv_aload_n hx hb dL_law_574 rfl (lv_at hl 0 rfl) ?_
  refine lv_iload_n hx hb dL_law_575 rfl (lv_at hl 3 rfl) ?_
  refine lv_iconst (v := 3) hx hb dL_law_576 (by decide) ?_
  refine lv_iadd hx hb dL_law_577 ?_
  refine va_sld hx hb hX hbl hbA w.2 (ix_in (k := 3) hj hL (by decide)) dL_law_578 ?_
  refine topeq hv3.symm ?_
  refine lv_if_eq (tgt := 586) hx hb dL_law_579 (by decide) (fun zv3 => ?_) (fun zv3 => ?_)
  · skip
    refine lv_iconst (v := 0) hx hb dL_law_586 (by decide) ?_
    obtain ⟨st4, sfe, siv⟩ := h_tons j σ v1 v2 0 hj5 hiv isB0
    refine k_i (rr_v (rest := []) X w mX6_tons kw464 (c_X6_tons v1 v2 0) m0_0 rfl rfl ⟨Nat.le_of_ble_eq_true rfl, Nat.le_of_ble_eq_true rfl⟩ rfl hl.1 rfl (Nat.le_of_ble_eq_true rfl) dL_law_587 ⟨Nat.le_of_ble_eq_true rfl, Nat.le_of_ble_eq_true rfl⟩) w (fun H locs w => ?_)
    obtain ⟨σ1, eσ1⟩ : ∃ y : St, y = g_X6_tons σ v1 v2 0 := ⟨_, rfl⟩
    rw [← eσ1] at w st4 siv
    refine lv_aload_n hx hb dL_law_590 rfl (lv_at hl 2 rfl) ?_
    refine lv_aload_n hx hb dL_law_591 rfl (lv_at hl 0 rfl) ?_
    refine lv_iload_n hx hb dL_law_592 rfl (lv_at hl 3 rfl) ?_
    refine lv_iconst (v := 1) hx hb dL_law_593 (by decide) ?_
    change W _ _ _ _ _ _ _ _ _ _ _ _ _ _ _ (F0 m 594 ls _)
    refine lv_iadd hx hb dL_law_594 ?_
    refine va_sld hx hb hX hbl hbA w.2 (ix_in (k := 1) hj hL (by decide)) dL_law_595 ?_
    refine topeq hv1.symm ?_
    refine lv_aload_n hx hb dL_law_596 rfl (lv_at hl 0 rfl) ?_
    refine lv_iload_n hx hb dL_law_597 rfl (lv_at hl 3 rfl) ?_
    refine lv_iconst (v := 2) hx hb dL_law_598 (by decide) ?_
    refine lv_iadd hx hb dL_law_599 ?_
    refine va_sld hx hb hX hbl hbA w.2 (ix_in (k := 2) hj hL (by decide)) dL_law_600 ?_
    refine topeq hv2.symm ?_
    refine lv_aload_n hx hb dL_law_601 rfl (lv_at hl 0 rfl) ?_
    refine lv_iload_n hx hb dL_law_602 rfl (lv_at hl 3 rfl) ?_
    refine lv_iconst (v := 3) hx hb dL_law_603 (by decide) ?_
    refine lv_iadd hx hb dL_law_604 ?_
    refine va_sld hx hb hX hbl hbA w.2 (ix_in (k := 3) hj hL (by decide)) dL_law_605 ?_
    refine topeq hv3.symm ?_
    change W _ _ _ _ _ _ _ _ _ _ _ _ _ _ _ (F0 m 606 ls _)
    refine lv_if_eq (tgt := 613) hx hb dL_law_606 (by decide) (fun _ => ?_) (fun q => absurd zv3 q)
    refine lv_iconst (v := 0) hx hb dL_law_613 (by decide) ?_
    have w4 : Wh G s σ1 4 (σ 4) H locs := by rw [← st4]; exact w.at 4
    refine k_i (rr_v (rest := [.int (f_X6_tons σ v1 v2 0)]) X w4 mX7_tons kw932 (c_X7_tons v1 v2 0 (200 * j) (by omega) hw.2.2.1) m4_0 rfl rfl ⟨Nat.le_of_ble_eq_true rfl, Nat.le_of_ble_eq_true rfl⟩ rfl hl.1 rfl (Nat.le_of_ble_eq_true rfl) dL_law_614 ⟨Nat.le_of_ble_eq_true rfl, Nat.le_of_ble_eq_true rfl⟩) w4 (fun H locs w => ?_)
    refine lv_icmp_eq (tgt := 1090) hx hb dL_law_617 (by decide) (fun _ => ?_) (fun q => absurd sfe q)
    exact kk _ _ _ _ siv w hl
  · skip
    refine lv_iconst (v := 1) hx hb dL_law_582 (by decide) ?_
    refine lv_goto (tgt := 587) hx hb dL_law_583 (by decide) ?_
    obtain ⟨st4, sfe, siv⟩ := h_tons j σ v1 v2 1 hj5 hiv isB1
    refine k_i (rr_v (rest := []) X w mX6_tons kw464 (c_X6_tons v1 v2 1) m0_0 rfl rfl ⟨Nat.le_of_ble_eq_true rfl, Nat.le_of_ble_eq_true rfl⟩ rfl hl.1 rfl (Nat.le_of_ble_eq_true rfl) dL_law_587 ⟨Nat.le_of_ble_eq_true rfl, Nat.le_of_ble_eq_true rfl⟩) w (fun H locs w => ?_)
    obtain ⟨σ1, eσ1⟩ : ∃ y : St, y = g_X6_tons σ v1 v2 1 := ⟨_, rfl⟩
    rw [← eσ1] at w st4 siv
    refine lv_aload_n hx hb dL_law_590 rfl (lv_at hl 2 rfl) ?_
    refine lv_aload_n hx hb dL_law_591 rfl (lv_at hl 0 rfl) ?_
    refine lv_iload_n hx hb dL_law_592 rfl (lv_at hl 3 rfl) ?_
    change W _ _ _ _ _ _ _ _ _ _ _ _ _ _ _ (F0 m 593 ls _)
    refine lv_iconst (v := 1) hx hb dL_law_593 (by decide) ?_
    refine lv_iadd hx hb dL_law_594 ?_
    refine va_sld hx hb hX hbl hbA w.2 (ix_in (k := 1) hj hL (by decide)) dL_law_595 ?_
    refine topeq hv1.symm ?_
    refine lv_aload_n hx hb dL_law_596 rfl (lv_at hl 0 rfl) ?_
    refine lv_iload_n hx hb dL_law_597 rfl (lv_at hl 3 rfl) ?_
    refine lv_iconst (v := 2) hx hb dL_law_598 (by decide) ?_
    refine lv_iadd hx hb dL_law_599 ?_
    refine va_sld hx hb hX hbl hbA w.2 (ix_in (k := 2) hj hL (by decide)) dL_law_600 ?_
    refine topeq hv2.symm ?_
    refine lv_aload_n hx hb dL_law_601 rfl (lv_at hl 0 rfl) ?_
    refine lv_iload_n hx hb dL_law_602 rfl (lv_at hl 3 rfl) ?_
    refine lv_iconst (v := 3) hx hb dL_law_603 (by decide) ?_
    refine lv_iadd hx hb dL_law_604 ?_
    change W _ _ _ _ _ _ _ _ _ _ _ _ _ _ _ (F0 m 605 ls _)
    refine va_sld hx hb hX hbl hbA w.2 (ix_in (k := 3) hj hL (by decide)) dL_law_605 ?_
    refine topeq hv3.symm ?_
    refine lv_if_eq (tgt := 613) hx hb dL_law_606 (by decide) (fun q => absurd q zv3) (fun _ => ?_)
    refine lv_iconst (v := 1) hx hb dL_law_609 (by decide) ?_
    refine lv_goto (tgt := 614) hx hb dL_law_610 (by decide) ?_
    have w4 : Wh G s σ1 4 (σ 4) H locs := by rw [← st4]; exact w.at 4
    refine k_i (rr_v (rest := [.int (f_X6_tons σ v1 v2 1)]) X w4 mX7_tons kw932 (c_X7_tons v1 v2 1 (200 * j) (by omega) hw.2.2.1) m4_0 rfl rfl ⟨Nat.le_of_ble_eq_true rfl, Nat.le_of_ble_eq_true rfl⟩ rfl hl.1 rfl (Nat.le_of_ble_eq_true rfl) dL_law_614 ⟨Nat.le_of_ble_eq_true rfl, Nat.le_of_ble_eq_true rfl⟩) w4 (fun H locs w => ?_)
    refine lv_icmp_eq (tgt := 1090) hx hb dL_law_617 (by decide) (fun _ => ?_) (fun q => absurd sfe q)
    exact kk _ _ _ _ siv w hl
end Law
