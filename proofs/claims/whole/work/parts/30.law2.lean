section Law
variable {p : Program} {l : Launch} {e : Env} {s : State} {m : MethodId} {below : List Frame} {meth : Method} {c : Code} {Q : State → Prop} {G : GG} {b L : Nat} {xs : Nat → Int32} {IV : Nat → St → Prop}
set_option maxRecDepth 100000 in
set_option maxHeartbeats 4000000 in
theorem law_bestPlan (h_bestPlan : ∀ (j : Nat) (σ : St) (x1 : Int32), j < 512 → IV j σ → (g_X6_bestPlan σ x1) 4 = σ 4 ∧ f_X6_bestPlan σ x1 = f_X7_bestPlan (σ 4) x1 ∧ IV (j + 1) (setG (g_X6_bestPlan σ x1) 4 (g_X7_bestPlan (σ 4) x1))) (hh : HX IV) (X : Cx p m c cL_law 4 s #[Value.ref b] RL G) (hX : va_X b L xs s s.heap) (hbl : b < s.heap.size) (hbA : ¬ AA G b) (hL : L ≤ 3072) {j : Nat} {σ : St} (hj : 6 * j + 6 ≤ L) (hiv : IV j σ)
    (kk : ∀ (σ1 : St) (H : Heap) (locs : List Loc) (ls : Array Slot), IV (j + 1) σ1 → Wd G s σ1 H locs → lv_has ls 4 [(0, .ref b), (1, .ref (aa G 0 0)), (2, .ref (aa G 4 0)), (3, .int (nI (6 * j)))] → W p l e room_1 s m #[Value.ref b] below meth c H locs 97 2165 Q (F0 m 1090 ls []))
    {H : Heap} {locs : List Loc} {ls : Array Slot} (w : Wd G s σ H locs) (hl : lv_has ls 4 [(0, .ref b), (1, .ref (aa G 0 0)), (2, .ref (aa G 4 0)), (3, .int (nI (6 * j)))]) : W p l e room_1 s m #[Value.ref b] below meth c H locs 97 2165 Q (F0 m 893 ls []) := by
  have hx := X.1.1
  have hb := X.1.2.1
  have hj5 : j < 512 := by omega
  have hw := hh j σ (by omega) hiv
  obtain ⟨v1, hv1⟩ : ∃ y : Int32, y = xs (nI (6 * j) + nI 1).toNatClampNeg := ⟨_, rfl⟩
  refine lv_aload_n hx hb dL_law_893 rfl (lv_at hl 1 rfl) ?_
  refine lv_aload_n hx hb dL_law_894 rfl (lv_at hl 0 rfl) ?_
  refine lv_iload_n hx hb dL_law_895 rfl (lv_at hl 3 rfl) ?_
  refine lv_iconst (v := 1) hx hb dL_law_896 (by decide) ?_
  refine lv_iadd hx hb dL_law_897 ?_
  refine va_sld hx hb hX hbl hbA w.2 (ix_in (k := 1) hj hL (by decide)) dL_law_898 ?_
  refine topeq hv1.symm ?_
  obtain ⟨st4, sfe, siv⟩ := h_bestPlan j σ v1 hj5 hiv
  refine k_i (rr_v (rest := []) X w mX6_bestPlan kw636 (c_X6_bestPlan v1 hw.1) m0_0 rfl rfl ⟨Nat.le_of_ble_eq_true rfl, Nat.le_of_ble_eq_true rfl⟩ rfl hl.1 rfl (Nat.le_of_ble_eq_true rfl) dL_law_899 ⟨Nat.le_of_ble_eq_true rfl, Nat.le_of_ble_eq_true rfl⟩) w (fun H locs w => ?_)
  obtain ⟨σ1, eσ1⟩ : ∃ y : St, y = g_X6_bestPlan σ v1 := ⟨_, rfl⟩
  rw [← eσ1] at w st4 siv
  refine lv_aload_n hx hb dL_law_902 rfl (lv_at hl 2 rfl) ?_
  refine lv_aload_n hx hb dL_law_903 rfl (lv_at hl 0 rfl) ?_
  refine lv_iload_n hx hb dL_law_904 rfl (lv_at hl 3 rfl) ?_
  refine lv_iconst (v := 1) hx hb dL_law_905 (by decide) ?_
  change W _ _ _ _ _ _ _ _ _ _ _ _ _ _ _ (F0 m 906 ls _)
  refine lv_iadd hx hb dL_law_906 ?_
  refine va_sld hx hb hX hbl hbA w.2 (ix_in (k := 1) hj hL (by decide)) dL_law_907 ?_
  refine topeq hv1.symm ?_
  have w4 : Wh G s σ1 4 (σ 4) H locs := by rw [← st4]; exact w.at 4
  refine k_i (rr_v (rest := [.int (f_X6_bestPlan σ v1)]) X w4 mX7_bestPlan kw1052 (c_X7_bestPlan v1 (200 * j) (by omega) hw.2.2.1) m4_0 rfl rfl ⟨Nat.le_of_ble_eq_true rfl, Nat.le_of_ble_eq_true rfl⟩ rfl hl.1 rfl (Nat.le_of_ble_eq_true rfl) dL_law_908 ⟨Nat.le_of_ble_eq_true rfl, Nat.le_of_ble_eq_true rfl⟩) w4 (fun H locs w => ?_)
  refine lv_icmp_eq (tgt := 1090) hx hb dL_law_911 (by decide) (fun _ => ?_) (fun q => absurd sfe q)
  exact kk _ _ _ _ siv w hl
set_option maxRecDepth 100000 in
set_option maxHeartbeats 4000000 in
theorem law_leastCap (h_leastCap : ∀ (j : Nat) (σ : St) (x1 : Int32), j < 512 → IV j σ → (g_X6_leastCap σ x1) 4 = σ 4 ∧ f_X6_leastCap σ x1 = f_X7_leastCap (σ 4) x1 ∧ IV (j + 1) (setG (g_X6_leastCap σ x1) 4 (g_X7_leastCap (σ 4) x1))) (hh : HX IV) (X : Cx p m c cL_law 4 s #[Value.ref b] RL G) (hX : va_X b L xs s s.heap) (hbl : b < s.heap.size) (hbA : ¬ AA G b) (hL : L ≤ 3072) {j : Nat} {σ : St} (hj : 6 * j + 6 ≤ L) (hiv : IV j σ)
    (kk : ∀ (σ1 : St) (H : Heap) (locs : List Loc) (ls : Array Slot), IV (j + 1) σ1 → Wd G s σ1 H locs → lv_has ls 4 [(0, .ref b), (1, .ref (aa G 0 0)), (2, .ref (aa G 4 0)), (3, .int (nI (6 * j)))] → W p l e room_1 s m #[Value.ref b] below meth c H locs 97 2165 Q (F0 m 1090 ls []))
    {H : Heap} {locs : List Loc} {ls : Array Slot} (w : Wd G s σ H locs) (hl : lv_has ls 4 [(0, .ref b), (1, .ref (aa G 0 0)), (2, .ref (aa G 4 0)), (3, .int (nI (6 * j)))]) : W p l e room_1 s m #[Value.ref b] below meth c H locs 97 2165 Q (F0 m 916 ls []) := by
  have hx := X.1.1
  have hb := X.1.2.1
  have hj5 : j < 512 := by omega
  have hw := hh j σ (by omega) hiv
  obtain ⟨v1, hv1⟩ : ∃ y : Int32, y = xs (nI (6 * j) + nI 1).toNatClampNeg := ⟨_, rfl⟩
  refine lv_aload_n hx hb dL_law_916 rfl (lv_at hl 1 rfl) ?_
  refine lv_aload_n hx hb dL_law_917 rfl (lv_at hl 0 rfl) ?_
  refine lv_iload_n hx hb dL_law_918 rfl (lv_at hl 3 rfl) ?_
  refine lv_iconst (v := 1) hx hb dL_law_919 (by decide) ?_
  refine lv_iadd hx hb dL_law_920 ?_
  refine va_sld hx hb hX hbl hbA w.2 (ix_in (k := 1) hj hL (by decide)) dL_law_921 ?_
  refine topeq hv1.symm ?_
  obtain ⟨st4, sfe, siv⟩ := h_leastCap j σ v1 hj5 hiv
  refine k_i (rr_v (rest := []) X w mX6_leastCap kw640 (c_X6_leastCap v1 hw.1) m0_0 rfl rfl ⟨Nat.le_of_ble_eq_true rfl, Nat.le_of_ble_eq_true rfl⟩ rfl hl.1 rfl (Nat.le_of_ble_eq_true rfl) dL_law_922 ⟨Nat.le_of_ble_eq_true rfl, Nat.le_of_ble_eq_true rfl⟩) w (fun H locs w => ?_)
  obtain ⟨σ1, eσ1⟩ : ∃ y : St, y = g_X6_leastCap σ v1 := ⟨_, rfl⟩
  rw [← eσ1] at w st4 siv
  refine lv_aload_n hx hb dL_law_925 rfl (lv_at hl 2 rfl) ?_
  refine lv_aload_n hx hb dL_law_926 rfl (lv_at hl 0 rfl) ?_
  refine lv_iload_n hx hb dL_law_927 rfl (lv_at hl 3 rfl) ?_
  refine lv_iconst (v := 1) hx hb dL_law_928 (by decide) ?_
  change W _ _ _ _ _ _ _ _ _ _ _ _ _ _ _ (F0 m 929 ls _)
  refine lv_iadd hx hb dL_law_929 ?_
  refine va_sld hx hb hX hbl hbA w.2 (ix_in (k := 1) hj hL (by decide)) dL_law_930 ?_
  refine topeq hv1.symm ?_
  have w4 : Wh G s σ1 4 (σ 4) H locs := by rw [← st4]; exact w.at 4
  refine k_i (rr_v (rest := [.int (f_X6_leastCap σ v1)]) X w4 mX7_leastCap kw1056 (c_X7_leastCap v1 (200 * j) (by omega) hw.2.2.1) m4_0 rfl rfl ⟨Nat.le_of_ble_eq_true rfl, Nat.le_of_ble_eq_true rfl⟩ rfl hl.1 rfl (Nat.le_of_ble_eq_true rfl) dL_law_931 ⟨Nat.le_of_ble_eq_true rfl, Nat.le_of_ble_eq_true rfl⟩) w4 (fun H locs w => ?_)
  refine lv_icmp_eq (tgt := 1090) hx hb dL_law_934 (by decide) (fun _ => ?_) (fun q => absurd sfe q)
  exact kk _ _ _ _ siv w hl
set_option maxRecDepth 100000 in
set_option maxHeartbeats 4000000 in
theorem law_wall (h_wall : ∀ (j : Nat) (σ : St) (x1 : Int32), j < 512 → IV j σ → (g_X6_wall σ x1) 4 = σ 4 ∧ f_X6_wall σ x1 = f_X7_wall (σ 4) x1 ∧ IV (j + 1) (setG (g_X6_wall σ x1) 4 (g_X7_wall (σ 4) x1))) (hh : HX IV) (X : Cx p m c cL_law 4 s #[Value.ref b] RL G) (hX : va_X b L xs s s.heap) (hbl : b < s.heap.size) (hbA : ¬ AA G b) (hL : L ≤ 3072) {j : Nat} {σ : St} (hj : 6 * j + 6 ≤ L) (hiv : IV j σ)
    (kk : ∀ (σ1 : St) (H : Heap) (locs : List Loc) (ls : Array Slot), IV (j + 1) σ1 → Wd G s σ1 H locs → lv_has ls 4 [(0, .ref b), (1, .ref (aa G 0 0)), (2, .ref (aa G 4 0)), (3, .int (nI (6 * j)))] → W p l e room_1 s m #[Value.ref b] below meth c H locs 97 2165 Q (F0 m 1090 ls []))
    {H : Heap} {locs : List Loc} {ls : Array Slot} (w : Wd G s σ H locs) (hl : lv_has ls 4 [(0, .ref b), (1, .ref (aa G 0 0)), (2, .ref (aa G 4 0)), (3, .int (nI (6 * j)))]) : W p l e room_1 s m #[Value.ref b] below meth c H locs 97 2165 Q (F0 m 939 ls []) := by
  have hx := X.1.1
  have hb := X.1.2.1
  have hj5 : j < 512 := by omega
  have hw := hh j σ (by omega) hiv
  obtain ⟨v1, hv1⟩ : ∃ y : Int32, y = xs (nI (6 * j) + nI 1).toNatClampNeg := ⟨_, rfl⟩
  refine lv_aload_n hx hb dL_law_939 rfl (lv_at hl 1 rfl) ?_
  refine lv_aload_n hx hb dL_law_940 rfl (lv_at hl 0 rfl) ?_
  refine lv_iload_n hx hb dL_law_941 rfl (lv_at hl 3 rfl) ?_
  refine lv_iconst (v := 1) hx hb dL_law_942 (by decide) ?_
  refine lv_iadd hx hb dL_law_943 ?_
  refine va_sld hx hb hX hbl hbA w.2 (ix_in (k := 1) hj hL (by decide)) dL_law_944 ?_
  refine topeq hv1.symm ?_
  obtain ⟨st4, sfe, siv⟩ := h_wall j σ v1 hj5 hiv
  refine k_i (rr_v (rest := []) X w mX6_wall kw644 (c_X6_wall v1 hw.1) m0_0 rfl rfl ⟨Nat.le_of_ble_eq_true rfl, Nat.le_of_ble_eq_true rfl⟩ rfl hl.1 rfl (Nat.le_of_ble_eq_true rfl) dL_law_945 ⟨Nat.le_of_ble_eq_true rfl, Nat.le_of_ble_eq_true rfl⟩) w (fun H locs w => ?_)
  obtain ⟨σ1, eσ1⟩ : ∃ y : St, y = g_X6_wall σ v1 := ⟨_, rfl⟩
  rw [← eσ1] at w st4 siv
  refine lv_aload_n hx hb dL_law_948 rfl (lv_at hl 2 rfl) ?_
  refine lv_aload_n hx hb dL_law_949 rfl (lv_at hl 0 rfl) ?_
  refine lv_iload_n hx hb dL_law_950 rfl (lv_at hl 3 rfl) ?_
  refine lv_iconst (v := 1) hx hb dL_law_951 (by decide) ?_
  change W _ _ _ _ _ _ _ _ _ _ _ _ _ _ _ (F0 m 952 ls _)
  refine lv_iadd hx hb dL_law_952 ?_
  refine va_sld hx hb hX hbl hbA w.2 (ix_in (k := 1) hj hL (by decide)) dL_law_953 ?_
  refine topeq hv1.symm ?_
  have w4 : Wh G s σ1 4 (σ 4) H locs := by rw [← st4]; exact w.at 4
  refine k_i (rr_v (rest := [.int (f_X6_wall σ v1)]) X w4 mX7_wall kw1060 (c_X7_wall v1 (200 * j) (by omega) hw.2.2.1) m4_0 rfl rfl ⟨Nat.le_of_ble_eq_true rfl, Nat.le_of_ble_eq_true rfl⟩ rfl hl.1 rfl (Nat.le_of_ble_eq_true rfl) dL_law_954 ⟨Nat.le_of_ble_eq_true rfl, Nat.le_of_ble_eq_true rfl⟩) w4 (fun H locs w => ?_)
  refine lv_icmp_eq (tgt := 1090) hx hb dL_law_957 (by decide) (fun _ => ?_) (fun q => absurd sfe q)
  exact kk _ _ _ _ siv w hl
set_option maxRecDepth 100000 in
set_option maxHeartbeats 4000000 in
theorem law_share (h_share : ∀ (j : Nat) (σ : St) (x1 : Int32) (x2 : Int32), j < 512 → IV j σ → (g_X6_share σ x1 x2) 4 = σ 4 ∧ f_X6_share σ x1 x2 = f_X7_share (σ 4) x1 x2 ∧ IV (j + 1) (setG (g_X6_share σ x1 x2) 4 (g_X7_share (σ 4) x1 x2))) (hh : HX IV) (X : Cx p m c cL_law 4 s #[Value.ref b] RL G) (hX : va_X b L xs s s.heap) (hbl : b < s.heap.size) (hbA : ¬ AA G b) (hL : L ≤ 3072) {j : Nat} {σ : St} (hj : 6 * j + 6 ≤ L) (hiv : IV j σ)
    (kk : ∀ (σ1 : St) (H : Heap) (locs : List Loc) (ls : Array Slot), IV (j + 1) σ1 → Wd G s σ1 H locs → lv_has ls 4 [(0, .ref b), (1, .ref (aa G 0 0)), (2, .ref (aa G 4 0)), (3, .int (nI (6 * j)))] → W p l e room_1 s m #[Value.ref b] below meth c H locs 97 2165 Q (F0 m 1090 ls []))
    {H : Heap} {locs : List Loc} {ls : Array Slot} (w : Wd G s σ H locs) (hl : lv_has ls 4 [(0, .ref b), (1, .ref (aa G 0 0)), (2, .ref (aa G 4 0)), (3, .int (nI (6 * j)))]) : W p l e room_1 s m #[Value.ref b] below meth c H locs 97 2165 Q (F0 m 962 ls []) := by
  have hx := X.1.1
  have hb := X.1.2.1
  have hj5 : j < 512 := by omega
  have hw := hh j σ (by omega) hiv
  obtain ⟨v1, hv1⟩ : ∃ y : Int32, y = xs (nI (6 * j) + nI 1).toNatClampNeg := ⟨_, rfl⟩
  obtain ⟨v2, hv2⟩ : ∃ y : Int32, y = xs (nI (6 * j) + nI 2).toNatClampNeg := ⟨_, rfl⟩
  refine lv_aload_n hx hb dL_law_962 rfl (lv_at hl 1 rfl) ?_
  refine lv_aload_n hx hb dL_law_963 rfl (lv_at hl 0 rfl) ?_
  refine lv_iload_n hx hb dL_law_964 rfl (lv_at hl 3 rfl) ?_
  refine lv_iconst (v := 1) hx hb dL_law_965 (by decide) ?_
  refine lv_iadd hx hb dL_law_966 ?_
  refine va_sld hx hb hX hbl hbA w.2 (ix_in (k := 1) hj hL (by decide)) dL_law_967 ?_
  refine topeq hv1.symm ?_
  refine lv_aload_n hx hb dL_law_968 rfl (lv_at hl 0 rfl) ?_
  refine lv_iload_n hx hb dL_law_969 rfl (lv_at hl 3 rfl) ?_
  refine lv_iconst (v := 2) hx hb dL_law_970 (by decide) ?_
  refine lv_iadd hx hb dL_law_971 ?_
  refine va_sld hx hb hX hbl hbA w.2 (ix_in (k := 2) hj hL (by decide)) dL_law_972 ?_
  refine topeq hv2.symm ?_
  change W _ _ _ _ _ _ _ _ _ _ _ _ _ _ _ (F0 m 973 ls _)
  obtain ⟨st4, sfe, siv⟩ := h_share j σ v1 v2 hj5 hiv
  refine k_i (rr_v (rest := []) X w mX6_share kw648 (c_X6_share v1 v2 hw.1) m0_0 rfl rfl ⟨Nat.le_of_ble_eq_true rfl, Nat.le_of_ble_eq_true rfl⟩ rfl hl.1 rfl (Nat.le_of_ble_eq_true rfl) dL_law_973 ⟨Nat.le_of_ble_eq_true rfl, Nat.le_of_ble_eq_true rfl⟩) w (fun H locs w => ?_)
  obtain ⟨σ1, eσ1⟩ : ∃ y : St, y = g_X6_share σ v1 v2 := ⟨_, rfl⟩
  rw [← eσ1] at w st4 siv
  refine lv_aload_n hx hb dL_law_976 rfl (lv_at hl 2 rfl) ?_
  refine lv_aload_n hx hb dL_law_977 rfl (lv_at hl 0 rfl) ?_
  refine lv_iload_n hx hb dL_law_978 rfl (lv_at hl 3 rfl) ?_
  refine lv_iconst (v := 1) hx hb dL_law_979 (by decide) ?_
  refine lv_iadd hx hb dL_law_980 ?_
  refine va_sld hx hb hX hbl hbA w.2 (ix_in (k := 1) hj hL (by decide)) dL_law_981 ?_
  refine topeq hv1.symm ?_
  refine lv_aload_n hx hb dL_law_982 rfl (lv_at hl 0 rfl) ?_
  refine lv_iload_n hx hb dL_law_983 rfl (lv_at hl 3 rfl) ?_
  refine lv_iconst (v := 2) hx hb dL_law_984 (by decide) ?_
  refine lv_iadd hx hb dL_law_985 ?_
  refine va_sld hx hb hX hbl hbA w.2 (ix_in (k := 2) hj hL (by decide)) dL_law_986 ?_
  refine topeq hv2.symm ?_
  change W _ _ _ _ _ _ _ _ _ _ _ _ _ _ _ (F0 m 987 ls _)
  have w4 : Wh G s σ1 4 (σ 4) H locs := by rw [← st4]; exact w.at 4
  refine k_i (rr_v (rest := [.int (f_X6_share σ v1 v2)]) X w4 mX7_share kw1064 (c_X7_share v1 v2 (200 * j) (by omega) hw.2.2.1 hw.2.2.2) m4_0 rfl rfl ⟨Nat.le_of_ble_eq_true rfl, Nat.le_of_ble_eq_true rfl⟩ rfl hl.1 rfl (Nat.le_of_ble_eq_true rfl) dL_law_987 ⟨Nat.le_of_ble_eq_true rfl, Nat.le_of_ble_eq_true rfl⟩) w4 (fun H locs w => ?_)
  refine lv_icmp_eq (tgt := 1090) hx hb dL_law_990 (by decide) (fun _ => ?_) (fun q => absurd sfe q)
  exact kk _ _ _ _ siv w hl
set_option maxRecDepth 100000 in
set_option maxHeartbeats 4000000 in
theorem law_row (h_row : ∀ (j : Nat) (σ : St) (x1 : Int32), j < 512 → IV j σ → (g_X6_row σ x1) 4 = σ 4 ∧ f_X6_row σ x1 = f_X7_row (σ 4) x1 ∧ IV (j + 1) (setG (g_X6_row σ x1) 4 (g_X7_row (σ 4) x1))) (hh : HX IV) (X : Cx p m c cL_law 4 s #[Value.ref b] RL G) (hX : va_X b L xs s s.heap) (hbl : b < s.heap.size) (hbA : ¬ AA G b) (hL : L ≤ 3072) {j : Nat} {σ : St} (hj : 6 * j + 6 ≤ L) (hiv : IV j σ)
    (kk : ∀ (σ1 : St) (H : Heap) (locs : List Loc) (ls : Array Slot), IV (j + 1) σ1 → Wd G s σ1 H locs → lv_has ls 4 [(0, .ref b), (1, .ref (aa G 0 0)), (2, .ref (aa G 4 0)), (3, .int (nI (6 * j)))] → W p l e room_1 s m #[Value.ref b] below meth c H locs 97 2165 Q (F0 m 1090 ls []))
    {H : Heap} {locs : List Loc} {ls : Array Slot} (w : Wd G s σ H locs) (hl : lv_has ls 4 [(0, .ref b), (1, .ref (aa G 0 0)), (2, .ref (aa G 4 0)), (3, .int (nI (6 * j)))]) : W p l e room_1 s m #[Value.ref b] below meth c H locs 97 2165 Q (F0 m 995 ls []) := by
  have hx := X.1.1
  have hb := X.1.2.1
  have hj5 : j < 512 := by omega
  have hw := hh j σ (by omega) hiv
  obtain ⟨v1, hv1⟩ : ∃ y : Int32, y = xs (nI (6 * j) + nI 1).toNatClampNeg := ⟨_, rfl⟩
  refine lv_aload_n hx hb dL_law_995 rfl (lv_at hl 1 rfl) ?_
  refine lv_aload_n hx hb dL_law_996 rfl (lv_at hl 0 rfl) ?_
  refine lv_iload_n hx hb dL_law_997 rfl (lv_at hl 3 rfl) ?_
  refine lv_iconst (v := 1) hx hb dL_law_998 (by decide) ?_
  refine lv_iadd hx hb dL_law_999 ?_
  refine va_sld hx hb hX hbl hbA w.2 (ix_in (k := 1) hj hL (by decide)) dL_law_1000 ?_
  refine topeq hv1.symm ?_
  obtain ⟨st4, sfe, siv⟩ := h_row j σ v1 hj5 hiv
  refine k_i (rr_v (rest := []) X w mX6_row kw660 (c_X6_row v1 (hw.2.1.nn (by decide))) m0_0 rfl rfl ⟨Nat.le_of_ble_eq_true rfl, Nat.le_of_ble_eq_true rfl⟩ rfl hl.1 rfl (Nat.le_of_ble_eq_true rfl) dL_law_1001 ⟨Nat.le_of_ble_eq_true rfl, Nat.le_of_ble_eq_true rfl⟩) w (fun H locs w => ?_)
  obtain ⟨σ1, eσ1⟩ : ∃ y : St, y = g_X6_row σ v1 := ⟨_, rfl⟩
  rw [← eσ1] at w st4 siv
  refine lv_aload_n hx hb dL_law_1004 rfl (lv_at hl 2 rfl) ?_
  refine lv_aload_n hx hb dL_law_1005 rfl (lv_at hl 0 rfl) ?_
  refine lv_iload_n hx hb dL_law_1006 rfl (lv_at hl 3 rfl) ?_
  refine lv_iconst (v := 1) hx hb dL_law_1007 (by decide) ?_
  change W _ _ _ _ _ _ _ _ _ _ _ _ _ _ _ (F0 m 1008 ls _)
  refine lv_iadd hx hb dL_law_1008 ?_
  refine va_sld hx hb hX hbl hbA w.2 (ix_in (k := 1) hj hL (by decide)) dL_law_1009 ?_
  refine topeq hv1.symm ?_
  have w4 : Wh G s σ1 4 (σ 4) H locs := by rw [← st4]; exact w.at 4
  refine k_i (rr_v (rest := [.int (f_X6_row σ v1)]) X w4 mX7_row kw1072 (c_X7_row v1 (200 * j) (by omega) hw.2.2.1) m4_0 rfl rfl ⟨Nat.le_of_ble_eq_true rfl, Nat.le_of_ble_eq_true rfl⟩ rfl hl.1 rfl (Nat.le_of_ble_eq_true rfl) dL_law_1010 ⟨Nat.le_of_ble_eq_true rfl, Nat.le_of_ble_eq_true rfl⟩) w4 (fun H locs w => ?_)
  refine lv_icmp_eq (tgt := 1090) hx hb dL_law_1013 (by decide) (fun _ => ?_) (fun q => absurd sfe q)
  exact kk _ _ _ _ siv w hl
set_option maxRecDepth 100000 in
set_option maxHeartbeats 4000000 in
theorem law_judge (h_judge : ∀ (j : Nat) (σ : St) (x1 : Int32), j < 512 → IV j σ → (g_X6_judge σ x1) 4 = σ 4 ∧ f_X6_judge σ x1 = f_X7_judge (σ 4) x1 ∧ IV (j + 1) (setG (g_X6_judge σ x1) 4 (g_X7_judge (σ 4) x1))) (hh : HX IV) (X : Cx p m c cL_law 4 s #[Value.ref b] RL G) (hX : va_X b L xs s s.heap) (hbl : b < s.heap.size) (hbA : ¬ AA G b) (hL : L ≤ 3072) {j : Nat} {σ : St} (hj : 6 * j + 6 ≤ L) (hiv : IV j σ)
    (kk : ∀ (σ1 : St) (H : Heap) (locs : List Loc) (ls : Array Slot), IV (j + 1) σ1 → Wd G s σ1 H locs → lv_has ls 4 [(0, .ref b), (1, .ref (aa G 0 0)), (2, .ref (aa G 4 0)), (3, .int (nI (6 * j)))] → W p l e room_1 s m #[Value.ref b] below meth c H locs 97 2165 Q (F0 m 1090 ls []))
    {H : Heap} {locs : List Loc} {ls : Array Slot} (w : Wd G s σ H locs) (hl : lv_has ls 4 [(0, .ref b), (1, .ref (aa G 0 0)), (2, .ref (aa G 4 0)), (3, .int (nI (6 * j)))]) : W p l e room_1 s m #[Value.ref b] below meth c H locs 97 2165 Q (F0 m 1018 ls []) := by
  have hx := X.1.1
  have hb := X.1.2.1
  have hj5 : j < 512 := by omega
  have hw := hh j σ (by omega) hiv
  obtain ⟨v1, hv1⟩ : ∃ y : Int32, y = xs (nI (6 * j) + nI 1).toNatClampNeg := ⟨_, rfl⟩
  refine lv_aload_n hx hb dL_law_1018 rfl (lv_at hl 1 rfl) ?_
  refine lv_aload_n hx hb dL_law_1019 rfl (lv_at hl 0 rfl) ?_
  refine lv_iload_n hx hb dL_law_1020 rfl (lv_at hl 3 rfl) ?_
  refine lv_iconst (v := 1) hx hb dL_law_1021 (by decide) ?_
  refine lv_iadd hx hb dL_law_1022 ?_
  refine va_sld hx hb hX hbl hbA w.2 (ix_in (k := 1) hj hL (by decide)) dL_law_1023 ?_
  refine topeq hv1.symm ?_
  obtain ⟨st4, sfe, siv⟩ := h_judge j σ v1 hj5 hiv
  refine k_i (rr_v (rest := []) X w mX6_judge kw664 (c_X6_judge v1 hw.1 (hw.2.1.c (by decide))) m0_0 rfl rfl ⟨Nat.le_of_ble_eq_true rfl, Nat.le_of_ble_eq_true rfl⟩ rfl hl.1 rfl (Nat.le_of_ble_eq_true rfl) dL_law_1024 ⟨Nat.le_of_ble_eq_true rfl, Nat.le_of_ble_eq_true rfl⟩) w (fun H locs w => ?_)
  obtain ⟨σ1, eσ1⟩ : ∃ y : St, y = g_X6_judge σ v1 := ⟨_, rfl⟩
  rw [← eσ1] at w st4 siv
  refine lv_aload_n hx hb dL_law_1027 rfl (lv_at hl 2 rfl) ?_
  refine lv_aload_n hx hb dL_law_1028 rfl (lv_at hl 0 rfl) ?_
  refine lv_iload_n hx hb dL_law_1029 rfl (lv_at hl 3 rfl) ?_
  refine lv_iconst (v := 1) hx hb dL_law_1030 (by decide) ?_
  change W _ _ _ _ _ _ _ _ _ _ _ _ _ _ _ (F0 m 1031 ls _)
  refine lv_iadd hx hb dL_law_1031 ?_
  refine va_sld hx hb hX hbl hbA w.2 (ix_in (k := 1) hj hL (by decide)) dL_law_1032 ?_
  refine topeq hv1.symm ?_
  have w4 : Wh G s σ1 4 (σ 4) H locs := by rw [← st4]; exact w.at 4
  refine k_i (rr_v (rest := [.int (f_X6_judge σ v1)]) X w4 mX7_judge kw1076 (c_X7_judge v1 (200 * j) (by omega) hw.2.2.1) m4_0 rfl rfl ⟨Nat.le_of_ble_eq_true rfl, Nat.le_of_ble_eq_true rfl⟩ rfl hl.1 rfl (Nat.le_of_ble_eq_true rfl) dL_law_1033 ⟨Nat.le_of_ble_eq_true rfl, Nat.le_of_ble_eq_true rfl⟩) w4 (fun H locs w => ?_)
  refine lv_icmp_eq (tgt := 1090) hx hb dL_law_1036 (by decide) (fun _ => ?_) (fun q => absurd sfe q)
  exact kk _ _ _ _ siv w hl
set_option maxRecDepth 100000 in
set_option maxHeartbeats 4000000 in
theorem law_image (h_image : ∀ (j : Nat) (σ : St) , j < 512 → IV j σ → (g_X6_image σ ) 4 = σ 4 ∧ f_X6_image σ = f_X7_image (σ 4) ∧ IV (j + 1) (setG (g_X6_image σ ) 4 (g_X7_image (σ 4) ))) (hh : HX IV) (X : Cx p m c cL_law 4 s #[Value.ref b] RL G) (hX : va_X b L xs s s.heap) (hbl : b < s.heap.size) (hbA : ¬ AA G b) (hL : L ≤ 3072) {j : Nat} {σ : St} (hj : 6 * j + 6 ≤ L) (hiv : IV j σ)
    (kk : ∀ (σ1 : St) (H : Heap) (locs : List Loc) (ls : Array Slot), IV (j + 1) σ1 → Wd G s σ1 H locs → lv_has ls 4 [(0, .ref b), (1, .ref (aa G 0 0)), (2, .ref (aa G 4 0)), (3, .int (nI (6 * j)))] → W p l e room_1 s m #[Value.ref b] below meth c H locs 97 2165 Q (F0 m 1090 ls []))
    {H : Heap} {locs : List Loc} {ls : Array Slot} (w : Wd G s σ H locs) (hl : lv_has ls 4 [(0, .ref b), (1, .ref (aa G 0 0)), (2, .ref (aa G 4 0)), (3, .int (nI (6 * j)))]) : W p l e room_1 s m #[Value.ref b] below meth c H locs 97 2165 Q (F0 m 1041 ls []) := by
  have hx := X.1.1
  have hb := X.1.2.1
  have hj5 : j < 512 := by omega
  have hw := hh j σ (by omega) hiv
  refine lv_aload_n hx hb dL_law_1041 rfl (lv_at hl 1 rfl) ?_
  obtain ⟨st4, sfe, siv⟩ := h_image j σ  hj5 hiv
  refine k_i (rr_v (rest := []) X w mX6_image kw678 (c_X6_image ) m0_0 rfl rfl ⟨Nat.le_of_ble_eq_true rfl, Nat.le_of_ble_eq_true rfl⟩ rfl hl.1 rfl (Nat.le_of_ble_eq_true rfl) dL_law_1042 ⟨Nat.le_of_ble_eq_true rfl, Nat.le_of_ble_eq_true rfl⟩) w (fun H locs w => ?_)
  obtain ⟨σ1, eσ1⟩ : ∃ y : St, y = g_X6_image σ := ⟨_, rfl⟩
  rw [← eσ1] at w st4 siv
  refine lv_aload_n hx hb dL_law_1045 rfl (lv_at hl 2 rfl) ?_
  have w4 : Wh G s σ1 4 (σ 4) H locs := by rw [← st4]; exact w.at 4
  refine k_i (rr_v (rest := [.int (f_X6_image σ)]) X w4 mX7_image kw1122 (c_X7_image ) m4_0 rfl rfl ⟨Nat.le_of_ble_eq_true rfl, Nat.le_of_ble_eq_true rfl⟩ rfl hl.1 rfl (Nat.le_of_ble_eq_true rfl) dL_law_1046 ⟨Nat.le_of_ble_eq_true rfl, Nat.le_of_ble_eq_true rfl⟩) w4 (fun H locs w => ?_)
  refine lv_icmp_eq (tgt := 1090) hx hb dL_law_1049 (by decide) (fun _ => ?_) (fun q => absurd sfe q)
  exact kk _ _ _ _ siv w hl
set_option maxRecDepth 100000 in
set_option maxHeartbeats 4000000 in
theorem law_restore (h_restore : ∀ (j : Nat) (σ : St) , j < 512 → IV j σ → (g_X6_restore σ ) 4 = σ 4 ∧ f_X6_restore σ = f_X7_restore (σ 4) ∧ IV (j + 1) (setG (g_X6_restore σ ) 4 (g_X7_restore (σ 4) ))) (hh : HX IV) (X : Cx p m c cL_law 4 s #[Value.ref b] RL G) (hX : va_X b L xs s s.heap) (hbl : b < s.heap.size) (hbA : ¬ AA G b) (hL : L ≤ 3072) {j : Nat} {σ : St} (hj : 6 * j + 6 ≤ L) (hiv : IV j σ)
    (kk : ∀ (σ1 : St) (H : Heap) (locs : List Loc) (ls : Array Slot), IV (j + 1) σ1 → Wd G s σ1 H locs → lv_has ls 4 [(0, .ref b), (1, .ref (aa G 0 0)), (2, .ref (aa G 4 0)), (3, .int (nI (6 * j)))] → W p l e room_1 s m #[Value.ref b] below meth c H locs 97 2165 Q (F0 m 1090 ls []))
    {H : Heap} {locs : List Loc} {ls : Array Slot} (w : Wd G s σ H locs) (hl : lv_has ls 4 [(0, .ref b), (1, .ref (aa G 0 0)), (2, .ref (aa G 4 0)), (3, .int (nI (6 * j)))]) : W p l e room_1 s m #[Value.ref b] below meth c H locs 97 2165 Q (F0 m 1054 ls []) := by
  have hx := X.1.1
  have hb := X.1.2.1
  have hj5 : j < 512 := by omega
  have hw := hh j σ (by omega) hiv
  refine lv_aload_n hx hb dL_law_1054 rfl (lv_at hl 1 rfl) ?_
  obtain ⟨st4, sfe, siv⟩ := h_restore j σ  hj5 hiv
  refine k_i (rr_v (rest := []) X w mX6_restore kw682 (c_X6_restore ) m0_0 rfl rfl ⟨Nat.le_of_ble_eq_true rfl, Nat.le_of_ble_eq_true rfl⟩ rfl hl.1 rfl (Nat.le_of_ble_eq_true rfl) dL_law_1055 ⟨Nat.le_of_ble_eq_true rfl, Nat.le_of_ble_eq_true rfl⟩) w (fun H locs w => ?_)
  obtain ⟨σ1, eσ1⟩ : ∃ y : St, y = g_X6_restore σ := ⟨_, rfl⟩
  rw [← eσ1] at w st4 siv
  refine lv_aload_n hx hb dL_law_1058 rfl (lv_at hl 2 rfl) ?_
  have w4 : Wh G s σ1 4 (σ 4) H locs := by rw [← st4]; exact w.at 4
  refine k_i (rr_v (rest := [.int (f_X6_restore σ)]) X w4 mX7_restore kw1134 (c_X7_restore ) m4_0 rfl rfl ⟨Nat.le_of_ble_eq_true rfl, Nat.le_of_ble_eq_true rfl⟩ rfl hl.1 rfl (Nat.le_of_ble_eq_true rfl) dL_law_1059 ⟨Nat.le_of_ble_eq_true rfl, Nat.le_of_ble_eq_true rfl⟩) w4 (fun H locs w => ?_)
  refine lv_icmp_eq (tgt := 1090) hx hb dL_law_1062 (by decide) (fun _ => ?_) (fun q => absurd sfe q)
  exact kk _ _ _ _ siv w hl
set_option maxRecDepth 100000 in
set_option maxHeartbeats 4000000 in
theorem law_count (h_count : ∀ (j : Nat) (σ : St) (x1 : Int32), j < 512 → IV j σ → σ 4 = σ 4 ∧ f_X6_count σ x1 = f_X7_count (σ 4) x1 ∧ IV (j + 1) (setG σ 4 (σ 4))) (hh : HX IV) (X : Cx p m c cL_law 4 s #[Value.ref b] RL G) (hX : va_X b L xs s s.heap) (hbl : b < s.heap.size) (hbA : ¬ AA G b) (hL : L ≤ 3072) {j : Nat} {σ : St} (hj : 6 * j + 6 ≤ L) (hiv : IV j σ)
    (kk : ∀ (σ1 : St) (H : Heap) (locs : List Loc) (ls : Array Slot), IV (j + 1) σ1 → Wd G s σ1 H locs → lv_has ls 4 [(0, .ref b), (1, .ref (aa G 0 0)), (2, .ref (aa G 4 0)), (3, .int (nI (6 * j)))] → W p l e room_1 s m #[Value.ref b] below meth c H locs 97 2165 Q (F0 m 1090 ls []))
    {H : Heap} {locs : List Loc} {ls : Array Slot} (w : Wd G s σ H locs) (hl : lv_has ls 4 [(0, .ref b), (1, .ref (aa G 0 0)), (2, .ref (aa G 4 0)), (3, .int (nI (6 * j)))]) : W p l e room_1 s m #[Value.ref b] below meth c H locs 97 2165 Q (F0 m 1067 ls []) := by
  have hx := X.1.1
  have hb := X.1.2.1
  have hj5 : j < 512 := by omega
  have hw := hh j σ (by omega) hiv
  obtain ⟨v1, hv1⟩ : ∃ y : Int32, y = xs (nI (6 * j) + nI 1).toNatClampNeg := ⟨_, rfl⟩
  refine lv_aload_n hx hb dL_law_1067 rfl (lv_at hl 1 rfl) ?_
  refine lv_aload_n hx hb dL_law_1068 rfl (lv_at hl 0 rfl) ?_
  refine lv_iload_n hx hb dL_law_1069 rfl (lv_at hl 3 rfl) ?_
  refine lv_iconst (v := 1) hx hb dL_law_1070 (by decide) ?_
  refine lv_iadd hx hb dL_law_1071 ?_
  refine va_sld hx hb hX hbl hbA w.2 (ix_in (k := 1) hj hL (by decide)) dL_law_1072 ?_
  refine topeq hv1.symm ?_
  obtain ⟨st4, sfe, siv⟩ := h_count j σ v1 hj5 hiv
  refine k_i (rr_v (rest := []) X w mX6_count kw686 (c_X6_count v1) m0_0 rfl rfl ⟨Nat.le_of_ble_eq_true rfl, Nat.le_of_ble_eq_true rfl⟩ rfl hl.1 rfl (Nat.le_of_ble_eq_true rfl) dL_law_1073 ⟨Nat.le_of_ble_eq_true rfl, Nat.le_of_ble_eq_true rfl⟩) w (fun H locs w => ?_)
  obtain ⟨σ1, eσ1⟩ : ∃ y : St, y = σ := ⟨_, rfl⟩
  rw [← eσ1] at w; rw [show setG σ 4 = setG σ1 4 by rw [eσ1]] at siv; have st4 : σ1 4 = σ 4 := by rw [eσ1]
  refine lv_aload_n hx hb dL_law_1076 rfl (lv_at hl 2 rfl) ?_
  refine lv_aload_n hx hb dL_law_1077 rfl (lv_at hl 0 rfl) ?_
  refine lv_iload_n hx hb dL_law_1078 rfl (lv_at hl 3 rfl) ?_
  refine lv_iconst (v := 1) hx hb dL_law_1079 (by decide) ?_
  change W _ _ _ _ _ _ _ _ _ _ _ _ _ _ _ (F0 m 1080 ls _)
  refine lv_iadd hx hb dL_law_1080 ?_
  refine va_sld hx hb hX hbl hbA w.2 (ix_in (k := 1) hj hL (by decide)) dL_law_1081 ?_
  refine topeq hv1.symm ?_
  have w4 : Wh G s σ1 4 (σ 4) H locs := by rw [← st4]; exact w.at 4
  refine k_i (rr_v (rest := [.int (f_X6_count σ v1)]) X w4 mX7_count kw1138 (c_X7_count v1 (200 * j) (by omega) hw.2.2.1) m4_0 rfl rfl ⟨Nat.le_of_ble_eq_true rfl, Nat.le_of_ble_eq_true rfl⟩ rfl hl.1 rfl (Nat.le_of_ble_eq_true rfl) dL_law_1082 ⟨Nat.le_of_ble_eq_true rfl, Nat.le_of_ble_eq_true rfl⟩) w4 (fun H locs w => ?_)
  refine lv_icmp_eq (tgt := 1090) hx hb dL_law_1085 (by decide) (fun _ => ?_) (fun q => absurd sfe q)
  exact kk _ _ _ _ siv w hl
end Law
