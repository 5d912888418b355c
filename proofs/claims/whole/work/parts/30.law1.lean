section Law
variable {p : Program} {l : Launch} {e : Env} {s : State} {m : MethodId} {below : List Frame} {meth : Method} {c : Code} {Q : State → Prop} {G : GG} {b L : Nat} {xs : Nat → Int32} {IV : Nat → St → Prop}
set_option maxRecDepth 100000 in
set_option maxHeartbeats 4000000 in
theorem law_depth (h_depth : ∀ (j : Nat) (σ : St) (x1 : Int32), j < 512 → IV j σ → (g_X6_depth σ x1) 4 = σ 4 ∧ f_X6_depth σ x1 = f_X7_depth (σ 4) x1 ∧ IV (j + 1) (setG (g_X6_depth σ x1) 4 (g_X7_depth (σ 4) x1))) (hh : HX IV) (X : Cx p m c cL_law 4 s #[Value.ref b] RL G) (hX : va_X b L xs s s.heap) (hbl : b < s.heap.size) (hbA : ¬ AA G b) (hL : L ≤ 3072) {j : Nat} {σ : St} (hj : 6 * j + 6 ≤ L) (hiv : IV j σ)
    (kk : ∀ (σ1 : St) (H : Heap) (locs : List Loc) (ls : Array Slot), IV (j + 1) σ1 → Wd G s σ1 H locs → lv_has ls 4 [(0, .ref b), (1, .ref (aa G 0 0)), (2, .ref (aa G 4 0)), (3, .int (nI (6 * j)))] → W p l e room_1 s m #[Value.ref b] below meth c H locs 97 2165 Q (F0 m 1090 ls []))
    {H : Heap} {locs : List Loc} {ls : Array Slot} (w : Wd G s σ H locs) (hl : lv_has ls 4 [(0, .ref b), (1, .ref (aa G 0 0)), (2, .ref (aa G 4 0)), (3, .int (nI (6 * j)))]) : W p l e room_1 s m #[Value.ref b] below meth c H locs 97 2165 Q (F0 m 622 ls []) := by
  have hx := X.1.1
  have hb := X.1.2.1
  have hj5 : j < 512 := by omega
  have hw := hh j σ (by omega) hiv
  obtain ⟨v1, hv1⟩ : ∃ y : Int32, y = xs (nI (6 * j) + nI 1).toNatClampNeg := ⟨_, rfl⟩
  refine lv_aload_n hx hb dL_law_622 rfl (lv_at hl 1 rfl) ?_
  refine lv_aload_n hx hb dL_law_623 rfl (lv_at hl 0 rfl) ?_
  refine lv_iload_n hx hb dL_law_624 rfl (lv_at hl 3 rfl) ?_
  refine lv_iconst (v := 1) hx hb dL_law_625 (by decide) ?_
  refine lv_iadd hx hb dL_law_626 ?_
  refine va_sld hx hb hX hbl hbA w.2 (ix_in (k := 1) hj hL (by decide)) dL_law_627 ?_
  refine topeq hv1.symm ?_
  obtain ⟨st4, sfe, siv⟩ := h_depth j σ v1 hj5 hiv
  refine k_i (rr_v (rest := []) X w mX6_depth kw468 (c_X6_depth v1) m0_0 rfl rfl ⟨Nat.le_of_ble_eq_true rfl, Nat.le_of_ble_eq_true rfl⟩ rfl hl.1 rfl (Nat.le_of_ble_eq_true rfl) dL_law_628 ⟨Nat.le_of_ble_eq_true rfl, Nat.le_of_ble_eq_true rfl⟩) w (fun H locs w => ?_)
  obtain ⟨σ1, eσ1⟩ : ∃ y : St, y = g_X6_depth σ v1 := ⟨_, rfl⟩
  rw [← eσ1] at w st4 siv
  refine lv_aload_n hx hb dL_law_631 rfl (lv_at hl 2 rfl) ?_
  refine lv_aload_n hx hb dL_law_632 rfl (lv_at hl 0 rfl) ?_
  refine lv_iload_n hx hb dL_law_633 rfl (lv_at hl 3 rfl) ?_
  refine lv_iconst (v := 1) hx hb dL_law_634 (by decide) ?_
  change W _ _ _ _ _ _ _ _ _ _ _ _ _ _ _ (F0 m 635 ls _)
  refine lv_iadd hx hb dL_law_635 ?_
  refine va_sld hx hb hX hbl hbA w.2 (ix_in (k := 1) hj hL (by decide)) dL_law_636 ?_
  refine topeq hv1.symm ?_
  have w4 : Wh G s σ1 4 (σ 4) H locs := by rw [← st4]; exact w.at 4
  refine k_i (rr_v (rest := [.int (f_X6_depth σ v1)]) X w4 mX7_depth kw936 (c_X7_depth v1 (200 * j) (by omega) hw.2.2.1) m4_0 rfl rfl ⟨Nat.le_of_ble_eq_true rfl, Nat.le_of_ble_eq_true rfl⟩ rfl hl.1 rfl (Nat.le_of_ble_eq_true rfl) dL_law_637 ⟨Nat.le_of_ble_eq_true rfl, Nat.le_of_ble_eq_true rfl⟩) w4 (fun H locs w => ?_)
  refine lv_icmp_eq (tgt := 1090) hx hb dL_law_640 (by decide) (fun _ => ?_) (fun q => absurd sfe q)
  exact kk _ _ _ _ siv w hl
set_option maxRecDepth 100000 in
set_option maxHeartbeats 4000000 in
theorem law_lacks (h_lacks : ∀ (j : Nat) (σ : St) (x1 : Int32), j < 512 → IV j σ → (g_X6_lacks σ x1) 4 = σ 4 ∧ f_X6_lacks σ x1 = f_X7_lacks (σ 4) x1 ∧ IV (j + 1) (setG (g_X6_lacks σ x1) 4 (g_X7_lacks (σ 4) x1))) (hh : HX IV) (X : Cx p m c cL_law 4 s #[Value.ref b] RL G) (hX : va_X b L xs s s.heap) (hbl : b < s.heap.size) (hbA : ¬ AA G b) (hL : L ≤ 3072) {j : Nat} {σ : St} (hj : 6 * j + 6 ≤ L) (hiv : IV j σ)
    (kk : ∀ (σ1 : St) (H : Heap) (locs : List Loc) (ls : Array Slot), IV (j + 1) σ1 → Wd G s σ1 H locs → lv_has ls 4 [(0, .ref b), (1, .ref (aa G 0 0)), (2, .ref (aa G 4 0)), (3, .int (nI (6 * j)))] → W p l e room_1 s m #[Value.ref b] below meth c H locs 97 2165 Q (F0 m 1090 ls []))
    {H : Heap} {locs : List Loc} {ls : Array Slot} (w : Wd G s σ H locs) (hl : lv_has ls 4 [(0, .ref b), (1, .ref (aa G 0 0)), (2, .ref (aa G 4 0)), (3, .int (nI (6 * j)))]) : W p l e room_1 s m #[Value.ref b] below meth c H locs 97 2165 Q (F0 m 645 ls []) := by
  have hx := X.1.1
  have hb := X.1.2.1
  have hj5 : j < 512 := by omega
  have hw := hh j σ (by omega) hiv
  obtain ⟨v1, hv1⟩ : ∃ y : Int32, y = xs (nI (6 * j) + nI 1).toNatClampNeg := ⟨_, rfl⟩
  refine lv_aload_n hx hb dL_law_645 rfl (lv_at hl 1 rfl) ?_
  refine lv_aload_n hx hb dL_law_646 rfl (lv_at hl 0 rfl) ?_
  refine lv_iload_n hx hb dL_law_647 rfl (lv_at hl 3 rfl) ?_
  refine lv_iconst (v := 1) hx hb dL_law_648 (by decide) ?_
  refine lv_iadd hx hb dL_law_649 ?_
  refine va_sld hx hb hX hbl hbA w.2 (ix_in (k := 1) hj hL (by decide)) dL_law_650 ?_
  refine topeq hv1.symm ?_
  obtain ⟨st4, sfe, siv⟩ := h_lacks j σ v1 hj5 hiv
  refine k_i (rr_v (rest := []) X w mX6_lacks kw483 (c_X6_lacks v1) m0_0 rfl rfl ⟨Nat.le_of_ble_eq_true rfl, Nat.le_of_ble_eq_true rfl⟩ rfl hl.1 rfl (Nat.le_of_ble_eq_true rfl) dL_law_651 ⟨Nat.le_of_ble_eq_true rfl, Nat.le_of_ble_eq_true rfl⟩) w (fun H locs w => ?_)
  obtain ⟨σ1, eσ1⟩ : ∃ y : St, y = g_X6_lacks σ v1 := ⟨_, rfl⟩
  rw [← eσ1] at w st4 siv
  refine lv_aload_n hx hb dL_law_654 rfl (lv_at hl 2 rfl) ?_
  refine lv_aload_n hx hb dL_law_655 rfl (lv_at hl 0 rfl) ?_
  refine lv_iload_n hx hb dL_law_656 rfl (lv_at hl 3 rfl) ?_
  refine lv_iconst (v := 1) hx hb dL_law_657 (by decide) ?_
  change W _ _ _ _ _ _ _ _ _ _ _ _ _ _ _ (F0 m 658 ls _)
  refine lv_iadd hx hb dL_law_658 ?_
  refine va_sld hx hb hX hbl hbA w.2 (ix_in (k := 1) hj hL (by decide)) dL_law_659 ?_
  refine topeq hv1.symm ?_
  have w4 : Wh G s σ1 4 (σ 4) H locs := by rw [← st4]; exact w.at 4
  refine k_i (rr_v (rest := [.int (f_X6_lacks σ v1)]) X w4 mX7_lacks kw948 (c_X7_lacks v1 (200 * j) (by omega) hw.2.2.1) m4_0 rfl rfl ⟨Nat.le_of_ble_eq_true rfl, Nat.le_of_ble_eq_true rfl⟩ rfl hl.1 rfl (Nat.le_of_ble_eq_true rfl) dL_law_660 ⟨Nat.le_of_ble_eq_true rfl, Nat.le_of_ble_eq_true rfl⟩) w4 (fun H locs w => ?_)
  refine lv_icmp_eq (tgt := 1090) hx hb dL_law_663 (by decide) (fun _ => ?_) (fun q => absurd sfe q)
  exact kk _ _ _ _ siv w hl
set_option maxRecDepth 100000 in
set_option maxHeartbeats 4000000 in
theorem law_dredger (h_dredger : ∀ (j : Nat) (σ : St) (x1 : Int32) (x2 : Int32), j < 512 → IV j σ → (g_X6_dredger σ x1 x2) 4 = σ 4 ∧ f_X6_dredger σ x1 x2 = f_X7_dredger (σ 4) x1 x2 ∧ IV (j + 1) (setG (g_X6_dredger σ x1 x2) 4 (g_X7_dredger (σ 4) x1 x2))) (hh : HX IV) (X : Cx p m c cL_law 4 s #[Value.ref b] RL G) (hX : va_X b L xs s s.heap) (hbl : b < s.heap.size) (hbA : ¬ AA G b) (hL : L ≤ 3072) {j : Nat} {σ : St} (hj : 6 * j + 6 ≤ L) (hiv : IV j σ)
    (kk : ∀ (σ1 : St) (H : Heap) (locs : List Loc) (ls : Array Slot), IV (j + 1) σ1 → Wd G s σ1 H locs → lv_has ls 4 [(0, .ref b), (1, .ref (aa G 0 0)), (2, .ref (aa G 4 0)), (3, .int (nI (6 * j)))] → W p l e room_1 s m #[Value.ref b] below meth c H locs 97 2165 Q (F0 m 1090 ls []))
    {H : Heap} {locs : List Loc} {ls : Array Slot} (w : Wd G s σ H locs) (hl : lv_has ls 4 [(0, .ref b), (1, .ref (aa G 0 0)), (2, .ref (aa G 4 0)), (3, .int (nI (6 * j)))]) : W p l e room_1 s m #[Value.ref b] below meth c H locs 97 2165 Q (F0 m 668 ls []) := by
  have hx := X.1.1
  have hb := X.1.2.1
  have hj5 : j < 512 := by omega
  have hw := hh j σ (by omega) hiv
  obtain ⟨v1, hv1⟩ : ∃ y : Int32, y = xs (nI (6 * j) + nI 1).toNatClampNeg := ⟨_, rfl⟩
  obtain ⟨v2, hv2⟩ : ∃ y : Int32, y = xs (nI (6 * j) + nI 2).toNatClampNeg := ⟨_, rfl⟩
  refine lv_aload_n hx hb dL_law_668 rfl (lv_at hl 1 rfl) ?_
  refine lv_aload_n hx hb dL_law_669 rfl (lv_at hl 0 rfl) ?_
  refine lv_iload_n hx hb dL_law_670 rfl (lv_at hl 3 rfl) ?_
  refine lv_iconst (v := 1) hx hb dL_law_671 (by decide) ?_
  refine lv_iadd hx hb dL_law_672 ?_
  refine va_sld hx hb hX hbl hbA w.2 (ix_in (k := 1) hj hL (by decide)) dL_law_673 ?_
  refine topeq hv1.symm ?_
  refine lv_aload_n hx hb dL_law_674 rfl (lv_at hl 0 rfl) ?_
  refine lv_iload_n hx hb dL_law_675 rfl (lv_at hl 3 rfl) ?_
  refine lv_iconst (v := 2) hx hb dL_law_676 (by decide) ?_
  refine lv_iadd hx hb dL_law_677 ?_
  refine va_sld hx hb hX hbl hbA w.2 (ix_in (k := 2) hj hL (by decide)) dL_law_678 ?_
  refine topeq hv2.symm ?_
  change W _ _ _ _ _ _ _ _ _ _ _ _ _ _ _ (F0 m 679 ls _)
  obtain ⟨st4, sfe, siv⟩ := h_dredger j σ v1 v2 hj5 hiv
  refine k_i (rr_v (rest := []) X w mX6_dredger kw492 (c_X6_dredger v1 v2) m0_0 rfl rfl ⟨Nat.le_of_ble_eq_true rfl, Nat.le_of_ble_eq_true rfl⟩ rfl hl.1 rfl (Nat.le_of_ble_eq_true rfl) dL_law_679 ⟨Nat.le_of_ble_eq_true rfl, Nat.le_of_ble_eq_true rfl⟩) w (fun H locs w => ?_)
  obtain ⟨σ1, eσ1⟩ : ∃ y : St, y = g_X6_dredger σ v1 v2 := ⟨_, rfl⟩
  rw [← eσ1] at w st4 siv
  refine lv_aload_n hx hb dL_law_682 rfl (lv_at hl 2 rfl) ?_
  refine lv_aload_n hx hb dL_law_683 rfl (lv_at hl 0 rfl) ?_
  refine lv_iload_n hx hb dL_law_684 rfl (lv_at hl 3 rfl) ?_
  refine lv_iconst (v := 1) hx hb dL_law_685 (by decide) ?_
  refine lv_iadd hx hb dL_law_686 ?_
  refine va_sld hx hb hX hbl hbA w.2 (ix_in (k := 1) hj hL (by decide)) dL_law_687 ?_
  refine topeq hv1.symm ?_
  refine lv_aload_n hx hb dL_law_688 rfl (lv_at hl 0 rfl) ?_
  refine lv_iload_n hx hb dL_law_689 rfl (lv_at hl 3 rfl) ?_
  refine lv_iconst (v := 2) hx hb dL_law_690 (by decide) ?_
  refine lv_iadd hx hb dL_law_691 ?_
  refine va_sld hx hb hX hbl hbA w.2 (ix_in (k := 2) hj hL (by decide)) dL_law_692 ?_
  refine topeq hv2.symm ?_
  change W _ _ _ _ _ _ _ _ _ _ _ _ _ _ _ (F0 m 693 ls _)
  have w4 : Wh G s σ1 4 (σ 4) H locs := by rw [← st4]; exact w.at 4
  refine k_i (rr_v (rest := [.int (f_X6_dredger σ v1 v2)]) X w4 mX7_dredger kw957 (c_X7_dredger v1 v2 (200 * j) (by omega) hw.2.2.1) m4_0 rfl rfl ⟨Nat.le_of_ble_eq_true rfl, Nat.le_of_ble_eq_true rfl⟩ rfl hl.1 rfl (Nat.le_of_ble_eq_true rfl) dL_law_693 ⟨Nat.le_of_ble_eq_true rfl, Nat.le_of_ble_eq_true rfl⟩) w4 (fun H locs w => ?_)
  refine lv_icmp_eq (tgt := 1090) hx hb dL_law_696 (by decide) (fun _ => ?_) (fun q => absurd sfe q)
  exact kk _ _ _ _ siv w hl
set_option maxRecDepth 100000 in
set_option maxHeartbeats 4000000 in
theorem law_takes (h_takes : ∀ (j : Nat) (σ : St) , j < 512 → IV j σ → (g_X6_takes σ ) 4 = σ 4 ∧ f_X6_takes σ = f_X7_takes (σ 4) ∧ IV (j + 1) (setG (g_X6_takes σ ) 4 (g_X7_takes (σ 4) ))) (hh : HX IV) (X : Cx p m c cL_law 4 s #[Value.ref b] RL G) (hX : va_X b L xs s s.heap) (hbl : b < s.heap.size) (hbA : ¬ AA G b) (hL : L ≤ 3072) {j : Nat} {σ : St} (hj : 6 * j + 6 ≤ L) (hiv : IV j σ)
    (kk : ∀ (σ1 : St) (H : Heap) (locs : List Loc) (ls : Array Slot), IV (j + 1) σ1 → Wd G s σ1 H locs → lv_has ls 4 [(0, .ref b), (1, .ref (aa G 0 0)), (2, .ref (aa G 4 0)), (3, .int (nI (6 * j)))] → W p l e room_1 s m #[Value.ref b] below meth c H locs 97 2165 Q (F0 m 1090 ls []))
    {H : Heap} {locs : List Loc} {ls : Array Slot} (w : Wd G s σ H locs) (hl : lv_has ls 4 [(0, .ref b), (1, .ref (aa G 0 0)), (2, .ref (aa G 4 0)), (3, .int (nI (6 * j)))]) : W p l e room_1 s m #[Value.ref b] below meth c H locs 97 2165 Q (F0 m 701 ls []) := by
  have hx := X.1.1
  have hb := X.1.2.1
  have hj5 : j < 512 := by omega
  have hw := hh j σ (by omega) hiv
  refine lv_aload_n hx hb dL_law_701 rfl (lv_at hl 1 rfl) ?_
  obtain ⟨st4, sfe, siv⟩ := h_takes j σ  hj5 hiv
  refine k_i (rr_v (rest := []) X w mX6_takes kw503 (c_X6_takes ) m0_0 rfl rfl ⟨Nat.le_of_ble_eq_true rfl, Nat.le_of_ble_eq_true rfl⟩ rfl hl.1 rfl (Nat.le_of_ble_eq_true rfl) dL_law_702 ⟨Nat.le_of_ble_eq_true rfl, Nat.le_of_ble_eq_true rfl⟩) w (fun H locs w => ?_)
  obtain ⟨σ1, eσ1⟩ : ∃ y : St, y = g_X6_takes σ := ⟨_, rfl⟩
  rw [← eσ1] at w st4 siv
  refine lv_aload_n hx hb dL_law_705 rfl (lv_at hl 2 rfl) ?_
  have w4 : Wh G s σ1 4 (σ 4) H locs := by rw [← st4]; exact w.at 4
  refine k_i (rr_v (rest := [.int (f_X6_takes σ)]) X w4 mX7_takes kw962 (c_X7_takes (200 * j) (by omega) hw.2.2.1) m4_0 rfl rfl ⟨Nat.le_of_ble_eq_true rfl, Nat.le_of_ble_eq_true rfl⟩ rfl hl.1 rfl (Nat.le_of_ble_eq_true rfl) dL_law_706 ⟨Nat.le_of_ble_eq_true rfl, Nat.le_of_ble_eq_true rfl⟩) w4 (fun H locs w => ?_)
  refine lv_icmp_eq (tgt := 1090) hx hb dL_law_709 (by decide) (fun _ => ?_) (fun q => absurd sfe q)
  exact kk _ _ _ _ siv w hl
set_option maxRecDepth 100000 in
set_option maxHeartbeats 4000000 in
theorem law_go (h_go : ∀ (j : Nat) (σ : St) (x1 : Int32), j < 512 → IV j σ → (g_X6_go σ x1) 4 = σ 4 ∧ f_X6_go σ x1 = f_X7_go (σ 4) x1 ∧ IV (j + 1) (setG (g_X6_go σ x1) 4 (g_X7_go (σ 4) x1))) (hh : HX IV) (X : Cx p m c cL_law 4 s #[Value.ref b] RL G) (hX : va_X b L xs s s.heap) (hbl : b < s.heap.size) (hbA : ¬ AA G b) (hL : L ≤ 3072) {j : Nat} {σ : St} (hj : 6 * j + 6 ≤ L) (hiv : IV j σ)
    (kk : ∀ (σ1 : St) (H : Heap) (locs : List Loc) (ls : Array Slot), IV (j + 1) σ1 → Wd G s σ1 H locs → lv_has ls 4 [(0, .ref b), (1, .ref (aa G 0 0)), (2, .ref (aa G 4 0)), (3, .int (nI (6 * j)))] → W p l e room_1 s m #[Value.ref b] below meth c H locs 97 2165 Q (F0 m 1090 ls []))
    {H : Heap} {locs : List Loc} {ls : Array Slot} (w : Wd G s σ H locs) (hl : lv_has ls 4 [(0, .ref b), (1, .ref (aa G 0 0)), (2, .ref (aa G 4 0)), (3, .int (nI (6 * j)))]) : W p l e room_1 s m #[Value.ref b] below meth c H locs 97 2165 Q (F0 m 714 ls []) := by
  have hx := X.1.1
  have hb := X.1.2.1
  have hj5 : j < 512 := by omega
  have hw := hh j σ (by omega) hiv
  obtain ⟨v1, hv1⟩ : ∃ y : Int32, y = xs (nI (6 * j) + nI 1).toNatClampNeg := ⟨_, rfl⟩
  refine lv_aload_n hx hb dL_law_714 rfl (lv_at hl 1 rfl) ?_
  refine lv_aload_n hx hb dL_law_715 rfl (lv_at hl 0 rfl) ?_
  refine lv_iload_n hx hb dL_law_716 rfl (lv_at hl 3 rfl) ?_
  refine lv_iconst (v := 1) hx hb dL_law_717 (by decide) ?_
  refine lv_iadd hx hb dL_law_718 ?_
  refine va_sld hx hb hX hbl hbA w.2 (ix_in (k := 1) hj hL (by decide)) dL_law_719 ?_
  refine topeq hv1.symm ?_
  obtain ⟨st4, sfe, siv⟩ := h_go j σ v1 hj5 hiv
  refine k_i (rr_v (rest := []) X w mX6_go kw524 (c_X6_go v1 hw.1) m0_0 rfl rfl ⟨Nat.le_of_ble_eq_true rfl, Nat.le_of_ble_eq_true rfl⟩ rfl hl.1 rfl (Nat.le_of_ble_eq_true rfl) dL_law_720 ⟨Nat.le_of_ble_eq_true rfl, Nat.le_of_ble_eq_true rfl⟩) w (fun H locs w => ?_)
  obtain ⟨σ1, eσ1⟩ : ∃ y : St, y = g_X6_go σ v1 := ⟨_, rfl⟩
  rw [← eσ1] at w st4 siv
  refine lv_aload_n hx hb dL_law_723 rfl (lv_at hl 2 rfl) ?_
  refine lv_aload_n hx hb dL_law_724 rfl (lv_at hl 0 rfl) ?_
  refine lv_iload_n hx hb dL_law_725 rfl (lv_at hl 3 rfl) ?_
  refine lv_iconst (v := 1) hx hb dL_law_726 (by decide) ?_
  change W _ _ _ _ _ _ _ _ _ _ _ _ _ _ _ (F0 m 727 ls _)
  refine lv_iadd hx hb dL_law_727 ?_
  refine va_sld hx hb hX hbl hbA w.2 (ix_in (k := 1) hj hL (by decide)) dL_law_728 ?_
  refine topeq hv1.symm ?_
  have w4 : Wh G s σ1 4 (σ 4) H locs := by rw [← st4]; exact w.at 4
  refine k_i (rr_v (rest := [.int (f_X6_go σ v1)]) X w4 mX7_go kw982 (c_X7_go v1 (200 * j) (by omega) hw.2.2.1) m4_0 rfl rfl ⟨Nat.le_of_ble_eq_true rfl, Nat.le_of_ble_eq_true rfl⟩ rfl hl.1 rfl (Nat.le_of_ble_eq_true rfl) dL_law_729 ⟨Nat.le_of_ble_eq_true rfl, Nat.le_of_ble_eq_true rfl⟩) w4 (fun H locs w => ?_)
  refine lv_icmp_eq (tgt := 1090) hx hb dL_law_732 (by decide) (fun _ => ?_) (fun q => absurd sfe q)
  exact kk _ _ _ _ siv w hl
set_option maxRecDepth 100000 in
set_option maxHeartbeats 4000000 in
theorem law_cost (h_cost : ∀ (j : Nat) (σ : St) (x1 : Int32), j < 512 → IV j σ → (g_X6_cost σ x1) 4 = σ 4 ∧ f_X6_cost σ x1 = f_X7_cost (σ 4) x1 ∧ IV (j + 1) (setG (g_X6_cost σ x1) 4 (g_X7_cost (σ 4) x1))) (hh : HX IV) (X : Cx p m c cL_law 4 s #[Value.ref b] RL G) (hX : va_X b L xs s s.heap) (hbl : b < s.heap.size) (hbA : ¬ AA G b) (hL : L ≤ 3072) {j : Nat} {σ : St} (hj : 6 * j + 6 ≤ L) (hiv : IV j σ)
    (kk : ∀ (σ1 : St) (H : Heap) (locs : List Loc) (ls : Array Slot), IV (j + 1) σ1 → Wd G s σ1 H locs → lv_has ls 4 [(0, .ref b), (1, .ref (aa G 0 0)), (2, .ref (aa G 4 0)), (3, .int (nI (6 * j)))] → W p l e room_1 s m #[Value.ref b] below meth c H locs 97 2165 Q (F0 m 1090 ls []))
    {H : Heap} {locs : List Loc} {ls : Array Slot} (w : Wd G s σ H locs) (hl : lv_has ls 4 [(0, .ref b), (1, .ref (aa G 0 0)), (2, .ref (aa G 4 0)), (3, .int (nI (6 * j)))]) : W p l e room_1 s m #[Value.ref b] below meth c H locs 97 2165 Q (F0 m 737 ls []) := by
  have hx := X.1.1
  have hb := X.1.2.1
  have hj5 : j < 512 := by omega
  have hw := hh j σ (by omega) hiv
  obtain ⟨v1, hv1⟩ : ∃ y : Int32, y = xs (nI (6 * j) + nI 1).toNatClampNeg := ⟨_, rfl⟩
  refine lv_aload_n hx hb dL_law_737 rfl (lv_at hl 1 rfl) ?_
  refine lv_aload_n hx hb dL_law_738 rfl (lv_at hl 0 rfl) ?_
  refine lv_iload_n hx hb dL_law_739 rfl (lv_at hl 3 rfl) ?_
  refine lv_iconst (v := 1) hx hb dL_law_740 (by decide) ?_
  refine lv_iadd hx hb dL_law_741 ?_
  refine va_sld hx hb hX hbl hbA w.2 (ix_in (k := 1) hj hL (by decide)) dL_law_742 ?_
  refine topeq hv1.symm ?_
  obtain ⟨st4, sfe, siv⟩ := h_cost j σ v1 hj5 hiv
  refine k_l (rr_v (rest := []) X w mX6_cost kw582 (c_X6_cost v1 hw.1) m0_0 rfl rfl ⟨Nat.le_of_ble_eq_true rfl, Nat.le_of_ble_eq_true rfl⟩ rfl hl.1 rfl (Nat.le_of_ble_eq_true rfl) dL_law_743 ⟨Nat.le_of_ble_eq_true rfl, Nat.le_of_ble_eq_true rfl⟩) w (fun H locs w => ?_)
  obtain ⟨σ1, eσ1⟩ : ∃ y : St, y = g_X6_cost σ v1 := ⟨_, rfl⟩
  rw [← eσ1] at w st4 siv
  refine lv_aload_n hx hb dL_law_746 rfl (lv_at hl 2 rfl) ?_
  refine lv_aload_n hx hb dL_law_747 rfl (lv_at hl 0 rfl) ?_
  refine lv_iload_n hx hb dL_law_748 rfl (lv_at hl 3 rfl) ?_
  refine lv_iconst (v := 1) hx hb dL_law_749 (by decide) ?_
  change W _ _ _ _ _ _ _ _ _ _ _ _ _ _ _ (F0 m 750 ls _)
  refine lv_iadd hx hb dL_law_750 ?_
  refine va_sld hx hb hX hbl hbA w.2 (ix_in (k := 1) hj hL (by decide)) dL_law_751 ?_
  refine topeq hv1.symm ?_
  have w4 : Wh G s σ1 4 (σ 4) H locs := by rw [← st4]; exact w.at 4
  refine k_l (rr_v (rest := [.long (f_X6_cost σ v1)]) X w4 mX7_cost kw1003 (c_X7_cost v1 (200 * j) (by omega) hw.2.2.1) m4_0 rfl rfl ⟨Nat.le_of_ble_eq_true rfl, Nat.le_of_ble_eq_true rfl⟩ rfl hl.1 rfl (Nat.le_of_ble_eq_true rfl) dL_law_752 ⟨Nat.le_of_ble_eq_true rfl, Nat.le_of_ble_eq_true rfl⟩) w4 (fun H locs w => ?_)
  refine W.lcmp hx hb dL_law_755 ?_
  rw [(lg_cmp_eq _ _).mpr sfe]
  refine lv_if_eq (tgt := 1090) hx hb dL_law_756 (by decide) (fun _ => ?_) (fun q => absurd rfl q)
  exact kk _ _ _ _ siv w hl
set_option maxRecDepth 100000 in
set_option maxHeartbeats 4000000 in
theorem law_holds (h_holds : ∀ (j : Nat) (σ : St) (x1 : Int32), j < 512 → IV j σ → (g_X6_holds σ x1) 4 = σ 4 ∧ f_X6_holds σ x1 = f_X7_holds (σ 4) x1 ∧ IV (j + 1) (setG (g_X6_holds σ x1) 4 (g_X7_holds (σ 4) x1))) (hh : HX IV) (X : Cx p m c cL_law 4 s #[Value.ref b] RL G) (hX : va_X b L xs s s.heap) (hbl : b < s.heap.size) (hbA : ¬ AA G b) (hL : L ≤ 3072) {j : Nat} {σ : St} (hj : 6 * j + 6 ≤ L) (hiv : IV j σ)
    (kk : ∀ (σ1 : St) (H : Heap) (locs : List Loc) (ls : Array Slot), IV (j + 1) σ1 → Wd G s σ1 H locs → lv_has ls 4 [(0, .ref b), (1, .ref (aa G 0 0)), (2, .ref (aa G 4 0)), (3, .int (nI (6 * j)))] → W p l e room_1 s m #[Value.ref b] below meth c H locs 97 2165 Q (F0 m 1090 ls []))
    {H : Heap} {locs : List Loc} {ls : Array Slot} (w : Wd G s σ H locs) (hl : lv_has ls 4 [(0, .ref b), (1, .ref (aa G 0 0)), (2, .ref (aa G 4 0)), (3, .int (nI (6 * j)))]) : W p l e room_1 s m #[Value.ref b] below meth c H locs 97 2165 Q (F0 m 761 ls []) := by
  have hx := X.1.1
  have hb := X.1.2.1
  have hj5 : j < 512 := by omega
  have hw := hh j σ (by omega) hiv
  obtain ⟨v1, hv1⟩ : ∃ y : Int32, y = xs (nI (6 * j) + nI 1).toNatClampNeg := ⟨_, rfl⟩
  refine lv_aload_n hx hb dL_law_761 rfl (lv_at hl 1 rfl) ?_
  refine lv_aload_n hx hb dL_law_762 rfl (lv_at hl 0 rfl) ?_
  refine lv_iload_n hx hb dL_law_763 rfl (lv_at hl 3 rfl) ?_
  refine lv_iconst (v := 1) hx hb dL_law_764 (by decide) ?_
  refine lv_iadd hx hb dL_law_765 ?_
  refine va_sld hx hb hX hbl hbA w.2 (ix_in (k := 1) hj hL (by decide)) dL_law_766 ?_
  refine topeq hv1.symm ?_
  obtain ⟨st4, sfe, siv⟩ := h_holds j σ v1 hj5 hiv
  refine k_i (rr_v (rest := []) X w mX6_holds kw602 (c_X6_holds v1 hw.1) m0_0 rfl rfl ⟨Nat.le_of_ble_eq_true rfl, Nat.le_of_ble_eq_true rfl⟩ rfl hl.1 rfl (Nat.le_of_ble_eq_true rfl) dL_law_767 ⟨Nat.le_of_ble_eq_true rfl, Nat.le_of_ble_eq_true rfl⟩) w (fun H locs w => ?_)
  obtain ⟨σ1, eσ1⟩ : ∃ y : St, y = g_X6_holds σ v1 := ⟨_, rfl⟩
  rw [← eσ1] at w st4 siv
  refine lv_aload_n hx hb dL_law_770 rfl (lv_at hl 2 rfl) ?_
  refine lv_aload_n hx hb dL_law_771 rfl (lv_at hl 0 rfl) ?_
  refine lv_iload_n hx hb dL_law_772 rfl (lv_at hl 3 rfl) ?_
  refine lv_iconst (v := 1) hx hb dL_law_773 (by decide) ?_
  change W _ _ _ _ _ _ _ _ _ _ _ _ _ _ _ (F0 m 774 ls _)
  refine lv_iadd hx hb dL_law_774 ?_
  refine va_sld hx hb hX hbl hbA w.2 (ix_in (k := 1) hj hL (by decide)) dL_law_775 ?_
  refine topeq hv1.symm ?_
  have w4 : Wh G s σ1 4 (σ 4) H locs := by rw [← st4]; exact w.at 4
  refine k_i (rr_v (rest := [.int (f_X6_holds σ v1)]) X w4 mX7_holds kw1028 (c_X7_holds v1 (200 * j) (by omega) hw.2.2.1) m4_0 rfl rfl ⟨Nat.le_of_ble_eq_true rfl, Nat.le_of_ble_eq_true rfl⟩ rfl hl.1 rfl (Nat.le_of_ble_eq_true rfl) dL_law_776 ⟨Nat.le_of_ble_eq_true rfl, Nat.le_of_ble_eq_true rfl⟩) w4 (fun H locs w => ?_)
  refine lv_icmp_eq (tgt := 1090) hx hb dL_law_779 (by decide) (fun _ => ?_) (fun q => absurd sfe q)
  exact kk _ _ _ _ siv w hl
set_option maxRecDepth 100000 in
set_option maxHeartbeats 4000000 in
theorem law_alone (h_alone : ∀ (j : Nat) (σ : St) (x1 : Int32), j < 512 → IV j σ → (g_X6_alone σ x1) 4 = σ 4 ∧ f_X6_alone σ x1 = f_X7_alone (σ 4) x1 ∧ IV (j + 1) (setG (g_X6_alone σ x1) 4 (g_X7_alone (σ 4) x1))) (hh : HX IV) (X : Cx p m c cL_law 4 s #[Value.ref b] RL G) (hX : va_X b L xs s s.heap) (hbl : b < s.heap.size) (hbA : ¬ AA G b) (hL : L ≤ 3072) {j : Nat} {σ : St} (hj : 6 * j + 6 ≤ L) (hiv : IV j σ)
    (kk : ∀ (σ1 : St) (H : Heap) (locs : List Loc) (ls : Array Slot), IV (j + 1) σ1 → Wd G s σ1 H locs → lv_has ls 4 [(0, .ref b), (1, .ref (aa G 0 0)), (2, .ref (aa G 4 0)), (3, .int (nI (6 * j)))] → W p l e room_1 s m #[Value.ref b] below meth c H locs 97 2165 Q (F0 m 1090 ls []))
    {H : Heap} {locs : List Loc} {ls : Array Slot} (w : Wd G s σ H locs) (hl : lv_has ls 4 [(0, .ref b), (1, .ref (aa G 0 0)), (2, .ref (aa G 4 0)), (3, .int (nI (6 * j)))]) : W p l e room_1 s m #[Value.ref b] below meth c H locs 97 2165 Q (F0 m 784 ls []) := by
  have hx := X.1.1
  have hb := X.1.2.1
  have hj5 : j < 512 := by omega
  have hw := hh j σ (by omega) hiv
  obtain ⟨v1, hv1⟩ : ∃ y : Int32, y = xs (nI (6 * j) + nI 1).toNatClampNeg := ⟨_, rfl⟩
  refine lv_aload_n hx hb dL_law_784 rfl (lv_at hl 1 rfl) ?_
  refine lv_aload_n hx hb dL_law_785 rfl (lv_at hl 0 rfl) ?_
  refine lv_iload_n hx hb dL_law_786 rfl (lv_at hl 3 rfl) ?_
  refine lv_iconst (v := 1) hx hb dL_law_787 (by decide) ?_
  refine lv_iadd hx hb dL_law_788 ?_
  refine va_sld hx hb hX hbl hbA w.2 (ix_in (k := 1) hj hL (by decide)) dL_law_789 ?_
  refine topeq hv1.symm ?_
  obtain ⟨st4, sfe, siv⟩ := h_alone j σ v1 hj5 hiv
  refine k_i (rr_v (rest := []) X w mX6_alone kw614 (c_X6_alone v1 hw.1) m0_0 rfl rfl ⟨Nat.le_of_ble_eq_true rfl, Nat.le_of_ble_eq_true rfl⟩ rfl hl.1 rfl (Nat.le_of_ble_eq_true rfl) dL_law_790 ⟨Nat.le_of_ble_eq_true rfl, Nat.le_of_ble_eq_true rfl⟩) w (fun H locs w => ?_)
  obtain ⟨σ1, eσ1⟩ : ∃ y : St, y = g_X6_alone σ v1 := ⟨_, rfl⟩
  rw [← eσ1] at w st4 siv
  refine lv_aload_n hx hb dL_law_793 rfl (lv_at hl 2 rfl) ?_
  refine lv_aload_n hx hb dL_law_794 rfl (lv_at hl 0 rfl) ?_
  refine lv_iload_n hx hb dL_law_795 rfl (lv_at hl 3 rfl) ?_
  refine lv_iconst (v := 1) hx hb dL_law_796 (by decide) ?_
  change W _ _ _ _ _ _ _ _ _ _ _ _ _ _ _ (F0 m 797 ls _)
  refine lv_iadd hx hb dL_law_797 ?_
  refine va_sld hx hb hX hbl hbA w.2 (ix_in (k := 1) hj hL (by decide)) dL_law_798 ?_
  refine topeq hv1.symm ?_
  have w4 : Wh G s σ1 4 (σ 4) H locs := by rw [← st4]; exact w.at 4
  refine k_i (rr_v (rest := [.int (f_X6_alone σ v1)]) X w4 mX7_alone kw1036 (c_X7_alone v1 (200 * j) (by omega) hw.2.2.1) m4_0 rfl rfl ⟨Nat.le_of_ble_eq_true rfl, Nat.le_of_ble_eq_true rfl⟩ rfl hl.1 rfl (Nat.le_of_ble_eq_true rfl) dL_law_799 ⟨Nat.le_of_ble_eq_true rfl, Nat.le_of_ble_eq_true rfl⟩) w4 (fun H locs w => ?_)
  refine lv_icmp_eq (tgt := 1090) hx hb dL_law_802 (by decide) (fun _ => ?_) (fun q => absurd sfe q)
  exact kk _ _ _ _ siv w hl
set_option maxRecDepth 100000 in
set_option maxHeartbeats 4000000 in
theorem law_back (h_back : ∀ (j : Nat) (σ : St) (x1 : Int32) (x2 : Int32) (x3 : Int32) (x4 : Int32) (x5 : Int32), j < 512 → IV j σ → (g_X6_back σ x1 x2 x3 x4 x5) 4 = σ 4 ∧ f_X6_back σ x1 x2 x3 x4 x5 = f_X7_back (σ 4) x1 x2 x3 x4 x5 ∧ IV (j + 1) (setG (g_X6_back σ x1 x2 x3 x4 x5) 4 (g_X7_back (σ 4) x1 x2 x3 x4 x5))) (hh : HX IV) (X : Cx p m c cL_law 4 s #[Value.ref b] RL G) (hX : va_X b L xs s s.heap) (hbl : b < s.heap.size) (hbA : ¬ AA G b) (hL : L ≤ 3072) {j : Nat} {σ : St} (hj : 6 * j + 6 ≤ L) (hiv : IV j σ)
    (kk : ∀ (σ1 : St) (H : Heap) (locs : List Loc) (ls : Array Slot), IV (j + 1) σ1 → Wd G s σ1 H locs → lv_has ls 4 [(0, .ref b), (1, .ref (aa G 0 0)), (2, .ref (aa G 4 0)), (3, .int (nI (6 * j)))] → W p l e room_1 s m #[Value.ref b] below meth c H locs 97 2165 Q (F0 m 1090 ls []))
    {H : Heap} {locs : List Loc} {ls : Array Slot} (w : Wd G s σ H locs) (hl : lv_has ls 4 [(0, .ref b), (1, .ref (aa G 0 0)), (2, .ref (aa G 4 0)), (3, .int (nI (6 * j)))]) : W p l e room_1 s m #[Value.ref b] below meth c H locs 97 2165 Q (F0 m 807 ls []) := by
  have hx := X.1.1
  have hb := X.1.2.1
  have hj5 : j < 512 := by omega
  have hw := hh j σ (by omega) hiv
  obtain ⟨v1, hv1⟩ : ∃ y : Int32, y = xs (nI (6 * j) + nI 1).toNatClampNeg := ⟨_, rfl⟩
  obtain ⟨v2, hv2⟩ : ∃ y : Int32, y = xs (nI (6 * j) + nI 2).toNatClampNeg := ⟨_, rfl⟩
  obtain ⟨v3, hv3⟩ : ∃ y : Int32, y = xs (nI (6 * j) + nI 3).toNatClampNeg := ⟨_, rfl⟩
  obtain ⟨v4, hv4⟩ : ∃ y : Int32, y = xs (nI (6 * j) + nI 4).toNatClampNeg := ⟨_, rfl⟩
  obtain ⟨v5, hv5⟩ : ∃ y : Int32, y = xs (nI (6 * j) + nI 5).toNatClampNeg := ⟨_, rfl⟩
  refine lv_aload_n hx hb dL_law_807 rfl (lv_at hl 1 rfl) ?_
  refine lv_aload_n hx hb dL_law_808 rfl (lv_at hl 0 rfl) ?_
  refine lv_iload_n hx hb dL_law_809 rfl (lv_at hl 3 rfl) ?_
  refine lv_iconst (v := 1) hx hb dL_law_810 (by decide) ?_
  refine lv_iadd hx hb dL_law_811 ?_
  refine va_sld hx hb hX hbl hbA w.2 (ix_in (k := 1) hj hL (by decide)) dL_law_812 ?_
  refine topeq hv1.symm ?_
  refine lv_aload_n hx hb dL_law_813 rfl (lv_at hl 0 rfl) ?_
  refine lv_iload_n hx hb dL_law_814 rfl (lv_at hl 3 rfl) ?_
  refine lv_iconst (v := 2) hx hb dL_law_815 (by decide) ?_
  refine lv_iadd hx hb dL_law_816 ?_
  refine va_sld hx hb hX hbl hbA w.2 (ix_in (k := 2) hj hL (by decide)) dL_law_817 ?_
  refine topeq hv2.symm ?_
  change W _ _ _ _ _ _ _ _ _ _ _ _ _ _ _ (F0 m 818 ls _)
  refine lv_aload_n hx hb dL_law_818 rfl (lv_at hl 0 rfl) ?_
  refine lv_iload_n hx hb dL_law_819 rfl (lv_at hl 3 rfl) ?_
  refine lv_iconst (v := 3) hx hb dL_law_820 (by decide) ?_
  refine lv_iadd hx hb dL_law_821 ?_
  refine va_sld hx hb hX hbl hbA w.2 (ix_in (k := 3) hj hL (by decide)) dL_law_822 ?_
  refine topeq hv3.symm ?_
  refine lv_aload_n hx hb dL_law_823 rfl (lv_at hl 0 rfl) ?_
  refine lv_iload_n hx hb dL_law_824 rfl (lv_at hl 3 rfl) ?_
  refine lv_iconst (v := 4) hx hb dL_law_825 (by decide) ?_
  refine lv_iadd hx hb dL_law_826 ?_
  refine va_sld hx hb hX hbl hbA w.2 (ix_in (k := 4) hj hL (by decide)) dL_law_827 ?_
  refine topeq hv4.symm ?_
  refine lv_aload_n hx hb dL_law_828 rfl (lv_at hl 0 rfl) ?_
  refine lv_iload_n hx hb dL_law_829 rfl (lv_at hl 3 rfl) ?_
  change W _ _ _ _ _ _ _ _ _ _ _ _ _ _ _ (F0 m 830 ls _)
  refine lv_iconst (v := 5) hx hb dL_law_830 (by decide) ?_
  refine lv_iadd hx hb dL_law_831 ?_
  refine va_sld hx hb hX hbl hbA w.2 (ix_in (k := 5) hj hL (by decide)) dL_law_832 ?_
  refine topeq hv5.symm ?_
  obtain ⟨st4, sfe, siv⟩ := h_back j σ v1 v2 v3 v4 v5 hj5 hiv
  refine k_i (rr_v (rest := []) X w mX6_back kw618 (c_X6_back v1 v2 v3 v4 v5 hw.1) m0_0 rfl rfl ⟨Nat.le_of_ble_eq_true rfl, Nat.le_of_ble_eq_true rfl⟩ rfl hl.1 rfl (Nat.le_of_ble_eq_true rfl) dL_law_833 ⟨Nat.le_of_ble_eq_true rfl, Nat.le_of_ble_eq_true rfl⟩) w (fun H locs w => ?_)
  obtain ⟨σ1, eσ1⟩ : ∃ y : St, y = g_X6_back σ v1 v2 v3 v4 v5 := ⟨_, rfl⟩
  rw [← eσ1] at w st4 siv
  refine lv_aload_n hx hb dL_law_836 rfl (lv_at hl 2 rfl) ?_
  refine lv_aload_n hx hb dL_law_837 rfl (lv_at hl 0 rfl) ?_
  refine lv_iload_n hx hb dL_law_838 rfl (lv_at hl 3 rfl) ?_
  refine lv_iconst (v := 1) hx hb dL_law_839 (by decide) ?_
  refine lv_iadd hx hb dL_law_840 ?_
  refine va_sld hx hb hX hbl hbA w.2 (ix_in (k := 1) hj hL (by decide)) dL_law_841 ?_
  refine topeq hv1.symm ?_
  refine lv_aload_n hx hb dL_law_842 rfl (lv_at hl 0 rfl) ?_
  refine lv_iload_n hx hb dL_law_843 rfl (lv_at hl 3 rfl) ?_
  change W _ _ _ _ _ _ _ _ _ _ _ _ _ _ _ (F0 m 844 ls _)
  refine lv_iconst (v := 2) hx hb dL_law_844 (by decide) ?_
  refine lv_iadd hx hb dL_law_845 ?_
  refine va_sld hx hb hX hbl hbA w.2 (ix_in (k := 2) hj hL (by decide)) dL_law_846 ?_
  refine topeq hv2.symm ?_
  refine lv_aload_n hx hb dL_law_847 rfl (lv_at hl 0 rfl) ?_
  refine lv_iload_n hx hb dL_law_848 rfl (lv_at hl 3 rfl) ?_
  refine lv_iconst (v := 3) hx hb dL_law_849 (by decide) ?_
  refine lv_iadd hx hb dL_law_850 ?_
  refine va_sld hx hb hX hbl hbA w.2 (ix_in (k := 3) hj hL (by decide)) dL_law_851 ?_
  refine topeq hv3.symm ?_
  refine lv_aload_n hx hb dL_law_852 rfl (lv_at hl 0 rfl) ?_
  refine lv_iload_n hx hb dL_law_853 rfl (lv_at hl 3 rfl) ?_
  refine lv_iconst (v := 4) hx hb dL_law_854 (by decide) ?_
  refine lv_iadd hx hb dL_law_855 ?_
  change W _ _ _ _ _ _ _ _ _ _ _ _ _ _ _ (F0 m 856 ls _)
  refine va_sld hx hb hX hbl hbA w.2 (ix_in (k := 4) hj hL (by decide)) dL_law_856 ?_
  refine topeq hv4.symm ?_
  refine lv_aload_n hx hb dL_law_857 rfl (lv_at hl 0 rfl) ?_
  refine lv_iload_n hx hb dL_law_858 rfl (lv_at hl 3 rfl) ?_
  refine lv_iconst (v := 5) hx hb dL_law_859 (by decide) ?_
  refine lv_iadd hx hb dL_law_860 ?_
  refine va_sld hx hb hX hbl hbA w.2 (ix_in (k := 5) hj hL (by decide)) dL_law_861 ?_
  refine topeq hv5.symm ?_
  have w4 : Wh G s σ1 4 (σ 4) H locs := by rw [← st4]; exact w.at 4
  refine k_i (rr_v (rest := [.int (f_X6_back σ v1 v2 v3 v4 v5)]) X w4 mX7_back kw1040 (c_X7_back v1 v2 v3 v4 v5 (200 * j) (by omega) hw.2.2.1) m4_0 rfl rfl ⟨Nat.le_of_ble_eq_true rfl, Nat.le_of_ble_eq_true rfl⟩ rfl hl.1 rfl (Nat.le_of_ble_eq_true rfl) dL_law_862 ⟨Nat.le_of_ble_eq_true rfl, Nat.le_of_ble_eq_true rfl⟩) w4 (fun H locs w => ?_)
  refine lv_icmp_eq (tgt := 1090) hx hb dL_law_865 (by decide) (fun _ => ?_) (fun q => absurd sfe q)
  exact kk _ _ _ _ siv w hl
set_option maxRecDepth 100000 in
set_option maxHeartbeats 4000000 in
theorem law_bestDrop (h_bestDrop : ∀ (j : Nat) (σ : St) (x1 : Int32), j < 512 → IV j σ → (g_X6_bestDrop σ x1) 4 = σ 4 ∧ f_X6_bestDrop σ x1 = f_X7_bestDrop (σ 4) x1 ∧ IV (j + 1) (setG (g_X6_bestDrop σ x1) 4 (g_X7_bestDrop (σ 4) x1))) (hh : HX IV) (X : Cx p m c cL_law 4 s #[Value.ref b] RL G) (hX : va_X b L xs s s.heap) (hbl : b < s.heap.size) (hbA : ¬ AA G b) (hL : L ≤ 3072) {j : Nat} {σ : St} (hj : 6 * j + 6 ≤ L) (hiv : IV j σ)
    (kk : ∀ (σ1 : St) (H : Heap) (locs : List Loc) (ls : Array Slot), IV (j + 1) σ1 → Wd G s σ1 H locs → lv_has ls 4 [(0, .ref b), (1, .ref (aa G 0 0)), (2, .ref (aa G 4 0)), (3, .int (nI (6 * j)))] → W p l e room_1 s m #[Value.ref b] below meth c H locs 97 2165 Q (F0 m 1090 ls []))
    {H : Heap} {locs : List Loc} {ls : Array Slot} (w : Wd G s σ H locs) (hl : lv_has ls 4 [(0, .ref b), (1, .ref (aa G 0 0)), (2, .ref (aa G 4 0)), (3, .int (nI (6 * j)))]) : W p l e room_1 s m #[Value.ref b] below meth c H locs 97 2165 Q (F0 m 870 ls []) := by
  have hx := X.1.1
  have hb := X.1.2.1
  have hj5 : j < 512 := by omega
  have hw := hh j σ (by omega) hiv
  obtain ⟨v1, hv1⟩ : ∃ y : Int32, y = xs (nI (6 * j) + nI 1).toNatClampNeg := ⟨_, rfl⟩
  refine lv_aload_n hx hb dL_law_870 rfl (lv_at hl 1 rfl) ?_
  refine lv_aload_n hx hb dL_law_871 rfl (lv_at hl 0 rfl) ?_
  refine lv_iload_n hx hb dL_law_872 rfl (lv_at hl 3 rfl) ?_
  refine lv_iconst (v := 1) hx hb dL_law_873 (by decide) ?_
  refine lv_iadd hx hb dL_law_874 ?_
  refine va_sld hx hb hX hbl hbA w.2 (ix_in (k := 1) hj hL (by decide)) dL_law_875 ?_
  refine topeq hv1.symm ?_
  obtain ⟨st4, sfe, siv⟩ := h_bestDrop j σ v1 hj5 hiv
  refine k_i (rr_v (rest := []) X w mX6_bestDrop kw632 (c_X6_bestDrop v1 hw.1) m0_0 rfl rfl ⟨Nat.le_of_ble_eq_true rfl, Nat.le_of_ble_eq_true rfl⟩ rfl hl.1 rfl (Nat.le_of_ble_eq_true rfl) dL_law_876 ⟨Nat.le_of_ble_eq_true rfl, Nat.le_of_ble_eq_true rfl⟩) w (fun H locs w => ?_)
  obtain ⟨σ1, eσ1⟩ : ∃ y : St, y = g_X6_bestDrop σ v1 := ⟨_, rfl⟩
  rw [← eσ1] at w st4 siv
  refine lv_aload_n hx hb dL_law_879 rfl (lv_at hl 2 rfl) ?_
  refine lv_aload_n hx hb dL_law_880 rfl (lv_at hl 0 rfl) ?_
  refine lv_iload_n hx hb dL_law_881 rfl (lv_at hl 3 rfl) ?_
  refine lv_iconst (v := 1) hx hb dL_law_882 (by decide) ?_
  change W _ _ _ _ _ _ _ _ _ _ _ _ _ _ _ (F0 m 883 ls _)
  refine lv_iadd hx hb dL_law_883 ?_
  refine va_sld hx hb hX hbl hbA w.2 (ix_in (k := 1) hj hL (by decide)) dL_law_884 ?_
  refine topeq hv1.symm ?_
  have w4 : Wh G s σ1 4 (σ 4) H locs := by rw [← st4]; exact w.at 4
  refine k_i (rr_v (rest := [.int (f_X6_bestDrop σ v1)]) X w4 mX7_bestDrop kw1048 (c_X7_bestDrop v1 (200 * j) (by omega) hw.2.2.1) m4_0 rfl rfl ⟨Nat.le_of_ble_eq_true rfl, Nat.le_of_ble_eq_true rfl⟩ rfl hl.1 rfl (Nat.le_of_ble_eq_true rfl) dL_law_885 ⟨Nat.le_of_ble_eq_true rfl, Nat.le_of_ble_eq_true rfl⟩) w4 (fun H locs w => ?_)
  refine lv_icmp_eq (tgt := 1090) hx hb dL_law_888 (by decide) (fun _ => ?_) (fun q => absurd sfe q)
  exact kk _ _ _ _ siv w hl
end Law
