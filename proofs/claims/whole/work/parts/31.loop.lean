def ALL (IV : Nat → St → Prop) : Prop := (∀ (j : Nat) (σ : St), j < 512 → IV j σ → IV (j + 1) σ) ∧ (∀ (j : Nat) (σ : St) (x1 : Int32) (x2 : Int64), j < 512 → IV j σ → (g_X6_feed σ x1 x2) 4 = σ 4 ∧ f_X6_feed σ x1 x2 = f_X7_feed (σ 4) x1 x2 ∧ IV (j + 1) (setG (g_X6_feed σ x1 x2) 4 (g_X7_feed (σ 4) x1 x2))) ∧ (∀ (j : Nat) (σ : St) , j < 512 → IV j σ → (g_X6_coast σ ) 4 = σ 4 ∧ f_X6_coast σ = f_X7_coast (σ 4) ∧ IV (j + 1) (setG (g_X6_coast σ ) 4 (g_X7_coast (σ 4) ))) ∧ (∀ (j : Nat) (σ : St) (x1 : Int32) (x2 : Int32), j < 512 → IV j σ → (g_X6_cell σ x1 x2) 4 = σ 4 ∧ f_X6_cell σ x1 x2 = f_X7_cell (σ 4) x1 x2 ∧ IV (j + 1) (setG (g_X6_cell σ x1 x2) 4 (g_X7_cell (σ 4) x1 x2))) ∧ (∀ (j : Nat) (σ : St) (x1 : Int32) (x2 : Int32) (x3 : Int32), j < 512 → IV j σ → (g_X6_set σ x1 x2 x3) 4 = σ 4 ∧ f_X6_set σ x1 x2 x3 = f_X7_set (σ 4) x1 x2 x3 ∧ IV (j + 1) (setG (g_X6_set σ x1 x2 x3) 4 (g_X7_set (σ 4) x1 x2 x3))) ∧ (∀ (j : Nat) (σ : St) (x1 : Int32) (x2 : Int32) (x3 : Int32) (x4 : Int32), j < 512 → IV j σ → (g_X6_way σ x1 x2 x3 x4) 4 = σ 4 ∧ f_X6_way σ x1 x2 x3 x4 = f_X7_way (σ 4) x1 x2 x3 x4 ∧ IV (j + 1) (setG (g_X6_way σ x1 x2 x3 x4) 4 (g_X7_way (σ 4) x1 x2 x3 x4))) ∧ (∀ (j : Nat) (σ : St) (x1 : Int32) (x2 : Int32), j < 512 → IV j σ → isB x2 → (g_X6_shut σ x1 x2) 4 = σ 4 ∧ f_X6_shut σ x1 x2 = f_X7_shut (σ 4) x1 x2 ∧ IV (j + 1) (setG (g_X6_shut σ x1 x2) 4 (g_X7_shut (σ 4) x1 x2))) ∧ (∀ (j : Nat) (σ : St) (x1 : Int32) (x2 : Int32) (x3 : Int32), j < 512 → IV j σ → (g_X6_river σ x1 x2 x3) 4 = σ 4 ∧ f_X6_river σ x1 x2 x3 = f_X7_river (σ 4) x1 x2 x3 ∧ IV (j + 1) (setG (g_X6_river σ x1 x2 x3) 4 (g_X7_river (σ 4) x1 x2 x3))) ∧ (∀ (j : Nat) (σ : St) (x1 : Int32) (x2 : Int32), j < 512 → IV j σ → (g_X6_moon σ x1 x2) 4 = σ 4 ∧ f_X6_moon σ x1 x2 = f_X7_moon (σ 4) x1 x2 ∧ IV (j + 1) (setG (g_X6_moon σ x1 x2) 4 (g_X7_moon (σ 4) x1 x2))) ∧ (∀ (j : Nat) (σ : St) (x1 : Int32) (x2 : Int32) (x3 : Int32) (x4 : Int32), j < 512 → IV j σ → isB x3 → (g_X6_put σ x1 x2 x3 x4) 4 = σ 4 ∧ f_X6_put σ x1 x2 x3 x4 = f_X7_put (σ 4) x1 x2 x3 x4 ∧ IV (j + 1) (setG (g_X6_put σ x1 x2 x3 x4) 4 (g_X7_put (σ 4) x1 x2 x3 x4))) ∧ (∀ (j : Nat) (σ : St) (x1 : Int32) (x2 : Int32) (x3 : Int32), j < 512 → IV j σ → isB x3 → (g_X6_tons σ x1 x2 x3) 4 = σ 4 ∧ f_X6_tons σ x1 x2 x3 = f_X7_tons (σ 4) x1 x2 x3 ∧ IV (j + 1) (setG (g_X6_tons σ x1 x2 x3) 4 (g_X7_tons (σ 4) x1 x2 x3))) ∧ (∀ (j : Nat) (σ : St) (x1 : Int32), j < 512 → IV j σ → (g_X6_depth σ x1) 4 = σ 4 ∧ f_X6_depth σ x1 = f_X7_depth (σ 4) x1 ∧ IV (j + 1) (setG (g_X6_depth σ x1) 4 (g_X7_depth (σ 4) x1))) ∧ (∀ (j : Nat) (σ : St) (x1 : Int32), j < 512 → IV j σ → (g_X6_lacks σ x1) 4 = σ 4 ∧ f_X6_lacks σ x1 = f_X7_lacks (σ 4) x1 ∧ IV (j + 1) (setG (g_X6_lacks σ x1) 4 (g_X7_lacks (σ 4) x1))) ∧ (∀ (j : Nat) (σ : St) (x1 : Int32) (x2 : Int32), j < 512 → IV j σ → (g_X6_dredger σ x1 x2) 4 = σ 4 ∧ f_X6_dredger σ x1 x2 = f_X7_dredger (σ 4) x1 x2 ∧ IV (j + 1) (setG (g_X6_dredger σ x1 x2) 4 (g_X7_dredger (σ 4) x1 x2))) ∧ (∀ (j : Nat) (σ : St) , j < 512 → IV j σ → (g_X6_takes σ ) 4 = σ 4 ∧ f_X6_takes σ = f_X7_takes (σ 4) ∧ IV (j + 1) (setG (g_X6_takes σ ) 4 (g_X7_takes (σ 4) ))) ∧ (∀ (j : Nat) (σ : St) (x1 : Int32), j < 512 → IV j σ → (g_X6_go σ x1) 4 = σ 4 ∧ f_X6_go σ x1 = f_X7_go (σ 4) x1 ∧ IV (j + 1) (setG (g_X6_go σ x1) 4 (g_X7_go (σ 4) x1))) ∧ (∀ (j : Nat) (σ : St) (x1 : Int32), j < 512 → IV j σ → (g_X6_cost σ x1) 4 = σ 4 ∧ f_X6_cost σ x1 = f_X7_cost (σ 4) x1 ∧ IV (j + 1) (setG (g_X6_cost σ x1) 4 (g_X7_cost (σ 4) x1))) ∧ (∀ (j : Nat) (σ : St) (x1 : Int32), j < 512 → IV j σ → (g_X6_holds σ x1) 4 = σ 4 ∧ f_X6_holds σ x1 = f_X7_holds (σ 4) x1 ∧ IV (j + 1) (setG (g_X6_holds σ x1) 4 (g_X7_holds (σ 4) x1))) ∧ (∀ (j : Nat) (σ : St) (x1 : Int32), j < 512 → IV j σ → (g_X6_alone σ x1) 4 = σ 4 ∧ f_X6_alone σ x1 = f_X7_alone (σ 4) x1 ∧ IV (j + 1) (setG (g_X6_alone σ x1) 4 (g_X7_alone (σ 4) x1))) ∧ (∀ (j : Nat) (σ : St) (x1 : Int32) (x2 : Int32) (x3 : Int32) (x4 : Int32) (x5 : Int32), j < 512 → IV j σ → (g_X6_back σ x1 x2 x3 x4 x5) 4 = σ 4 ∧ f_X6_back σ x1 x2 x3 x4 x5 = f_X7_back (σ 4) x1 x2 x3 x4 x5 ∧ IV (j + 1) (setG (g_X6_back σ x1 x2 x3 x4 x5) 4 (g_X7_back (σ 4) x1 x2 x3 x4 x5))) ∧ (∀ (j : Nat) (σ : St) (x1 : Int32), j < 512 → IV j σ → (g_X6_bestDrop σ x1) 4 = σ 4 ∧ f_X6_bestDrop σ x1 = f_X7_bestDrop (σ 4) x1 ∧ IV (j + 1) (setG (g_X6_bestDrop σ x1) 4 (g_X7_bestDrop (σ 4) x1))) ∧ (∀ (j : Nat) (σ : St) (x1 : Int32), j < 512 → IV j σ → (g_X6_bestPlan σ x1) 4 = σ 4 ∧ f_X6_bestPlan σ x1 = f_X7_bestPlan (σ 4) x1 ∧ IV (j + 1) (setG (g_X6_bestPlan σ x1) 4 (g_X7_bestPlan (σ 4) x1))) ∧ (∀ (j : Nat) (σ : St) (x1 : Int32), j < 512 → IV j σ → (g_X6_leastCap σ x1) 4 = σ 4 ∧ f_X6_leastCap σ x1 = f_X7_leastCap (σ 4) x1 ∧ IV (j + 1) (setG (g_X6_leastCap σ x1) 4 (g_X7_leastCap (σ 4) x1))) ∧ (∀ (j : Nat) (σ : St) (x1 : Int32), j < 512 → IV j σ → (g_X6_wall σ x1) 4 = σ 4 ∧ f_X6_wall σ x1 = f_X7_wall (σ 4) x1 ∧ IV (j + 1) (setG (g_X6_wall σ x1) 4 (g_X7_wall (σ 4) x1))) ∧ (∀ (j : Nat) (σ : St) (x1 : Int32) (x2 : Int32), j < 512 → IV j σ → (g_X6_share σ x1 x2) 4 = σ 4 ∧ f_X6_share σ x1 x2 = f_X7_share (σ 4) x1 x2 ∧ IV (j + 1) (setG (g_X6_share σ x1 x2) 4 (g_X7_share (σ 4) x1 x2))) ∧ (∀ (j : Nat) (σ : St) (x1 : Int32), j < 512 → IV j σ → (g_X6_row σ x1) 4 = σ 4 ∧ f_X6_row σ x1 = f_X7_row (σ 4) x1 ∧ IV (j + 1) (setG (g_X6_row σ x1) 4 (g_X7_row (σ 4) x1))) ∧ (∀ (j : Nat) (σ : St) (x1 : Int32), j < 512 → IV j σ → (g_X6_judge σ x1) 4 = σ 4 ∧ f_X6_judge σ x1 = f_X7_judge (σ 4) x1 ∧ IV (j + 1) (setG (g_X6_judge σ x1) 4 (g_X7_judge (σ 4) x1))) ∧ (∀ (j : Nat) (σ : St) , j < 512 → IV j σ → (g_X6_image σ ) 4 = σ 4 ∧ f_X6_image σ = f_X7_image (σ 4) ∧ IV (j + 1) (setG (g_X6_image σ ) 4 (g_X7_image (σ 4) ))) ∧ (∀ (j : Nat) (σ : St) , j < 512 → IV j σ → (g_X6_restore σ ) 4 = σ 4 ∧ f_X6_restore σ = f_X7_restore (σ 4) ∧ IV (j + 1) (setG (g_X6_restore σ ) 4 (g_X7_restore (σ 4) ))) ∧ (∀ (j : Nat) (σ : St) (x1 : Int32), j < 512 → IV j σ → σ 4 = σ 4 ∧ f_X6_count σ x1 = f_X7_count (σ 4) x1 ∧ IV (j + 1) (setG σ 4 (σ 4)))
theorem go_on {j L : Nat} (hL : L ≤ 3072) (hj : j ≤ 512) (c : ¬ nI L - 6 < nI (6 * j)) : 6 * j + 6 ≤ L := by
  have a := Int32.le_iff_toInt_le.mp (Int32.not_lt.mp c)
  rw [show (6 : Int32) = nI 6 from rfl, pk_sub_toInt (by omega) (by decide), nI_toInt (by omega)] at a
  omega
section Law
variable {p : Program} {l : Launch} {e : Env} {s : State} {m : MethodId} {below : List Frame} {meth : Method} {c : Code} {Q : State → Prop} {G : GG} {b L : Nat} {xs : Nat → Int32} {IV : Nat → St → Prop}
set_option maxRecDepth 100000 in
set_option maxHeartbeats 4000000 in
theorem law_loop (hh : HX IV) (ha : ALL IV) (X : Cx p m c cL_law 4 s #[Value.ref b] RL G) (hX : va_X b L xs s s.heap) (hbl : b < s.heap.size) (hbA : ¬ AA G b) (hAA : ∀ a, AA G a → s.heap.size ≤ a) (hL : L ≤ 3072) (hr : meth.sig.returnType = ret) (hlk : meth.locks = false) :
    ∀ (n j : Nat) (σ : St), j ≤ 512 → 512 < j + n → IV j σ → ∀ (H : Heap) (locs : List Loc) (ls : Array Slot), Wd G s σ H locs → lv_has ls 4 [(0, .ref b), (1, .ref (aa G 0 0)), (2, .ref (aa G 4 0)), (3, .int (nI (6 * j)))] → W p l e room_1 s m #[Value.ref b] below meth c H locs 97 2165 (lw_Z below #[Value.ref b] s) (F0 m 18 ls []) := by
  have hx := X.1.1
  have hb := X.1.2.1
  intro n
  induction n with
  | zero => intro j σ h1 h2; omega
  | succ n ih =>
    intro j σ hj1 hj2 hiv H locs ls w hl
    refine lv_iload_n hx hb dL_law_18 rfl (lv_at hl 3 rfl) ?_
    refine lv_aload_n hx hb dL_law_19 rfl (lv_at hl 0 rfl) ?_
    refine va_slen hx hb hX hbl hbA w.2 dL_law_20 ?_
    refine lv_bipush (v := 6) hx hb dL_law_21 (by decide) ?_
    refine lv_isub hx hb dL_law_23 ?_
    refine lv_icmp_gt (tgt := 1096) hx hb dL_law_24 (by decide) (fun c24 => ?_) (fun c24 => ?_)
    · refine lv_iconst (v := 1) hx hb dL_law_1096 (by decide) ?_
      refine va_forget (fun q hq => hAA _ (w.2.2.2 q hq)) ?_
      exact lw_ret hx hb hr hlk dL_law_1097
    · have hj : 6 * j + 6 ≤ L := go_on hL hj1 c24
      have kk : ∀ (σ1 : St) (H : Heap) (locs : List Loc) (ls : Array Slot), IV (j + 1) σ1 → Wd G s σ1 H locs → lv_has ls 4 [(0, .ref b), (1, .ref (aa G 0 0)), (2, .ref (aa G 4 0)), (3, .int (nI (6 * j)))] → W p l e room_1 s m #[Value.ref b] below meth c H locs 97 2165 (lw_Z below #[Value.ref b] s) (F0 m 1090 ls []) := by
        intro σ1 H locs ls hiv w hl
        refine lv_iinc (v := nI (6 * (j + 1))) (lv' := [(3, .int (nI (6 * (j + 1)))), (0, .ref b), (1, .ref (aa G 0 0)), (2, .ref (aa G 4 0))]) hx hb dL_law_1090 hl (k := 3) rfl (nI_add (6 * j) 6) (by decide) rfl (fun ls hl => ?_)
        refine lv_goto (tgt := 18) hx hb dL_law_1093 (by decide) ?_
        exact ih (j + 1) σ1 (by omega) (by omega) hiv H locs ls w (lv_sub hl [1, 2, 3, 0] rfl)
      refine lv_aload_n hx hb dL_law_27 rfl (lv_at hl 0 rfl) ?_
      refine lv_iload_n hx hb dL_law_28 rfl (lv_at hl 3 rfl) ?_
      refine va_sld hx hb hX hbl hbA w.2 (ix_in0 hj hL) dL_law_29 ?_
      refine lv_bipush (v := 31) hx hb dL_law_30 (by decide) ?_
      refine lv_iand hx hb dL_law_32 ?_
      refine lv_topi (fun x ex => ?_)
      obtain ⟨hmono, h0, h1, h2, h3, h4, h5, h6, h7, h8, h9, h10, h11, h12, h13, h14, h15, h16, h17, h18, h19, h20, h21, h22, h23, h24, h25, h26, h27, h28⟩ := ha
      by_cases z0 : x = 0
      · refine lv_tableIn (off := 131) (tgt := 164) hx hb dL_law_33 (by rw [z0]; decide) (by rw [z0]; decide) (by rw [z0]; rfl) (by decide) ?_
        exact law_feed h0 hh X hX hbl hbA hL hj hiv kk w hl
      by_cases z1 : x = 1
      · refine lv_tableIn (off := 194) (tgt := 227) hx hb dL_law_33 (by rw [z1]; decide) (by rw [z1]; decide) (by rw [z1]; rfl) (by decide) ?_
        exact law_coast h1 hh X hX hbl hbA hL hj hiv kk w hl
      by_cases z2 : x = 2
      · refine lv_tableIn (off := 207) (tgt := 240) hx hb dL_law_33 (by rw [z2]; decide) (by rw [z2]; decide) (by rw [z2]; rfl) (by decide) ?_
        exact law_cell h2 hh X hX hbl hbA hL hj hiv kk w hl
      by_cases z3 : x = 3
      · refine lv_tableIn (off := 240) (tgt := 273) hx hb dL_law_33 (by rw [z3]; decide) (by rw [z3]; decide) (by rw [z3]; rfl) (by decide) ?_
        exact law_set h3 hh X hX hbl hbA hL hj hiv kk w hl
      by_cases z4 : x = 4
      · refine lv_tableIn (off := 283) (tgt := 316) hx hb dL_law_33 (by rw [z4]; decide) (by rw [z4]; decide) (by rw [z4]; rfl) (by decide) ?_
        exact law_way h4 hh X hX hbl hbA hL hj hiv kk w hl
      by_cases z5 : x = 5
      · refine lv_tableIn (off := 336) (tgt := 369) hx hb dL_law_33 (by rw [z5]; decide) (by rw [z5]; decide) (by rw [z5]; rfl) (by decide) ?_
        exact law_shut h5 hh X hX hbl hbA hL hj hiv kk w hl
      by_cases z6 : x = 6
      · refine lv_tableIn (off := 385) (tgt := 418) hx hb dL_law_33 (by rw [z6]; decide) (by rw [z6]; decide) (by rw [z6]; rfl) (by decide) ?_
        exact law_river h6 hh X hX hbl hbA hL hj hiv kk w hl
      by_cases z7 : x = 7
      · refine lv_tableIn (off := 428) (tgt := 461) hx hb dL_law_33 (by rw [z7]; decide) (by rw [z7]; decide) (by rw [z7]; rfl) (by decide) ?_
        exact law_moon h7 hh X hX hbl hbA hL hj hiv kk w hl
      by_cases z8 : x = 8
      · refine lv_tableIn (off := 461) (tgt := 494) hx hb dL_law_33 (by rw [z8]; decide) (by rw [z8]; decide) (by rw [z8]; rfl) (by decide) ?_
        exact law_put h8 hh X hX hbl hbA hL hj hiv kk w hl
      by_cases z9 : x = 9
      · refine lv_tableIn (off := 530) (tgt := 563) hx hb dL_law_33 (by rw [z9]; decide) (by rw [z9]; decide) (by rw [z9]; rfl) (by decide) ?_
        exact law_tons h9 hh X hX hbl hbA hL hj hiv kk w hl
      by_cases z10 : x = 10
      · refine lv_tableIn (off := 589) (tgt := 622) hx hb dL_law_33 (by rw [z10]; decide) (by rw [z10]; decide) (by rw [z10]; rfl) (by decide) ?_
        exact law_depth h10 hh X hX hbl hbA hL hj hiv kk w hl
      by_cases z11 : x = 11
      · refine lv_tableIn (off := 612) (tgt := 645) hx hb dL_law_33 (by rw [z11]; decide) (by rw [z11]; decide) (by rw [z11]; rfl) (by decide) ?_
        exact law_lacks h11 hh X hX hbl hbA hL hj hiv kk w hl
      by_cases z12 : x = 12
      · refine lv_tableIn (off := 635) (tgt := 668) hx hb dL_law_33 (by rw [z12]; decide) (by rw [z12]; decide) (by rw [z12]; rfl) (by decide) ?_
        exact law_dredger h12 hh X hX hbl hbA hL hj hiv kk w hl
      by_cases z13 : x = 13
      · refine lv_tableIn (off := 668) (tgt := 701) hx hb dL_law_33 (by rw [z13]; decide) (by rw [z13]; decide) (by rw [z13]; rfl) (by decide) ?_
        exact law_takes h13 hh X hX hbl hbA hL hj hiv kk w hl
      by_cases z14 : x = 14
      · refine lv_tableIn (off := 681) (tgt := 714) hx hb dL_law_33 (by rw [z14]; decide) (by rw [z14]; decide) (by rw [z14]; rfl) (by decide) ?_
        exact law_go h14 hh X hX hbl hbA hL hj hiv kk w hl
      by_cases z15 : x = 15
      · refine lv_tableIn (off := 704) (tgt := 737) hx hb dL_law_33 (by rw [z15]; decide) (by rw [z15]; decide) (by rw [z15]; rfl) (by decide) ?_
        exact law_cost h15 hh X hX hbl hbA hL hj hiv kk w hl
      by_cases z16 : x = 16
      · refine lv_tableIn (off := 728) (tgt := 761) hx hb dL_law_33 (by rw [z16]; decide) (by rw [z16]; decide) (by rw [z16]; rfl) (by decide) ?_
        exact law_holds h16 hh X hX hbl hbA hL hj hiv kk w hl
      by_cases z17 : x = 17
      · refine lv_tableIn (off := 751) (tgt := 784) hx hb dL_law_33 (by rw [z17]; decide) (by rw [z17]; decide) (by rw [z17]; rfl) (by decide) ?_
        exact law_alone h17 hh X hX hbl hbA hL hj hiv kk w hl
      by_cases z18 : x = 18
      · refine lv_tableIn (off := 774) (tgt := 807) hx hb dL_law_33 (by rw [z18]; decide) (by rw [z18]; decide) (by rw [z18]; rfl) (by decide) ?_
        exact law_back h18 hh X hX hbl hbA hL hj hiv kk w hl
      by_cases z19 : x = 19
      · refine lv_tableIn (off := 837) (tgt := 870) hx hb dL_law_33 (by rw [z19]; decide) (by rw [z19]; decide) (by rw [z19]; rfl) (by decide) ?_
        exact law_bestDrop h19 hh X hX hbl hbA hL hj hiv kk w hl
      by_cases z20 : x = 20
      · refine lv_tableIn (off := 860) (tgt := 893) hx hb dL_law_33 (by rw [z20]; decide) (by rw [z20]; decide) (by rw [z20]; rfl) (by decide) ?_
        exact law_bestPlan h20 hh X hX hbl hbA hL hj hiv kk w hl
      by_cases z21 : x = 21
      · refine lv_tableIn (off := 883) (tgt := 916) hx hb dL_law_33 (by rw [z21]; decide) (by rw [z21]; decide) (by rw [z21]; rfl) (by decide) ?_
        exact law_leastCap h21 hh X hX hbl hbA hL hj hiv kk w hl
      by_cases z22 : x = 22
      · refine lv_tableIn (off := 906) (tgt := 939) hx hb dL_law_33 (by rw [z22]; decide) (by rw [z22]; decide) (by rw [z22]; rfl) (by decide) ?_
        exact law_wall h22 hh X hX hbl hbA hL hj hiv kk w hl
      by_cases z23 : x = 23
      · refine lv_tableIn (off := 929) (tgt := 962) hx hb dL_law_33 (by rw [z23]; decide) (by rw [z23]; decide) (by rw [z23]; rfl) (by decide) ?_
        exact law_share h23 hh X hX hbl hbA hL hj hiv kk w hl
      by_cases z24 : x = 24
      · refine lv_tableIn (off := 962) (tgt := 995) hx hb dL_law_33 (by rw [z24]; decide) (by rw [z24]; decide) (by rw [z24]; rfl) (by decide) ?_
        exact law_row h24 hh X hX hbl hbA hL hj hiv kk w hl
      by_cases z25 : x = 25
      · refine lv_tableIn (off := 985) (tgt := 1018) hx hb dL_law_33 (by rw [z25]; decide) (by rw [z25]; decide) (by rw [z25]; rfl) (by decide) ?_
        exact law_judge h25 hh X hX hbl hbA hL hj hiv kk w hl
      by_cases z26 : x = 26
      · refine lv_tableIn (off := 1008) (tgt := 1041) hx hb dL_law_33 (by rw [z26]; decide) (by rw [z26]; decide) (by rw [z26]; rfl) (by decide) ?_
        exact law_image h26 hh X hX hbl hbA hL hj hiv kk w hl
      by_cases z27 : x = 27
      · refine lv_tableIn (off := 1021) (tgt := 1054) hx hb dL_law_33 (by rw [z27]; decide) (by rw [z27]; decide) (by rw [z27]; rfl) (by decide) ?_
        exact law_restore h27 hh X hX hbl hbA hL hj hiv kk w hl
      by_cases z28 : x = 28
      · refine lv_tableIn (off := 1034) (tgt := 1067) hx hb dL_law_33 (by rw [z28]; decide) (by rw [z28]; decide) (by rw [z28]; rfl) (by decide) ?_
        exact law_count h28 hh X hX hbl hbA hL hj hiv kk w hl
      refine lv_tableOut (tgt := 1090) hx hb dL_law_33 (by have q0 := lv_neT z0 (a := 0) (by decide); have q1 := lv_neT z1 (a := 1) (by decide); have q2 := lv_neT z2 (a := 2) (by decide); have q3 := lv_neT z3 (a := 3) (by decide); have q4 := lv_neT z4 (a := 4) (by decide); have q5 := lv_neT z5 (a := 5) (by decide); have q6 := lv_neT z6 (a := 6) (by decide); have q7 := lv_neT z7 (a := 7) (by decide); have q8 := lv_neT z8 (a := 8) (by decide); have q9 := lv_neT z9 (a := 9) (by decide); have q10 := lv_neT z10 (a := 10) (by decide); have q11 := lv_neT z11 (a := 11) (by decide); have q12 := lv_neT z12 (a := 12) (by decide); have q13 := lv_neT z13 (a := 13) (by decide); have q14 := lv_neT z14 (a := 14) (by decide); have q15 := lv_neT z15 (a := 15) (by decide); have q16 := lv_neT z16 (a := 16) (by decide); have q17 := lv_neT z17 (a := 17) (by decide); have q18 := lv_neT z18 (a := 18) (by decide); have q19 := lv_neT z19 (a := 19) (by decide); have q20 := lv_neT z20 (a := 20) (by decide); have q21 := lv_neT z21 (a := 21) (by decide); have q22 := lv_neT z22 (a := 22) (by decide); have q23 := lv_neT z23 (a := 23) (by decide); have q24 := lv_neT z24 (a := 24) (by decide); have q25 := lv_neT z25 (a := 25) (by decide); have q26 := lv_neT z26 (a := 26) (by decide); have q27 := lv_neT z27 (a := 27) (by decide); have q28 := lv_neT z28 (a := 28) (by decide); omega) (by decide) ?_
      exact kk σ H locs ls (hmono j σ (by omega) hiv) w hl
end Law
