def wpX0 (iA bA : ClassId) (a : Nat → Nat) : va_W := [(a 0, .inr (0, [.int 0, .ref (a 1), .ref (a 2), .ref (a 3), .ref (a 4), .ref (a 5), .ref (a 6), .ref (a 7)])), (a 1, .inl (iA, 8, .inl (fun _ => 0))), (a 2, .inl (iA, 8, .inl (fun _ => 0))), (a 3, .inl (iA, 8, .inl (fun _ => 0))), (a 4, .inl (iA, 8, .inl (fun _ => 0))), (a 5, .inl (iA, 8, .inl (fun _ => 0))), (a 6, .inl (iA, 16, .inl (fun _ => 0))), (a 7, .inl (iA, 16, .inl (fun _ => 0)))]
set_option maxHeartbeats 4000000 in
set_option maxRecDepth 100000 in
theorem c_X0_init (l : Launch) (D : va_G) (iA bA : ClassId) (h0 sz : Nat) : Met l yX0_init (Cond.code yX0_init cX0_init 1 none :: tbl) { frames := 1, cells := 7, slots := 72, locals := 12 } (IPre D iA bA h0 [(h0, .inr (0, [.int 0, .null, .null, .null, .null, .null, .null, .null]))] sz) (IPost D h0 (wpX0 iA bA) (va_A [(h0, .inr (0, [.int 0, .null, .null, .null, .null, .null, .null, .null]))] sz)) 7 72 (va_A [(h0, .inr (0, [.int 0, .null, .null, .null, .null, .null, .null, .null]))] sz) := by
  refine Met.ofW (cc := cX0_init) (maxL := 1) (ret := none) (by decide) rfl ?_
  intro p e s m args below meth c s₁ B hml hv
  obtain ⟨rfl, hsz, hP, K, hD0⟩ := hv
  have hx := B.exec
  have hb := B.bytes
  have hr := B.returns
  have hts := atoms_spec (ws := Cond.code yX0_init cX0_init 1 none :: tbl) B.pre
  have hlocks := B.notSynchronized
  have hin : meth.name = "<init>" := (name_of_methodNamed B.named B.method).1
  have X : CallFix p m c cX0_init 1 s [Value.ref h0].toArray tbl RX0 := ⟨B.exec, B.bytes, hml, findClass_of_methodNamed B.named, fun w h => hts w (List.mem_cons_of_mem _ h)⟩
  subst hsz
  have hD := hD0.self (sz := s.heap.size)
  generalize hAe : va_A [(h0, .inr (0, [.int 0, .null, .null, .null, .null, .null, .null, .null]))] s.heap.size = A at hD ⊢
  have hA : ∀ q : Nat, s.heap.size ≤ q → A q := fun q h => by rw [← hAe]; exact Or.inr h
  have hS : va_S A s.heap s.heap [] := va_S.rf
  have hl := lv_entry ([.ref h0]) (n := 1) (Nat.le_of_ble_eq_true rfl)
  rw [lg_entry_eq]
  generalize (lg_sl ([.ref h0]) ++ List.replicate (1 - (lg_sl ([.ref h0])).length) Slot.unset).toArray = ls at hl ⊢
  have hl : lv_has ls 1 [(0, .ref h0)] := hl
  refine lv_aload_n hx hb dX0_init_0 rfl (lv_at hl 0 rfl) ?_
  refine W.objInit hx hb X.2.2.2.1 (X.2.2.2.2 _ kw30) (X.2.2.2.2 _ kw17) (X.2.2.2.2 _ kw18) rfl (by rw [X.2.2.1]; exact hl.1) rfl dX0_init_1 (Nat.le_of_ble_eq_true rfl) (Nat.le_of_ble_eq_true rfl) ?_
  refine W.eq (g2 := F0 m 4 ls []) rfl ?_
  refine lv_aload_n hx hb dX0_init_4 rfl (lv_at hl 0 rfl) ?_
  refine lv_iconst (v := 0) hx hb dX0_init_5 (by decide) ?_
  refine va_put (ci := 0) (v := .int 0) (ty := tyX0 0) (C := RX0) (T := TX0) (N := 8) hx hb X.2.2.2.2 inT0 tyX0 tyX0_ok nmX0 X.2.2.2.1 K.1 hP hD hS 0 rfl rfl 0 (by decide) (X.2.2.2.2 _ kw31) (fun _ h9 => h9) rfl (by decide +kernel) rfl rfl (Nat.le_of_ble_eq_true rfl) dX0_init_6 (fun H locs hP hD hS => ?_)
  have hP : va_P D vwCl [(h0, .inr (0, [.int 0, .null, .null, .null, .null, .null, .null, .null]))] H := hP
  have hD : va_D A [(h0, .inr (0, [.int 0, .null, .null, .null, .null, .null, .null, .null]))] := hD
  refine lv_aload_n hx hb dX0_init_9 rfl (lv_at hl 0 rfl) ?_
  refine lv_bipush (v := 8) hx hb dX0_init_10 (by decide) ?_
  refine n_ai (N := 8) (idx0 := 0) X K hP hD hS hA (by decide) (by decide) (Nat.le_of_ble_eq_true rfl) (Nat.le_of_ble_eq_true rfl) (Nat.le_of_ble_eq_true rfl) dX0_init_12 (fun q12 H hP hD hS => ?_)
  have hP : va_P D vwCl [(h0, .inr (0, [.int 0, .null, .null, .null, .null, .null, .null, .null])), (q12, .inl (iA, 8, .inl (fun _ => 0)))] H := hP
  have hD : va_D A [(h0, .inr (0, [.int 0, .null, .null, .null, .null, .null, .null, .null])), (q12, .inl (iA, 8, .inl (fun _ => 0)))] := hD
  refine va_putF (ci := 0) (v := .ref q12) (ty := tyX0 1) (C := RX0) (T := TX0) (N := 8) hx hb X.2.2.2.2 inT0 tyX0 tyX0_ok nmX0 X.2.2.2.1 K.1 hP hD hS 0 rfl rfl 1 (by decide) (X.2.2.2.2 _ kw33) (fun _ h9 => h9) rfl hin rfl (by decide +kernel) rfl rfl (Nat.le_of_ble_eq_true rfl) dX0_init_14 (fun H locs hP hD hS => ?_)
  have hP : va_P D vwCl [(h0, .inr (0, [.int 0, .ref q12, .null, .null, .null, .null, .null, .null])), (q12, .inl (iA, 8, .inl (fun _ => 0)))] H := hP
  have hD : va_D A [(h0, .inr (0, [.int 0, .ref q12, .null, .null, .null, .null, .null, .null])), (q12, .inl (iA, 8, .inl (fun _ => 0)))] := hD
  refine lv_aload_n hx hb dX0_init_17 rfl (lv_at hl 0 rfl) ?_
  refine lv_bipush (v := 8) hx hb dX0_init_18 (by decide) ?_
  refine n_ai (N := 8) (idx0 := 0) X K hP hD hS hA (by decide) (by decide) (Nat.le_of_ble_eq_true rfl) (Nat.le_of_ble_eq_true rfl) (Nat.le_of_ble_eq_true rfl) dX0_init_20 (fun q20 H hP hD hS => ?_)
  have hP : va_P D vwCl [(h0, .inr (0, [.int 0, .ref q12, .null, .null, .null, .null, .null, .null])), (q12, .inl (iA, 8, .inl (fun _ => 0))), (q20, .inl (iA, 8, .inl (fun _ => 0)))] H := hP
  have hD : va_D A [(h0, .inr (0, [.int 0, .ref q12, .null, .null, .null, .null, .null, .null])), (q12, .inl (iA, 8, .inl (fun _ => 0))), (q20, .inl (iA, 8, .inl (fun _ => 0)))] := hD
  change W _ _ _ _ _ _ _ _ _ _ _ _ _ _ _ (F0 m 22 ls _)
  refine va_putF (ci := 0) (v := .ref q20) (ty := tyX0 2) (C := RX0) (T := TX0) (N := 8) hx hb X.2.2.2.2 inT0 tyX0 tyX0_ok nmX0 X.2.2.2.1 K.1 hP hD hS 0 rfl rfl 2 (by decide) (X.2.2.2.2 _ kw34) (fun _ h9 => h9) rfl hin rfl (by decide +kernel) rfl rfl (Nat.le_of_ble_eq_true rfl) dX0_init_22 (fun H locs hP hD hS => ?_)
  have hP : va_P D vwCl [(h0, .inr (0, [.int 0, .ref q12, .ref q20, .null, .null, .null, .null, .null])), (q12, .inl (iA, 8, .inl (fun _ => 0))), (q20, .inl (iA, 8, .inl (fun _ => 0)))] H := hP
  have hD : va_D A [(h0, .inr (0, [.int 0, .ref q12, .ref q20, .null, .null, .null, .null, .null])), (q12, .inl (iA, 8, .inl (fun _ => 0))), (q20, .inl (iA, 8, .inl (fun _ => 0)))] := hD
  refine lv_aload_n hx hb dX0_init_25 rfl (lv_at hl 0 rfl) ?_
  refine lv_bipush (v := 8) hx hb dX0_init_26 (by decide) ?_
  refine n_ai (N := 8) (idx0 := 0) X K hP hD hS hA (by decide) (by decide) (Nat.le_of_ble_eq_true rfl) (Nat.le_of_ble_eq_true rfl) (Nat.le_of_ble_eq_true rfl) dX0_init_28 (fun q28 H hP hD hS => ?_)
  have hP : va_P D vwCl [(h0, .inr (0, [.int 0, .ref q12, .ref q20, .null, .null, .null, .null, .null])), (q12, .inl (iA, 8, .inl (fun _ => 0))), (q20, .inl (iA, 8, .inl (fun _ => 0))), (q28, .inl (iA, 8, .inl (fun _ => 0)))] H := hP
  have hD : va_D A [(h0, .inr (0, [.int 0, .ref q12, .ref q20, .null, .null, .null, .null, .null])), (q12, .inl (iA, 8, .inl (fun _ => 0))), (q20, .inl (iA, 8, .inl (fun _ => 0))), (q28, .inl (iA, 8, .inl (fun _ => 0)))] := hD
  refine va_putF (ci := 0) (v := .ref q28) (ty := tyX0 3) (C := RX0) (T := TX0) (N := 8) hx hb X.2.2.2.2 inT0 tyX0 tyX0_ok nmX0 X.2.2.2.1 K.1 hP hD hS 0 rfl rfl 3 (by decide) (X.2.2.2.2 _ kw35) (fun _ h9 => h9) rfl hin rfl (by decide +kernel) rfl rfl (Nat.le_of_ble_eq_true rfl) dX0_init_30 (fun H locs hP hD hS => ?_)
  have hP : va_P D vwCl [(h0, .inr (0, [.int 0, .ref q12, .ref q20, .ref q28, .null, .null, .null, .null])), (q12, .inl (iA, 8, .inl (fun _ => 0))), (q20, .inl (iA, 8, .inl (fun _ => 0))), (q28, .inl (iA, 8, .inl (fun _ => 0)))] H := hP
  have hD : va_D A [(h0, .inr (0, [.int 0, .ref q12, .ref q20, .ref q28, .null, .null, .null, .null])), (q12, .inl (iA, 8, .inl (fun _ => 0))), (q20, .inl (iA, 8, .inl (fun _ => 0))), (q28, .inl (iA, 8, .inl (fun _ => 0)))] := hD
  refine lv_aload_n hx hb dX0_init_33 rfl (lv_at hl 0 rfl) ?_
  refine lv_bipush (v := 8) hx hb dX0_init_34 (by decide) ?_
  refine n_ai (N := 8) (idx0 := 0) X K hP hD hS hA (by decide) (by decide) (Nat.le_of_ble_eq_true rfl) (Nat.le_of_ble_eq_true rfl) (Nat.le_of_ble_eq_true rfl) dX0_init_36 (fun q36 H hP hD hS => ?_)
  have hP : va_P D vwCl [(h0, .inr (0, [.int 0, .ref q12, .ref q20, .ref q28, .null, .null, .null, .null])), (q12, .inl (iA, 8, .inl (fun _ => 0))), (q20, .inl (iA, 8, .inl (fun _ => 0))), (q28, .inl (iA, 8, .inl (fun _ => 0))), (q36, .inl (iA, 8, .inl (fun _ => 0)))] H := hP
  have hD : va_D A [(h0, .inr (0, [.int 0, .ref q12, .ref q20, .ref q28, .null, .null, .null, .null])), (q12, .inl (iA, 8, .inl (fun _ => 0))), (q20, .inl (iA, 8, .inl (fun _ => 0))), (q28, .inl (iA, 8, .inl (fun _ => 0))), (q36, .inl (iA, 8, .inl (fun _ => 0)))] := hD
  refine va_putF (ci := 0) (v := .ref q36) (ty := tyX0 4) (C := RX0) (T := TX0) (N := 8) hx hb X.2.2.2.2 inT0 tyX0 tyX0_ok nmX0 X.2.2.2.1 K.1 hP hD hS 0 rfl rfl 4 (by decide) (X.2.2.2.2 _ kw36) (fun _ h9 => h9) rfl hin rfl (by decide +kernel) rfl rfl (Nat.le_of_ble_eq_true rfl) dX0_init_38 (fun H locs hP hD hS => ?_)
  have hP : va_P D vwCl [(h0, .inr (0, [.int 0, .ref q12, .ref q20, .ref q28, .ref q36, .null, .null, .null])), (q12, .inl (iA, 8, .inl (fun _ => 0))), (q20, .inl (iA, 8, .inl (fun _ => 0))), (q28, .inl (iA, 8, .inl (fun _ => 0))), (q36, .inl (iA, 8, .inl (fun _ => 0)))] H := hP
  have hD : va_D A [(h0, .inr (0, [.int 0, .ref q12, .ref q20, .ref q28, .ref q36, .null, .null, .null])), (q12, .inl (iA, 8, .inl (fun _ => 0))), (q20, .inl (iA, 8, .inl (fun _ => 0))), (q28, .inl (iA, 8, .inl (fun _ => 0))), (q36, .inl (iA, 8, .inl (fun _ => 0)))] := hD
  refine lv_aload_n hx hb dX0_init_41 rfl (lv_at hl 0 rfl) ?_
  refine lv_bipush (v := 8) hx hb dX0_init_42 (by decide) ?_
  refine n_ai (N := 8) (idx0 := 0) X K hP hD hS hA (by decide) (by decide) (Nat.le_of_ble_eq_true rfl) (Nat.le_of_ble_eq_true rfl) (Nat.le_of_ble_eq_true rfl) dX0_init_44 (fun q44 H hP hD hS => ?_)
  have hP : va_P D vwCl [(h0, .inr (0, [.int 0, .ref q12, .ref q20, .ref q28, .ref q36, .null, .null, .null])), (q12, .inl (iA, 8, .inl (fun _ => 0))), (q20, .inl (iA, 8, .inl (fun _ => 0))), (q28, .inl (iA, 8, .inl (fun _ => 0))), (q36, .inl (iA, 8, .inl (fun _ => 0))), (q44, .inl (iA, 8, .inl (fun _ => 0)))] H := hP
  have hD : va_D A [(h0, .inr (0, [.int 0, .ref q12, .ref q20, .ref q28, .ref q36, .null, .null, .null])), (q12, .inl (iA, 8, .inl (fun _ => 0))), (q20, .inl (iA, 8, .inl (fun _ => 0))), (q28, .inl (iA, 8, .inl (fun _ => 0))), (q36, .inl (iA, 8, .inl (fun _ => 0))), (q44, .inl (iA, 8, .inl (fun _ => 0)))] := hD
  change W _ _ _ _ _ _ _ _ _ _ _ _ _ _ _ (F0 m 46 ls _)
  refine va_putF (ci := 0) (v := .ref q44) (ty := tyX0 5) (C := RX0) (T := TX0) (N := 8) hx hb X.2.2.2.2 inT0 tyX0 tyX0_ok nmX0 X.2.2.2.1 K.1 hP hD hS 0 rfl rfl 5 (by decide) (X.2.2.2.2 _ kw37) (fun _ h9 => h9) rfl hin rfl (by decide +kernel) rfl rfl (Nat.le_of_ble_eq_true rfl) dX0_init_46 (fun H locs hP hD hS => ?_)
  have hP : va_P D vwCl [(h0, .inr (0, [.int 0, .ref q12, .ref q20, .ref q28, .ref q36, .ref q44, .null, .null])), (q12, .inl (iA, 8, .inl (fun _ => 0))), (q20, .inl (iA, 8, .inl (fun _ => 0))), (q28, .inl (iA, 8, .inl (fun _ => 0))), (q36, .inl (iA, 8, .inl (fun _ => 0))), (q44, .inl (iA, 8, .inl (fun _ => 0)))] H := hP
  have hD : va_D A [(h0, .inr (0, [.int 0, .ref q12, .ref q20, .ref q28, .ref q36, .ref q44, .null, .null])), (q12, .inl (iA, 8, .inl (fun _ => 0))), (q20, .inl (iA, 8, .inl (fun _ => 0))), (q28, .inl (iA, 8, .inl (fun _ => 0))), (q36, .inl (iA, 8, .inl (fun _ => 0))), (q44, .inl (iA, 8, .inl (fun _ => 0)))] := hD
  refine lv_aload_n hx hb dX0_init_49 rfl (lv_at hl 0 rfl) ?_
  refine lv_bipush (v := 16) hx hb dX0_init_50 (by decide) ?_
  refine n_ai (N := 16) (idx0 := 0) X K hP hD hS hA (by decide) (by decide) (Nat.le_of_ble_eq_true rfl) (Nat.le_of_ble_eq_true rfl) (Nat.le_of_ble_eq_true rfl) dX0_init_52 (fun q52 H hP hD hS => ?_)
  have hP : va_P D vwCl [(h0, .inr (0, [.int 0, .ref q12, .ref q20, .ref q28, .ref q36, .ref q44, .null, .null])), (q12, .inl (iA, 8, .inl (fun _ => 0))), (q20, .inl (iA, 8, .inl (fun _ => 0))), (q28, .inl (iA, 8, .inl (fun _ => 0))), (q36, .inl (iA, 8, .inl (fun _ => 0))), (q44, .inl (iA, 8, .inl (fun _ => 0))), (q52, .inl (iA, 16, .inl (fun _ => 0)))] H := hP
  have hD : va_D A [(h0, .inr (0, [.int 0, .ref q12, .ref q20, .ref q28, .ref q36, .ref q44, .null, .null])), (q12, .inl (iA, 8, .inl (fun _ => 0))), (q20, .inl (iA, 8, .inl (fun _ => 0))), (q28, .inl (iA, 8, .inl (fun _ => 0))), (q36, .inl (iA, 8, .inl (fun _ => 0))), (q44, .inl (iA, 8, .inl (fun _ => 0))), (q52, .inl (iA, 16, .inl (fun _ => 0)))] := hD
  refine va_putF (ci := 0) (v := .ref q52) (ty := tyX0 6) (C := RX0) (T := TX0) (N := 8) hx hb X.2.2.2.2 inT0 tyX0 tyX0_ok nmX0 X.2.2.2.1 K.1 hP hD hS 0 rfl rfl 6 (by decide) (X.2.2.2.2 _ kw38) (fun _ h9 => h9) rfl hin rfl (by decide +kernel) rfl rfl (Nat.le_of_ble_eq_true rfl) dX0_init_54 (fun H locs hP hD hS => ?_)
  have hP : va_P D vwCl [(h0, .inr (0, [.int 0, .ref q12, .ref q20, .ref q28, .ref q36, .ref q44, .ref q52, .null])), (q12, .inl (iA, 8, .inl (fun _ => 0))), (q20, .inl (iA, 8, .inl (fun _ => 0))), (q28, .inl (iA, 8, .inl (fun _ => 0))), (q36, .inl (iA, 8, .inl (fun _ => 0))), (q44, .inl (iA, 8, .inl (fun _ => 0))), (q52, .inl (iA, 16, .inl (fun _ => 0)))] H := hP
  have hD : va_D A [(h0, .inr (0, [.int 0, .ref q12, .ref q20, .ref q28, .ref q36, .ref q44, .ref q52, .null])), (q12, .inl (iA, 8, .inl (fun _ => 0))), (q20, .inl (iA, 8, .inl (fun _ => 0))), (q28, .inl (iA, 8, .inl (fun _ => 0))), (q36, .inl (iA, 8, .inl (fun _ => 0))), (q44, .inl (iA, 8, .inl (fun _ => 0))), (q52, .inl (iA, 16, .inl (fun _ => 0)))] := hD
  refine lv_aload_n hx hb dX0_init_57 rfl (lv_at hl 0 rfl) ?_
  refine lv_bipush (v := 16) hx hb dX0_init_58 (by decide) ?_
  refine n_ai (N := 16) (idx0 := 0) X K hP hD hS hA (by decide) (by decide) (Nat.le_of_ble_eq_true rfl) (Nat.le_of_ble_eq_true rfl) (Nat.le_of_ble_eq_true rfl) dX0_init_60 (fun q60 H hP hD hS => ?_)
  have hP : va_P D vwCl [(h0, .inr (0, [.int 0, .ref q12, .ref q20, .ref q28, .ref q36, .ref q44, .ref q52, .null])), (q12, .inl (iA, 8, .inl (fun _ => 0))), (q20, .inl (iA, 8, .inl (fun _ => 0))), (q28, .inl (iA, 8, .inl (fun _ => 0))), (q36, .inl (iA, 8, .inl (fun _ => 0))), (q44, .inl (iA, 8, .inl (fun _ => 0))), (q52, .inl (iA, 16, .inl (fun _ => 0))), (q60, .inl (iA, 16, .inl (fun _ => 0)))] H := hP
  have hD : va_D A [(h0, .inr (0, [.int 0, .ref q12, .ref q20, .ref q28, .ref q36, .ref q44, .ref q52, .null])), (q12, .inl (iA, 8, .inl (fun _ => 0))), (q20, .inl (iA, 8, .inl (fun _ => 0))), (q28, .inl (iA, 8, .inl (fun _ => 0))), (q36, .inl (iA, 8, .inl (fun _ => 0))), (q44, .inl (iA, 8, .inl (fun _ => 0))), (q52, .inl (iA, 16, .inl (fun _ => 0))), (q60, .inl (iA, 16, .inl (fun _ => 0)))] := hD
  refine va_putF (ci := 0) (v := .ref q60) (ty := tyX0 7) (C := RX0) (T := TX0) (N := 8) hx hb X.2.2.2.2 inT0 tyX0 tyX0_ok nmX0 X.2.2.2.1 K.1 hP hD hS 0 rfl rfl 7 (by decide) (X.2.2.2.2 _ kw40) (fun _ h9 => h9) rfl hin rfl (by decide +kernel) rfl rfl (Nat.le_of_ble_eq_true rfl) dX0_init_62 (fun H locs hP hD hS => ?_)
  have hP : va_P D vwCl [(h0, .inr (0, [.int 0, .ref q12, .ref q20, .ref q28, .ref q36, .ref q44, .ref q52, .ref q60])), (q12, .inl (iA, 8, .inl (fun _ => 0))), (q20, .inl (iA, 8, .inl (fun _ => 0))), (q28, .inl (iA, 8, .inl (fun _ => 0))), (q36, .inl (iA, 8, .inl (fun _ => 0))), (q44, .inl (iA, 8, .inl (fun _ => 0))), (q52, .inl (iA, 16, .inl (fun _ => 0))), (q60, .inl (iA, 16, .inl (fun _ => 0)))] H := hP
  have hD : va_D A [(h0, .inr (0, [.int 0, .ref q12, .ref q20, .ref q28, .ref q36, .ref q44, .ref q52, .ref q60])), (q12, .inl (iA, 8, .inl (fun _ => 0))), (q20, .inl (iA, 8, .inl (fun _ => 0))), (q28, .inl (iA, 8, .inl (fun _ => 0))), (q36, .inl (iA, 8, .inl (fun _ => 0))), (q44, .inl (iA, 8, .inl (fun _ => 0))), (q52, .inl (iA, 16, .inl (fun _ => 0))), (q60, .inl (iA, 16, .inl (fun _ => 0)))] := hD
  refine W.widen (k := 7) (n := 72) (Nat.le_of_ble_eq_true rfl) (Nat.le_of_ble_eq_true rfl) ?_
  exact W.vret hx hb hr (fun t ht hW => ⟨⟨(fun k => [h0, q12, q20, q28, q36, q44, q52, q60].getD k 0), rfl, rfl, by rw [ht]; exact hP, hD⟩, hS.F ht⟩) hS.2.2 dX0_init_65 hlocks
def wpX1 (iA bA : ClassId) (a : Nat → Nat) : va_W := [(a 0, .inr (1, [.int 0, .ref (a 1), .int 0, .int 0, .int 0, .int 0, .int 0, .int 0, .int 0, .int 0, .int 0, .int 0])), (a 1, .inl (iA, 96, .inl (fun _ => 0)))]
set_option maxHeartbeats 4000000 in
set_option maxRecDepth 100000 in
theorem c_X1_init (l : Launch) (D : va_G) (iA bA : ClassId) (h0 sz : Nat) : Met l yX1_init (Cond.code yX1_init cX1_init 1 none :: tbl) { frames := 1, cells := 1, slots := 96, locals := 12 } (IPre D iA bA h0 [(h0, .inr (1, [.int 0, .null, .int 0, .int 0, .int 0, .int 0, .int 0, .int 0, .int 0, .int 0, .int 0, .int 0]))] sz) (IPost D h0 (wpX1 iA bA) (va_A [(h0, .inr (1, [.int 0, .null, .int 0, .int 0, .int 0, .int 0, .int 0, .int 0, .int 0, .int 0, .int 0, .int 0]))] sz)) 1 96 (va_A [(h0, .inr (1, [.int 0, .null, .int 0, .int 0, .int 0, .int 0, .int 0, .int 0, .int 0, .int 0, .int 0, .int 0]))] sz) := by
  refine Met.ofW (cc := cX1_init) (maxL := 1) (ret := none) (by decide) rfl ?_
  intro p e s m args below meth c s₁ B hml hv
  obtain ⟨rfl, hsz, hP, K, hD0⟩ := hv
  have hx := B.exec
  have hb := B.bytes
  have hr := B.returns
  have hts := atoms_spec (ws := Cond.code yX1_init cX1_init 1 none :: tbl) B.pre
  have hlocks := B.notSynchronized
  have hin : meth.name = "<init>" := (name_of_methodNamed B.named B.method).1
  have X : CallFix p m c cX1_init 1 s [Value.ref h0].toArray tbl RX1 := ⟨B.exec, B.bytes, hml, findClass_of_methodNamed B.named, fun w h => hts w (List.mem_cons_of_mem _ h)⟩
  subst hsz
  have hD := hD0.self (sz := s.heap.size)
  generalize hAe : va_A [(h0, .inr (1, [.int 0, .null, .int 0, .int 0, .int 0, .int 0, .int 0, .int 0, .int 0, .int 0, .int 0, .int 0]))] s.heap.size = A at hD ⊢
  have hA : ∀ q : Nat, s.heap.size ≤ q → A q := fun q h => by rw [← hAe]; exact Or.inr h
  have hS : va_S A s.heap s.heap [] := va_S.rf
  have hl := lv_entry ([.ref h0]) (n := 1) (Nat.le_of_ble_eq_true rfl)
  rw [lg_entry_eq]
  generalize (lg_sl ([.ref h0]) ++ List.replicate (1 - (lg_sl ([.ref h0])).length) Slot.unset).toArray = ls at hl ⊢
  have hl : lv_has ls 1 [(0, .ref h0)] := hl
  refine lv_aload_n hx hb dX1_init_0 rfl (lv_at hl 0 rfl) ?_
  refine W.objInit hx hb X.2.2.2.1 (X.2.2.2.2 _ kw202) (X.2.2.2.2 _ kw17) (X.2.2.2.2 _ kw18) rfl (by rw [X.2.2.1]; exact hl.1) rfl dX1_init_1 (Nat.le_of_ble_eq_true rfl) (Nat.le_of_ble_eq_true rfl) ?_
  refine W.eq (g2 := F0 m 4 ls []) rfl ?_
  refine lv_aload_n hx hb dX1_init_4 rfl (lv_at hl 0 rfl) ?_
  refine lv_iconst (v := 0) hx hb dX1_init_5 (by decide) ?_
  refine va_put (ci := 1) (v := .int 0) (ty := tyX1 0) (C := RX1) (T := TX1) (N := 12) hx hb X.2.2.2.2 inT1 tyX1 tyX1_ok nmX1 X.2.2.2.1 K.1 hP hD hS 0 rfl rfl 0 (by decide) (X.2.2.2.2 _ kw203) (fun _ h9 => h9) rfl (by decide +kernel) rfl rfl (Nat.le_of_ble_eq_true rfl) dX1_init_6 (fun H locs hP hD hS => ?_)
  have hP : va_P D vwCl [(h0, .inr (1, [.int 0, .null, .int 0, .int 0, .int 0, .int 0, .int 0, .int 0, .int 0, .int 0, .int 0, .int 0]))] H := hP
  have hD : va_D A [(h0, .inr (1, [.int 0, .null, .int 0, .int 0, .int 0, .int 0, .int 0, .int 0, .int 0, .int 0, .int 0, .int 0]))] := hD
  refine lv_aload_n hx hb dX1_init_9 rfl (lv_at hl 0 rfl) ?_
  refine lv_bipush (v := 96) hx hb dX1_init_10 (by decide) ?_
  refine n_ai (N := 96) (idx0 := 0) X K hP hD hS hA (by decide) (by decide) (Nat.le_of_ble_eq_true rfl) (Nat.le_of_ble_eq_true rfl) (Nat.le_of_ble_eq_true rfl) dX1_init_12 (fun q12 H hP hD hS => ?_)
  have hP : va_P D vwCl [(h0, .inr (1, [.int 0, .null, .int 0, .int 0, .int 0, .int 0, .int 0, .int 0, .int 0, .int 0, .int 0, .int 0])), (q12, .inl (iA, 96, .inl (fun _ => 0)))] H := hP
  have hD : va_D A [(h0, .inr (1, [.int 0, .null, .int 0, .int 0, .int 0, .int 0, .int 0, .int 0, .int 0, .int 0, .int 0, .int 0])), (q12, .inl (iA, 96, .inl (fun _ => 0)))] := hD
  refine va_putF (ci := 1) (v := .ref q12) (ty := tyX1 1) (C := RX1) (T := TX1) (N := 12) hx hb X.2.2.2.2 inT1 tyX1 tyX1_ok nmX1 X.2.2.2.1 K.1 hP hD hS 0 rfl rfl 1 (by decide) (X.2.2.2.2 _ kw205) (fun _ h9 => h9) rfl hin rfl (by decide +kernel) rfl rfl (Nat.le_of_ble_eq_true rfl) dX1_init_14 (fun H locs hP hD hS => ?_)
  have hP : va_P D vwCl [(h0, .inr (1, [.int 0, .ref q12, .int 0, .int 0, .int 0, .int 0, .int 0, .int 0, .int 0, .int 0, .int 0, .int 0])), (q12, .inl (iA, 96, .inl (fun _ => 0)))] H := hP
  have hD : va_D A [(h0, .inr (1, [.int 0, .ref q12, .int 0, .int 0, .int 0, .int 0, .int 0, .int 0, .int 0, .int 0, .int 0, .int 0])), (q12, .inl (iA, 96, .inl (fun _ => 0)))] := hD
  refine lv_aload_n hx hb dX1_init_17 rfl (lv_at hl 0 rfl) ?_
  refine lv_iconst (v := 0) hx hb dX1_init_18 (by decide) ?_
  refine va_put (ci := 1) (v := .int 0) (ty := tyX1 2) (C := RX1) (T := TX1) (N := 12) hx hb X.2.2.2.2 inT1 tyX1 tyX1_ok nmX1 X.2.2.2.1 K.1 hP hD hS 0 rfl rfl 2 (by decide) (X.2.2.2.2 _ kw206) (fun _ h9 => h9) rfl (by decide +kernel) rfl rfl (Nat.le_of_ble_eq_true rfl) dX1_init_19 (fun H locs hP hD hS => ?_)
  have hP : va_P D vwCl [(h0, .inr (1, [.int 0, .ref q12, .int 0, .int 0, .int 0, .int 0, .int 0, .int 0, .int 0, .int 0, .int 0, .int 0])), (q12, .inl (iA, 96, .inl (fun _ => 0)))] H := hP
  have hD : va_D A [(h0, .inr (1, [.int 0, .ref q12, .int 0, .int 0, .int 0, .int 0, .int 0, .int 0, .int 0, .int 0, .int 0, .int 0])), (q12, .inl (iA, 96, .inl (fun _ => 0)))] := hD
  change W _ _ _ _ _ _ _ _ _ _ _ _ _ _ _ (F0 m 22 ls _)
  refine lv_aload_n hx hb dX1_init_22 rfl (lv_at hl 0 rfl) ?_
  refine lv_iconst (v := 0) hx hb dX1_init_23 (by decide) ?_
  refine va_put (ci := 1) (v := .int 0) (ty := tyX1 3) (C := RX1) (T := TX1) (N := 12) hx hb X.2.2.2.2 inT1 tyX1 tyX1_ok nmX1 X.2.2.2.1 K.1 hP hD hS 0 rfl rfl 3 (by decide) (X.2.2.2.2 _ kw207) (fun _ h9 => h9) rfl (by decide +kernel) rfl rfl (Nat.le_of_ble_eq_true rfl) dX1_init_24 (fun H locs hP hD hS => ?_)
  have hP : va_P D vwCl [(h0, .inr (1, [.int 0, .ref q12, .int 0, .int 0, .int 0, .int 0, .int 0, .int 0, .int 0, .int 0, .int 0, .int 0])), (q12, .inl (iA, 96, .inl (fun _ => 0)))] H := hP
  have hD : va_D A [(h0, .inr (1, [.int 0, .ref q12, .int 0, .int 0, .int 0, .int 0, .int 0, .int 0, .int 0, .int 0, .int 0, .int 0])), (q12, .inl (iA, 96, .inl (fun _ => 0)))] := hD
  refine lv_aload_n hx hb dX1_init_27 rfl (lv_at hl 0 rfl) ?_
  refine lv_iconst (v := 0) hx hb dX1_init_28 (by decide) ?_
  refine va_put (ci := 1) (v := .int 0) (ty := tyX1 4) (C := RX1) (T := TX1) (N := 12) hx hb X.2.2.2.2 inT1 tyX1 tyX1_ok nmX1 X.2.2.2.1 K.1 hP hD hS 0 rfl rfl 4 (by decide) (X.2.2.2.2 _ kw208) (fun _ h9 => h9) rfl (by decide +kernel) rfl rfl (Nat.le_of_ble_eq_true rfl) dX1_init_29 (fun H locs hP hD hS => ?_)
  have hP : va_P D vwCl [(h0, .inr (1, [.int 0, .ref q12, .int 0, .int 0, .int 0, .int 0, .int 0, .int 0, .int 0, .int 0, .int 0, .int 0])), (q12, .inl (iA, 96, .inl (fun _ => 0)))] H := hP
  have hD : va_D A [(h0, .inr (1, [.int 0, .ref q12, .int 0, .int 0, .int 0, .int 0, .int 0, .int 0, .int 0, .int 0, .int 0, .int 0])), (q12, .inl (iA, 96, .inl (fun _ => 0)))] := hD
  refine lv_aload_n hx hb dX1_init_32 rfl (lv_at hl 0 rfl) ?_
  refine lv_iconst (v := 0) hx hb dX1_init_33 (by decide) ?_
  refine va_put (ci := 1) (v := .int 0) (ty := tyX1 5) (C := RX1) (T := TX1) (N := 12) hx hb X.2.2.2.2 inT1 tyX1 tyX1_ok nmX1 X.2.2.2.1 K.1 hP hD hS 0 rfl rfl 5 (by decide) (X.2.2.2.2 _ kw209) (fun _ h9 => h9) rfl (by decide +kernel) rfl rfl (Nat.le_of_ble_eq_true rfl) dX1_init_34 (fun H locs hP hD hS => ?_)
  have hP : va_P D vwCl [(h0, .inr (1, [.int 0, .ref q12, .int 0, .int 0, .int 0, .int 0, .int 0, .int 0, .int 0, .int 0, .int 0, .int 0])), (q12, .inl (iA, 96, .inl (fun _ => 0)))] H := hP
  have hD : va_D A [(h0, .inr (1, [.int 0, .ref q12, .int 0, .int 0, .int 0, .int 0, .int 0, .int 0, .int 0, .int 0, .int 0, .int 0])), (q12, .inl (iA, 96, .inl (fun _ => 0)))] := hD
  refine lv_aload_n hx hb dX1_init_37 rfl (lv_at hl 0 rfl) ?_
  refine lv_iconst (v := 0) hx hb dX1_init_38 (by decide) ?_
  refine va_put (ci := 1) (v := .int 0) (ty := tyX1 6) (C := RX1) (T := TX1) (N := 12) hx hb X.2.2.2.2 inT1 tyX1 tyX1_ok nmX1 X.2.2.2.1 K.1 hP hD hS 0 rfl rfl 6 (by decide) (X.2.2.2.2 _ kw210) (fun _ h9 => h9) rfl (by decide +kernel) rfl rfl (Nat.le_of_ble_eq_true rfl) dX1_init_39 (fun H locs hP hD hS => ?_)
  have hP : va_P D vwCl [(h0, .inr (1, [.int 0, .ref q12, .int 0, .int 0, .int 0, .int 0, .int 0, .int 0, .int 0, .int 0, .int 0, .int 0])), (q12, .inl (iA, 96, .inl (fun _ => 0)))] H := hP
  have hD : va_D A [(h0, .inr (1, [.int 0, .ref q12, .int 0, .int 0, .int 0, .int 0, .int 0, .int 0, .int 0, .int 0, .int 0, .int 0])), (q12, .inl (iA, 96, .inl (fun _ => 0)))] := hD
  change W _ _ _ _ _ _ _ _ _ _ _ _ _ _ _ (F0 m 42 ls _)
  refine lv_aload_n hx hb dX1_init_42 rfl (lv_at hl 0 rfl) ?_
  refine lv_iconst (v := 0) hx hb dX1_init_43 (by decide) ?_
  refine va_put (ci := 1) (v := .int 0) (ty := tyX1 7) (C := RX1) (T := TX1) (N := 12) hx hb X.2.2.2.2 inT1 tyX1 tyX1_ok nmX1 X.2.2.2.1 K.1 hP hD hS 0 rfl rfl 7 (by decide) (X.2.2.2.2 _ kw211) (fun _ h9 => h9) rfl (by decide +kernel) rfl rfl (Nat.le_of_ble_eq_true rfl) dX1_init_44 (fun H locs hP hD hS => ?_)
  have hP : va_P D vwCl [(h0, .inr (1, [.int 0, .ref q12, .int 0, .int 0, .int 0, .int 0, .int 0, .int 0, .int 0, .int 0, .int 0, .int 0])), (q12, .inl (iA, 96, .inl (fun _ => 0)))] H := hP
  have hD : va_D A [(h0, .inr (1, [.int 0, .ref q12, .int 0, .int 0, .int 0, .int 0, .int 0, .int 0, .int 0, .int 0, .int 0, .int 0])), (q12, .inl (iA, 96, .inl (fun _ => 0)))] := hD
  refine lv_aload_n hx hb dX1_init_47 rfl (lv_at hl 0 rfl) ?_
  refine lv_iconst (v := 0) hx hb dX1_init_48 (by decide) ?_
  refine va_put (ci := 1) (v := .int 0) (ty := tyX1 8) (C := RX1) (T := TX1) (N := 12) hx hb X.2.2.2.2 inT1 tyX1 tyX1_ok nmX1 X.2.2.2.1 K.1 hP hD hS 0 rfl rfl 8 (by decide) (X.2.2.2.2 _ kw212) (fun _ h9 => h9) rfl (by decide +kernel) rfl rfl (Nat.le_of_ble_eq_true rfl) dX1_init_49 (fun H locs hP hD hS => ?_)
  have hP : va_P D vwCl [(h0, .inr (1, [.int 0, .ref q12, .int 0, .int 0, .int 0, .int 0, .int 0, .int 0, .int 0, .int 0, .int 0, .int 0])), (q12, .inl (iA, 96, .inl (fun _ => 0)))] H := hP
  have hD : va_D A [(h0, .inr (1, [.int 0, .ref q12, .int 0, .int 0, .int 0, .int 0, .int 0, .int 0, .int 0, .int 0, .int 0, .int 0])), (q12, .inl (iA, 96, .inl (fun _ => 0)))] := hD
  refine lv_aload_n hx hb dX1_init_52 rfl (lv_at hl 0 rfl) ?_
  refine lv_iconst (v := 0) hx hb dX1_init_53 (by decide) ?_
  refine va_put (ci := 1) (v := .int 0) (ty := tyX1 9) (C := RX1) (T := TX1) (N := 12) hx hb X.2.2.2.2 inT1 tyX1 tyX1_ok nmX1 X.2.2.2.1 K.1 hP hD hS 0 rfl rfl 9 (by decide) (X.2.2.2.2 _ kw213) (fun _ h9 => h9) rfl (by decide +kernel) rfl rfl (Nat.le_of_ble_eq_true rfl) dX1_init_54 (fun H locs hP hD hS => ?_)
  have hP : va_P D vwCl [(h0, .inr (1, [.int 0, .ref q12, .int 0, .int 0, .int 0, .int 0, .int 0, .int 0, .int 0, .int 0, .int 0, .int 0])), (q12, .inl (iA, 96, .inl (fun _ => 0)))] H := hP
  have hD : va_D A [(h0, .inr (1, [.int 0, .ref q12, .int 0, .int 0, .int 0, .int 0, .int 0, .int 0, .int 0, .int 0, .int 0, .int 0])), (q12, .inl (iA, 96, .inl (fun _ => 0)))] := hD
  refine lv_aload_n hx hb dX1_init_57 rfl (lv_at hl 0 rfl) ?_
  refine lv_iconst (v := 0) hx hb dX1_init_58 (by decide) ?_
  refine va_put (ci := 1) (v := .int 0) (ty := tyX1 10) (C := RX1) (T := TX1) (N := 12) hx hb X.2.2.2.2 inT1 tyX1 tyX1_ok nmX1 X.2.2.2.1 K.1 hP hD hS 0 rfl rfl 10 (by decide) (X.2.2.2.2 _ kw214) (fun _ h9 => h9) rfl (by decide +kernel) rfl rfl (Nat.le_of_ble_eq_true rfl) dX1_init_59 (fun H locs hP hD hS => ?_)
  have hP : va_P D vwCl [(h0, .inr (1, [.int 0, .ref q12, .int 0, .int 0, .int 0, .int 0, .int 0, .int 0, .int 0, .int 0, .int 0, .int 0])), (q12, .inl (iA, 96, .inl (fun _ => 0)))] H := hP
  have hD : va_D A [(h0, .inr (1, [.int 0, .ref q12, .int 0, .int 0, .int 0, .int 0, .int 0, .int 0, .int 0, .int 0, .int 0, .int 0])), (q12, .inl (iA, 96, .inl (fun _ => 0)))] := hD
  change W _ _ _ _ _ _ _ _ _ _ _ _ _ _ _ (F0 m 62 ls _)
  refine lv_aload_n hx hb dX1_init_62 rfl (lv_at hl 0 rfl) ?_
  refine lv_iconst (v := 0) hx hb dX1_init_63 (by decide) ?_
  refine va_put (ci := 1) (v := .int 0) (ty := tyX1 11) (C := RX1) (T := TX1) (N := 12) hx hb X.2.2.2.2 inT1 tyX1 tyX1_ok nmX1 X.2.2.2.1 K.1 hP hD hS 0 rfl rfl 11 (by decide) (X.2.2.2.2 _ kw215) (fun _ h9 => h9) rfl (by decide +kernel) rfl rfl (Nat.le_of_ble_eq_true rfl) dX1_init_64 (fun H locs hP hD hS => ?_)
  have hP : va_P D vwCl [(h0, .inr (1, [.int 0, .ref q12, .int 0, .int 0, .int 0, .int 0, .int 0, .int 0, .int 0, .int 0, .int 0, .int 0])), (q12, .inl (iA, 96, .inl (fun _ => 0)))] H := hP
  have hD : va_D A [(h0, .inr (1, [.int 0, .ref q12, .int 0, .int 0, .int 0, .int 0, .int 0, .int 0, .int 0, .int 0, .int 0, .int 0])), (q12, .inl (iA, 96, .inl (fun _ => 0)))] := hD
  refine W.widen (k := 1) (n := 96) (Nat.le_of_ble_eq_true rfl) (Nat.le_of_ble_eq_true rfl) ?_
  exact W.vret hx hb hr (fun t ht hW => ⟨⟨(fun k => [h0, q12].getD k 0), rfl, rfl, by rw [ht]; exact hP, hD⟩, hS.F ht⟩) hS.2.2 dX1_init_67 hlocks
def wpX2 (iA bA : ClassId) (a : Nat → Nat) : va_W := [(a 0, .inr (2, [.int 0, .int 8, .int 0, .int 0, .int 1]))]
set_option maxHeartbeats 4000000 in
set_option maxRecDepth 100000 in
theorem c_X2_init (l : Launch) (D : va_G) (iA bA : ClassId) (h0 sz : Nat) : Met l yX2_init (Cond.code yX2_init cX2_init 1 none :: tbl) { frames := 1, cells := 0, slots := 0, locals := 12 } (IPre D iA bA h0 [(h0, .inr (2, [.int 0, .int 0, .int 0, .int 0, .int 0]))] sz) (IPost D h0 (wpX2 iA bA) (va_A [(h0, .inr (2, [.int 0, .int 0, .int 0, .int 0, .int 0]))] sz)) 0 0 (va_A [(h0, .inr (2, [.int 0, .int 0, .int 0, .int 0, .int 0]))] sz) := by
  refine Met.ofW (cc := cX2_init) (maxL := 1) (ret := none) (by decide) rfl ?_
  intro p e s m args below meth c s₁ B hml hv
  obtain ⟨rfl, hsz, hP, K, hD0⟩ := hv
  have hx := B.exec
  have hb := B.bytes
  have hr := B.returns
  have hts := atoms_spec (ws := Cond.code yX2_init cX2_init 1 none :: tbl) B.pre
  have hlocks := B.notSynchronized
  have hin : meth.name = "<init>" := (name_of_methodNamed B.named B.method).1
  have X : CallFix p m c cX2_init 1 s [Value.ref h0].toArray tbl RX2 := ⟨B.exec, B.bytes, hml, findClass_of_methodNamed B.named, fun w h => hts w (List.mem_cons_of_mem _ h)⟩
  subst hsz
  have hD := hD0.self (sz := s.heap.size)
  generalize hAe : va_A [(h0, .inr (2, [.int 0, .int 0, .int 0, .int 0, .int 0]))] s.heap.size = A at hD ⊢
  have hA : ∀ q : Nat, s.heap.size ≤ q → A q := fun q h => by rw [← hAe]; exact Or.inr h
  have hS : va_S A s.heap s.heap [] := va_S.rf
  have hl := lv_entry ([.ref h0]) (n := 1) (Nat.le_of_ble_eq_true rfl)
  rw [lg_entry_eq]
  generalize (lg_sl ([.ref h0]) ++ List.replicate (1 - (lg_sl ([.ref h0])).length) Slot.unset).toArray = ls at hl ⊢
  have hl : lv_has ls 1 [(0, .ref h0)] := hl
  refine lv_aload_n hx hb dX2_init_0 rfl (lv_at hl 0 rfl) ?_
  refine W.objInit hx hb X.2.2.2.1 (X.2.2.2.2 _ kw125) (X.2.2.2.2 _ kw17) (X.2.2.2.2 _ kw18) rfl (by rw [X.2.2.1]; exact hl.1) rfl dX2_init_1 (Nat.le_of_ble_eq_true rfl) (Nat.le_of_ble_eq_true rfl) ?_
  refine W.eq (g2 := F0 m 4 ls []) rfl ?_
  refine lv_aload_n hx hb dX2_init_4 rfl (lv_at hl 0 rfl) ?_
  refine lv_iconst (v := 0) hx hb dX2_init_5 (by decide) ?_
  refine va_put (ci := 2) (v := .int 0) (ty := tyX2 0) (C := RX2) (T := TX2) (N := 5) hx hb X.2.2.2.2 inT2 tyX2 tyX2_ok nmX2 X.2.2.2.1 K.1 hP hD hS 0 rfl rfl 0 (by decide) (X.2.2.2.2 _ kw126) (fun _ h9 => h9) rfl (by decide +kernel) rfl rfl (Nat.le_of_ble_eq_true rfl) dX2_init_6 (fun H locs hP hD hS => ?_)
  have hP : va_P D vwCl [(h0, .inr (2, [.int 0, .int 0, .int 0, .int 0, .int 0]))] H := hP
  have hD : va_D A [(h0, .inr (2, [.int 0, .int 0, .int 0, .int 0, .int 0]))] := hD
  refine lv_aload_n hx hb dX2_init_9 rfl (lv_at hl 0 rfl) ?_
  refine lv_bipush (v := 8) hx hb dX2_init_10 (by decide) ?_
  refine va_put (ci := 2) (v := .int 8) (ty := tyX2 1) (C := RX2) (T := TX2) (N := 5) hx hb X.2.2.2.2 inT2 tyX2 tyX2_ok nmX2 X.2.2.2.1 K.1 hP hD hS 0 rfl rfl 1 (by decide) (X.2.2.2.2 _ kw129) (fun _ h9 => h9) rfl (by decide +kernel) rfl rfl (Nat.le_of_ble_eq_true rfl) dX2_init_12 (fun H locs hP hD hS => ?_)
  have hP : va_P D vwCl [(h0, .inr (2, [.int 0, .int 8, .int 0, .int 0, .int 0]))] H := hP
  have hD : va_D A [(h0, .inr (2, [.int 0, .int 8, .int 0, .int 0, .int 0]))] := hD
  refine lv_aload_n hx hb dX2_init_15 rfl (lv_at hl 0 rfl) ?_
  refine lv_iconst (v := 0) hx hb dX2_init_16 (by decide) ?_
  refine va_put (ci := 2) (v := .int 0) (ty := tyX2 2) (C := RX2) (T := TX2) (N := 5) hx hb X.2.2.2.2 inT2 tyX2 tyX2_ok nmX2 X.2.2.2.1 K.1 hP hD hS 0 rfl rfl 2 (by decide) (X.2.2.2.2 _ kw132) (fun _ h9 => h9) rfl (by decide +kernel) rfl rfl (Nat.le_of_ble_eq_true rfl) dX2_init_17 (fun H locs hP hD hS => ?_)
  have hP : va_P D vwCl [(h0, .inr (2, [.int 0, .int 8, .int 0, .int 0, .int 0]))] H := hP
  have hD : va_D A [(h0, .inr (2, [.int 0, .int 8, .int 0, .int 0, .int 0]))] := hD
  refine lv_aload_n hx hb dX2_init_20 rfl (lv_at hl 0 rfl) ?_
  change W _ _ _ _ _ _ _ _ _ _ _ _ _ _ _ (F0 m 21 ls _)
  refine lv_iconst (v := 0) hx hb dX2_init_21 (by decide) ?_
  refine va_put (ci := 2) (v := .int 0) (ty := tyX2 3) (C := RX2) (T := TX2) (N := 5) hx hb X.2.2.2.2 inT2 tyX2 tyX2_ok nmX2 X.2.2.2.1 K.1 hP hD hS 0 rfl rfl 3 (by decide) (X.2.2.2.2 _ kw135) (fun _ h9 => h9) rfl (by decide +kernel) rfl rfl (Nat.le_of_ble_eq_true rfl) dX2_init_22 (fun H locs hP hD hS => ?_)
  have hP : va_P D vwCl [(h0, .inr (2, [.int 0, .int 8, .int 0, .int 0, .int 0]))] H := hP
  have hD : va_D A [(h0, .inr (2, [.int 0, .int 8, .int 0, .int 0, .int 0]))] := hD
  refine lv_aload_n hx hb dX2_init_25 rfl (lv_at hl 0 rfl) ?_
  refine lv_iconst (v := 1) hx hb dX2_init_26 (by decide) ?_
  refine va_put (ci := 2) (v := .int 1) (ty := tyX2 4) (C := RX2) (T := TX2) (N := 5) hx hb X.2.2.2.2 inT2 tyX2 tyX2_ok nmX2 X.2.2.2.1 K.1 hP hD hS 0 rfl rfl 4 (by decide) (X.2.2.2.2 _ kw137) (fun _ h9 => h9) rfl (by decide +kernel) rfl rfl (Nat.le_of_ble_eq_true rfl) dX2_init_27 (fun H locs hP hD hS => ?_)
  have hP : va_P D vwCl [(h0, .inr (2, [.int 0, .int 8, .int 0, .int 0, .int 1]))] H := hP
  have hD : va_D A [(h0, .inr (2, [.int 0, .int 8, .int 0, .int 0, .int 1]))] := hD
  refine W.widen (k := 0) (n := 0) (Nat.le_of_ble_eq_true rfl) (Nat.le_of_ble_eq_true rfl) ?_
  exact W.vret hx hb hr (fun t ht hW => ⟨⟨(fun k => [h0].getD k 0), rfl, rfl, by rw [ht]; exact hP, hD⟩, hS.F ht⟩) hS.2.2 dX2_init_30 hlocks
def wpX4 (iA bA : ClassId) (a : Nat → Nat) : va_W := [(a 0, .inr (4, [.int 0, .ref (a 1), .ref (a 2), .ref (a 3)])), (a 1, .inl (iA, 8, .inl (fun _ => 0))), (a 2, .inl (iA, 8, .inl (fun _ => 0))), (a 3, .inl (iA, 8, .inl (fun _ => 0)))]
set_option maxHeartbeats 4000000 in
set_option maxRecDepth 100000 in
theorem c_X4_init (l : Launch) (D : va_G) (iA bA : ClassId) (h0 sz : Nat) : Met l yX4_init (Cond.code yX4_init cX4_init 1 none :: tbl) { frames := 1, cells := 3, slots := 24, locals := 12 } (IPre D iA bA h0 [(h0, .inr (4, [.int 0, .null, .null, .null]))] sz) (IPost D h0 (wpX4 iA bA) (va_A [(h0, .inr (4, [.int 0, .null, .null, .null]))] sz)) 3 24 (va_A [(h0, .inr (4, [.int 0, .null, .null, .null]))] sz) := by
  refine Met.ofW (cc := cX4_init) (maxL := 1) (ret := none) (by decide) rfl ?_
  intro p e s m args below meth c s₁ B hml hv
  obtain ⟨rfl, hsz, hP, K, hD0⟩ := hv
  have hx := B.exec
  have hb := B.bytes
  have hr := B.returns
  have hts := atoms_spec (ws := Cond.code yX4_init cX4_init 1 none :: tbl) B.pre
  have hlocks := B.notSynchronized
  have hin : meth.name = "<init>" := (name_of_methodNamed B.named B.method).1
  have X : CallFix p m c cX4_init 1 s [Value.ref h0].toArray tbl RX4 := ⟨B.exec, B.bytes, hml, findClass_of_methodNamed B.named, fun w h => hts w (List.mem_cons_of_mem _ h)⟩
  subst hsz
  have hD := hD0.self (sz := s.heap.size)
  generalize hAe : va_A [(h0, .inr (4, [.int 0, .null, .null, .null]))] s.heap.size = A at hD ⊢
  have hA : ∀ q : Nat, s.heap.size ≤ q → A q := fun q h => by rw [← hAe]; exact Or.inr h
  have hS : va_S A s.heap s.heap [] := va_S.rf
  have hl := lv_entry ([.ref h0]) (n := 1) (Nat.le_of_ble_eq_true rfl)
  rw [lg_entry_eq]
  generalize (lg_sl ([.ref h0]) ++ List.replicate (1 - (lg_sl ([.ref h0])).length) Slot.unset).toArray = ls at hl ⊢
  have hl : lv_has ls 1 [(0, .ref h0)] := hl
  refine lv_aload_n hx hb dX4_init_0 rfl (lv_at hl 0 rfl) ?_
  refine W.objInit hx hb X.2.2.2.1 (X.2.2.2.2 _ kw100) (X.2.2.2.2 _ kw17) (X.2.2.2.2 _ kw18) rfl (by rw [X.2.2.1]; exact hl.1) rfl dX4_init_1 (Nat.le_of_ble_eq_true rfl) (Nat.le_of_ble_eq_true rfl) ?_
  refine W.eq (g2 := F0 m 4 ls []) rfl ?_
  refine lv_aload_n hx hb dX4_init_4 rfl (lv_at hl 0 rfl) ?_
  refine lv_iconst (v := 0) hx hb dX4_init_5 (by decide) ?_
  refine va_put (ci := 4) (v := .int 0) (ty := tyX4 0) (C := RX4) (T := TX4) (N := 4) hx hb X.2.2.2.2 inT4 tyX4 tyX4_ok nmX4 X.2.2.2.1 K.1 hP hD hS 0 rfl rfl 0 (by decide) (X.2.2.2.2 _ kw101) (fun _ h9 => h9) rfl (by decide +kernel) rfl rfl (Nat.le_of_ble_eq_true rfl) dX4_init_6 (fun H locs hP hD hS => ?_)
  have hP : va_P D vwCl [(h0, .inr (4, [.int 0, .null, .null, .null]))] H := hP
  have hD : va_D A [(h0, .inr (4, [.int 0, .null, .null, .null]))] := hD
  refine lv_aload_n hx hb dX4_init_9 rfl (lv_at hl 0 rfl) ?_
  refine lv_bipush (v := 8) hx hb dX4_init_10 (by decide) ?_
  refine n_ai (N := 8) (idx0 := 0) X K hP hD hS hA (by decide) (by decide) (Nat.le_of_ble_eq_true rfl) (Nat.le_of_ble_eq_true rfl) (Nat.le_of_ble_eq_true rfl) dX4_init_12 (fun q12 H hP hD hS => ?_)
  have hP : va_P D vwCl [(h0, .inr (4, [.int 0, .null, .null, .null])), (q12, .inl (iA, 8, .inl (fun _ => 0)))] H := hP
  have hD : va_D A [(h0, .inr (4, [.int 0, .null, .null, .null])), (q12, .inl (iA, 8, .inl (fun _ => 0)))] := hD
  refine va_putF (ci := 4) (v := .ref q12) (ty := tyX4 1) (C := RX4) (T := TX4) (N := 4) hx hb X.2.2.2.2 inT4 tyX4 tyX4_ok nmX4 X.2.2.2.1 K.1 hP hD hS 0 rfl rfl 1 (by decide) (X.2.2.2.2 _ kw104) (fun _ h9 => h9) rfl hin rfl (by decide +kernel) rfl rfl (Nat.le_of_ble_eq_true rfl) dX4_init_14 (fun H locs hP hD hS => ?_)
  have hP : va_P D vwCl [(h0, .inr (4, [.int 0, .ref q12, .null, .null])), (q12, .inl (iA, 8, .inl (fun _ => 0)))] H := hP
  have hD : va_D A [(h0, .inr (4, [.int 0, .ref q12, .null, .null])), (q12, .inl (iA, 8, .inl (fun _ => 0)))] := hD
  refine lv_aload_n hx hb dX4_init_17 rfl (lv_at hl 0 rfl) ?_
  refine lv_bipush (v := 8) hx hb dX4_init_18 (by decide) ?_
  refine n_ai (N := 8) (idx0 := 0) X K hP hD hS hA (by decide) (by decide) (Nat.le_of_ble_eq_true rfl) (Nat.le_of_ble_eq_true rfl) (Nat.le_of_ble_eq_true rfl) dX4_init_20 (fun q20 H hP hD hS => ?_)
  have hP : va_P D vwCl [(h0, .inr (4, [.int 0, .ref q12, .null, .null])), (q12, .inl (iA, 8, .inl (fun _ => 0))), (q20, .inl (iA, 8, .inl (fun _ => 0)))] H := hP
  have hD : va_D A [(h0, .inr (4, [.int 0, .ref q12, .null, .null])), (q12, .inl (iA, 8, .inl (fun _ => 0))), (q20, .inl (iA, 8, .inl (fun _ => 0)))] := hD
  change W _ _ _ _ _ _ _ _ _ _ _ _ _ _ _ (F0 m 22 ls _)
  refine va_putF (ci := 4) (v := .ref q20) (ty := tyX4 2) (C := RX4) (T := TX4) (N := 4) hx hb X.2.2.2.2 inT4 tyX4 tyX4_ok nmX4 X.2.2.2.1 K.1 hP hD hS 0 rfl rfl 2 (by decide) (X.2.2.2.2 _ kw106) (fun _ h9 => h9) rfl hin rfl (by decide +kernel) rfl rfl (Nat.le_of_ble_eq_true rfl) dX4_init_22 (fun H locs hP hD hS => ?_)
  have hP : va_P D vwCl [(h0, .inr (4, [.int 0, .ref q12, .ref q20, .null])), (q12, .inl (iA, 8, .inl (fun _ => 0))), (q20, .inl (iA, 8, .inl (fun _ => 0)))] H := hP
  have hD : va_D A [(h0, .inr (4, [.int 0, .ref q12, .ref q20, .null])), (q12, .inl (iA, 8, .inl (fun _ => 0))), (q20, .inl (iA, 8, .inl (fun _ => 0)))] := hD
  refine lv_aload_n hx hb dX4_init_25 rfl (lv_at hl 0 rfl) ?_
  refine lv_bipush (v := 8) hx hb dX4_init_26 (by decide) ?_
  refine n_ai (N := 8) (idx0 := 0) X K hP hD hS hA (by decide) (by decide) (Nat.le_of_ble_eq_true rfl) (Nat.le_of_ble_eq_true rfl) (Nat.le_of_ble_eq_true rfl) dX4_init_28 (fun q28 H hP hD hS => ?_)
  have hP : va_P D vwCl [(h0, .inr (4, [.int 0, .ref q12, .ref q20, .null])), (q12, .inl (iA, 8, .inl (fun _ => 0))), (q20, .inl (iA, 8, .inl (fun _ => 0))), (q28, .inl (iA, 8, .inl (fun _ => 0)))] H := hP
  have hD : va_D A [(h0, .inr (4, [.int 0, .ref q12, .ref q20, .null])), (q12, .inl (iA, 8, .inl (fun _ => 0))), (q20, .inl (iA, 8, .inl (fun _ => 0))), (q28, .inl (iA, 8, .inl (fun _ => 0)))] := hD
  refine va_putF (ci := 4) (v := .ref q28) (ty := tyX4 3) (C := RX4) (T := TX4) (N := 4) hx hb X.2.2.2.2 inT4 tyX4 tyX4_ok nmX4 X.2.2.2.1 K.1 hP hD hS 0 rfl rfl 3 (by decide) (X.2.2.2.2 _ kw108) (fun _ h9 => h9) rfl hin rfl (by decide +kernel) rfl rfl (Nat.le_of_ble_eq_true rfl) dX4_init_30 (fun H locs hP hD hS => ?_)
  have hP : va_P D vwCl [(h0, .inr (4, [.int 0, .ref q12, .ref q20, .ref q28])), (q12, .inl (iA, 8, .inl (fun _ => 0))), (q20, .inl (iA, 8, .inl (fun _ => 0))), (q28, .inl (iA, 8, .inl (fun _ => 0)))] H := hP
  have hD : va_D A [(h0, .inr (4, [.int 0, .ref q12, .ref q20, .ref q28])), (q12, .inl (iA, 8, .inl (fun _ => 0))), (q20, .inl (iA, 8, .inl (fun _ => 0))), (q28, .inl (iA, 8, .inl (fun _ => 0)))] := hD
  refine W.widen (k := 3) (n := 24) (Nat.le_of_ble_eq_true rfl) (Nat.le_of_ble_eq_true rfl) ?_
  exact W.vret hx hb hr (fun t ht hW => ⟨⟨(fun k => [h0, q12, q20, q28].getD k 0), rfl, rfl, by rw [ht]; exact hP, hD⟩, hS.F ht⟩) hS.2.2 dX4_init_33 hlocks
def wpX5 (iA bA : ClassId) (a : Nat → Nat) : va_W := [(a 0, .inr (5, [.int 0, .ref (a 1), .ref (a 2), .ref (a 3), .ref (a 4), .ref (a 5), .int 0])), (a 1, .inl (iA, 24, .inl (fun _ => 0))), (a 2, .inl (iA, 24, .inl (fun _ => 0))), (a 3, .inl (iA, 24, .inl (fun _ => 0))), (a 4, .inl (iA, 24, .inl (fun _ => 0))), (a 5, .inl (iA, 24, .inl (fun _ => 0)))]
set_option maxHeartbeats 4000000 in
set_option maxRecDepth 100000 in
theorem c_X5_init (l : Launch) (D : va_G) (iA bA : ClassId) (h0 sz : Nat) : Met l yX5_init (Cond.code yX5_init cX5_init 1 none :: tbl) { frames := 1, cells := 5, slots := 120, locals := 12 } (IPre D iA bA h0 [(h0, .inr (5, [.int 0, .null, .null, .null, .null, .null, .int 0]))] sz) (IPost D h0 (wpX5 iA bA) (va_A [(h0, .inr (5, [.int 0, .null, .null, .null, .null, .null, .int 0]))] sz)) 5 120 (va_A [(h0, .inr (5, [.int 0, .null, .null, .null, .null, .null, .int 0]))] sz) := by
  refine Met.ofW (cc := cX5_init) (maxL := 1) (ret := none) (by decide) rfl ?_
  intro p e s m args below meth c s₁ B hml hv
  obtain ⟨rfl, hsz, hP, K, hD0⟩ := hv
  have hx := B.exec
  have hb := B.bytes
  have hr := B.returns
  have hts := atoms_spec (ws := Cond.code yX5_init cX5_init 1 none :: tbl) B.pre
  have hlocks := B.notSynchronized
  have hin : meth.name = "<init>" := (name_of_methodNamed B.named B.method).1
  have X : CallFix p m c cX5_init 1 s [Value.ref h0].toArray tbl RX5 := ⟨B.exec, B.bytes, hml, findClass_of_methodNamed B.named, fun w h => hts w (List.mem_cons_of_mem _ h)⟩
  subst hsz
  have hD := hD0.self (sz := s.heap.size)
  generalize hAe : va_A [(h0, .inr (5, [.int 0, .null, .null, .null, .null, .null, .int 0]))] s.heap.size = A at hD ⊢
  have hA : ∀ q : Nat, s.heap.size ≤ q → A q := fun q h => by rw [← hAe]; exact Or.inr h
  have hS : va_S A s.heap s.heap [] := va_S.rf
  have hl := lv_entry ([.ref h0]) (n := 1) (Nat.le_of_ble_eq_true rfl)
  rw [lg_entry_eq]
  generalize (lg_sl ([.ref h0]) ++ List.replicate (1 - (lg_sl ([.ref h0])).length) Slot.unset).toArray = ls at hl ⊢
  have hl : lv_has ls 1 [(0, .ref h0)] := hl
  refine lv_aload_n hx hb dX5_init_0 rfl (lv_at hl 0 rfl) ?_
  refine W.objInit hx hb X.2.2.2.1 (X.2.2.2.2 _ kw65) (X.2.2.2.2 _ kw17) (X.2.2.2.2 _ kw18) rfl (by rw [X.2.2.1]; exact hl.1) rfl dX5_init_1 (Nat.le_of_ble_eq_true rfl) (Nat.le_of_ble_eq_true rfl) ?_
  refine W.eq (g2 := F0 m 4 ls []) rfl ?_
  refine lv_aload_n hx hb dX5_init_4 rfl (lv_at hl 0 rfl) ?_
  refine lv_iconst (v := 0) hx hb dX5_init_5 (by decide) ?_
  refine va_put (ci := 5) (v := .int 0) (ty := tyX5 0) (C := RX5) (T := TX5) (N := 7) hx hb X.2.2.2.2 inT5 tyX5 tyX5_ok nmX5 X.2.2.2.1 K.1 hP hD hS 0 rfl rfl 0 (by decide) (X.2.2.2.2 _ kw66) (fun _ h9 => h9) rfl (by decide +kernel) rfl rfl (Nat.le_of_ble_eq_true rfl) dX5_init_6 (fun H locs hP hD hS => ?_)
  have hP : va_P D vwCl [(h0, .inr (5, [.int 0, .null, .null, .null, .null, .null, .int 0]))] H := hP
  have hD : va_D A [(h0, .inr (5, [.int 0, .null, .null, .null, .null, .null, .int 0]))] := hD
  refine lv_aload_n hx hb dX5_init_9 rfl (lv_at hl 0 rfl) ?_
  refine lv_bipush (v := 24) hx hb dX5_init_10 (by decide) ?_
  refine n_ai (N := 24) (idx0 := 0) X K hP hD hS hA (by decide) (by decide) (Nat.le_of_ble_eq_true rfl) (Nat.le_of_ble_eq_true rfl) (Nat.le_of_ble_eq_true rfl) dX5_init_12 (fun q12 H hP hD hS => ?_)
  have hP : va_P D vwCl [(h0, .inr (5, [.int 0, .null, .null, .null, .null, .null, .int 0])), (q12, .inl (iA, 24, .inl (fun _ => 0)))] H := hP
  have hD : va_D A [(h0, .inr (5, [.int 0, .null, .null, .null, .null, .null, .int 0])), (q12, .inl (iA, 24, .inl (fun _ => 0)))] := hD
  refine va_putF (ci := 5) (v := .ref q12) (ty := tyX5 1) (C := RX5) (T := TX5) (N := 7) hx hb X.2.2.2.2 inT5 tyX5 tyX5_ok nmX5 X.2.2.2.1 K.1 hP hD hS 0 rfl rfl 1 (by decide) (X.2.2.2.2 _ kw69) (fun _ h9 => h9) rfl hin rfl (by decide +kernel) rfl rfl (Nat.le_of_ble_eq_true rfl) dX5_init_14 (fun H locs hP hD hS => ?_)
  have hP : va_P D vwCl [(h0, .inr (5, [.int 0, .ref q12, .null, .null, .null, .null, .int 0])), (q12, .inl (iA, 24, .inl (fun _ => 0)))] H := hP
  have hD : va_D A [(h0, .inr (5, [.int 0, .ref q12, .null, .null, .null, .null, .int 0])), (q12, .inl (iA, 24, .inl (fun _ => 0)))] := hD
  refine lv_aload_n hx hb dX5_init_17 rfl (lv_at hl 0 rfl) ?_
  refine lv_bipush (v := 24) hx hb dX5_init_18 (by decide) ?_
  refine n_ai (N := 24) (idx0 := 0) X K hP hD hS hA (by decide) (by decide) (Nat.le_of_ble_eq_true rfl) (Nat.le_of_ble_eq_true rfl) (Nat.le_of_ble_eq_true rfl) dX5_init_20 (fun q20 H hP hD hS => ?_)
  have hP : va_P D vwCl [(h0, .inr (5, [.int 0, .ref q12, .null, .null, .null, .null, .int 0])), (q12, .inl (iA, 24, .inl (fun _ => 0))), (q20, .inl (iA, 24, .inl (fun _ => 0)))] H := hP
  have hD : va_D A [(h0, .inr (5, [.int 0, .ref q12, .null, .null, .null, .null, .int 0])), (q12, .inl (iA, 24, .inl (fun _ => 0))), (q20, .inl (iA, 24, .inl (fun _ => 0)))] := hD
  change W _ _ _ _ _ _ _ _ _ _ _ _ _ _ _ (F0 m 22 ls _)
  refine va_putF (ci := 5) (v := .ref q20) (ty := tyX5 2) (C := RX5) (T := TX5) (N := 7) hx hb X.2.2.2.2 inT5 tyX5 tyX5_ok nmX5 X.2.2.2.1 K.1 hP hD hS 0 rfl rfl 2 (by decide) (X.2.2.2.2 _ kw71) (fun _ h9 => h9) rfl hin rfl (by decide +kernel) rfl rfl (Nat.le_of_ble_eq_true rfl) dX5_init_22 (fun H locs hP hD hS => ?_)
  have hP : va_P D vwCl [(h0, .inr (5, [.int 0, .ref q12, .ref q20, .null, .null, .null, .int 0])), (q12, .inl (iA, 24, .inl (fun _ => 0))), (q20, .inl (iA, 24, .inl (fun _ => 0)))] H := hP
  have hD : va_D A [(h0, .inr (5, [.int 0, .ref q12, .ref q20, .null, .null, .null, .int 0])), (q12, .inl (iA, 24, .inl (fun _ => 0))), (q20, .inl (iA, 24, .inl (fun _ => 0)))] := hD
  refine lv_aload_n hx hb dX5_init_25 rfl (lv_at hl 0 rfl) ?_
  refine lv_bipush (v := 24) hx hb dX5_init_26 (by decide) ?_
  refine n_ai (N := 24) (idx0 := 0) X K hP hD hS hA (by decide) (by decide) (Nat.le_of_ble_eq_true rfl) (Nat.le_of_ble_eq_true rfl) (Nat.le_of_ble_eq_true rfl) dX5_init_28 (fun q28 H hP hD hS => ?_)
  have hP : va_P D vwCl [(h0, .inr (5, [.int 0, .ref q12, .ref q20, .null, .null, .null, .int 0])), (q12, .inl (iA, 24, .inl (fun _ => 0))), (q20, .inl (iA, 24, .inl (fun _ => 0))), (q28, .inl (iA, 24, .inl (fun _ => 0)))] H := hP
  have hD : va_D A [(h0, .inr (5, [.int 0, .ref q12, .ref q20, .null, .null, .null, .int 0])), (q12, .inl (iA, 24, .inl (fun _ => 0))), (q20, .inl (iA, 24, .inl (fun _ => 0))), (q28, .inl (iA, 24, .inl (fun _ => 0)))] := hD
  refine va_putF (ci := 5) (v := .ref q28) (ty := tyX5 3) (C := RX5) (T := TX5) (N := 7) hx hb X.2.2.2.2 inT5 tyX5 tyX5_ok nmX5 X.2.2.2.1 K.1 hP hD hS 0 rfl rfl 3 (by decide) (X.2.2.2.2 _ kw73) (fun _ h9 => h9) rfl hin rfl (by decide +kernel) rfl rfl (Nat.le_of_ble_eq_true rfl) dX5_init_30 (fun H locs hP hD hS => ?_)
  have hP : va_P D vwCl [(h0, .inr (5, [.int 0, .ref q12, .ref q20, .ref q28, .null, .null, .int 0])), (q12, .inl (iA, 24, .inl (fun _ => 0))), (q20, .inl (iA, 24, .inl (fun _ => 0))), (q28, .inl (iA, 24, .inl (fun _ => 0)))] H := hP
  have hD : va_D A [(h0, .inr (5, [.int 0, .ref q12, .ref q20, .ref q28, .null, .null, .int 0])), (q12, .inl (iA, 24, .inl (fun _ => 0))), (q20, .inl (iA, 24, .inl (fun _ => 0))), (q28, .inl (iA, 24, .inl (fun _ => 0)))] := hD
  refine lv_aload_n hx hb dX5_init_33 rfl (lv_at hl 0 rfl) ?_
  refine lv_bipush (v := 24) hx hb dX5_init_34 (by decide) ?_
  refine n_ai (N := 24) (idx0 := 0) X K hP hD hS hA (by decide) (by decide) (Nat.le_of_ble_eq_true rfl) (Nat.le_of_ble_eq_true rfl) (Nat.le_of_ble_eq_true rfl) dX5_init_36 (fun q36 H hP hD hS => ?_)
  have hP : va_P D vwCl [(h0, .inr (5, [.int 0, .ref q12, .ref q20, .ref q28, .null, .null, .int 0])), (q12, .inl (iA, 24, .inl (fun _ => 0))), (q20, .inl (iA, 24, .inl (fun _ => 0))), (q28, .inl (iA, 24, .inl (fun _ => 0))), (q36, .inl (iA, 24, .inl (fun _ => 0)))] H := hP
  have hD : va_D A [(h0, .inr (5, [.int 0, .ref q12, .ref q20, .ref q28, .null, .null, .int 0])), (q12, .inl (iA, 24, .inl (fun _ => 0))), (q20, .inl (iA, 24, .inl (fun _ => 0))), (q28, .inl (iA, 24, .inl (fun _ => 0))), (q36, .inl (iA, 24, .inl (fun _ => 0)))] := hD
  refine va_putF (ci := 5) (v := .ref q36) (ty := tyX5 4) (C := RX5) (T := TX5) (N := 7) hx hb X.2.2.2.2 inT5 tyX5 tyX5_ok nmX5 X.2.2.2.1 K.1 hP hD hS 0 rfl rfl 4 (by decide) (X.2.2.2.2 _ kw75) (fun _ h9 => h9) rfl hin rfl (by decide +kernel) rfl rfl (Nat.le_of_ble_eq_true rfl) dX5_init_38 (fun H locs hP hD hS => ?_)
  have hP : va_P D vwCl [(h0, .inr (5, [.int 0, .ref q12, .ref q20, .ref q28, .ref q36, .null, .int 0])), (q12, .inl (iA, 24, .inl (fun _ => 0))), (q20, .inl (iA, 24, .inl (fun _ => 0))), (q28, .inl (iA, 24, .inl (fun _ => 0))), (q36, .inl (iA, 24, .inl (fun _ => 0)))] H := hP
  have hD : va_D A [(h0, .inr (5, [.int 0, .ref q12, .ref q20, .ref q28, .ref q36, .null, .int 0])), (q12, .inl (iA, 24, .inl (fun _ => 0))), (q20, .inl (iA, 24, .inl (fun _ => 0))), (q28, .inl (iA, 24, .inl (fun _ => 0))), (q36, .inl (iA, 24, .inl (fun _ => 0)))] := hD
  refine lv_aload_n hx hb dX5_init_41 rfl (lv_at hl 0 rfl) ?_
  refine lv_bipush (v := 24) hx hb dX5_init_42 (by decide) ?_
  refine n_ai (N := 24) (idx0 := 0) X K hP hD hS hA (by decide) (by decide) (Nat.le_of_ble_eq_true rfl) (Nat.le_of_ble_eq_true rfl) (Nat.le_of_ble_eq_true rfl) dX5_init_44 (fun q44 H hP hD hS => ?_)
  have hP : va_P D vwCl [(h0, .inr (5, [.int 0, .ref q12, .ref q20, .ref q28, .ref q36, .null, .int 0])), (q12, .inl (iA, 24, .inl (fun _ => 0))), (q20, .inl (iA, 24, .inl (fun _ => 0))), (q28, .inl (iA, 24, .inl (fun _ => 0))), (q36, .inl (iA, 24, .inl (fun _ => 0))), (q44, .inl (iA, 24, .inl (fun _ => 0)))] H := hP
  have hD : va_D A [(h0, .inr (5, [.int 0, .ref q12, .ref q20, .ref q28, .ref q36, .null, .int 0])), (q12, .inl (iA, 24, .inl (fun _ => 0))), (q20, .inl (iA, 24, .inl (fun _ => 0))), (q28, .inl (iA, 24, .inl (fun _ => 0))), (q36, .inl (iA, 24, .inl (fun _ => 0))), (q44, .inl (iA, 24, .inl (fun _ => 0)))] := hD
  change W _ _ _ _ _ _ _ _ _ _ _ _ _ _ _ (F0 m 46 ls _)
  refine va_putF (ci := 5) (v := .ref q44) (ty := tyX5 5) (C := RX5) (T := TX5) (N := 7) hx hb X.2.2.2.2 inT5 tyX5 tyX5_ok nmX5 X.2.2.2.1 K.1 hP hD hS 0 rfl rfl 5 (by decide) (X.2.2.2.2 _ kw77) (fun _ h9 => h9) rfl hin rfl (by decide +kernel) rfl rfl (Nat.le_of_ble_eq_true rfl) dX5_init_46 (fun H locs hP hD hS => ?_)
  have hP : va_P D vwCl [(h0, .inr (5, [.int 0, .ref q12, .ref q20, .ref q28, .ref q36, .ref q44, .int 0])), (q12, .inl (iA, 24, .inl (fun _ => 0))), (q20, .inl (iA, 24, .inl (fun _ => 0))), (q28, .inl (iA, 24, .inl (fun _ => 0))), (q36, .inl (iA, 24, .inl (fun _ => 0))), (q44, .inl (iA, 24, .inl (fun _ => 0)))] H := hP
  have hD : va_D A [(h0, .inr (5, [.int 0, .ref q12, .ref q20, .ref q28, .ref q36, .ref q44, .int 0])), (q12, .inl (iA, 24, .inl (fun _ => 0))), (q20, .inl (iA, 24, .inl (fun _ => 0))), (q28, .inl (iA, 24, .inl (fun _ => 0))), (q36, .inl (iA, 24, .inl (fun _ => 0))), (q44, .inl (iA, 24, .inl (fun _ => 0)))] := hD
  refine lv_aload_n hx hb dX5_init_49 rfl (lv_at hl 0 rfl) ?_
  refine lv_iconst (v := 0) hx hb dX5_init_50 (by decide) ?_
  refine va_put (ci := 5) (v := .int 0) (ty := tyX5 6) (C := RX5) (T := TX5) (N := 7) hx hb X.2.2.2.2 inT5 tyX5 tyX5_ok nmX5 X.2.2.2.1 K.1 hP hD hS 0 rfl rfl 6 (by decide) (X.2.2.2.2 _ kw79) (fun _ h9 => h9) rfl (by decide +kernel) rfl rfl (Nat.le_of_ble_eq_true rfl) dX5_init_51 (fun H locs hP hD hS => ?_)
  have hP : va_P D vwCl [(h0, .inr (5, [.int 0, .ref q12, .ref q20, .ref q28, .ref q36, .ref q44, .int 0])), (q12, .inl (iA, 24, .inl (fun _ => 0))), (q20, .inl (iA, 24, .inl (fun _ => 0))), (q28, .inl (iA, 24, .inl (fun _ => 0))), (q36, .inl (iA, 24, .inl (fun _ => 0))), (q44, .inl (iA, 24, .inl (fun _ => 0)))] H := hP
  have hD : va_D A [(h0, .inr (5, [.int 0, .ref q12, .ref q20, .ref q28, .ref q36, .ref q44, .int 0])), (q12, .inl (iA, 24, .inl (fun _ => 0))), (q20, .inl (iA, 24, .inl (fun _ => 0))), (q28, .inl (iA, 24, .inl (fun _ => 0))), (q36, .inl (iA, 24, .inl (fun _ => 0))), (q44, .inl (iA, 24, .inl (fun _ => 0)))] := hD
  refine W.widen (k := 5) (n := 120) (Nat.le_of_ble_eq_true rfl) (Nat.le_of_ble_eq_true rfl) ?_
  exact W.vret hx hb hr (fun t ht hW => ⟨⟨(fun k => [h0, q12, q20, q28, q36, q44].getD k 0), rfl, rfl, by rw [ht]; exact hP, hD⟩, hS.F ht⟩) hS.2.2 dX5_init_54 hlocks
