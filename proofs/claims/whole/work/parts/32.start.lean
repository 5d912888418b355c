/-- the numbers at the start -/
def σ0 (g f : Nat) : Nat → Int32 := match g, f with
  | 4, 0 => fun k => match k with
    | 20 => 1
    | 25 => 8
    | 28 => 1
    | 34 => -1
    | _ => 0
  | 1, 0 => fun k => match k with
    | 4 => 1
    | _ => 0
  | 2, 0 => fun k => match k with
    | 4 => 1
    | _ => 0
  | 3, 0 => fun k => match k with
    | 4 => 1
    | _ => 0
  | 1, 19 => fun k => match k with
    | 1 => 8
    | 4 => 1
    | _ => 0
  | 2, 19 => fun k => match k with
    | 1 => 8
    | 4 => 1
    | _ => 0
  | 3, 19 => fun k => match k with
    | 1 => 8
    | 4 => 1
    | _ => 0
  | _, _ => fun _ => 0
def pM (f : Nat) : Nat := match f with
  | 0 => 0
  | 1 => 1
  | 2 => 2
  | 3 => 3
  | 4 => 4
  | 5 => 5
  | 6 => 6
  | 7 => 7
  | 9 => 8
  | 10 => 9
  | 11 => 10
  | 12 => 11
  | 13 => 12
  | 14 => 13
  | 16 => 14
  | 17 => 15
  | 18 => 16
  | 19 => 17
  | 29 => 18
  | 31 => 19
  | 33 => 20
  | 35 => 21
  | 38 => 22
  | 39 => 23
  | 47 => 24
  | 48 => 25
  | 49 => 26
  | 50 => 27
  | 52 => 28
  | _ => 0
def mkA (a6 a7 : Nat → Nat) (g f : Nat) : Nat := match g with
  | 0 => (match f with
    | 0 => a6 0
    | 1 => a6 64
    | 2 => a6 65
    | 3 => a6 66
    | _ => a6 67)
  | 1 => a6 (1 + f)
  | 2 => a6 (22 + f)
  | 3 => a6 (43 + f)
  | _ => a7 (pM f)
def plL : List Nat := [0, 64, 65, 66, 67, 1, 2, 3, 4, 5, 6, 7, 8, 9, 10, 11, 12, 13, 14, 15, 16, 17, 18, 19, 20, 21, 22, 23, 24, 25, 26, 27, 28, 29, 30, 31, 32, 33, 34, 35, 36, 37, 38, 39, 40, 41, 42, 43, 44, 45, 46, 47, 48, 49, 50, 51, 52, 53, 54, 55, 56, 57, 58, 59, 60, 61, 62, 63, 68, 69, 70, 71, 72, 73, 74, 75, 76, 77, 78, 79, 80, 81, 82, 83, 84, 85, 86, 87, 88, 89, 90, 91, 92, 93, 94, 95, 96]
section Start
variable {p : Program} {l : Launch} {e : Env} {R : Room} {s : State} {m : MethodId} {args : Array Value} {below : List Frame} {meth : Method} {c : Code} {H : Heap} {locs : List Loc} {cells slots : Nat} {Q : State → Prop} {cc : ByteArray} {own : String} {pc : Nat} {ls : Array Slot} {rest : List Value} {D : va_G} {iA bA : ClassId} {ws wr : va_W} {A : Nat → Prop} {nL : Nat}
theorem p_call {y : MethodName} {bytes : ByteArray} {maxL mc ms fr lo idx : Nat} {z : Nat × va_E} {wp : (Nat → Nat) → va_W} (X : CallFix p m c cc nL s args tbl own) (K : KN D iA bA s) (hP : va_P D vwCl (wr ++ [z]) H) (hD : va_D A (wr ++ [z])) (hS : va_S A s.heap H locs) (hA : ∀ q, s.heap.size ≤ q → A q)
    (M : Met l y (Cond.code y bytes maxL none :: tbl) { frames := fr, cells := mc, slots := ms, locals := lo } (IPre D iA bA z.1 [z] H.size) (IPost D z.1 wp (va_A [z] H.size)) mc ms (va_A [z] H.size))
    (hkw : Cond.code y bytes maxL none ∈ tbl) (hini : Cond.initialized y.cls ∈ tbl) (hin : Cond.instanceMethod y ∈ tbl) (hnm : y.name = "<init>") (hdd : y.cls ≠ "java/lang/invoke/MethodHandle" ∧ y.cls ≠ "java/lang/invoke/VarHandle" ∧ (parseMethodDescriptor y.desc).map (fun d => d.parameters.length) = some 0) (hR : fr + 1 ≤ R.frames ∧ 8 + (maxL + 11) + lo ≤ R.locals) (hlk : Cond.methodLink own idx y ∈ tbl) (hls : ls.size = nL) (hW : (rest.map fun v => v.category).sum ≤ 8) (hd : decode cc pc = .ok (.invokespecial idx, 3)) (hc : cells + mc ≤ R.cells ∧ slots + ms ≤ R.slots)
    (kk : ∀ (a : Nat → Nat) (H1 : Heap) (locs1 : List Loc), a 0 = z.1 → va_P D vwCl (wr ++ wp a) H1 → va_D A (wr ++ wp a) → va_S A s.heap H1 locs1 → W p l e R s m args below meth c H1 locs1 (cells + mc) (slots + ms) Q (F0 m (pc + 3) ls rest)) : W p l e R s m args below meth c H locs cells slots Q (F0 m pc ls (.ref z.1 :: rest)) := by
  have hPc := hP.sub (ws' := [z]) [wr.length] (by simp)
  have hDc := hD.sub (ws' := [z]) [wr.length] (by simp [va_nd]) (lastC wr z)
  have hFc := va_free (wc := [z]) hD hS hA [wr.length] (lastC wr z)
  refine va_callv (va_runI (As := []) (rest := rest) X M ⟨callB_of 0 X.2.2.2.2 (goodC hkw) rfl rfl rfl (X.2.2.2.2 _ hini) (X.2.2.2.2 _ hlk) hdd hR, hnm, X.2.2.2.2 _ hin⟩ ⟨IPre.blind, fun U hU hW => ⟨rfl, by rw [hU], by rw [hU]; exact hPc, K.warm hW, hDc.weaken (fun _ _ _ _ => trivial)⟩⟩ rfl rfl hls rfl (lv_room hW) hd hc) hS (fun q _ h => hFc q h) hFc (fun a t H1 locs1 ht hvm hw hB hz1 hk1 hS => ?_)
  obtain ⟨hP1, hD1⟩ := hB
  rw [ht] at hP1
  have hnd : va_nd (List.range wr.length) = true := va_ndR wr.length
  obtain ⟨hP2, hD2⟩ := va_join (wr := wr) (w1 := wp a) hP hD [wr.length] (List.range wr.length) (lastC wr z) (lastR wr z) hnd (fun i hi h => by rw [List.mem_singleton] at h; rw [List.mem_range] at hi; omega) hk1 hFc hP1 hD1
  exact kk a H1 locs1 hw hP2 hD2 hS
end Start
set_option maxRecDepth 100000 in
set_option maxHeartbeats 4000000 in
theorem world_eq (D : va_G) (iA bA : ClassId) (a6 a7 : Nat → Nat) : plL.map (fun i => (wpX6 iA bA a6 ++ wpX7 iA bA a7)[i]?) = (wsL (D, iA, bA, mkA a6 a7) σ0).map some := rfl
theorem map_filterMap {α : Type} : ∀ (is : List Nat) (ws ws' : List α), is.map (fun i => ws[i]?) = ws'.map some → is.filterMap (fun i => ws[i]?) = ws'
  | [], _, [], _ => rfl
  | [], _, _ :: _, h => by cases h
  | _ :: _, _, [], h => by cases h
  | i :: is, ws, z :: ws', h => by
    obtain ⟨h1, h2⟩ := List.cons.inj h
    have h1 : ws[i]? = some z := h1
    simp only [List.filterMap_cons, h1]
    rw [map_filterMap is ws ws' h2]
theorem AP.of {G : GG} {σ : St} {A : Nat → Prop} (h : va_D A (wsL G σ)) : AP G := by
  intro q hq r hr e
  obtain ⟨i, hi⟩ := List.getElem?_of_mem hq
  obtain ⟨j, hj⟩ := List.getElem?_of_mem hr
  have := h.1 i j _ _ (wsL_get (σ := σ) hi) (wsL_get (σ := σ) hj) e
  subst this
  exact Option.some.inj (hi.symm.trans hj)
theorem AA.of {G : GG} {σ : St} {A : Nat → Prop} (h : va_D A (wsL G σ)) : ∀ a, AA G a → A a := by
  rintro a ⟨q, hq, rfl⟩
  obtain ⟨i, hi⟩ := List.getElem?_of_mem hq
  exact h.2 i _ (wsL_get (σ := σ) hi)
set_option maxRecDepth 100000 in
set_option maxHeartbeats 4000000 in
theorem whole_of {IV : Nat → St → Prop} (hh : HX IV) (ha : ALL IV) (h00 : IV 0 σ0) {p : Program} {e : Env} {s : State} {m : MethodId} {below : List Frame} {meth : Method} {c : Code} (l : Launch) {b L : Nat} {xs : Nat → Int32} (hL : L ≤ 3072) (C0 : lw_At p s m meth c b L xs) : W p l e room_1 s m #[Value.ref b] below meth c s.heap [] 0 0 (lw_Z below #[Value.ref b] s) (entryFrame m ([Value.ref b] : List Value).toArray 4) := by
  obtain ⟨hx, hb, hr, hml, hown, hts, hX, hbl, hlocks, hgv⟩ := id C0
  have hA : ∀ q : Nat, s.heap.size ≤ q → (fun q : Nat => s.heap.size ≤ q) q := fun _ h => h
  have hbA : ¬ (fun q : Nat => s.heap.size ≤ q) b := Nat.not_le.mpr hbl
  have htt : ∀ w ∈ tbl, w.before #[Value.ref b] s = true := fun w h => hts w (tbl_lw w h)
  have X : CallFix p m c cL_law 4 s #[Value.ref b] tbl RL := ⟨hx, hb, hml, hown, htt⟩
  obtain ⟨c0, iS0, hKn0⟩ := u_known (C := RX0) (T := TX0) (N := 8) (n := 8) htt inT0 (htt _ kw26)
  obtain ⟨c1, iS1, hKn1⟩ := u_known (C := RX1) (T := TX1) (N := 12) (n := 12) htt inT1 (htt _ kw198)
  obtain ⟨c2, iS2, hKn2⟩ := u_known (C := RX2) (T := TX2) (N := 5) (n := 5) htt inT2 (htt _ kw121)
  obtain ⟨c3, iS3, hKn3⟩ := u_known (C := RX3) (T := TX3) (N := 12) (n := 12) htt inT3 (htt _ kw20)
  obtain ⟨c4, iS4, hKn4⟩ := u_known (C := RX4) (T := TX4) (N := 4) (n := 4) htt inT4 (htt _ kw96)
  obtain ⟨c5, iS5, hKn5⟩ := u_known (C := RX5) (T := TX5) (N := 7) (n := 7) htt inT5 (htt _ kw61)
  obtain ⟨c6, iS6, hKn6⟩ := u_known (C := RX6) (T := TX6) (N := 8) (n := 8) htt inT6 (htt _ kw12)
  obtain ⟨c7, iS7, hKn7⟩ := u_known (C := RX7) (T := TX7) (N := 55) (n := 55) htt inT7 (htt _ kw696)
  obtain ⟨D, hKc⟩ : ∃ (D : va_G), ∀ (k : Nat) (q : vw_C), vwCl[k]? = some q → u_Kn s q.1 q.2.1 q.2.2 (D.1 k) (D.2 k) := by
    refine ⟨(fun k => match k with | 0 => c0 | 1 => c1 | 2 => c2 | 3 => c3 | 4 => c4 | 5 => c5 | 6 => c6 | _ => c7, fun k => match k with | 0 => iS0 | 1 => iS1 | 2 => iS2 | 3 => iS3 | 4 => iS4 | 5 => iS5 | 6 => iS6 | _ => iS7), ?_⟩
    intro k q hq
    match k, hq with
    | 0, hq => cases hq; exact hKn0
    | 1, hq => cases hq; exact hKn1
    | 2, hq => cases hq; exact hKn2
    | 3, hq => cases hq; exact hKn3
    | 4, hq => cases hq; exact hKn4
    | 5, hq => cases hq; exact hKn5
    | 6, hq => cases hq; exact hKn6
    | 7, hq => cases hq; exact hKn7
    | k + 8, hq => simp [vwCl] at hq
  obtain ⟨iA, kI, cpI, i1, i2, i3⟩ := Cond.arrayClass_spec (htt _ kw59)
  obtain ⟨bA, kZ, cpZ, z1, z2, z3⟩ := Cond.arrayClass_spec (htt _ kw867)
  have K : KN D iA bA s := by
    refine ⟨⟨hKc, fun k q h => ?_⟩, fun w hw => va_Nw.of (nestW_tab w hw) (hts w (nestW_in w hw))⟩
    match k, h with
    | 0, h => cases h; exact ⟨fun n z => ⟨fun k h => (by cases h), kI, i2, cpI, i3⟩, i1⟩
    | 1, h => cases h; exact ⟨fun n z => ⟨fun k h => (by cases h), kZ, z2, cpZ, z3⟩, z1⟩
    | k + 2, h => simp [KY] at h
  have hS : va_S (fun q : Nat => s.heap.size ≤ q) s.heap s.heap [] := va_S.rf
  have hP : va_P D vwCl [] s.heap := fun k q h => by simp at h
  have hD : va_D (fun q : Nat => s.heap.size ≤ q) [] := ⟨fun i j p q h => by simp at h, fun k q h => by simp at h⟩
  have hl := lv_entry ([.ref b]) (n := 4) (Nat.le_of_ble_eq_true rfl)
  rw [lg_entry_eq]
  generalize (lg_sl ([.ref b]) ++ List.replicate (4 - (lg_sl ([.ref b])).length) Slot.unset).toArray = ls at hl ⊢
  have hl : lv_has ls 4 [(0, .ref b)] := hl
  refine va_new (ci := 6) (fs := [.null, .null, .null, .int 0, .null, .null, .int 0, .null]) (C := RX6) (T := TX6) (N := 8) hx hb X.2.2.2.2 inT6 tyX6 tyX6_ok X.2.2.2.1 (X.2.2.2.2 _ kw11) (X.2.2.2.2 _ kw12) (X.2.2.2.2 _ kw1) K.1 hP hD hS hA rfl zfX6 (Nat.le_of_ble_eq_true rfl) (Nat.le_of_ble_eq_true rfl) dL_law_0 (fun q0 H hP hD hS => ?_)
  refine lv_dup hx hb dL_law_3 rfl ?_
  refine p_call (wr := []) (z := (q0, .inr (6, [.null, .null, .null, .int 0, .null, .null, .int 0, .null]))) (wp := wpX6 iA bA) X K hP hD hS hA (c_X6_init l D iA bA q0 H.size) kw15 kw1 kw14 rfl (by decide +kernel) ⟨Nat.le_of_ble_eq_true rfl, Nat.le_of_ble_eq_true rfl⟩ kw13 hl.1 (Nat.le_of_ble_eq_true rfl) dL_law_4 ⟨Nat.le_of_ble_eq_true rfl, Nat.le_of_ble_eq_true rfl⟩ (fun a6 H locs ea6 hP hD hS => ?_)
  rw [List.nil_append] at hP hD
  refine lv_astore_n (lv' := [(1, .ref q0), (0, .ref b)]) hx hb dL_law_7 rfl hl (by decide) rfl (fun ls hl => ?_)
  refine va_new (ci := 7) (fs := [.int 0, .null, .null, .null, .null, .null, .null, .null, .int 0, .null, .null, .null, .null, .null, .null, .int 0, .null, .null, .null, .null, .int 0, .int 0, .int 0, .int 0, .int 0, .int 0, .int 0, .int 0, .int 0, .null, .int 0, .null, .int 0, .null, .int 0, .null, .int 0, .int 0, .null, .null, .int 0, .int 0, .int 0, .int 0, .int 0, .int 0, .int 0, .null, .null, .null, .null, .int 0, .null, .int 0, .int 0]) (C := RX7) (T := TX7) (N := 55) hx hb X.2.2.2.2 inT7 tyX7 tyX7_ok X.2.2.2.1 (X.2.2.2.2 _ kw695) (X.2.2.2.2 _ kw696) (X.2.2.2.2 _ kw8) K.1 hP hD hS hA rfl zfX7 (Nat.le_of_ble_eq_true rfl) (Nat.le_of_ble_eq_true rfl) dL_law_8 (fun q8 H hP hD hS => ?_)
  refine lv_dup hx hb dL_law_11 rfl ?_
  refine p_call (wr := wpX6 iA bA a6) (z := (q8, .inr (7, [.int 0, .null, .null, .null, .null, .null, .null, .null, .int 0, .null, .null, .null, .null, .null, .null, .int 0, .null, .null, .null, .null, .int 0, .int 0, .int 0, .int 0, .int 0, .int 0, .int 0, .int 0, .int 0, .null, .int 0, .null, .int 0, .null, .int 0, .null, .int 0, .int 0, .null, .null, .int 0, .int 0, .int 0, .int 0, .int 0, .int 0, .int 0, .null, .null, .null, .null, .int 0, .null, .int 0, .int 0]))) (wp := wpX7 iA bA) X K hP hD hS hA (c_X7_init l D iA bA q8 H.size) kw699 kw8 kw698 rfl (by decide +kernel) ⟨Nat.le_of_ble_eq_true rfl, Nat.le_of_ble_eq_true rfl⟩ kw697 hl.1 (Nat.le_of_ble_eq_true rfl) dL_law_12 ⟨Nat.le_of_ble_eq_true rfl, Nat.le_of_ble_eq_true rfl⟩ (fun a7 H locs ea7 hP hD hS => ?_)
  refine lv_astore_n (lv' := [(2, .ref q8), (1, .ref q0), (0, .ref b)]) hx hb dL_law_15 rfl hl (by decide) rfl (fun ls hl => ?_)
  refine lv_iconst (v := 0) hx hb dL_law_16 (by decide) ?_
  refine lv_istore_n (lv' := [(3, .int 0), (2, .ref q8), (1, .ref q0), (0, .ref b)]) hx hb dL_law_17 rfl hl (by decide) rfl (fun ls hl => ?_)
  have hP9 := hP.sub plL (map_filterMap _ _ _ (world_eq D iA bA a6 a7))
  have hD9 := hD.sub plL (by decide +kernel) (world_eq D iA bA a6 a7)
  refine va_forget (fun q hq => hS.2.2 q hq) ?_
  refine W.widen (k := 97) (n := 2165) (Nat.le_of_ble_eq_true rfl) (Nat.le_of_ble_eq_true rfl) ?_
  have hAA := AA.of hD9
  have hl : lv_has ls 4 [(3, .int 0), (2, .ref (aa (D, iA, bA, mkA a6 a7) 4 0)), (1, .ref (aa (D, iA, bA, mkA a6 a7) 0 0)), (0, .ref b)] := by
    show lv_has ls 4 [(3, .int 0), (2, .ref (a7 0)), (1, .ref (a6 0)), (0, .ref b)]
    rw [ea6, ea7]
    exact hl
  exact law_loop (G := (D, iA, bA, mkA a6 a7)) hh ha ⟨X, K.1, K.2, AP.of hD9⟩ hX hbl (fun h => hbA (hAA b h)) hAA hL hr hlocks 513 0 σ0 (Nat.zero_le _) (by decide) h00 _ _ _ ⟨hP9, hS.1, fun q hq _ => hS.2.1 q hq (Nat.not_le.mpr hq), fun _ h => by cases h⟩ (lv_sub hl [3, 2, 1, 0] rfl)
