/-! constructors: worlds that grow -/
def KY (iA bA : ClassId) : List (ClassId × FieldType) := [(iA, .int), (bA, .boolean)]
def KN (D : va_G) (iA bA : ClassId) (U : State) : Prop := va_K D vwCl (KY iA bA) U ∧ ∀ w ∈ nestW, va_Nw w U
theorem KN.warm {D : va_G} {iA bA : ClassId} {s U : State} (hW : s.WarmedH U.vm) (h : KN D iA bA s) : KN D iA bA U := by
  refine ⟨va_K.moved hW.alike h.1, fun w hw => ?_⟩
  have hz := h.2 w hw
  simp only [nestW, List.mem_cons, List.not_mem_nil, or_false] at hw
  rcases hw with rfl | rfl | rfl | rfl | rfl | rfl | rfl | rfl | rfl | rfl | rfl | rfl | rfl | rfl <;> exact va_Nw.warmM hW hz
def IPre (D : va_G) (iA bA : ClassId) (h0 : Nat) (ws : va_W) (sz : Nat) : Array Value → State → Prop := va_Pc [.ref h0] (fun U => U.heap.size = sz ∧ va_P D vwCl ws U.heap ∧ KN D iA bA U ∧ va_D (fun _ => True) ws)
def IPost (D : va_G) (h0 : Nat) (wp : (Nat → Nat) → va_W) (A : Nat → Prop) : Array Value → State → Outcome → State → Prop := va_Qv (fun a : Nat → Nat => a 0 = h0) (fun a t => va_P D vwCl (wp a) t.heap ∧ va_D A (wp a)) A
theorem IPre.blind {D : va_G} {iA bA : ClassId} {h0 : Nat} {ws : va_W} {sz : Nat} : FrameBlind (IPre D iA bA h0 ws sz) := by
  intro a U g mk q
  obtain ⟨q0, q1, qP, ⟨qK, qN⟩, qD⟩ := q
  exact ⟨q0, q1, qP, ⟨va_K.moved (u := U) (U := U.calling g mk a) (Vm.Alike.refl U.vm) qK, fun w hw => va_Nw.same (u := U) (U := U.calling g mk a) (nestW_tab w hw) rfl (qN w hw)⟩, qD⟩
def Cy (p : Program) (m : MethodId) (c : Code) (cc : ByteArray) (s : State) (args : Array Value) (own : String) (D : va_G) (iA bA : ClassId) : Prop := CallFix p m c cc 1 s args tbl own ∧ KN D iA bA s
theorem nd_of : ∀ l : List Nat, l.Nodup → va_nd l = true
  | [], _ => rfl
  | a :: l, h => by
    rw [List.nodup_cons] at h
    simp only [va_nd, Bool.and_eq_true, decide_eq_true_eq]
    exact ⟨h.1, nd_of l h.2⟩
theorem va_ndR (n : Nat) : va_nd (List.range n) = true := nd_of _ List.nodup_range
theorem lastC {α : Type} (wr : List α) (z : α) : [wr.length].map (fun i => (wr ++ [z])[i]?) = [z].map some := by
  simp
theorem lastR {α : Type} (wr : List α) (z : α) : (List.range wr.length).map (fun i => (wr ++ [z])[i]?) = wr.map some := by
  apply List.ext_getElem?
  intro i
  rw [List.getElem?_map, List.getElem?_map]
  by_cases h : i < wr.length
  · rw [List.getElem?_range h]
    simp [h, List.getElem?_append_left h]
  · rw [List.getElem?_eq_none (by simpa using h), List.getElem?_eq_none (by simpa using h)]; rfl
section Init
variable {p : Program} {l : Launch} {e : Env} {R : Room} {s : State} {m : MethodId} {args : Array Value} {below : List Frame} {meth : Method} {c : Code} {H : Heap} {locs : List Loc} {cells slots : Nat} {Q : State → Prop} {cc : ByteArray} {own : String} {pc : Nat} {ls : Array Slot} {rest : List Value} {D : va_G} {iA bA : ClassId} {ws wr : va_W} {A : Nat → Prop} {nL : Nat}
theorem n_call {y : MethodName} {bytes : ByteArray} {maxL mc ms fr lo idx : Nat} {host : String} {z : Nat × va_E} {wp : (Nat → Nat) → va_W} (X : CallFix p m c cc nL s args tbl own) (K : KN D iA bA s) (hP : va_P D vwCl (wr ++ [z]) H) (hD : va_D A (wr ++ [z])) (hS : va_S A s.heap H locs) (hA : ∀ q, s.heap.size ≤ q → A q)
    (M : Met l y (Cond.code y bytes maxL none :: tbl) { frames := fr, cells := mc, slots := ms, locals := lo } (IPre D iA bA z.1 [z] H.size) (IPost D z.1 wp (va_A [z] H.size)) mc ms (va_A [z] H.size))
    (hkw : Cond.code y bytes maxL none ∈ tbl) (hini : Cond.initialized y.cls ∈ tbl) (hin : Cond.instanceMethod y ∈ tbl) (hnm : y.name = "<init>") (hdd : y.cls ≠ "java/lang/invoke/MethodHandle" ∧ y.cls ≠ "java/lang/invoke/VarHandle" ∧ (parseMethodDescriptor y.desc).map (fun d => d.parameters.length) = some 0) (hR : fr + 1 ≤ R.frames ∧ 8 + (maxL + 11) + lo ≤ R.locals) (hlk : Cond.methodLinkNest own idx y host ∈ nestW) (hls : ls.size = nL) (hW : (rest.map fun v => v.category).sum ≤ 8) (hd : decode cc pc = .ok (.invokespecial idx, 3)) (hc : cells + mc ≤ R.cells ∧ slots + ms ≤ R.slots)
    (kk : ∀ (a : Nat → Nat) (H1 : Heap) (locs1 : List Loc), a 0 = z.1 → va_P D vwCl (wr ++ wp a) H1 → va_D A (wr ++ wp a) → va_S A s.heap H1 locs1 → W p l e R s m args below meth c H1 locs1 (cells + mc) (slots + ms) Q (F0 m (pc + 3) ls rest)) : W p l e R s m args below meth c H locs cells slots Q (F0 m pc ls (.ref z.1 :: rest)) := by
  have hPc := hP.sub (ws' := [z]) [wr.length] (by simp)
  have hDc := hD.sub (ws' := [z]) [wr.length] (by simp [va_nd]) (lastC wr z)
  have hFc := va_free (wc := [z]) hD hS hA [wr.length] (lastC wr z)
  refine va_callv (va_runIN (As := []) (rest := rest) X M ⟨va_cnB 0 X.2.2.2.2 (goodC hkw) rfl rfl rfl (K.2 _ hlk) (X.2.2.2.2 _ hini) hdd hR, hnm, X.2.2.2.2 _ hin⟩ ⟨IPre.blind, fun U hU hW => ⟨rfl, by rw [hU], by rw [hU]; exact hPc, K.warm hW, hDc.weaken (fun _ _ _ _ => trivial)⟩⟩ rfl rfl hls rfl (lv_room hW) hd hc) hS (fun q _ h => hFc q h) hFc (fun a t H1 locs1 ht hvm hw hB hz1 hk1 hS => ?_)
  obtain ⟨hP1, hD1⟩ := hB
  rw [ht] at hP1
  have hnd : va_nd (List.range wr.length) = true := va_ndR wr.length
  obtain ⟨hP2, hD2⟩ := va_join (wr := wr) (w1 := wp a) hP hD [wr.length] (List.range wr.length) (lastC wr z) (lastR wr z) hnd (fun i hi h => by rw [List.mem_singleton] at h; rw [List.mem_range] at hi; omega) hk1 hFc hP1 hD1
  exact kk a H1 locs1 hw hP2 hD2 hS
/-- a new row of ints -/
theorem n_ai {N idx0 : Nat} {n : Int32} (X : CallFix p m c cc nL s args tbl own) (K : KN D iA bA s) (hP : va_P D vwCl ws H) (hD : va_D A ws) (hS : va_S A s.heap H locs) (hA : ∀ q, s.heap.size ≤ q → A q) (hn : ¬ n < 0) (hN : n.toNatClampNeg = N) (hb : N * 4 ≤ 536870912) (hc : cells + 1 ≤ R.cells) (hs : slots + N ≤ R.slots) (hd : decode cc pc = .ok (.newarray .int, 2))
    (kk : ∀ (q : Nat) (H1 : Heap), va_P D vwCl (ws ++ [(q, .inl (iA, N, .inl (fun _ => 0)))]) H1 → va_D A (ws ++ [(q, .inl (iA, N, .inl (fun _ => 0)))]) → va_S A s.heap H1 locs → W p l e R s m args below meth c H1 locs (cells + 1) (slots + N) Q (F0 m (pc + 2) ls (.ref q :: rest))) : W p l e R s m args below meth c H locs cells slots Q (F0 m pc ls (.int n :: rest)) := by
  refine va_newa (atype := .int) (ty := .int) (a0 := (N, .inl (fun _ => 0))) X.1 X.2.1 (X.2.2.2.2 _ kw59) rfl K.1 hP hD hS hA (fun _ => rfl) hn hN hb hc hs hd (fun q cA H1 hK hP hD hS => ?_)
  have e1 := (hK.2 2 (cA, .int) rfl).2
  have e2 := (hK.2 0 (iA, .int) rfl).2
  have e3 : cA = iA := Option.some.inj (Eq.trans (Eq.symm e1) e2)
  subst e3
  exact kk q H1 hP hD hS
/-- a new row of booleans -/
theorem n_az {N idx0 : Nat} {n : Int32} (X : CallFix p m c cc nL s args tbl own) (K : KN D iA bA s) (hP : va_P D vwCl ws H) (hD : va_D A ws) (hS : va_S A s.heap H locs) (hA : ∀ q, s.heap.size ≤ q → A q) (hn : ¬ n < 0) (hN : n.toNatClampNeg = N) (hb : N * 1 ≤ 536870912) (hc : cells + 1 ≤ R.cells) (hs : slots + N ≤ R.slots) (hd : decode cc pc = .ok (.newarray .boolean, 2))
    (kk : ∀ (q : Nat) (H1 : Heap), va_P D vwCl (ws ++ [(q, .inl (bA, N, .inl (fun _ => 0)))]) H1 → va_D A (ws ++ [(q, .inl (bA, N, .inl (fun _ => 0)))]) → va_S A s.heap H1 locs → W p l e R s m args below meth c H1 locs (cells + 1) (slots + N) Q (F0 m (pc + 2) ls (.ref q :: rest))) : W p l e R s m args below meth c H locs cells slots Q (F0 m pc ls (.int n :: rest)) := by
  refine va_newa (atype := .boolean) (ty := .boolean) (a0 := (N, .inl (fun _ => 0))) X.1 X.2.1 (X.2.2.2.2 _ kw867) rfl K.1 hP hD hS hA (fun _ => rfl) hn hN hb hc hs hd (fun q cA H1 hK hP hD hS => ?_)
  have e1 := (hK.2 2 (cA, .boolean) rfl).2
  have e2 := (hK.2 1 (bA, .boolean) rfl).2
  have e3 : cA = bA := Option.some.inj (Eq.trans (Eq.symm e1) e2)
  subst e3
  exact kk q H1 hP hD hS
end Init
theorem zfX0 : ∀ j, j < 8 → defaultValue (tyX0 j) = vp_V [.int 0, .null, .null, .null, .null, .null, .null, .null] j := by decide +kernel
theorem zfX1 : ∀ j, j < 12 → defaultValue (tyX1 j) = vp_V [.int 0, .null, .int 0, .int 0, .int 0, .int 0, .int 0, .int 0, .int 0, .int 0, .int 0, .int 0] j := by decide +kernel
theorem zfX2 : ∀ j, j < 5 → defaultValue (tyX2 j) = vp_V [.int 0, .int 0, .int 0, .int 0, .int 0] j := by decide +kernel
theorem zfX3 : ∀ j, j < 12 → defaultValue (tyX3 j) = vp_V [.null, .null, .null, .null, .int 0, .int 0, .int 0, .int 0, .int 0, .int 0, .int 0, .null] j := by decide +kernel
theorem zfX4 : ∀ j, j < 4 → defaultValue (tyX4 j) = vp_V [.int 0, .null, .null, .null] j := by decide +kernel
theorem zfX5 : ∀ j, j < 7 → defaultValue (tyX5 j) = vp_V [.int 0, .null, .null, .null, .null, .null, .int 0] j := by decide +kernel
theorem zfX6 : ∀ j, j < 8 → defaultValue (tyX6 j) = vp_V [.null, .null, .null, .int 0, .null, .null, .int 0, .null] j := by decide +kernel
theorem zfX7 : ∀ j, j < 55 → defaultValue (tyX7 j) = vp_V [.int 0, .null, .null, .null, .null, .null, .null, .null, .int 0, .null, .null, .null, .null, .null, .null, .int 0, .null, .null, .null, .null, .int 0, .int 0, .int 0, .int 0, .int 0, .int 0, .int 0, .int 0, .int 0, .null, .int 0, .null, .int 0, .null, .int 0, .null, .int 0, .int 0, .null, .null, .int 0, .int 0, .int 0, .int 0, .int 0, .int 0, .int 0, .null, .null, .null, .null, .int 0, .null, .int 0, .int 0] j := by decide +kernel
