/-! The world of this claim: 97 cells in five groups (0: HarbourMud, its text, rows; 1, 2, 3: the harbours now, mind, kept; 4: the reference). All numbers of a world are one function: group, cell, slot. -/
abbrev Gr : Type := Nat → Nat → Int32
abbrev St : Type := Nat → Gr
abbrev Shp : Type := (Nat × List (Option (Nat × Nat))) ⊕ (Nat × Bool)
abbrev GG : Type := va_G × ClassId × ClassId × (Nat → Nat → Nat)
def aa (G : GG) (g f : Nat) : Nat := G.2.2.2 g f
def mkV (G : GG) (o : Option (Nat × Nat)) (x : Int32) : Value := match o with
  | none => .int x
  | some q => .ref (aa G q.1 q.2)
def mkL (G : GG) (v : Nat → Int32) : Nat → List (Option (Nat × Nat)) → List Value
  | _, [] => []
  | k, o :: r => mkV G o (v k) :: mkL G v (k + 1) r
def mkC (G : GG) (s : Shp) (v : Nat → Int32) : va_E := match s with
  | .inl q => .inr (q.1, mkL G v 0 q.2)
  | .inr q => .inl (bif q.2 then G.2.2.1 else G.2.1, q.1, .inl v)
def shT (f : Nat) : Shp := match f with
  | 0 => .inl (6, [some (1, 0), some (2, 0), some (3, 0), none, some (0, 1), some (0, 3), none, some (0, 4)])
  | 1 => .inl (1, [none, some (0, 2), none, none, none, none, none, none, none, none, none, none])
  | 2 => .inr (96, false)
  | 3 => .inr (28, false)
  | _ => .inr (7, false)
def shH (g f : Nat) : Shp := match f with
  | 0 => .inl (3, [some (g, 1), some (g, 9), some (g, 15), some (g, 19), none, none, none, none, none, none, none, some (g, 20)])
  | 1 => .inl (0, [none, some (g, 2), some (g, 3), some (g, 4), some (g, 5), some (g, 6), some (g, 7), some (g, 8)])
  | 2 => .inr (8, false)
  | 3 => .inr (8, false)
  | 4 => .inr (8, false)
  | 5 => .inr (8, false)
  | 6 => .inr (8, false)
  | 7 => .inr (16, false)
  | 8 => .inr (16, false)
  | 9 => .inl (5, [none, some (g, 10), some (g, 11), some (g, 12), some (g, 13), some (g, 14), none])
  | 10 => .inr (24, false)
  | 11 => .inr (24, false)
  | 12 => .inr (24, false)
  | 13 => .inr (24, false)
  | 14 => .inr (24, false)
  | 15 => .inl (4, [none, some (g, 16), some (g, 17), some (g, 18)])
  | 16 => .inr (8, false)
  | 17 => .inr (8, false)
  | 18 => .inr (8, false)
  | 19 => .inl (2, [none, none, none, none, none])
  | _ => .inr (16, false)
def shM (f : Nat) : Shp := match f with
  | 0 => .inl (7, [none, some (4, 1), some (4, 2), some (4, 3), some (4, 4), some (4, 5), some (4, 6), some (4, 7), none, some (4, 9), some (4, 10), some (4, 11), some (4, 12), some (4, 13), some (4, 14), none, some (4, 16), some (4, 17), some (4, 18), some (4, 19), none, none, none, none, none, none, none, none, none, some (4, 29), none, some (4, 31), none, some (4, 33), none, some (4, 35), none, none, some (4, 38), some (4, 39), none, none, none, none, none, none, none, some (4, 47), some (4, 48), some (4, 49), some (4, 50), none, some (4, 52), none, none])
  | 1 => .inr (8, false)
  | 2 => .inr (8, false)
  | 3 => .inr (8, false)
  | 4 => .inr (8, false)
  | 5 => .inr (8, false)
  | 6 => .inr (16, false)
  | 7 => .inr (16, false)
  | 9 => .inr (24, false)
  | 10 => .inr (24, false)
  | 11 => .inr (24, false)
  | 12 => .inr (24, false)
  | 13 => .inr (24, false)
  | 14 => .inr (24, true)
  | 16 => .inr (8, false)
  | 17 => .inr (8, false)
  | 18 => .inr (8, false)
  | 19 => .inr (28, false)
  | 29 => .inr (96, false)
  | 31 => .inr (28, false)
  | 33 => .inr (7, false)
  | 35 => .inr (16, false)
  | 38 => .inr (16, false)
  | 39 => .inr (16, false)
  | 47 => .inr (50, false)
  | 48 => .inr (50, false)
  | 49 => .inr (250, false)
  | 50 => .inr (28, false)
  | 52 => .inr (330, false)
  | _ => .inr (0, false)
def sh (g f : Nat) : Shp := match g with
  | 0 => shT f
  | 1 => shH 1 f
  | 2 => shH 2 f
  | 3 => shH 3 f
  | _ => shM f
def cellsM : List Nat := [0, 1, 2, 3, 4, 5, 6, 7, 9, 10, 11, 12, 13, 14, 16, 17, 18, 19, 29, 31, 33, 35, 38, 39, 47, 48, 49, 50, 52]
def cellsL : List (Nat × Nat) := (List.range 5).map (fun f => (0, f)) ++ ((List.range 21).map (fun f => (1, f)) ++ ((List.range 21).map (fun f => (2, f)) ++ ((List.range 21).map (fun f => (3, f)) ++ cellsM.map (fun f => (4, f)))))
theorem cellsL_nd : cellsL.Nodup := by decide +kernel
def setG (σ : St) (g : Nat) (ρ : Gr) : St := fun g' => if g' = g then ρ else σ g'
def setF (ρ : Gr) (f : Nat) (v : Nat → Int32) : Gr := fun f' => if f' = f then v else ρ f'
def up (ρ : Gr) (f j : Nat) (x : Int32) : Gr := setF ρ f (upd (ρ f) j x)
theorem setG_same {σ : St} {g : Nat} {ρ : Gr} : setG σ g ρ g = ρ := if_pos rfl
theorem setG_ne {σ : St} {g g' : Nat} {ρ : Gr} (h : g' ≠ g) : setG σ g ρ g' = σ g' := if_neg h
theorem setG_self {σ : St} {g : Nat} : setG σ g (σ g) = σ := by
  funext g'
  by_cases h : g' = g
  · subst h; exact setG_same
  · exact setG_ne h
theorem setG_setG {σ : St} {g : Nat} {ρ ρ' : Gr} : setG (setG σ g ρ) g ρ' = setG σ g ρ' := by
  funext g'
  by_cases h : g' = g
  · subst h; rw [setG_same, setG_same]
  · rw [setG_ne h, setG_ne h, setG_ne h]
theorem setF_same {ρ : Gr} {f : Nat} {v : Nat → Int32} : setF ρ f v f = v := if_pos rfl
theorem setF_ne {ρ : Gr} {f f' : Nat} {v : Nat → Int32} (h : f' ≠ f) : setF ρ f v f' = ρ f' := if_neg h
theorem up_same {ρ : Gr} {f j : Nat} {x : Int32} : up ρ f j x f = upd (ρ f) j x := setF_same
theorem up_ne {ρ : Gr} {f f' j : Nat} {x : Int32} (h : f' ≠ f) : up ρ f j x f' = ρ f' := setF_ne h
theorem mkL_get (G : GG) (v : Nat → Int32) : ∀ (L : List (Option (Nat × Nat))) (a k : Nat) (o : Option (Nat × Nat)), L[k]? = some o → (mkL G v a L)[k]? = some (mkV G o (v (a + k)))
  | [], _, _, _, h => by simp at h
  | x :: r, a, 0, o, h => by
    have h' : x = o := by simpa using h
    subst h'
    rfl
  | x :: r, a, k + 1, o, h => by
    have h' : r[k]? = some o := by simpa using h
    have := mkL_get G v r (a + 1) k o h'
    show (mkL G v (a + 1) r)[k]? = _
    rw [this, show a + 1 + k = a + (k + 1) by omega]
theorem mkL_far (G : GG) (v : Nat → Int32) (j : Nat) (x : Int32) : ∀ (L : List (Option (Nat × Nat))) (a : Nat), j < a → mkL G (upd v j x) a L = mkL G v a L
  | [], _, _ => rfl
  | o :: r, a, h => by
    show mkV G o (upd v j x a) :: mkL G (upd v j x) (a + 1) r = mkV G o (v a) :: mkL G v (a + 1) r
    rw [mkL_far G v j x r (a + 1) (by omega), show upd v j x a = v a from if_neg (by omega)]
theorem mkL_set (G : GG) (v : Nat → Int32) (x : Int32) : ∀ (L : List (Option (Nat × Nat))) (a k : Nat), L[k]? = some none → (mkL G v a L).set k (.int x) = mkL G (upd v (a + k) x) a L
  | [], _, _, h => by simp at h
  | o :: r, a, 0, h => by
    have h' : o = none := by simpa using h
    subst h'
    show Value.int x :: mkL G v (a + 1) r = Value.int (upd v (a + 0) x a) :: mkL G (upd v (a + 0) x) (a + 1) r
    rw [mkL_far G v (a + 0) x r (a + 1) (by omega), show upd v (a + 0) x a = x from if_pos rfl]
  | o :: r, a, k + 1, h => by
    have h' : r[k]? = some none := by simpa using h
    show mkV G o (v a) :: (mkL G v (a + 1) r).set k (.int x) = mkV G o (upd v (a + (k + 1)) x a) :: mkL G (upd v (a + (k + 1)) x) (a + 1) r
    rw [mkL_set G v x r (a + 1) k h', show upd v (a + (k + 1)) x a = v a from if_neg (by omega), show a + 1 + k = a + (k + 1) by omega]
def wsL (G : GG) (σ : St) : va_W := cellsL.map (fun q => (aa G q.1 q.2, mkC G (sh q.1 q.2) (σ q.1 q.2)))
def WO (G : GG) (σ : St) (H : Heap) : Prop := va_P G.1 vwCl (wsL G σ) H
def AP (G : GG) : Prop := ∀ q ∈ cellsL, ∀ r ∈ cellsL, aa G q.1 q.2 = aa G r.1 r.2 → q = r
def AA (G : GG) : Nat → Prop := fun a => ∃ q ∈ cellsL, a = aa G q.1 q.2
theorem wsL_get {G : GG} {σ : St} {k : Nat} {q : Nat × Nat} (h : cellsL[k]? = some q) : (wsL G σ)[k]? = some (aa G q.1 q.2, mkC G (sh q.1 q.2) (σ q.1 q.2)) := by
  show (cellsL.map _)[k]? = _
  rw [List.getElem?_map, h]
  rfl
theorem wsL_inv {G : GG} {σ : St} {k : Nat} {z : Nat × va_E} (h : (wsL G σ)[k]? = some z) : ∃ q, cellsL[k]? = some q ∧ z = (aa G q.1 q.2, mkC G (sh q.1 q.2) (σ q.1 q.2)) := by
  have h' : (cellsL.map (fun q => (aa G q.1 q.2, mkC G (sh q.1 q.2) (σ q.1 q.2))))[k]? = some z := h
  rw [List.getElem?_map] at h'
  cases hq : cellsL[k]? with
  | none => rw [hq] at h'; cases h'
  | some q => rw [hq] at h'; exact ⟨q, rfl, (Option.some.inj h').symm⟩
theorem cellsL_inj {i j : Nat} {q : Nat × Nat} (h : cellsL[i]? = some q) (h2 : cellsL[j]? = some q) : i = j := by
  have hi : i < cellsL.length := (List.getElem?_eq_some_iff.mp h).1
  exact (List.getElem?_inj hi cellsL_nd).mp (h.trans h2.symm)
theorem wsL_D {G : GG} (σ : St) (h : AP G) : va_D (AA G) (wsL G σ) := by
  refine ⟨fun i j p q hi hj e => ?_, fun k q hk => ?_⟩
  · obtain ⟨u, hu, rfl⟩ := wsL_inv hi
    obtain ⟨v, hv, rfl⟩ := wsL_inv hj
    have := h u (List.mem_of_getElem? hu) v (List.mem_of_getElem? hv) e
    subst this
    exact cellsL_inj hu hv
  · obtain ⟨u, hu, rfl⟩ := wsL_inv hk
    exact ⟨u, List.mem_of_getElem? hu, rfl⟩
theorem wsL_set {G : GG} {σ : St} {k g f : Nat} {ρ : Gr} {v : Nat → Int32} {e : va_E} (h : cellsL[k]? = some (g, f)) (he : e = mkC G (sh g f) v) : (wsL G (setG σ g ρ)).set k (aa G g f, e) = wsL G (setG σ g (setF ρ f v)) := by
  subst he
  apply List.ext_getElem?
  intro i
  rw [List.getElem?_set]
  have hk : k < (wsL G (setG σ g ρ)).length := by
    rw [show (wsL G (setG σ g ρ)).length = cellsL.length from List.length_map _]
    exact (List.getElem?_eq_some_iff.mp h).1
  by_cases hki : k = i
  · subst hki
    rw [if_pos rfl, if_pos hk, wsL_get h]
    show some _ = some (aa G g f, mkC G (sh g f) (setG σ g (setF ρ f v) g f))
    rw [setG_same, setF_same]
  · rw [if_neg hki]
    cases hi : cellsL[i]? with
    | none =>
      have e1 : (wsL G (setG σ g ρ))[i]? = none := by show (cellsL.map _)[i]? = _; rw [List.getElem?_map, hi]; rfl
      have e2 : (wsL G (setG σ g (setF ρ f v)))[i]? = none := by show (cellsL.map _)[i]? = _; rw [List.getElem?_map, hi]; rfl
      rw [e1, e2]
    | some q =>
      rw [wsL_get hi, wsL_get hi]
      have hne : q ≠ (g, f) := fun e => hki (cellsL_inj h (by rw [← e]; exact hi))
      have : setG σ g (setF ρ f v) q.1 q.2 = setG σ g ρ q.1 q.2 := by
        by_cases h1 : q.1 = g
        · rw [h1, setG_same, setG_same]
          exact setF_ne (fun h2 => hne (by rw [← h1, ← h2]))
        · rw [setG_ne h1, setG_ne h1]
      rw [this]
def Wd (G : GG) (s : State) (σ : St) (H : Heap) (locs : List Loc) : Prop := WO G σ H ∧ va_S (AA G) s.heap H locs
abbrev Wh (G : GG) (s : State) (σ : St) (g : Nat) (ρ : Gr) (H : Heap) (locs : List Loc) : Prop := Wd G s (setG σ g ρ) H locs
theorem Wd.at {G : GG} {s : State} {σ : St} {H : Heap} {locs : List Loc} (w : Wd G s σ H locs) (g : Nat) : Wh G s σ g (σ g) H locs := by
  show Wd G s (setG σ g (σ g)) H locs
  rw [setG_self]
  exact w
def Pr (G : GG) (U : State) : Prop := va_K G.1 vwCl [(G.2.1, .int), (G.2.2.1, .boolean)] U ∧ (∀ w ∈ nestW, va_Nw w U) ∧ AP G
def Cx (p : Program) (m : MethodId) (c : Code) (cc : ByteArray) (nL : Nat) (s : State) (args : Array Value) (own : String) (G : GG) : Prop := CallFix p m c cc nL s args tbl own ∧ Pr G s
def rmv (fr lo : Nat) : Room := { frames := fr, cells := 0, slots := 0, locals := lo }
def PreM (G : GG) (vs : List Value) (σ : St) : Array Value → State → Prop := va_Pc vs (fun U => Pr G U ∧ WO G σ U.heap)
theorem nestW_tab : ∀ w ∈ nestW, w.onTables = true := by decide +kernel
theorem Pr.warm {G : GG} {s U : State} (hW : s.WarmedH U.vm) (h : Pr G s) : Pr G U := by
  refine ⟨va_K.moved hW.alike h.1, fun w hw => ?_, h.2.2⟩
  have hz := h.2.1 w hw
  simp only [nestW, List.mem_cons, List.not_mem_nil, or_false] at hw
  rcases hw with rfl | rfl | rfl | rfl | rfl | rfl | rfl | rfl | rfl | rfl | rfl | rfl | rfl | rfl <;> exact va_Nw.warmM hW hz
theorem PreM.blind {G : GG} {vs : List Value} {σ : St} : FrameBlind (PreM G vs σ) := by
  intro a U g mk q
  obtain ⟨q0, ⟨qK, qN, qA⟩, qW⟩ := q
  exact ⟨q0, ⟨va_K.moved (u := U) (U := U.calling g mk a) (Vm.Alike.refl U.vm) qK, fun w hw => va_Nw.same (u := U) (U := U.calling g mk a) (nestW_tab w hw) rfl (qN w hw), qA⟩, qW⟩
section Rows
variable {p : Program} {l : Launch} {e : Env} {R : Room} {s : State} {m : MethodId} {args : Array Value} {below : List Frame} {meth : Method} {c : Code} {H : Heap} {locs : List Loc} {cells slots : Nat} {Q : State → Prop} {cc : ByteArray} {nL : Nat} {own : String} {pc : Nat} {ls : Array Slot} {rest : List Value} {G : GG} {σ : St} {g : Nat} {ρ : Gr}
theorem r_gv (X : Cx p m c cc nL s args own G) (w : Wh G s σ g ρ H locs) {f ci k N idx : Nat} {L : List (Option (Nat × Nat))} {C : String} {T : u_T} {o : Option (Nat × Nat)} (hq : (g, f) ∈ cellsL) (hsh : sh g f = .inl (ci, L)) (hl : L[k]? = some o) (hcl : vwCl[ci]? = some (C, T, N)) (hk : k < N) (hin : ∀ w ∈ u_ws C T N, w ∈ tbl) (hT : (T k).1 = C) (hlk : Cond.fieldLink own idx C (T k).2.1 (T k).2.2.1 ∈ tbl) (hd : decode cc pc = .ok (.getfield idx, 3))
    (kk : W p l e R s m args below meth c H locs cells slots Q (F0 m (pc + 3) ls (mkV G o (ρ f k) :: rest))) : W p l e R s m args below meth c H locs cells slots Q (F0 m pc ls (.ref (aa G g f) :: rest)) := by
  obtain ⟨k0, h1⟩ := List.getElem?_of_mem hq
  have h2 := wsL_get (G := G) (σ := setG σ g ρ) h1
  simp only [hsh, setG_same] at h2
  refine va_get X.1.1 X.1.2.1 X.1.2.2.2.2 hin X.1.2.2.2.1 X.2.1 w.1 k0 h2 hcl k hk (X.1.2.2.2.2 _ hlk) (fun x h => by rw [hT] at h; exact h) (v := mkV G o (ρ f k)) ?_ hd kk
  have := mkL_get G (ρ f) L 0 k o hl
  rw [Nat.zero_add] at this
  exact this
theorem r_pi (X : Cx p m c cc nL s args own G) (w : Wh G s σ g ρ H locs) {f ci k N idx : Nat} {L : List (Option (Nat × Nat))} {C : String} {T : u_T} {ty : FieldType} (hq : (g, f) ∈ cellsL) (hsh : sh g f = .inl (ci, L)) (hl : L[k]? = some none) (hcl : vwCl[ci]? = some (C, T, N)) (hk : k < N) (hin : ∀ w ∈ u_ws C T N, w ∈ tbl) (ty0 : Nat → FieldType) (hty : ∀ k, k < N → parseFieldDescriptor (T k).2.2.1 = some (ty0 k)) (hnm : ∀ a, a < N → ∀ b, b < N → a ≠ b → (T a).2.1 ≠ (T b).2.1) (hT : (T k).1 = C) (hlk : Cond.fieldLink own idx C (T k).2.1 (T k).2.2.1 ∈ tbl) (hfin : (T k).2.2.2 = false) (hdt : parseFieldDescriptor (T k).2.2.1 = some ty) {x : Int32} (hn : narrow ty (.int x) = .int x) (hf : fits ty (.int x) = true) (hd : decode cc pc = .ok (.putfield idx, 3))
    (kk : ∀ (H1 : Heap) (locs1 : List Loc), Wh G s σ g (up ρ f k x) H1 locs1 → W p l e R s m args below meth c H1 locs1 cells slots Q (F0 m (pc + 3) ls rest)) : W p l e R s m args below meth c H locs cells slots Q (F0 m pc ls (.int x :: .ref (aa G g f) :: rest)) := by
  obtain ⟨k0, h1⟩ := List.getElem?_of_mem hq
  have h2 := wsL_get (G := G) (σ := setG σ g ρ) h1
  simp only [hsh, setG_same] at h2
  have h3 := mkL_get G (ρ f) L 0 k none hl
  refine va_put X.1.1 X.1.2.1 X.1.2.2.2.2 hin ty0 hty hnm X.1.2.2.2.1 X.2.1 w.1 (wsL_D _ X.2.2.2) w.2 k0 h2 hcl k hk (X.1.2.2.2.2 _ hlk) (fun x h => by rw [hT] at h; exact h) hfin hdt hn hf (List.getElem?_eq_some_iff.mp h3).1 hd (fun H1 locs1 hP _ hS => ?_)
  refine kk H1 locs1 ⟨?_, hS⟩
  have h4 := mkL_set G (ρ f) x L 0 k hl
  rw [Nat.zero_add] at h4
  rw [h4, wsL_set (v := upd (ρ f) k x) h1 (by rw [hsh]; rfl)] at hP
  exact hP
theorem r_ia (X : Cx p m c cc nL s args own G) (w : Wh G s σ g ρ H locs) {f n : Nat} (hq : (g, f) ∈ cellsL) (hsh : sh g f = .inr (n, false)) {i : Int32} (hi : vp_in i n) (hd : decode cc pc = .ok (.iaload, 1))
    (kk : W p l e R s m args below meth c H locs cells slots Q (F0 m (pc + 1) ls (.int (ρ f i.toNatClampNeg) :: rest))) : W p l e R s m args below meth c H locs cells slots Q (F0 m pc ls (.int i :: .ref (aa G g f) :: rest)) := by
  obtain ⟨k0, h1⟩ := List.getElem?_of_mem hq
  have h2 := wsL_get (G := G) (σ := setG σ g ρ) h1
  simp only [hsh, setG_same] at h2
  exact va_iald X.1.1 X.1.2.1 X.2.1 w.1 k0 0 h2 rfl hi hd kk
theorem r_za (X : Cx p m c cc nL s args own G) (w : Wh G s σ g ρ H locs) {f n : Nat} (hq : (g, f) ∈ cellsL) (hsh : sh g f = .inr (n, true)) {i : Int32} (hi : vp_in i n) (hd : decode cc pc = .ok (.baload, 1))
    (kk : W p l e R s m args below meth c H locs cells slots Q (F0 m (pc + 1) ls (.int (ρ f i.toNatClampNeg) :: rest))) : W p l e R s m args below meth c H locs cells slots Q (F0 m pc ls (.int i :: .ref (aa G g f) :: rest)) := by
  obtain ⟨k0, h1⟩ := List.getElem?_of_mem hq
  have h2 := wsL_get (G := G) (σ := setG σ g ρ) h1
  simp only [hsh, setG_same] at h2
  exact va_zald X.1.1 X.1.2.1 X.2.1 w.1 k0 1 h2 rfl hi hd kk
theorem r_is (X : Cx p m c cc nL s args own G) (w : Wh G s σ g ρ H locs) {f n : Nat} (hq : (g, f) ∈ cellsL) (hsh : sh g f = .inr (n, false)) {i x : Int32} (hi : vp_in i n) (hd : decode cc pc = .ok (.iastore, 1))
    (kk : ∀ (H1 : Heap) (locs1 : List Loc), Wh G s σ g (up ρ f i.toNatClampNeg x) H1 locs1 → W p l e R s m args below meth c H1 locs1 cells slots Q (F0 m (pc + 1) ls rest)) : W p l e R s m args below meth c H locs cells slots Q (F0 m pc ls (.int x :: .int i :: .ref (aa G g f) :: rest)) := by
  obtain ⟨k0, h1⟩ := List.getElem?_of_mem hq
  have h2 := wsL_get (G := G) (σ := setG σ g ρ) h1
  simp only [hsh, setG_same] at h2
  refine va_iast X.1.1 X.1.2.1 X.2.1 w.1 (wsL_D _ X.2.2.2) w.2 k0 0 h2 rfl hi hd (fun H1 locs1 hP _ hS => kk H1 locs1 ⟨?_, hS⟩)
  rw [wsL_set (v := upd (ρ f) i.toNatClampNeg x) h1 (by rw [hsh]; rfl)] at hP
  exact hP
theorem r_zs (X : Cx p m c cc nL s args own G) (w : Wh G s σ g ρ H locs) {f n : Nat} (hq : (g, f) ∈ cellsL) (hsh : sh g f = .inr (n, true)) {i x : Int32} (hi : vp_in i n) (hx : vp_nar .boolean x = x) (hd : decode cc pc = .ok (.bastore, 1))
    (kk : ∀ (H1 : Heap) (locs1 : List Loc), Wh G s σ g (up ρ f i.toNatClampNeg x) H1 locs1 → W p l e R s m args below meth c H1 locs1 cells slots Q (F0 m (pc + 1) ls rest)) : W p l e R s m args below meth c H locs cells slots Q (F0 m pc ls (.int x :: .int i :: .ref (aa G g f) :: rest)) := by
  obtain ⟨k0, h1⟩ := List.getElem?_of_mem hq
  have h2 := wsL_get (G := G) (σ := setG σ g ρ) h1
  simp only [hsh, setG_same] at h2
  refine va_zast X.1.1 X.1.2.1 X.2.1 w.1 (wsL_D _ X.2.2.2) w.2 k0 1 h2 rfl hi hd (fun H1 locs1 hP _ hS => kk H1 locs1 ⟨?_, hS⟩)
  rw [hx, wsL_set (v := upd (ρ f) i.toNatClampNeg x) h1 (by rw [hsh]; rfl)] at hP
  exact hP
theorem r_al (X : Cx p m c cc nL s args own G) (w : Wh G s σ g ρ H locs) {f n : Nat} (hq : (g, f) ∈ cellsL) (hsh : sh g f = .inr (n, false)) {v : Int32} (hv : Int32.ofNat n = v) (hd : decode cc pc = .ok (.arraylength, 1))
    (kk : W p l e R s m args below meth c H locs cells slots Q (F0 m (pc + 1) ls (.int v :: rest))) : W p l e R s m args below meth c H locs cells slots Q (F0 m pc ls (.ref (aa G g f) :: rest)) := by
  obtain ⟨k0, h1⟩ := List.getElem?_of_mem hq
  have h2 := wsL_get (G := G) (σ := setG σ g ρ) h1
  simp only [hsh, setG_same] at h2
  exact va_alen X.1.1 X.1.2.1 X.2.1 w.1 k0 0 h2 (ty := .int) rfl hv hd kk
theorem r_cp (X : Cx p m c cc nL s args own G) (w : Wh G s σ g ρ H locs) (hls : ls.size = nL) {g0 f0 f n0 n1 idx : Nat} {src : Nat → Int32} (hq0 : (g0, f0) ∈ cellsL) (hsh0 : sh g0 f0 = .inr (n0, false)) (hsrc : setG σ g ρ g0 f0 = src) (hq : (g, f) ∈ cellsL) (hsh : sh g f = .inr (n1, false)) (hlk : Cond.methodLink own idx arraycopyName ∈ tbl) {n : Int32} (h3 : ¬ n < 0) (h4 : n.toNatClampNeg ≤ n0) (h5 : n.toNatClampNeg ≤ n1)
    (hfr : 1 ≤ R.frames) (hlo : (rest.map fun v => v.category).sum + (nativeFrameWords "java/lang/System" "arraycopy" 5 + 11) ≤ R.locals) (hd : decode cc pc = .ok (.invokestatic idx, 3))
    (kk : ∀ (H1 : Heap) (locs1 : List Loc), Wh G s σ g (setF ρ f (va_cpy src (ρ f) 0 0 n.toNatClampNeg)) H1 locs1 → W p l e R s m args below meth c H1 locs1 cells slots Q (F0 m (pc + 3) ls rest)) : W p l e R s m args below meth c H locs cells slots Q (F0 m pc ls (.int n :: .int 0 :: .ref (aa G g f) :: .int 0 :: .ref (aa G g0 f0) :: rest)) := by
  obtain ⟨k0, h1⟩ := List.getElem?_of_mem hq0
  have h2 := wsL_get (G := G) (σ := setG σ g ρ) h1
  simp only [hsh0, hsrc] at h2
  obtain ⟨k1, h1'⟩ := List.getElem?_of_mem hq
  have h2' := wsL_get (G := G) (σ := setG σ g ρ) h1'
  simp only [hsh, setG_same] at h2'
  have z0 : (0 : Int32).toNatClampNeg = 0 := by decide +kernel
  refine va_copyi X.1.1 X.1.2.1 (by rw [X.1.2.2.1, hls]) X.1.2.2.2.1 (X.1.2.2.2.2 _ hlk) (X.1.2.2.2.2 _ kw292) (X.1.2.2.2.2 _ kw291) (X.1.2.2.2.2 _ kw9) X.2.1 w.1 (wsL_D _ X.2.2.2) w.2 k0 k1 0 0 (ty := .int) h2 h2' rfl rfl rfl (by decide +kernel) (by decide +kernel) h3 (by rw [z0, Nat.zero_add]; exact h4) (by rw [z0, Nat.zero_add]; exact h5) (fun _ _ => rfl) hfr hlo hd (fun H1 locs1 hP _ hS => kk H1 locs1 ⟨?_, hS⟩)
  rw [z0, wsL_set (v := va_cpy src (ρ f) 0 0 n.toNatClampNeg) h1' (by rw [hsh]; rfl)] at hP
  exact hP
end Rows
/-- what the tables say of an instance method -/
def CM (y : MethodName) (C : String) (bytes : ByteArray) (maxL n : Nat) (ret : Option FieldType) : Prop := Cond.instanceMethod y ∈ tbl ∧ Cond.selects C y y ∈ tbl ∧ Cond.initialized C ∈ tbl ∧ Cond.code y bytes maxL ret ∈ tbl ∧ (y.cls = C ∧ y.cls ≠ "java/lang/invoke/MethodHandle" ∧ y.cls ≠ "java/lang/invoke/VarHandle" ∧ (parseMethodDescriptor y.desc).map (fun d => d.parameters.length) = some n)
/-- and of a static one -/
def CS (y : MethodName) (C : String) (bytes : ByteArray) (maxL n : Nat) (ret : Option FieldType) : Prop := Cond.static y ∈ tbl ∧ Cond.initialized C ∈ tbl ∧ Cond.code y bytes maxL ret ∈ tbl ∧ (y.cls = C ∧ y.cls ≠ "java/lang/invoke/MethodHandle" ∧ y.cls ≠ "java/lang/invoke/VarHandle" ∧ (parseMethodDescriptor y.desc).map (fun d => d.parameters.length) = some n)
theorem goodC {w : Cond} (h : w ∈ tbl) : GoodIn tbl (w :: tbl) := fun v hv => by
  have : v ∈ tbl := (List.mem_cons.mp hv).elim (fun e => e ▸ h) id
  exact ⟨this, good_of_word (tbl_ok v this)⟩
section Calls
variable {p : Program} {l : Launch} {e : Env} {R : Room} {s : State} {m : MethodId} {args : Array Value} {below : List Frame} {meth : Method} {c : Code} {H : Heap} {locs : List Loc} {cells slots : Nat} {Q : State → Prop} {cc : ByteArray} {nL : Nat} {own : String} {pc : Nat} {ls : Array Slot} {rest st As : List Value} {G : GG} {σ σ' : St} {y : MethodName} {C : String} {bytes : ByteArray} {maxL n fr lo idx : Nat} {ret : Option FieldType} {Qc : Array Value → State → Outcome → State → Prop} {host : String}
theorem rr_v {g f ci N : Nat} {L : List (Option (Nat × Nat))} {T : u_T} (X : Cx p m c cc nL s args own G) (w : Wd G s σ H locs) (cm : CM y C bytes maxL n ret) (hlk : Cond.methodLink own idx y ∈ tbl) (M : Met l y (Cond.code y bytes maxL ret :: tbl) (rmv fr lo) (PreM G (.ref (aa G g f) :: As) σ) Qc 0 0 (AA G)) (hq : (g, f) ∈ cellsL) (hsh : sh g f = .inl (ci, L)) (hcl : vwCl[ci]? = some (C, T, N)) (hR : fr + 1 ≤ R.frames ∧ 8 + (maxL + 11) + lo ≤ R.locals) (hn : As.length = n) (hls : ls.size = nL) (hst : st = As.reverse ++ .ref (aa G g f) :: rest) (hW : (rest.map fun v => v.category).sum ≤ 8) (hd : decode cc pc = .ok (.invokevirtual idx, 3)) (hc : cells ≤ R.cells ∧ slots ≤ R.slots) :
    va_Run p l e R s m args below meth c H locs cells slots 0 0 (F0 m pc ls st) rest (Qc (Value.ref (aa G g f) :: As).toArray) (AA G) := by
  obtain ⟨c1, c2, c3, c4, c5, c6⟩ := cm
  obtain ⟨k0, h1⟩ := List.getElem?_of_mem hq
  have h2 := wsL_get (G := G) (σ := σ) h1
  simp only [hsh] at h2
  refine va_runV X.1 M ⟨callB_of n X.1.2.2.2.2 (goodC c4) rfl rfl rfl (by rw [c5]; exact X.1.2.2.2.2 _ c3) (X.1.2.2.2.2 _ hlk) c6 hR, X.1.2.2.2.2 _ c1, X.1.2.2.2.2 _ c2⟩ ⟨PreM.blind, ?_, fun U hU hW => ⟨rfl, X.2.warm hW, by rw [hU]; exact w.1⟩⟩ rfl hn hls hst (lv_room hW) hd hc
  exact va_recv X.2.1 w.1 hcl h2
theorem rr_s (X : Cx p m c cc nL s args own G) (w : Wd G s σ H locs) (cm : CS y C bytes maxL n ret) (hlk : Cond.methodLink own idx y ∈ tbl) (M : Met l y (Cond.code y bytes maxL ret :: tbl) (rmv fr lo) (PreM G As σ) Qc 0 0 (AA G)) (hR : fr + 1 ≤ R.frames ∧ 8 + (maxL + 11) + lo ≤ R.locals) (hn : As.length = n) (hls : ls.size = nL) (hst : st = As.reverse ++ rest) (hW : (rest.map fun v => v.category).sum ≤ 8) (hd : decode cc pc = .ok (.invokestatic idx, 3)) (hc : cells ≤ R.cells ∧ slots ≤ R.slots) :
    va_Run p l e R s m args below meth c H locs cells slots 0 0 (F0 m pc ls st) rest (Qc As.toArray) (AA G) := by
  obtain ⟨c1, c3, c4, c5, c6⟩ := cm
  exact va_runS X.1 M ⟨callB_of n X.1.2.2.2.2 (goodC c4) rfl rfl rfl (by rw [c5]; exact X.1.2.2.2.2 _ c3) (X.1.2.2.2.2 _ hlk) c6 hR, X.1.2.2.2.2 _ c1⟩ ⟨PreM.blind, fun U hU hW => ⟨rfl, X.2.warm hW, by rw [hU]; exact w.1⟩⟩ rfl hn hls hst (lv_room hW) hd hc
theorem rr_n (X : Cx p m c cc nL s args own G) (w : Wd G s σ H locs) (cm : CS y C bytes maxL n ret) (hlk : Cond.methodLinkNest own idx y host ∈ nestW) (M : Met l y (Cond.code y bytes maxL ret :: tbl) (rmv fr lo) (PreM G As σ) Qc 0 0 (AA G)) (hR : fr + 1 ≤ R.frames ∧ 8 + (maxL + 11) + lo ≤ R.locals) (hn : As.length = n) (hls : ls.size = nL) (hst : st = As.reverse ++ rest) (hW : (rest.map fun v => v.category).sum ≤ 8) (hd : decode cc pc = .ok (.invokestatic idx, 3)) (hc : cells ≤ R.cells ∧ slots ≤ R.slots) :
    va_Run p l e R s m args below meth c H locs cells slots 0 0 (F0 m pc ls st) rest (Qc As.toArray) (AA G) := by
  obtain ⟨c1, c3, c4, c5, c6⟩ := cm
  exact va_runSN X.1 M ⟨va_cnB n X.1.2.2.2.2 (goodC c4) rfl rfl rfl (X.2.2.1 _ hlk) (by rw [c5]; exact X.1.2.2.2.2 _ c3) c6 hR, X.1.2.2.2.2 _ c1, trivial⟩ ⟨PreM.blind, fun U hU hW => ⟨rfl, X.2.warm hW, by rw [hU]; exact w.1⟩⟩ rfl hn hls hst (lv_room hW) hd hc
def Qi (G : GG) (r : Int32) (σ' : St) : Array Value → State → Outcome → State → Prop := va_Qi (fun a u => a = r ∧ u = σ') (fun u t => WO G u t.heap) (AA G)
def Ql (G : GG) (r : Int64) (σ' : St) : Array Value → State → Outcome → State → Prop := va_Ql (fun a u => a = r ∧ u = σ') (fun u t => WO G u t.heap) (AA G)
def Qv (G : GG) (σ' : St) : Array Value → State → Outcome → State → Prop := va_Qv (fun u => u = σ') (fun u t => WO G u t.heap) (AA G)
def Qr (G : GG) (r : Nat) (σ' : St) : Array Value → State → Outcome → State → Prop := va_Qr (fun u => u = σ') (fun u a t => a = r ∧ WO G u t.heap) (AA G)
theorem k_i {r : Int32} {a : Array Value} (hr : va_Run p l e R s m args below meth c H locs cells slots 0 0 (F0 m pc ls st) rest (Qi G r σ' a) (AA G)) (w : Wd G s σ H locs)
    (kk : ∀ (H1 : Heap) (locs1 : List Loc), Wd G s σ' H1 locs1 → W p l e R s m args below meth c H1 locs1 cells slots Q (F0 m (pc + 3) ls (.int r :: rest))) : W p l e R s m args below meth c H locs cells slots Q (F0 m pc ls st) := by
  refine va_calli hr w.2 (fun q _ h => h) (fun q h => h) (fun r1 u t H1 locs1 ht _ hp hB _ _ hS => ?_)
  obtain ⟨rfl, rfl⟩ := hp
  exact kk H1 locs1 ⟨by rw [← ht]; exact hB, hS⟩
theorem k_l {r : Int64} {a : Array Value} (hr : va_Run p l e R s m args below meth c H locs cells slots 0 0 (F0 m pc ls st) rest (Ql G r σ' a) (AA G)) (w : Wd G s σ H locs)
    (kk : ∀ (H1 : Heap) (locs1 : List Loc), Wd G s σ' H1 locs1 → W p l e R s m args below meth c H1 locs1 cells slots Q (F0 m (pc + 3) ls (.long r :: rest))) : W p l e R s m args below meth c H locs cells slots Q (F0 m pc ls st) := by
  refine va_calll hr w.2 (fun q _ h => h) (fun q h => h) (fun r1 u t H1 locs1 ht _ hp hB _ _ hS => ?_)
  obtain ⟨rfl, rfl⟩ := hp
  exact kk H1 locs1 ⟨by rw [← ht]; exact hB, hS⟩
theorem k_v {a : Array Value} (hr : va_Run p l e R s m args below meth c H locs cells slots 0 0 (F0 m pc ls st) rest (Qv G σ' a) (AA G)) (w : Wd G s σ H locs)
    (kk : ∀ (H1 : Heap) (locs1 : List Loc), Wd G s σ' H1 locs1 → W p l e R s m args below meth c H1 locs1 cells slots Q (F0 m (pc + 3) ls rest)) : W p l e R s m args below meth c H locs cells slots Q (F0 m pc ls st) := by
  refine va_callv hr w.2 (fun q _ h => h) (fun q h => h) (fun u t H1 locs1 ht _ hp hB _ _ hS => ?_)
  subst hp
  exact kk H1 locs1 ⟨by rw [← ht]; exact hB, hS⟩
theorem k_r {r : Nat} {a : Array Value} (hr : va_Run p l e R s m args below meth c H locs cells slots 0 0 (F0 m pc ls st) rest (Qr G r σ' a) (AA G)) (w : Wd G s σ H locs)
    (kk : ∀ (H1 : Heap) (locs1 : List Loc), Wd G s σ' H1 locs1 → W p l e R s m args below meth c H1 locs1 cells slots Q (F0 m (pc + 3) ls (.ref r :: rest))) : W p l e R s m args below meth c H locs cells slots Q (F0 m pc ls st) := by
  refine va_callr hr w.2 (fun q _ h => h) (fun q h => h) (fun u ra t H1 locs1 ht _ hp hB _ _ hS => ?_)
  subst hp
  obtain ⟨rfl, hB⟩ := hB
  exact kk H1 locs1 ⟨by rw [← ht]; exact hB, hS⟩
theorem t_i (X : Cx p m c cc nL s args own G) (w : Wd G s σ H locs) (hr : meth.sig.returnType = some .int) (hlk : meth.locks = false) {v r : Int32} (hd : decode cc pc = .ok (.ireturn, 1)) (e1 : v = r) (e2 : σ = σ') : W p l e R s m args below meth c H locs cells slots (MQ below (Qi G r σ') args s cells slots (AA G)) (F0 m pc ls [.int v]) :=
  W.iret (v := v) X.1.1 X.1.2.1 hr (fun t ht _ => ⟨⟨v, σ, rfl, ⟨e1, e2⟩, by show WO G σ t.heap; rw [ht]; exact w.1⟩, w.2.F ht⟩) w.2.2.2 hd hlk
theorem t_z (X : Cx p m c cc nL s args own G) (w : Wd G s σ H locs) (hr : meth.sig.returnType = some .boolean) (hlk : meth.locks = false) {v r : Int32} (hn : narrow .boolean (.int v) = .int v) (hd : decode cc pc = .ok (.ireturn, 1)) (e1 : v = r) (e2 : σ = σ') : W p l e R s m args below meth c H locs cells slots (MQ below (Qi G r σ') args s cells slots (AA G)) (F0 m pc ls [.int v]) :=
  W.zret (v := v) X.1.1 X.1.2.1 hr hn (fun t ht _ => ⟨⟨v, σ, rfl, ⟨e1, e2⟩, by show WO G σ t.heap; rw [ht]; exact w.1⟩, w.2.F ht⟩) w.2.2.2 hd hlk
theorem t_l (X : Cx p m c cc nL s args own G) (w : Wd G s σ H locs) (hr : meth.sig.returnType = some .long) (hlk : meth.locks = false) {v r : Int64} (hd : decode cc pc = .ok (.lreturn, 1)) (e1 : v = r) (e2 : σ = σ') : W p l e R s m args below meth c H locs cells slots (MQ below (Ql G r σ') args s cells slots (AA G)) (F0 m pc ls [.long v]) :=
  W.lret (v := v) X.1.1 X.1.2.1 hr (fun t ht _ => ⟨⟨v, σ, rfl, ⟨e1, e2⟩, by show WO G σ t.heap; rw [ht]; exact w.1⟩, w.2.F ht⟩) w.2.2.2 hd hlk
theorem t_v (X : Cx p m c cc nL s args own G) (w : Wd G s σ H locs) (hr : meth.sig.returnType = none) (hlk : meth.locks = false) (hd : decode cc pc = .ok (.return_, 1)) (e2 : σ = σ') : W p l e R s m args below meth c H locs cells slots (MQ below (Qv G σ') args s cells slots (AA G)) (F0 m pc ls []) :=
  W.vret X.1.1 X.1.2.1 hr (fun t ht _ => ⟨⟨σ, rfl, e2, by show WO G σ t.heap; rw [ht]; exact w.1⟩, w.2.F ht⟩) w.2.2.2 hd hlk
end Calls
section Entry
variable {l : Launch} {G : GG} {y : MethodName} {bytes : ByteArray} {maxL fr lo : Nat} {ret : Option FieldType} {vs : List Value} {σ : St} {Qc : Array Value → State → Outcome → State → Prop}
def MM (l : Launch) (G : GG) (y : MethodName) (bytes : ByteArray) (maxL fr lo : Nat) (ret : Option FieldType) (vs : List Value) (σ : St) (Qc : Array Value → State → Outcome → State → Prop) : Prop := Met l y (Cond.code y bytes maxL ret :: tbl) (rmv fr lo) (PreM G vs σ) Qc 0 0 (AA G)
theorem MM.of (hpl : plainName y.cls = true) (hlen : (lg_sl vs).length ≤ maxL)
    (body : ∀ (p : Program) (e : Env) (s : State) (m : MethodId) (below : List Frame) (meth : Method) (c : Code) (ls : Array Slot), Cx p m c bytes maxL s vs.toArray y.cls G → meth.sig.returnType = ret → meth.locks = false → Wd G s σ s.heap [] → lv_has ls maxL (lv_args 0 vs) →
      W p l e (rmv fr lo) s m vs.toArray below meth c s.heap [] 0 0 (MQ below Qc vs.toArray s 0 0 (AA G)) (F0 m 0 ls [])) : MM l G y bytes maxL fr lo ret vs σ Qc := by
  refine Met.ofW (cc := bytes) (maxL := maxL) (ret := ret) hpl rfl ?_
  intro p e s m args below meth c s₁ B hml hv
  obtain ⟨rfl, hPr, hW⟩ := hv
  have hts := atoms_spec (ws := Cond.code y bytes maxL ret :: tbl) B.pre
  have hl := lv_entry vs (n := maxL) hlen
  rw [lg_entry_eq]
  exact body p e s m below meth c _ ⟨⟨B.exec, B.bytes, hml, findClass_of_methodNamed B.named, fun w h => hts w (List.mem_cons_of_mem _ h)⟩, hPr⟩ B.returns B.notSynchronized ⟨hW, va_S.rf⟩ hl
end Entry
