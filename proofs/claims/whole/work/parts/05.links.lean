def HG (g : Nat) : Prop := g = 1 ∨ g = 2 ∨ g = 3
theorem HG.in {g f : Nat} (h : HG g) (hf : f < 21) : (g, f) ∈ cellsL := by
  have hm : ∀ z : Nat, (z, f) ∈ (List.range 21).map (fun f => (z, f)) := fun z => List.mem_map.mpr ⟨f, List.mem_range.mpr hf, rfl⟩
  rcases h with rfl | rfl | rfl
  · exact List.mem_append_right _ (List.mem_append_left _ (hm 1))
  · exact List.mem_append_right _ (List.mem_append_right _ (List.mem_append_left _ (hm 2)))
  · exact List.mem_append_right _ (List.mem_append_right _ (List.mem_append_right _ (List.mem_append_left _ (hm 3))))
theorem HG.sh {g f : Nat} (h : HG g) : sh g f = shH g f := by rcases h with rfl | rfl | rfl <;> rfl
theorem HG1 : HG 1 := Or.inl rfl
theorem HG2 : HG 2 := Or.inr (Or.inl rfl)
theorem HG3 : HG 3 := Or.inr (Or.inr rfl)
def isB (x : Int32) : Prop := x = 0 ∨ x = 1
theorem isB0 : isB 0 := Or.inl rfl
theorem isB1 : isB 1 := Or.inr rfl
theorem isB.n {x : Int32} (h : isB x) : narrow .boolean (.int x) = .int x := by rcases h with rfl | rfl <;> decide +kernel
theorem isB.f {x : Int32} (h : isB x) : fits .boolean (.int x) = true := by rcases h with rfl | rfl <;> decide +kernel
theorem isB.v {x : Int32} (h : isB x) : vp_nar .boolean x = x := by rcases h with rfl | rfl <;> decide +kernel
theorem isB.ite {p : Prop} [Decidable p] {x y : Int32} (hx : isB x) (hy : isB y) : isB (if p then x else y) := by by_cases h : p <;> simp [h, hx, hy]
theorem m0_0 : (0, 0) ∈ cellsL := by decide +kernel
theorem m0_1 : (0, 1) ∈ cellsL := by decide +kernel
theorem m0_2 : (0, 2) ∈ cellsL := by decide +kernel
theorem m0_3 : (0, 3) ∈ cellsL := by decide +kernel
theorem m0_4 : (0, 4) ∈ cellsL := by decide +kernel
theorem m4_0 : (4, 0) ∈ cellsL := by decide +kernel
theorem m4_1 : (4, 1) ∈ cellsL := by decide +kernel
theorem m4_2 : (4, 2) ∈ cellsL := by decide +kernel
theorem m4_3 : (4, 3) ∈ cellsL := by decide +kernel
theorem m4_4 : (4, 4) ∈ cellsL := by decide +kernel
theorem m4_5 : (4, 5) ∈ cellsL := by decide +kernel
theorem m4_6 : (4, 6) ∈ cellsL := by decide +kernel
theorem m4_7 : (4, 7) ∈ cellsL := by decide +kernel
theorem m4_9 : (4, 9) ∈ cellsL := by decide +kernel
theorem m4_10 : (4, 10) ∈ cellsL := by decide +kernel
theorem m4_11 : (4, 11) ∈ cellsL := by decide +kernel
theorem m4_12 : (4, 12) ∈ cellsL := by decide +kernel
theorem m4_13 : (4, 13) ∈ cellsL := by decide +kernel
theorem m4_14 : (4, 14) ∈ cellsL := by decide +kernel
theorem m4_16 : (4, 16) ∈ cellsL := by decide +kernel
theorem m4_17 : (4, 17) ∈ cellsL := by decide +kernel
theorem m4_18 : (4, 18) ∈ cellsL := by decide +kernel
theorem m4_19 : (4, 19) ∈ cellsL := by decide +kernel
theorem m4_29 : (4, 29) ∈ cellsL := by decide +kernel
theorem m4_31 : (4, 31) ∈ cellsL := by decide +kernel
theorem m4_33 : (4, 33) ∈ cellsL := by decide +kernel
theorem m4_35 : (4, 35) ∈ cellsL := by decide +kernel
theorem m4_38 : (4, 38) ∈ cellsL := by decide +kernel
theorem m4_39 : (4, 39) ∈ cellsL := by decide +kernel
theorem m4_47 : (4, 47) ∈ cellsL := by decide +kernel
theorem m4_48 : (4, 48) ∈ cellsL := by decide +kernel
theorem m4_49 : (4, 49) ∈ cellsL := by decide +kernel
theorem m4_50 : (4, 50) ∈ cellsL := by decide +kernel
theorem m4_52 : (4, 52) ∈ cellsL := by decide +kernel
section Links
variable {p : Program} {l : Launch} {e : Env} {R : Room} {s : State} {m : MethodId} {args : Array Value} {below : List Frame} {meth : Method} {c : Code} {H : Heap} {locs : List Loc} {cells slots : Nat} {Q : State → Prop} {cc : ByteArray} {nL : Nat} {pc : Nat} {ls : Array Slot} {rest : List Value} {G : GG} {σ : St} {g : Nat} {ρ : Gr}
theorem gf0_9 (hg : HG g) (X : Cx p m c cc nL s args RX0 G) (w : Wh G s σ g ρ H locs) (hd : decode cc pc = .ok (.getfield 9, 3)) (kk : W p l e R s m args below meth c H locs cells slots Q (F0 m (pc + 3) ls (.int (ρ 1 0) :: rest))) : W p l e R s m args below meth c H locs cells slots Q (F0 m pc ls (.ref (aa G g 1) :: rest)) :=
  r_gv X w (hg.in (by decide)) hg.sh (k := 0) rfl rfl (by decide) inT0 rfl kw31 hd kk
theorem pf0_9 (hg : HG g) (X : Cx p m c cc nL s args RX0 G) (w : Wh G s σ g ρ H locs) {x : Int32} (hd : decode cc pc = .ok (.putfield 9, 3)) (kk : ∀ (ρ1 : Gr) (H1 : Heap) (locs1 : List Loc), ρ1 = up ρ 1 0 x → Wh G s σ g ρ1 H1 locs1 → W p l e R s m args below meth c H1 locs1 cells slots Q (F0 m (pc + 3) ls rest)) : W p l e R s m args below meth c H locs cells slots Q (F0 m pc ls (.int x :: .ref (aa G g 1) :: rest)) :=
  r_pi X w (hg.in (by decide)) hg.sh (k := 0) rfl rfl (by decide) inT0 tyX0 tyX0_ok nmX0 rfl kw31 rfl (ty := .int) (by decide +kernel) rfl rfl hd (fun H1 locs1 w1 => kk _ H1 locs1 rfl w1)
theorem gf0_15 (hg : HG g) (X : Cx p m c cc nL s args RX0 G) (w : Wh G s σ g ρ H locs) (hd : decode cc pc = .ok (.getfield 15, 3)) (kk : W p l e R s m args below meth c H locs cells slots Q (F0 m (pc + 3) ls (.ref (aa G g 2) :: rest))) : W p l e R s m args below meth c H locs cells slots Q (F0 m pc ls (.ref (aa G g 1) :: rest)) :=
  r_gv X w (hg.in (by decide)) hg.sh (k := 1) rfl rfl (by decide) inT0 rfl kw33 hd kk
theorem gf0_19 (hg : HG g) (X : Cx p m c cc nL s args RX0 G) (w : Wh G s σ g ρ H locs) (hd : decode cc pc = .ok (.getfield 19, 3)) (kk : W p l e R s m args below meth c H locs cells slots Q (F0 m (pc + 3) ls (.ref (aa G g 3) :: rest))) : W p l e R s m args below meth c H locs cells slots Q (F0 m pc ls (.ref (aa G g 1) :: rest)) :=
  r_gv X w (hg.in (by decide)) hg.sh (k := 2) rfl rfl (by decide) inT0 rfl kw34 hd kk
theorem gf0_22 (hg : HG g) (X : Cx p m c cc nL s args RX0 G) (w : Wh G s σ g ρ H locs) (hd : decode cc pc = .ok (.getfield 22, 3)) (kk : W p l e R s m args below meth c H locs cells slots Q (F0 m (pc + 3) ls (.ref (aa G g 4) :: rest))) : W p l e R s m args below meth c H locs cells slots Q (F0 m pc ls (.ref (aa G g 1) :: rest)) :=
  r_gv X w (hg.in (by decide)) hg.sh (k := 3) rfl rfl (by decide) inT0 rfl kw35 hd kk
theorem gf0_25 (hg : HG g) (X : Cx p m c cc nL s args RX0 G) (w : Wh G s σ g ρ H locs) (hd : decode cc pc = .ok (.getfield 25, 3)) (kk : W p l e R s m args below meth c H locs cells slots Q (F0 m (pc + 3) ls (.ref (aa G g 5) :: rest))) : W p l e R s m args below meth c H locs cells slots Q (F0 m pc ls (.ref (aa G g 1) :: rest)) :=
  r_gv X w (hg.in (by decide)) hg.sh (k := 4) rfl rfl (by decide) inT0 rfl kw36 hd kk
theorem gf0_28 (hg : HG g) (X : Cx p m c cc nL s args RX0 G) (w : Wh G s σ g ρ H locs) (hd : decode cc pc = .ok (.getfield 28, 3)) (kk : W p l e R s m args below meth c H locs cells slots Q (F0 m (pc + 3) ls (.ref (aa G g 6) :: rest))) : W p l e R s m args below meth c H locs cells slots Q (F0 m pc ls (.ref (aa G g 1) :: rest)) :=
  r_gv X w (hg.in (by decide)) hg.sh (k := 5) rfl rfl (by decide) inT0 rfl kw37 hd kk
theorem gf0_31 (hg : HG g) (X : Cx p m c cc nL s args RX0 G) (w : Wh G s σ g ρ H locs) (hd : decode cc pc = .ok (.getfield 31, 3)) (kk : W p l e R s m args below meth c H locs cells slots Q (F0 m (pc + 3) ls (.ref (aa G g 7) :: rest))) : W p l e R s m args below meth c H locs cells slots Q (F0 m pc ls (.ref (aa G g 1) :: rest)) :=
  r_gv X w (hg.in (by decide)) hg.sh (k := 6) rfl rfl (by decide) inT0 rfl kw38 hd kk
theorem gf0_34 (hg : HG g) (X : Cx p m c cc nL s args RX0 G) (w : Wh G s σ g ρ H locs) (hd : decode cc pc = .ok (.getfield 34, 3)) (kk : W p l e R s m args below meth c H locs cells slots Q (F0 m (pc + 3) ls (.ref (aa G g 8) :: rest))) : W p l e R s m args below meth c H locs cells slots Q (F0 m pc ls (.ref (aa G g 1) :: rest)) :=
  r_gv X w (hg.in (by decide)) hg.sh (k := 7) rfl rfl (by decide) inT0 rfl kw40 hd kk
theorem gf1_9 (X : Cx p m c cc nL s args RX1 G) (w : Wh G s σ 0 ρ H locs) (hd : decode cc pc = .ok (.getfield 9, 3)) (kk : W p l e R s m args below meth c H locs cells slots Q (F0 m (pc + 3) ls (.int (ρ 1 0) :: rest))) : W p l e R s m args below meth c H locs cells slots Q (F0 m pc ls (.ref (aa G 0 1) :: rest)) :=
  r_gv X w m0_1 rfl (k := 0) rfl rfl (by decide) inT1 rfl kw203 hd kk
theorem pf1_9 (X : Cx p m c cc nL s args RX1 G) (w : Wh G s σ 0 ρ H locs) {x : Int32} (hd : decode cc pc = .ok (.putfield 9, 3)) (kk : ∀ (ρ1 : Gr) (H1 : Heap) (locs1 : List Loc), ρ1 = up ρ 1 0 x → Wh G s σ 0 ρ1 H1 locs1 → W p l e R s m args below meth c H1 locs1 cells slots Q (F0 m (pc + 3) ls rest)) : W p l e R s m args below meth c H locs cells slots Q (F0 m pc ls (.int x :: .ref (aa G 0 1) :: rest)) :=
  r_pi X w m0_1 rfl (k := 0) rfl rfl (by decide) inT1 tyX1 tyX1_ok nmX1 rfl kw203 rfl (ty := .int) (by decide +kernel) rfl rfl hd (fun H1 locs1 w1 => kk _ H1 locs1 rfl w1)
theorem gf1_15 (X : Cx p m c cc nL s args RX1 G) (w : Wh G s σ 0 ρ H locs) (hd : decode cc pc = .ok (.getfield 15, 3)) (kk : W p l e R s m args below meth c H locs cells slots Q (F0 m (pc + 3) ls (.ref (aa G 0 2) :: rest))) : W p l e R s m args below meth c H locs cells slots Q (F0 m pc ls (.ref (aa G 0 1) :: rest)) :=
  r_gv X w m0_1 rfl (k := 1) rfl rfl (by decide) inT1 rfl kw205 hd kk
theorem gf1_19 (X : Cx p m c cc nL s args RX1 G) (w : Wh G s σ 0 ρ H locs) (hd : decode cc pc = .ok (.getfield 19, 3)) (kk : W p l e R s m args below meth c H locs cells slots Q (F0 m (pc + 3) ls (.int (ρ 1 2) :: rest))) : W p l e R s m args below meth c H locs cells slots Q (F0 m pc ls (.ref (aa G 0 1) :: rest)) :=
  r_gv X w m0_1 rfl (k := 2) rfl rfl (by decide) inT1 rfl kw206 hd kk
theorem pf1_19 (X : Cx p m c cc nL s args RX1 G) (w : Wh G s σ 0 ρ H locs) {x : Int32} (hd : decode cc pc = .ok (.putfield 19, 3)) (kk : ∀ (ρ1 : Gr) (H1 : Heap) (locs1 : List Loc), ρ1 = up ρ 1 2 x → Wh G s σ 0 ρ1 H1 locs1 → W p l e R s m args below meth c H1 locs1 cells slots Q (F0 m (pc + 3) ls rest)) : W p l e R s m args below meth c H locs cells slots Q (F0 m pc ls (.int x :: .ref (aa G 0 1) :: rest)) :=
  r_pi X w m0_1 rfl (k := 2) rfl rfl (by decide) inT1 tyX1 tyX1_ok nmX1 rfl kw206 rfl (ty := .int) (by decide +kernel) rfl rfl hd (fun H1 locs1 w1 => kk _ H1 locs1 rfl w1)
theorem gf1_22 (X : Cx p m c cc nL s args RX1 G) (w : Wh G s σ 0 ρ H locs) (hd : decode cc pc = .ok (.getfield 22, 3)) (kk : W p l e R s m args below meth c H locs cells slots Q (F0 m (pc + 3) ls (.int (ρ 1 3) :: rest))) : W p l e R s m args below meth c H locs cells slots Q (F0 m pc ls (.ref (aa G 0 1) :: rest)) :=
  r_gv X w m0_1 rfl (k := 3) rfl rfl (by decide) inT1 rfl kw207 hd kk
theorem pf1_22 (X : Cx p m c cc nL s args RX1 G) (w : Wh G s σ 0 ρ H locs) {x : Int32} (hd : decode cc pc = .ok (.putfield 22, 3)) (kk : ∀ (ρ1 : Gr) (H1 : Heap) (locs1 : List Loc), ρ1 = up ρ 1 3 x → Wh G s σ 0 ρ1 H1 locs1 → W p l e R s m args below meth c H1 locs1 cells slots Q (F0 m (pc + 3) ls rest)) : W p l e R s m args below meth c H locs cells slots Q (F0 m pc ls (.int x :: .ref (aa G 0 1) :: rest)) :=
  r_pi X w m0_1 rfl (k := 3) rfl rfl (by decide) inT1 tyX1 tyX1_ok nmX1 rfl kw207 rfl (ty := .int) (by decide +kernel) rfl rfl hd (fun H1 locs1 w1 => kk _ H1 locs1 rfl w1)
theorem gf1_25 (X : Cx p m c cc nL s args RX1 G) (w : Wh G s σ 0 ρ H locs) (hd : decode cc pc = .ok (.getfield 25, 3)) (kk : W p l e R s m args below meth c H locs cells slots Q (F0 m (pc + 3) ls (.int (ρ 1 4) :: rest))) : W p l e R s m args below meth c H locs cells slots Q (F0 m pc ls (.ref (aa G 0 1) :: rest)) :=
  r_gv X w m0_1 rfl (k := 4) rfl rfl (by decide) inT1 rfl kw208 hd kk
theorem pf1_25 (X : Cx p m c cc nL s args RX1 G) (w : Wh G s σ 0 ρ H locs) {x : Int32} (hd : decode cc pc = .ok (.putfield 25, 3)) (kk : ∀ (ρ1 : Gr) (H1 : Heap) (locs1 : List Loc), ρ1 = up ρ 1 4 x → Wh G s σ 0 ρ1 H1 locs1 → W p l e R s m args below meth c H1 locs1 cells slots Q (F0 m (pc + 3) ls rest)) : W p l e R s m args below meth c H locs cells slots Q (F0 m pc ls (.int x :: .ref (aa G 0 1) :: rest)) :=
  r_pi X w m0_1 rfl (k := 4) rfl rfl (by decide) inT1 tyX1 tyX1_ok nmX1 rfl kw208 rfl (ty := .int) (by decide +kernel) rfl rfl hd (fun H1 locs1 w1 => kk _ H1 locs1 rfl w1)
theorem gf1_28 (X : Cx p m c cc nL s args RX1 G) (w : Wh G s σ 0 ρ H locs) (hd : decode cc pc = .ok (.getfield 28, 3)) (kk : W p l e R s m args below meth c H locs cells slots Q (F0 m (pc + 3) ls (.int (ρ 1 5) :: rest))) : W p l e R s m args below meth c H locs cells slots Q (F0 m pc ls (.ref (aa G 0 1) :: rest)) :=
  r_gv X w m0_1 rfl (k := 5) rfl rfl (by decide) inT1 rfl kw209 hd kk
theorem pf1_28 (X : Cx p m c cc nL s args RX1 G) (w : Wh G s σ 0 ρ H locs) {x : Int32} (hd : decode cc pc = .ok (.putfield 28, 3)) (kk : ∀ (ρ1 : Gr) (H1 : Heap) (locs1 : List Loc), ρ1 = up ρ 1 5 x → Wh G s σ 0 ρ1 H1 locs1 → W p l e R s m args below meth c H1 locs1 cells slots Q (F0 m (pc + 3) ls rest)) : W p l e R s m args below meth c H locs cells slots Q (F0 m pc ls (.int x :: .ref (aa G 0 1) :: rest)) :=
  r_pi X w m0_1 rfl (k := 5) rfl rfl (by decide) inT1 tyX1 tyX1_ok nmX1 rfl kw209 rfl (ty := .int) (by decide +kernel) rfl rfl hd (fun H1 locs1 w1 => kk _ H1 locs1 rfl w1)
theorem gf1_31 (X : Cx p m c cc nL s args RX1 G) (w : Wh G s σ 0 ρ H locs) (hd : decode cc pc = .ok (.getfield 31, 3)) (kk : W p l e R s m args below meth c H locs cells slots Q (F0 m (pc + 3) ls (.int (ρ 1 6) :: rest))) : W p l e R s m args below meth c H locs cells slots Q (F0 m pc ls (.ref (aa G 0 1) :: rest)) :=
  r_gv X w m0_1 rfl (k := 6) rfl rfl (by decide) inT1 rfl kw210 hd kk
theorem pf1_31 (X : Cx p m c cc nL s args RX1 G) (w : Wh G s σ 0 ρ H locs) {x : Int32} (hd : decode cc pc = .ok (.putfield 31, 3)) (kk : ∀ (ρ1 : Gr) (H1 : Heap) (locs1 : List Loc), ρ1 = up ρ 1 6 x → Wh G s σ 0 ρ1 H1 locs1 → W p l e R s m args below meth c H1 locs1 cells slots Q (F0 m (pc + 3) ls rest)) : W p l e R s m args below meth c H locs cells slots Q (F0 m pc ls (.int x :: .ref (aa G 0 1) :: rest)) :=
  r_pi X w m0_1 rfl (k := 6) rfl rfl (by decide) inT1 tyX1 tyX1_ok nmX1 rfl kw210 rfl (ty := .int) (by decide +kernel) rfl rfl hd (fun H1 locs1 w1 => kk _ H1 locs1 rfl w1)
theorem gf1_34 (X : Cx p m c cc nL s args RX1 G) (w : Wh G s σ 0 ρ H locs) (hd : decode cc pc = .ok (.getfield 34, 3)) (kk : W p l e R s m args below meth c H locs cells slots Q (F0 m (pc + 3) ls (.int (ρ 1 7) :: rest))) : W p l e R s m args below meth c H locs cells slots Q (F0 m pc ls (.ref (aa G 0 1) :: rest)) :=
  r_gv X w m0_1 rfl (k := 7) rfl rfl (by decide) inT1 rfl kw211 hd kk
theorem pf1_34 (X : Cx p m c cc nL s args RX1 G) (w : Wh G s σ 0 ρ H locs) {x : Int32} (hd : decode cc pc = .ok (.putfield 34, 3)) (kk : ∀ (ρ1 : Gr) (H1 : Heap) (locs1 : List Loc), ρ1 = up ρ 1 7 x → Wh G s σ 0 ρ1 H1 locs1 → W p l e R s m args below meth c H1 locs1 cells slots Q (F0 m (pc + 3) ls rest)) : W p l e R s m args below meth c H locs cells slots Q (F0 m pc ls (.int x :: .ref (aa G 0 1) :: rest)) :=
  r_pi X w m0_1 rfl (k := 7) rfl rfl (by decide) inT1 tyX1 tyX1_ok nmX1 rfl kw211 rfl (ty := .int) (by decide +kernel) rfl rfl hd (fun H1 locs1 w1 => kk _ H1 locs1 rfl w1)
theorem gf1_37 (X : Cx p m c cc nL s args RX1 G) (w : Wh G s σ 0 ρ H locs) (hd : decode cc pc = .ok (.getfield 37, 3)) (kk : W p l e R s m args below meth c H locs cells slots Q (F0 m (pc + 3) ls (.int (ρ 1 8) :: rest))) : W p l e R s m args below meth c H locs cells slots Q (F0 m pc ls (.ref (aa G 0 1) :: rest)) :=
  r_gv X w m0_1 rfl (k := 8) rfl rfl (by decide) inT1 rfl kw212 hd kk
theorem pf1_37 (X : Cx p m c cc nL s args RX1 G) (w : Wh G s σ 0 ρ H locs) {x : Int32} (hd : decode cc pc = .ok (.putfield 37, 3)) (kk : ∀ (ρ1 : Gr) (H1 : Heap) (locs1 : List Loc), ρ1 = up ρ 1 8 x → Wh G s σ 0 ρ1 H1 locs1 → W p l e R s m args below meth c H1 locs1 cells slots Q (F0 m (pc + 3) ls rest)) : W p l e R s m args below meth c H locs cells slots Q (F0 m pc ls (.int x :: .ref (aa G 0 1) :: rest)) :=
  r_pi X w m0_1 rfl (k := 8) rfl rfl (by decide) inT1 tyX1 tyX1_ok nmX1 rfl kw212 rfl (ty := .int) (by decide +kernel) rfl rfl hd (fun H1 locs1 w1 => kk _ H1 locs1 rfl w1)
theorem gf1_40 (X : Cx p m c cc nL s args RX1 G) (w : Wh G s σ 0 ρ H locs) (hd : decode cc pc = .ok (.getfield 40, 3)) (kk : W p l e R s m args below meth c H locs cells slots Q (F0 m (pc + 3) ls (.int (ρ 1 9) :: rest))) : W p l e R s m args below meth c H locs cells slots Q (F0 m pc ls (.ref (aa G 0 1) :: rest)) :=
  r_gv X w m0_1 rfl (k := 9) rfl rfl (by decide) inT1 rfl kw213 hd kk
theorem pf1_40 (X : Cx p m c cc nL s args RX1 G) (w : Wh G s σ 0 ρ H locs) {x : Int32} (hd : decode cc pc = .ok (.putfield 40, 3)) (kk : ∀ (ρ1 : Gr) (H1 : Heap) (locs1 : List Loc), ρ1 = up ρ 1 9 x → Wh G s σ 0 ρ1 H1 locs1 → W p l e R s m args below meth c H1 locs1 cells slots Q (F0 m (pc + 3) ls rest)) : W p l e R s m args below meth c H locs cells slots Q (F0 m pc ls (.int x :: .ref (aa G 0 1) :: rest)) :=
  r_pi X w m0_1 rfl (k := 9) rfl rfl (by decide) inT1 tyX1 tyX1_ok nmX1 rfl kw213 rfl (ty := .int) (by decide +kernel) rfl rfl hd (fun H1 locs1 w1 => kk _ H1 locs1 rfl w1)
theorem gf1_43 (X : Cx p m c cc nL s args RX1 G) (w : Wh G s σ 0 ρ H locs) (hd : decode cc pc = .ok (.getfield 43, 3)) (kk : W p l e R s m args below meth c H locs cells slots Q (F0 m (pc + 3) ls (.int (ρ 1 10) :: rest))) : W p l e R s m args below meth c H locs cells slots Q (F0 m pc ls (.ref (aa G 0 1) :: rest)) :=
  r_gv X w m0_1 rfl (k := 10) rfl rfl (by decide) inT1 rfl kw214 hd kk
theorem pf1_43 (X : Cx p m c cc nL s args RX1 G) (w : Wh G s σ 0 ρ H locs) {x : Int32} (hd : decode cc pc = .ok (.putfield 43, 3)) (kk : ∀ (ρ1 : Gr) (H1 : Heap) (locs1 : List Loc), ρ1 = up ρ 1 10 x → Wh G s σ 0 ρ1 H1 locs1 → W p l e R s m args below meth c H1 locs1 cells slots Q (F0 m (pc + 3) ls rest)) : W p l e R s m args below meth c H locs cells slots Q (F0 m pc ls (.int x :: .ref (aa G 0 1) :: rest)) :=
  r_pi X w m0_1 rfl (k := 10) rfl rfl (by decide) inT1 tyX1 tyX1_ok nmX1 rfl kw214 rfl (ty := .int) (by decide +kernel) rfl rfl hd (fun H1 locs1 w1 => kk _ H1 locs1 rfl w1)
theorem gf1_46 (X : Cx p m c cc nL s args RX1 G) (w : Wh G s σ 0 ρ H locs) (hd : decode cc pc = .ok (.getfield 46, 3)) (kk : W p l e R s m args below meth c H locs cells slots Q (F0 m (pc + 3) ls (.int (ρ 1 11) :: rest))) : W p l e R s m args below meth c H locs cells slots Q (F0 m pc ls (.ref (aa G 0 1) :: rest)) :=
  r_gv X w m0_1 rfl (k := 11) rfl rfl (by decide) inT1 rfl kw215 hd kk
theorem pf1_46 (X : Cx p m c cc nL s args RX1 G) (w : Wh G s σ 0 ρ H locs) {x : Int32} (hd : decode cc pc = .ok (.putfield 46, 3)) (kk : ∀ (ρ1 : Gr) (H1 : Heap) (locs1 : List Loc), ρ1 = up ρ 1 11 x → Wh G s σ 0 ρ1 H1 locs1 → W p l e R s m args below meth c H1 locs1 cells slots Q (F0 m (pc + 3) ls rest)) : W p l e R s m args below meth c H locs cells slots Q (F0 m pc ls (.int x :: .ref (aa G 0 1) :: rest)) :=
  r_pi X w m0_1 rfl (k := 11) rfl rfl (by decide) inT1 tyX1 tyX1_ok nmX1 rfl kw215 rfl (ty := .int) (by decide +kernel) rfl rfl hd (fun H1 locs1 w1 => kk _ H1 locs1 rfl w1)
theorem gf1_57 (hg : HG g) (X : Cx p m c cc nL s args RX1 G) (w : Wh G s σ g ρ H locs) (hd : decode cc pc = .ok (.getfield 57, 3)) (kk : W p l e R s m args below meth c H locs cells slots Q (F0 m (pc + 3) ls (.ref (aa G g 1) :: rest))) : W p l e R s m args below meth c H locs cells slots Q (F0 m pc ls (.ref (aa G g 0) :: rest)) :=
  r_gv X w (hg.in (by decide)) hg.sh (k := 0) rfl rfl (by decide) inT3 rfl kw152 hd kk
theorem gf2_9 (hg : HG g) (X : Cx p m c cc nL s args RX2 G) (w : Wh G s σ g ρ H locs) (hd : decode cc pc = .ok (.getfield 9, 3)) (kk : W p l e R s m args below meth c H locs cells slots Q (F0 m (pc + 3) ls (.int (ρ 19 0) :: rest))) : W p l e R s m args below meth c H locs cells slots Q (F0 m pc ls (.ref (aa G g 19) :: rest)) :=
  r_gv X w (hg.in (by decide)) hg.sh (k := 0) rfl rfl (by decide) inT2 rfl kw126 hd kk
theorem pf2_9 (hg : HG g) (X : Cx p m c cc nL s args RX2 G) (w : Wh G s σ g ρ H locs) {x : Int32} (hd : decode cc pc = .ok (.putfield 9, 3)) (kk : ∀ (ρ1 : Gr) (H1 : Heap) (locs1 : List Loc), ρ1 = up ρ 19 0 x → Wh G s σ g ρ1 H1 locs1 → W p l e R s m args below meth c H1 locs1 cells slots Q (F0 m (pc + 3) ls rest)) : W p l e R s m args below meth c H locs cells slots Q (F0 m pc ls (.int x :: .ref (aa G g 19) :: rest)) :=
  r_pi X w (hg.in (by decide)) hg.sh (k := 0) rfl rfl (by decide) inT2 tyX2 tyX2_ok nmX2 rfl kw126 rfl (ty := .int) (by decide +kernel) rfl rfl hd (fun H1 locs1 w1 => kk _ H1 locs1 rfl w1)
theorem gf2_15 (hg : HG g) (X : Cx p m c cc nL s args RX2 G) (w : Wh G s σ g ρ H locs) (hd : decode cc pc = .ok (.getfield 15, 3)) (kk : W p l e R s m args below meth c H locs cells slots Q (F0 m (pc + 3) ls (.int (ρ 19 1) :: rest))) : W p l e R s m args below meth c H locs cells slots Q (F0 m pc ls (.ref (aa G g 19) :: rest)) :=
  r_gv X w (hg.in (by decide)) hg.sh (k := 1) rfl rfl (by decide) inT2 rfl kw129 hd kk
theorem pf2_15 (hg : HG g) (X : Cx p m c cc nL s args RX2 G) (w : Wh G s σ g ρ H locs) {x : Int32} (hd : decode cc pc = .ok (.putfield 15, 3)) (kk : ∀ (ρ1 : Gr) (H1 : Heap) (locs1 : List Loc), ρ1 = up ρ 19 1 x → Wh G s σ g ρ1 H1 locs1 → W p l e R s m args below meth c H1 locs1 cells slots Q (F0 m (pc + 3) ls rest)) : W p l e R s m args below meth c H locs cells slots Q (F0 m pc ls (.int x :: .ref (aa G g 19) :: rest)) :=
  r_pi X w (hg.in (by decide)) hg.sh (k := 1) rfl rfl (by decide) inT2 tyX2 tyX2_ok nmX2 rfl kw129 rfl (ty := .int) (by decide +kernel) rfl rfl hd (fun H1 locs1 w1 => kk _ H1 locs1 rfl w1)
theorem gf2_18 (hg : HG g) (X : Cx p m c cc nL s args RX2 G) (w : Wh G s σ g ρ H locs) (hd : decode cc pc = .ok (.getfield 18, 3)) (kk : W p l e R s m args below meth c H locs cells slots Q (F0 m (pc + 3) ls (.int (ρ 19 2) :: rest))) : W p l e R s m args below meth c H locs cells slots Q (F0 m pc ls (.ref (aa G g 19) :: rest)) :=
  r_gv X w (hg.in (by decide)) hg.sh (k := 2) rfl rfl (by decide) inT2 rfl kw132 hd kk
theorem pf2_18 (hg : HG g) (X : Cx p m c cc nL s args RX2 G) (w : Wh G s σ g ρ H locs) {x : Int32} (hd : decode cc pc = .ok (.putfield 18, 3)) (kk : ∀ (ρ1 : Gr) (H1 : Heap) (locs1 : List Loc), ρ1 = up ρ 19 2 x → Wh G s σ g ρ1 H1 locs1 → W p l e R s m args below meth c H1 locs1 cells slots Q (F0 m (pc + 3) ls rest)) : W p l e R s m args below meth c H locs cells slots Q (F0 m pc ls (.int x :: .ref (aa G g 19) :: rest)) :=
  r_pi X w (hg.in (by decide)) hg.sh (k := 2) rfl rfl (by decide) inT2 tyX2 tyX2_ok nmX2 rfl kw132 rfl (ty := .int) (by decide +kernel) rfl rfl hd (fun H1 locs1 w1 => kk _ H1 locs1 rfl w1)
theorem gf2_21 (hg : HG g) (X : Cx p m c cc nL s args RX2 G) (w : Wh G s σ g ρ H locs) (hd : decode cc pc = .ok (.getfield 21, 3)) (kk : W p l e R s m args below meth c H locs cells slots Q (F0 m (pc + 3) ls (.int (ρ 19 3) :: rest))) : W p l e R s m args below meth c H locs cells slots Q (F0 m pc ls (.ref (aa G g 19) :: rest)) :=
  r_gv X w (hg.in (by decide)) hg.sh (k := 3) rfl rfl (by decide) inT2 rfl kw135 hd kk
theorem pf2_21 (hg : HG g) (X : Cx p m c cc nL s args RX2 G) (w : Wh G s σ g ρ H locs) {x : Int32} (hd : decode cc pc = .ok (.putfield 21, 3)) (kk : ∀ (ρ1 : Gr) (H1 : Heap) (locs1 : List Loc), ρ1 = up ρ 19 3 x → Wh G s σ g ρ1 H1 locs1 → W p l e R s m args below meth c H1 locs1 cells slots Q (F0 m (pc + 3) ls rest)) : W p l e R s m args below meth c H locs cells slots Q (F0 m pc ls (.int x :: .ref (aa G g 19) :: rest)) :=
  r_pi X w (hg.in (by decide)) hg.sh (k := 3) rfl rfl (by decide) inT2 tyX2 tyX2_ok nmX2 rfl kw135 rfl (ty := .int) (by decide +kernel) rfl rfl hd (fun H1 locs1 w1 => kk _ H1 locs1 rfl w1)
theorem gf2_24 (hg : HG g) (X : Cx p m c cc nL s args RX2 G) (w : Wh G s σ g ρ H locs) (hd : decode cc pc = .ok (.getfield 24, 3)) (kk : W p l e R s m args below meth c H locs cells slots Q (F0 m (pc + 3) ls (.int (ρ 19 4) :: rest))) : W p l e R s m args below meth c H locs cells slots Q (F0 m pc ls (.ref (aa G g 19) :: rest)) :=
  r_gv X w (hg.in (by decide)) hg.sh (k := 4) rfl rfl (by decide) inT2 rfl kw137 hd kk
theorem pf2_24 (hg : HG g) (X : Cx p m c cc nL s args RX2 G) (w : Wh G s σ g ρ H locs) {x : Int32} (hd : decode cc pc = .ok (.putfield 24, 3)) (kk : ∀ (ρ1 : Gr) (H1 : Heap) (locs1 : List Loc), ρ1 = up ρ 19 4 x → Wh G s σ g ρ1 H1 locs1 → W p l e R s m args below meth c H1 locs1 cells slots Q (F0 m (pc + 3) ls rest)) : W p l e R s m args below meth c H locs cells slots Q (F0 m pc ls (.int x :: .ref (aa G g 19) :: rest)) :=
  r_pi X w (hg.in (by decide)) hg.sh (k := 4) rfl rfl (by decide) inT2 tyX2 tyX2_ok nmX2 rfl kw137 rfl (ty := .int) (by decide +kernel) rfl rfl hd (fun H1 locs1 w1 => kk _ H1 locs1 rfl w1)
theorem gf3_12 (hg : HG g) (X : Cx p m c cc nL s args RX3 G) (w : Wh G s σ g ρ H locs) (hd : decode cc pc = .ok (.getfield 12, 3)) (kk : W p l e R s m args below meth c H locs cells slots Q (F0 m (pc + 3) ls (.ref (aa G g 1) :: rest))) : W p l e R s m args below meth c H locs cells slots Q (F0 m pc ls (.ref (aa G g 0) :: rest)) :=
  r_gv X w (hg.in (by decide)) hg.sh (k := 0) rfl rfl (by decide) inT3 rfl kw150 hd kk
theorem gf3_21 (hg : HG g) (X : Cx p m c cc nL s args RX3 G) (w : Wh G s σ g ρ H locs) (hd : decode cc pc = .ok (.getfield 21, 3)) (kk : W p l e R s m args below meth c H locs cells slots Q (F0 m (pc + 3) ls (.ref (aa G g 9) :: rest))) : W p l e R s m args below meth c H locs cells slots Q (F0 m pc ls (.ref (aa G g 0) :: rest)) :=
  r_gv X w (hg.in (by decide)) hg.sh (k := 1) rfl rfl (by decide) inT3 rfl kw153 hd kk
theorem gf3_28 (hg : HG g) (X : Cx p m c cc nL s args RX3 G) (w : Wh G s σ g ρ H locs) (hd : decode cc pc = .ok (.getfield 28, 3)) (kk : W p l e R s m args below meth c H locs cells slots Q (F0 m (pc + 3) ls (.ref (aa G g 15) :: rest))) : W p l e R s m args below meth c H locs cells slots Q (F0 m pc ls (.ref (aa G g 0) :: rest)) :=
  r_gv X w (hg.in (by decide)) hg.sh (k := 2) rfl rfl (by decide) inT3 rfl kw155 hd kk
theorem gf3_35 (hg : HG g) (X : Cx p m c cc nL s args RX3 G) (w : Wh G s σ g ρ H locs) (hd : decode cc pc = .ok (.getfield 35, 3)) (kk : W p l e R s m args below meth c H locs cells slots Q (F0 m (pc + 3) ls (.ref (aa G g 19) :: rest))) : W p l e R s m args below meth c H locs cells slots Q (F0 m pc ls (.ref (aa G g 0) :: rest)) :=
  r_gv X w (hg.in (by decide)) hg.sh (k := 3) rfl rfl (by decide) inT3 rfl kw157 hd kk
theorem gf3_39 (hg : HG g) (X : Cx p m c cc nL s args RX3 G) (w : Wh G s σ g ρ H locs) (hd : decode cc pc = .ok (.getfield 39, 3)) (kk : W p l e R s m args below meth c H locs cells slots Q (F0 m (pc + 3) ls (.int (ρ 0 4) :: rest))) : W p l e R s m args below meth c H locs cells slots Q (F0 m pc ls (.ref (aa G g 0) :: rest)) :=
  r_gv X w (hg.in (by decide)) hg.sh (k := 4) rfl rfl (by decide) inT3 rfl kw159 hd kk
theorem pf3_39 (hg : HG g) (X : Cx p m c cc nL s args RX3 G) (w : Wh G s σ g ρ H locs) {x : Int32} (hd : decode cc pc = .ok (.putfield 39, 3)) (kk : ∀ (ρ1 : Gr) (H1 : Heap) (locs1 : List Loc), ρ1 = up ρ 0 4 x → Wh G s σ g ρ1 H1 locs1 → W p l e R s m args below meth c H1 locs1 cells slots Q (F0 m (pc + 3) ls rest)) : W p l e R s m args below meth c H locs cells slots Q (F0 m pc ls (.int x :: .ref (aa G g 0) :: rest)) :=
  r_pi X w (hg.in (by decide)) hg.sh (k := 4) rfl rfl (by decide) inT3 tyX3 tyX3_ok nmX3 rfl kw159 rfl (ty := .int) (by decide +kernel) rfl rfl hd (fun H1 locs1 w1 => kk _ H1 locs1 rfl w1)
theorem gf3_43 (hg : HG g) (X : Cx p m c cc nL s args RX3 G) (w : Wh G s σ g ρ H locs) (hd : decode cc pc = .ok (.getfield 43, 3)) (kk : W p l e R s m args below meth c H locs cells slots Q (F0 m (pc + 3) ls (.int (ρ 0 5) :: rest))) : W p l e R s m args below meth c H locs cells slots Q (F0 m pc ls (.ref (aa G g 0) :: rest)) :=
  r_gv X w (hg.in (by decide)) hg.sh (k := 5) rfl rfl (by decide) inT3 rfl kw161 hd kk
theorem pf3_43 (hg : HG g) (X : Cx p m c cc nL s args RX3 G) (w : Wh G s σ g ρ H locs) {x : Int32} (hd : decode cc pc = .ok (.putfield 43, 3)) (kk : ∀ (ρ1 : Gr) (H1 : Heap) (locs1 : List Loc), ρ1 = up ρ 0 5 x → Wh G s σ g ρ1 H1 locs1 → W p l e R s m args below meth c H1 locs1 cells slots Q (F0 m (pc + 3) ls rest)) : W p l e R s m args below meth c H locs cells slots Q (F0 m pc ls (.int x :: .ref (aa G g 0) :: rest)) :=
  r_pi X w (hg.in (by decide)) hg.sh (k := 5) rfl rfl (by decide) inT3 tyX3 tyX3_ok nmX3 rfl kw161 rfl (ty := .int) (by decide +kernel) rfl rfl hd (fun H1 locs1 w1 => kk _ H1 locs1 rfl w1)
theorem gf3_46 (hg : HG g) (X : Cx p m c cc nL s args RX3 G) (w : Wh G s σ g ρ H locs) (hd : decode cc pc = .ok (.getfield 46, 3)) (kk : W p l e R s m args below meth c H locs cells slots Q (F0 m (pc + 3) ls (.int (ρ 0 6) :: rest))) : W p l e R s m args below meth c H locs cells slots Q (F0 m pc ls (.ref (aa G g 0) :: rest)) :=
  r_gv X w (hg.in (by decide)) hg.sh (k := 6) rfl rfl (by decide) inT3 rfl kw162 hd kk
theorem pf3_46 (hg : HG g) (X : Cx p m c cc nL s args RX3 G) (w : Wh G s σ g ρ H locs) {x : Int32} (hd : decode cc pc = .ok (.putfield 46, 3)) (kk : ∀ (ρ1 : Gr) (H1 : Heap) (locs1 : List Loc), ρ1 = up ρ 0 6 x → Wh G s σ g ρ1 H1 locs1 → W p l e R s m args below meth c H1 locs1 cells slots Q (F0 m (pc + 3) ls rest)) : W p l e R s m args below meth c H locs cells slots Q (F0 m pc ls (.int x :: .ref (aa G g 0) :: rest)) :=
  r_pi X w (hg.in (by decide)) hg.sh (k := 6) rfl rfl (by decide) inT3 tyX3 tyX3_ok nmX3 rfl kw162 rfl (ty := .int) (by decide +kernel) rfl rfl hd (fun H1 locs1 w1 => kk _ H1 locs1 rfl w1)
theorem gf3_49 (hg : HG g) (X : Cx p m c cc nL s args RX3 G) (w : Wh G s σ g ρ H locs) (hd : decode cc pc = .ok (.getfield 49, 3)) (kk : W p l e R s m args below meth c H locs cells slots Q (F0 m (pc + 3) ls (.int (ρ 0 7) :: rest))) : W p l e R s m args below meth c H locs cells slots Q (F0 m pc ls (.ref (aa G g 0) :: rest)) :=
  r_gv X w (hg.in (by decide)) hg.sh (k := 7) rfl rfl (by decide) inT3 rfl kw164 hd kk
theorem pf3_49 (hg : HG g) (X : Cx p m c cc nL s args RX3 G) (w : Wh G s σ g ρ H locs) {x : Int32} (hd : decode cc pc = .ok (.putfield 49, 3)) (kk : ∀ (ρ1 : Gr) (H1 : Heap) (locs1 : List Loc), ρ1 = up ρ 0 7 x → Wh G s σ g ρ1 H1 locs1 → W p l e R s m args below meth c H1 locs1 cells slots Q (F0 m (pc + 3) ls rest)) : W p l e R s m args below meth c H locs cells slots Q (F0 m pc ls (.int x :: .ref (aa G g 0) :: rest)) :=
  r_pi X w (hg.in (by decide)) hg.sh (k := 7) rfl rfl (by decide) inT3 tyX3 tyX3_ok nmX3 rfl kw164 rfl (ty := .int) (by decide +kernel) rfl rfl hd (fun H1 locs1 w1 => kk _ H1 locs1 rfl w1)
theorem gf3_52 (hg : HG g) (X : Cx p m c cc nL s args RX3 G) (w : Wh G s σ g ρ H locs) (hd : decode cc pc = .ok (.getfield 52, 3)) (kk : W p l e R s m args below meth c H locs cells slots Q (F0 m (pc + 3) ls (.int (ρ 0 8) :: rest))) : W p l e R s m args below meth c H locs cells slots Q (F0 m pc ls (.ref (aa G g 0) :: rest)) :=
  r_gv X w (hg.in (by decide)) hg.sh (k := 8) rfl rfl (by decide) inT3 rfl kw166 hd kk
theorem pf3_52 (hg : HG g) (X : Cx p m c cc nL s args RX3 G) (w : Wh G s σ g ρ H locs) {x : Int32} (hd : decode cc pc = .ok (.putfield 52, 3)) (kk : ∀ (ρ1 : Gr) (H1 : Heap) (locs1 : List Loc), ρ1 = up ρ 0 8 x → Wh G s σ g ρ1 H1 locs1 → W p l e R s m args below meth c H1 locs1 cells slots Q (F0 m (pc + 3) ls rest)) : W p l e R s m args below meth c H locs cells slots Q (F0 m pc ls (.int x :: .ref (aa G g 0) :: rest)) :=
  r_pi X w (hg.in (by decide)) hg.sh (k := 8) rfl rfl (by decide) inT3 tyX3 tyX3_ok nmX3 rfl kw166 rfl (ty := .int) (by decide +kernel) rfl rfl hd (fun H1 locs1 w1 => kk _ H1 locs1 rfl w1)
theorem gf3_55 (hg : HG g) (X : Cx p m c cc nL s args RX3 G) (w : Wh G s σ g ρ H locs) (hd : decode cc pc = .ok (.getfield 55, 3)) (kk : W p l e R s m args below meth c H locs cells slots Q (F0 m (pc + 3) ls (.int (ρ 0 9) :: rest))) : W p l e R s m args below meth c H locs cells slots Q (F0 m pc ls (.ref (aa G g 0) :: rest)) :=
  r_gv X w (hg.in (by decide)) hg.sh (k := 9) rfl rfl (by decide) inT3 rfl kw168 hd kk
theorem pf3_55 (hg : HG g) (X : Cx p m c cc nL s args RX3 G) (w : Wh G s σ g ρ H locs) {x : Int32} (hd : decode cc pc = .ok (.putfield 55, 3)) (kk : ∀ (ρ1 : Gr) (H1 : Heap) (locs1 : List Loc), ρ1 = up ρ 0 9 x → Wh G s σ g ρ1 H1 locs1 → W p l e R s m args below meth c H1 locs1 cells slots Q (F0 m (pc + 3) ls rest)) : W p l e R s m args below meth c H locs cells slots Q (F0 m pc ls (.int x :: .ref (aa G g 0) :: rest)) :=
  r_pi X w (hg.in (by decide)) hg.sh (k := 9) rfl rfl (by decide) inT3 tyX3 tyX3_ok nmX3 rfl kw168 rfl (ty := .int) (by decide +kernel) rfl rfl hd (fun H1 locs1 w1 => kk _ H1 locs1 rfl w1)
theorem gf3_58 (hg : HG g) (X : Cx p m c cc nL s args RX3 G) (w : Wh G s σ g ρ H locs) (hd : decode cc pc = .ok (.getfield 58, 3)) (kk : W p l e R s m args below meth c H locs cells slots Q (F0 m (pc + 3) ls (.int (ρ 0 10) :: rest))) : W p l e R s m args below meth c H locs cells slots Q (F0 m pc ls (.ref (aa G g 0) :: rest)) :=
  r_gv X w (hg.in (by decide)) hg.sh (k := 10) rfl rfl (by decide) inT3 rfl kw170 hd kk
theorem pf3_58 (hg : HG g) (X : Cx p m c cc nL s args RX3 G) (w : Wh G s σ g ρ H locs) {x : Int32} (hd : decode cc pc = .ok (.putfield 58, 3)) (kk : ∀ (ρ1 : Gr) (H1 : Heap) (locs1 : List Loc), ρ1 = up ρ 0 10 x → Wh G s σ g ρ1 H1 locs1 → W p l e R s m args below meth c H1 locs1 cells slots Q (F0 m (pc + 3) ls rest)) : W p l e R s m args below meth c H locs cells slots Q (F0 m pc ls (.int x :: .ref (aa G g 0) :: rest)) :=
  r_pi X w (hg.in (by decide)) hg.sh (k := 10) rfl rfl (by decide) inT3 tyX3 tyX3_ok nmX3 rfl kw170 rfl (ty := .int) (by decide +kernel) rfl rfl hd (fun H1 locs1 w1 => kk _ H1 locs1 rfl w1)
theorem gf3_61 (hg : HG g) (X : Cx p m c cc nL s args RX3 G) (w : Wh G s σ g ρ H locs) (hd : decode cc pc = .ok (.getfield 61, 3)) (kk : W p l e R s m args below meth c H locs cells slots Q (F0 m (pc + 3) ls (.ref (aa G g 20) :: rest))) : W p l e R s m args below meth c H locs cells slots Q (F0 m pc ls (.ref (aa G g 0) :: rest)) :=
  r_gv X w (hg.in (by decide)) hg.sh (k := 11) rfl rfl (by decide) inT3 rfl kw171 hd kk
theorem gf3_130 (hg : HG g) (X : Cx p m c cc nL s args RX3 G) (w : Wh G s σ g ρ H locs) (hd : decode cc pc = .ok (.getfield 130, 3)) (kk : W p l e R s m args below meth c H locs cells slots Q (F0 m (pc + 3) ls (.ref (aa G g 7) :: rest))) : W p l e R s m args below meth c H locs cells slots Q (F0 m pc ls (.ref (aa G g 1) :: rest)) :=
  r_gv X w (hg.in (by decide)) hg.sh (k := 6) rfl rfl (by decide) inT0 rfl kw39 hd kk
theorem gf3_139 (hg : HG g) (X : Cx p m c cc nL s args RX3 G) (w : Wh G s σ g ρ H locs) (hd : decode cc pc = .ok (.getfield 139, 3)) (kk : W p l e R s m args below meth c H locs cells slots Q (F0 m (pc + 3) ls (.int (ρ 9 0) :: rest))) : W p l e R s m args below meth c H locs cells slots Q (F0 m pc ls (.ref (aa G g 9) :: rest)) :=
  r_gv X w (hg.in (by decide)) hg.sh (k := 0) rfl rfl (by decide) inT5 rfl kw67 hd kk
theorem pf3_139 (hg : HG g) (X : Cx p m c cc nL s args RX3 G) (w : Wh G s σ g ρ H locs) {x : Int32} (hd : decode cc pc = .ok (.putfield 139, 3)) (kk : ∀ (ρ1 : Gr) (H1 : Heap) (locs1 : List Loc), ρ1 = up ρ 9 0 x → Wh G s σ g ρ1 H1 locs1 → W p l e R s m args below meth c H1 locs1 cells slots Q (F0 m (pc + 3) ls rest)) : W p l e R s m args below meth c H locs cells slots Q (F0 m pc ls (.int x :: .ref (aa G g 9) :: rest)) :=
  r_pi X w (hg.in (by decide)) hg.sh (k := 0) rfl rfl (by decide) inT5 tyX5 tyX5_ok nmX5 rfl kw67 rfl (ty := .int) (by decide +kernel) rfl rfl hd (fun H1 locs1 w1 => kk _ H1 locs1 rfl w1)
theorem gf3_142 (hg : HG g) (X : Cx p m c cc nL s args RX3 G) (w : Wh G s σ g ρ H locs) (hd : decode cc pc = .ok (.getfield 142, 3)) (kk : W p l e R s m args below meth c H locs cells slots Q (F0 m (pc + 3) ls (.ref (aa G g 12) :: rest))) : W p l e R s m args below meth c H locs cells slots Q (F0 m pc ls (.ref (aa G g 9) :: rest)) :=
  r_gv X w (hg.in (by decide)) hg.sh (k := 3) rfl rfl (by decide) inT5 rfl kw74 hd kk
theorem gf3_148 (hg : HG g) (X : Cx p m c cc nL s args RX3 G) (w : Wh G s σ g ρ H locs) (hd : decode cc pc = .ok (.getfield 148, 3)) (kk : W p l e R s m args below meth c H locs cells slots Q (F0 m (pc + 3) ls (.ref (aa G g 13) :: rest))) : W p l e R s m args below meth c H locs cells slots Q (F0 m pc ls (.ref (aa G g 9) :: rest)) :=
  r_gv X w (hg.in (by decide)) hg.sh (k := 4) rfl rfl (by decide) inT5 rfl kw76 hd kk
theorem gf3_151 (hg : HG g) (X : Cx p m c cc nL s args RX3 G) (w : Wh G s σ g ρ H locs) (hd : decode cc pc = .ok (.getfield 151, 3)) (kk : W p l e R s m args below meth c H locs cells slots Q (F0 m (pc + 3) ls (.ref (aa G g 10) :: rest))) : W p l e R s m args below meth c H locs cells slots Q (F0 m pc ls (.ref (aa G g 9) :: rest)) :=
  r_gv X w (hg.in (by decide)) hg.sh (k := 1) rfl rfl (by decide) inT5 rfl kw70 hd kk
theorem gf3_158 (hg : HG g) (X : Cx p m c cc nL s args RX3 G) (w : Wh G s σ g ρ H locs) (hd : decode cc pc = .ok (.getfield 158, 3)) (kk : W p l e R s m args below meth c H locs cells slots Q (F0 m (pc + 3) ls (.ref (aa G g 14) :: rest))) : W p l e R s m args below meth c H locs cells slots Q (F0 m pc ls (.ref (aa G g 9) :: rest)) :=
  r_gv X w (hg.in (by decide)) hg.sh (k := 5) rfl rfl (by decide) inT5 rfl kw78 hd kk
theorem gf3_164 (hg : HG g) (X : Cx p m c cc nL s args RX3 G) (w : Wh G s σ g ρ H locs) (hd : decode cc pc = .ok (.getfield 164, 3)) (kk : W p l e R s m args below meth c H locs cells slots Q (F0 m (pc + 3) ls (.ref (aa G g 11) :: rest))) : W p l e R s m args below meth c H locs cells slots Q (F0 m pc ls (.ref (aa G g 9) :: rest)) :=
  r_gv X w (hg.in (by decide)) hg.sh (k := 2) rfl rfl (by decide) inT5 rfl kw72 hd kk
theorem gf3_171 (hg : HG g) (X : Cx p m c cc nL s args RX3 G) (w : Wh G s σ g ρ H locs) (hd : decode cc pc = .ok (.getfield 171, 3)) (kk : W p l e R s m args below meth c H locs cells slots Q (F0 m (pc + 3) ls (.int (ρ 15 0) :: rest))) : W p l e R s m args below meth c H locs cells slots Q (F0 m pc ls (.ref (aa G g 15) :: rest)) :=
  r_gv X w (hg.in (by decide)) hg.sh (k := 0) rfl rfl (by decide) inT4 rfl kw102 hd kk
theorem pf3_171 (hg : HG g) (X : Cx p m c cc nL s args RX3 G) (w : Wh G s σ g ρ H locs) {x : Int32} (hd : decode cc pc = .ok (.putfield 171, 3)) (kk : ∀ (ρ1 : Gr) (H1 : Heap) (locs1 : List Loc), ρ1 = up ρ 15 0 x → Wh G s σ g ρ1 H1 locs1 → W p l e R s m args below meth c H1 locs1 cells slots Q (F0 m (pc + 3) ls rest)) : W p l e R s m args below meth c H locs cells slots Q (F0 m pc ls (.int x :: .ref (aa G g 15) :: rest)) :=
  r_pi X w (hg.in (by decide)) hg.sh (k := 0) rfl rfl (by decide) inT4 tyX4 tyX4_ok nmX4 rfl kw102 rfl (ty := .int) (by decide +kernel) rfl rfl hd (fun H1 locs1 w1 => kk _ H1 locs1 rfl w1)
theorem gf3_172 (hg : HG g) (X : Cx p m c cc nL s args RX3 G) (w : Wh G s σ g ρ H locs) (hd : decode cc pc = .ok (.getfield 172, 3)) (kk : W p l e R s m args below meth c H locs cells slots Q (F0 m (pc + 3) ls (.ref (aa G g 16) :: rest))) : W p l e R s m args below meth c H locs cells slots Q (F0 m pc ls (.ref (aa G g 15) :: rest)) :=
  r_gv X w (hg.in (by decide)) hg.sh (k := 1) rfl rfl (by decide) inT4 rfl kw105 hd kk
theorem gf3_175 (hg : HG g) (X : Cx p m c cc nL s args RX3 G) (w : Wh G s σ g ρ H locs) (hd : decode cc pc = .ok (.getfield 175, 3)) (kk : W p l e R s m args below meth c H locs cells slots Q (F0 m (pc + 3) ls (.ref (aa G g 17) :: rest))) : W p l e R s m args below meth c H locs cells slots Q (F0 m pc ls (.ref (aa G g 15) :: rest)) :=
  r_gv X w (hg.in (by decide)) hg.sh (k := 2) rfl rfl (by decide) inT4 rfl kw107 hd kk
theorem gf3_176 (hg : HG g) (X : Cx p m c cc nL s args RX3 G) (w : Wh G s σ g ρ H locs) (hd : decode cc pc = .ok (.getfield 176, 3)) (kk : W p l e R s m args below meth c H locs cells slots Q (F0 m (pc + 3) ls (.ref (aa G g 18) :: rest))) : W p l e R s m args below meth c H locs cells slots Q (F0 m pc ls (.ref (aa G g 15) :: rest)) :=
  r_gv X w (hg.in (by decide)) hg.sh (k := 3) rfl rfl (by decide) inT4 rfl kw109 hd kk
theorem gf3_179 (hg : HG g) (X : Cx p m c cc nL s args RX3 G) (w : Wh G s σ g ρ H locs) (hd : decode cc pc = .ok (.getfield 179, 3)) (kk : W p l e R s m args below meth c H locs cells slots Q (F0 m (pc + 3) ls (.int (ρ 19 2) :: rest))) : W p l e R s m args below meth c H locs cells slots Q (F0 m pc ls (.ref (aa G g 19) :: rest)) :=
  r_gv X w (hg.in (by decide)) hg.sh (k := 2) rfl rfl (by decide) inT2 rfl kw133 hd kk
theorem pf3_179 (hg : HG g) (X : Cx p m c cc nL s args RX3 G) (w : Wh G s σ g ρ H locs) {x : Int32} (hd : decode cc pc = .ok (.putfield 179, 3)) (kk : ∀ (ρ1 : Gr) (H1 : Heap) (locs1 : List Loc), ρ1 = up ρ 19 2 x → Wh G s σ g ρ1 H1 locs1 → W p l e R s m args below meth c H1 locs1 cells slots Q (F0 m (pc + 3) ls rest)) : W p l e R s m args below meth c H locs cells slots Q (F0 m pc ls (.int x :: .ref (aa G g 19) :: rest)) :=
  r_pi X w (hg.in (by decide)) hg.sh (k := 2) rfl rfl (by decide) inT2 tyX2 tyX2_ok nmX2 rfl kw133 rfl (ty := .int) (by decide +kernel) rfl rfl hd (fun H1 locs1 w1 => kk _ H1 locs1 rfl w1)
theorem gf3_182 (hg : HG g) (X : Cx p m c cc nL s args RX3 G) (w : Wh G s σ g ρ H locs) (hd : decode cc pc = .ok (.getfield 182, 3)) (kk : W p l e R s m args below meth c H locs cells slots Q (F0 m (pc + 3) ls (.int (ρ 19 1) :: rest))) : W p l e R s m args below meth c H locs cells slots Q (F0 m pc ls (.ref (aa G g 19) :: rest)) :=
  r_gv X w (hg.in (by decide)) hg.sh (k := 1) rfl rfl (by decide) inT2 rfl kw130 hd kk
theorem pf3_182 (hg : HG g) (X : Cx p m c cc nL s args RX3 G) (w : Wh G s σ g ρ H locs) {x : Int32} (hd : decode cc pc = .ok (.putfield 182, 3)) (kk : ∀ (ρ1 : Gr) (H1 : Heap) (locs1 : List Loc), ρ1 = up ρ 19 1 x → Wh G s σ g ρ1 H1 locs1 → W p l e R s m args below meth c H1 locs1 cells slots Q (F0 m (pc + 3) ls rest)) : W p l e R s m args below meth c H locs cells slots Q (F0 m pc ls (.int x :: .ref (aa G g 19) :: rest)) :=
  r_pi X w (hg.in (by decide)) hg.sh (k := 1) rfl rfl (by decide) inT2 tyX2 tyX2_ok nmX2 rfl kw130 rfl (ty := .int) (by decide +kernel) rfl rfl hd (fun H1 locs1 w1 => kk _ H1 locs1 rfl w1)
theorem gf3_187 (hg : HG g) (X : Cx p m c cc nL s args RX3 G) (w : Wh G s σ g ρ H locs) (hd : decode cc pc = .ok (.getfield 187, 3)) (kk : W p l e R s m args below meth c H locs cells slots Q (F0 m (pc + 3) ls (.int (ρ 19 3) :: rest))) : W p l e R s m args below meth c H locs cells slots Q (F0 m pc ls (.ref (aa G g 19) :: rest)) :=
  r_gv X w (hg.in (by decide)) hg.sh (k := 3) rfl rfl (by decide) inT2 rfl kw136 hd kk
theorem pf3_187 (hg : HG g) (X : Cx p m c cc nL s args RX3 G) (w : Wh G s σ g ρ H locs) {x : Int32} (hd : decode cc pc = .ok (.putfield 187, 3)) (kk : ∀ (ρ1 : Gr) (H1 : Heap) (locs1 : List Loc), ρ1 = up ρ 19 3 x → Wh G s σ g ρ1 H1 locs1 → W p l e R s m args below meth c H1 locs1 cells slots Q (F0 m (pc + 3) ls rest)) : W p l e R s m args below meth c H locs cells slots Q (F0 m pc ls (.int x :: .ref (aa G g 19) :: rest)) :=
  r_pi X w (hg.in (by decide)) hg.sh (k := 3) rfl rfl (by decide) inT2 tyX2 tyX2_ok nmX2 rfl kw136 rfl (ty := .int) (by decide +kernel) rfl rfl hd (fun H1 locs1 w1 => kk _ H1 locs1 rfl w1)
theorem gf3_197 (hg : HG g) (X : Cx p m c cc nL s args RX3 G) (w : Wh G s σ g ρ H locs) (hd : decode cc pc = .ok (.getfield 197, 3)) (kk : W p l e R s m args below meth c H locs cells slots Q (F0 m (pc + 3) ls (.int (ρ 19 0) :: rest))) : W p l e R s m args below meth c H locs cells slots Q (F0 m pc ls (.ref (aa G g 19) :: rest)) :=
  r_gv X w (hg.in (by decide)) hg.sh (k := 0) rfl rfl (by decide) inT2 rfl kw127 hd kk
theorem pf3_197 (hg : HG g) (X : Cx p m c cc nL s args RX3 G) (w : Wh G s σ g ρ H locs) {x : Int32} (hd : decode cc pc = .ok (.putfield 197, 3)) (kk : ∀ (ρ1 : Gr) (H1 : Heap) (locs1 : List Loc), ρ1 = up ρ 19 0 x → Wh G s σ g ρ1 H1 locs1 → W p l e R s m args below meth c H1 locs1 cells slots Q (F0 m (pc + 3) ls rest)) : W p l e R s m args below meth c H locs cells slots Q (F0 m pc ls (.int x :: .ref (aa G g 19) :: rest)) :=
  r_pi X w (hg.in (by decide)) hg.sh (k := 0) rfl rfl (by decide) inT2 tyX2 tyX2_ok nmX2 rfl kw127 rfl (ty := .int) (by decide +kernel) rfl rfl hd (fun H1 locs1 w1 => kk _ H1 locs1 rfl w1)
theorem gf3_200 (hg : HG g) (X : Cx p m c cc nL s args RX3 G) (w : Wh G s σ g ρ H locs) (hd : decode cc pc = .ok (.getfield 200, 3)) (kk : W p l e R s m args below meth c H locs cells slots Q (F0 m (pc + 3) ls (.ref (aa G g 8) :: rest))) : W p l e R s m args below meth c H locs cells slots Q (F0 m pc ls (.ref (aa G g 1) :: rest)) :=
  r_gv X w (hg.in (by decide)) hg.sh (k := 7) rfl rfl (by decide) inT0 rfl kw41 hd kk
theorem gf3_212 (hg : HG g) (X : Cx p m c cc nL s args RX3 G) (w : Wh G s σ g ρ H locs) (hd : decode cc pc = .ok (.getfield 212, 3)) (kk : W p l e R s m args below meth c H locs cells slots Q (F0 m (pc + 3) ls (.int (ρ 19 4) :: rest))) : W p l e R s m args below meth c H locs cells slots Q (F0 m pc ls (.ref (aa G g 19) :: rest)) :=
  r_gv X w (hg.in (by decide)) hg.sh (k := 4) rfl rfl (by decide) inT2 rfl kw138 hd kk
theorem pf3_212 (hg : HG g) (X : Cx p m c cc nL s args RX3 G) (w : Wh G s σ g ρ H locs) {x : Int32} (hd : decode cc pc = .ok (.putfield 212, 3)) (kk : ∀ (ρ1 : Gr) (H1 : Heap) (locs1 : List Loc), ρ1 = up ρ 19 4 x → Wh G s σ g ρ1 H1 locs1 → W p l e R s m args below meth c H1 locs1 cells slots Q (F0 m (pc + 3) ls rest)) : W p l e R s m args below meth c H locs cells slots Q (F0 m pc ls (.int x :: .ref (aa G g 19) :: rest)) :=
  r_pi X w (hg.in (by decide)) hg.sh (k := 4) rfl rfl (by decide) inT2 tyX2 tyX2_ok nmX2 rfl kw138 rfl (ty := .int) (by decide +kernel) rfl rfl hd (fun H1 locs1 w1 => kk _ H1 locs1 rfl w1)
theorem gf4_9 (hg : HG g) (X : Cx p m c cc nL s args RX4 G) (w : Wh G s σ g ρ H locs) (hd : decode cc pc = .ok (.getfield 9, 3)) (kk : W p l e R s m args below meth c H locs cells slots Q (F0 m (pc + 3) ls (.int (ρ 15 0) :: rest))) : W p l e R s m args below meth c H locs cells slots Q (F0 m pc ls (.ref (aa G g 15) :: rest)) :=
  r_gv X w (hg.in (by decide)) hg.sh (k := 0) rfl rfl (by decide) inT4 rfl kw101 hd kk
theorem pf4_9 (hg : HG g) (X : Cx p m c cc nL s args RX4 G) (w : Wh G s σ g ρ H locs) {x : Int32} (hd : decode cc pc = .ok (.putfield 9, 3)) (kk : ∀ (ρ1 : Gr) (H1 : Heap) (locs1 : List Loc), ρ1 = up ρ 15 0 x → Wh G s σ g ρ1 H1 locs1 → W p l e R s m args below meth c H1 locs1 cells slots Q (F0 m (pc + 3) ls rest)) : W p l e R s m args below meth c H locs cells slots Q (F0 m pc ls (.int x :: .ref (aa G g 15) :: rest)) :=
  r_pi X w (hg.in (by decide)) hg.sh (k := 0) rfl rfl (by decide) inT4 tyX4 tyX4_ok nmX4 rfl kw101 rfl (ty := .int) (by decide +kernel) rfl rfl hd (fun H1 locs1 w1 => kk _ H1 locs1 rfl w1)
theorem gf4_15 (hg : HG g) (X : Cx p m c cc nL s args RX4 G) (w : Wh G s σ g ρ H locs) (hd : decode cc pc = .ok (.getfield 15, 3)) (kk : W p l e R s m args below meth c H locs cells slots Q (F0 m (pc + 3) ls (.ref (aa G g 16) :: rest))) : W p l e R s m args below meth c H locs cells slots Q (F0 m pc ls (.ref (aa G g 15) :: rest)) :=
  r_gv X w (hg.in (by decide)) hg.sh (k := 1) rfl rfl (by decide) inT4 rfl kw104 hd kk
theorem gf4_19 (hg : HG g) (X : Cx p m c cc nL s args RX4 G) (w : Wh G s σ g ρ H locs) (hd : decode cc pc = .ok (.getfield 19, 3)) (kk : W p l e R s m args below meth c H locs cells slots Q (F0 m (pc + 3) ls (.ref (aa G g 17) :: rest))) : W p l e R s m args below meth c H locs cells slots Q (F0 m pc ls (.ref (aa G g 15) :: rest)) :=
  r_gv X w (hg.in (by decide)) hg.sh (k := 2) rfl rfl (by decide) inT4 rfl kw106 hd kk
theorem gf4_22 (hg : HG g) (X : Cx p m c cc nL s args RX4 G) (w : Wh G s σ g ρ H locs) (hd : decode cc pc = .ok (.getfield 22, 3)) (kk : W p l e R s m args below meth c H locs cells slots Q (F0 m (pc + 3) ls (.ref (aa G g 18) :: rest))) : W p l e R s m args below meth c H locs cells slots Q (F0 m pc ls (.ref (aa G g 15) :: rest)) :=
  r_gv X w (hg.in (by decide)) hg.sh (k := 3) rfl rfl (by decide) inT4 rfl kw108 hd kk
theorem gf5_9 (hg : HG g) (X : Cx p m c cc nL s args RX5 G) (w : Wh G s σ g ρ H locs) (hd : decode cc pc = .ok (.getfield 9, 3)) (kk : W p l e R s m args below meth c H locs cells slots Q (F0 m (pc + 3) ls (.int (ρ 9 0) :: rest))) : W p l e R s m args below meth c H locs cells slots Q (F0 m pc ls (.ref (aa G g 9) :: rest)) :=
  r_gv X w (hg.in (by decide)) hg.sh (k := 0) rfl rfl (by decide) inT5 rfl kw66 hd kk
theorem pf5_9 (hg : HG g) (X : Cx p m c cc nL s args RX5 G) (w : Wh G s σ g ρ H locs) {x : Int32} (hd : decode cc pc = .ok (.putfield 9, 3)) (kk : ∀ (ρ1 : Gr) (H1 : Heap) (locs1 : List Loc), ρ1 = up ρ 9 0 x → Wh G s σ g ρ1 H1 locs1 → W p l e R s m args below meth c H1 locs1 cells slots Q (F0 m (pc + 3) ls rest)) : W p l e R s m args below meth c H locs cells slots Q (F0 m pc ls (.int x :: .ref (aa G g 9) :: rest)) :=
  r_pi X w (hg.in (by decide)) hg.sh (k := 0) rfl rfl (by decide) inT5 tyX5 tyX5_ok nmX5 rfl kw66 rfl (ty := .int) (by decide +kernel) rfl rfl hd (fun H1 locs1 w1 => kk _ H1 locs1 rfl w1)
theorem gf5_15 (hg : HG g) (X : Cx p m c cc nL s args RX5 G) (w : Wh G s σ g ρ H locs) (hd : decode cc pc = .ok (.getfield 15, 3)) (kk : W p l e R s m args below meth c H locs cells slots Q (F0 m (pc + 3) ls (.ref (aa G g 10) :: rest))) : W p l e R s m args below meth c H locs cells slots Q (F0 m pc ls (.ref (aa G g 9) :: rest)) :=
  r_gv X w (hg.in (by decide)) hg.sh (k := 1) rfl rfl (by decide) inT5 rfl kw69 hd kk
theorem gf5_19 (hg : HG g) (X : Cx p m c cc nL s args RX5 G) (w : Wh G s σ g ρ H locs) (hd : decode cc pc = .ok (.getfield 19, 3)) (kk : W p l e R s m args below meth c H locs cells slots Q (F0 m (pc + 3) ls (.ref (aa G g 11) :: rest))) : W p l e R s m args below meth c H locs cells slots Q (F0 m pc ls (.ref (aa G g 9) :: rest)) :=
  r_gv X w (hg.in (by decide)) hg.sh (k := 2) rfl rfl (by decide) inT5 rfl kw71 hd kk
theorem gf5_22 (hg : HG g) (X : Cx p m c cc nL s args RX5 G) (w : Wh G s σ g ρ H locs) (hd : decode cc pc = .ok (.getfield 22, 3)) (kk : W p l e R s m args below meth c H locs cells slots Q (F0 m (pc + 3) ls (.ref (aa G g 12) :: rest))) : W p l e R s m args below meth c H locs cells slots Q (F0 m pc ls (.ref (aa G g 9) :: rest)) :=
  r_gv X w (hg.in (by decide)) hg.sh (k := 3) rfl rfl (by decide) inT5 rfl kw73 hd kk
theorem gf5_25 (hg : HG g) (X : Cx p m c cc nL s args RX5 G) (w : Wh G s σ g ρ H locs) (hd : decode cc pc = .ok (.getfield 25, 3)) (kk : W p l e R s m args below meth c H locs cells slots Q (F0 m (pc + 3) ls (.ref (aa G g 13) :: rest))) : W p l e R s m args below meth c H locs cells slots Q (F0 m pc ls (.ref (aa G g 9) :: rest)) :=
  r_gv X w (hg.in (by decide)) hg.sh (k := 4) rfl rfl (by decide) inT5 rfl kw75 hd kk
theorem gf5_28 (hg : HG g) (X : Cx p m c cc nL s args RX5 G) (w : Wh G s σ g ρ H locs) (hd : decode cc pc = .ok (.getfield 28, 3)) (kk : W p l e R s m args below meth c H locs cells slots Q (F0 m (pc + 3) ls (.ref (aa G g 14) :: rest))) : W p l e R s m args below meth c H locs cells slots Q (F0 m pc ls (.ref (aa G g 9) :: rest)) :=
  r_gv X w (hg.in (by decide)) hg.sh (k := 5) rfl rfl (by decide) inT5 rfl kw77 hd kk
theorem gf5_31 (hg : HG g) (X : Cx p m c cc nL s args RX5 G) (w : Wh G s σ g ρ H locs) (hd : decode cc pc = .ok (.getfield 31, 3)) (kk : W p l e R s m args below meth c H locs cells slots Q (F0 m (pc + 3) ls (.int (ρ 9 6) :: rest))) : W p l e R s m args below meth c H locs cells slots Q (F0 m pc ls (.ref (aa G g 9) :: rest)) :=
  r_gv X w (hg.in (by decide)) hg.sh (k := 6) rfl rfl (by decide) inT5 rfl kw79 hd kk
theorem pf5_31 (hg : HG g) (X : Cx p m c cc nL s args RX5 G) (w : Wh G s σ g ρ H locs) {x : Int32} (hd : decode cc pc = .ok (.putfield 31, 3)) (kk : ∀ (ρ1 : Gr) (H1 : Heap) (locs1 : List Loc), ρ1 = up ρ 9 6 x → Wh G s σ g ρ1 H1 locs1 → W p l e R s m args below meth c H1 locs1 cells slots Q (F0 m (pc + 3) ls rest)) : W p l e R s m args below meth c H locs cells slots Q (F0 m pc ls (.int x :: .ref (aa G g 9) :: rest)) :=
  r_pi X w (hg.in (by decide)) hg.sh (k := 6) rfl rfl (by decide) inT5 tyX5 tyX5_ok nmX5 rfl kw79 rfl (ty := .int) (by decide +kernel) rfl rfl hd (fun H1 locs1 w1 => kk _ H1 locs1 rfl w1)
theorem gf6_10 (X : Cx p m c cc nL s args RX6 G) (w : Wh G s σ 0 ρ H locs) (hd : decode cc pc = .ok (.getfield 10, 3)) (kk : W p l e R s m args below meth c H locs cells slots Q (F0 m (pc + 3) ls (.ref (aa G 1 0) :: rest))) : W p l e R s m args below meth c H locs cells slots Q (F0 m pc ls (.ref (aa G 0 0) :: rest)) :=
  r_gv X w m0_0 rfl (k := 0) rfl rfl (by decide) inT6 rfl kw241 hd kk
theorem gf6_16 (X : Cx p m c cc nL s args RX6 G) (w : Wh G s σ 0 ρ H locs) (hd : decode cc pc = .ok (.getfield 16, 3)) (kk : W p l e R s m args below meth c H locs cells slots Q (F0 m (pc + 3) ls (.ref (aa G 2 0) :: rest))) : W p l e R s m args below meth c H locs cells slots Q (F0 m pc ls (.ref (aa G 0 0) :: rest)) :=
  r_gv X w m0_0 rfl (k := 1) rfl rfl (by decide) inT6 rfl kw242 hd kk
theorem gf6_19 (X : Cx p m c cc nL s args RX6 G) (w : Wh G s σ 0 ρ H locs) (hd : decode cc pc = .ok (.getfield 19, 3)) (kk : W p l e R s m args below meth c H locs cells slots Q (F0 m (pc + 3) ls (.ref (aa G 3 0) :: rest))) : W p l e R s m args below meth c H locs cells slots Q (F0 m pc ls (.ref (aa G 0 0) :: rest)) :=
  r_gv X w m0_0 rfl (k := 2) rfl rfl (by decide) inT6 rfl kw243 hd kk
theorem gf6_22 (X : Cx p m c cc nL s args RX6 G) (w : Wh G s σ 0 ρ H locs) (hd : decode cc pc = .ok (.getfield 22, 3)) (kk : W p l e R s m args below meth c H locs cells slots Q (F0 m (pc + 3) ls (.int (ρ 0 3) :: rest))) : W p l e R s m args below meth c H locs cells slots Q (F0 m pc ls (.ref (aa G 0 0) :: rest)) :=
  r_gv X w m0_0 rfl (k := 3) rfl rfl (by decide) inT6 rfl kw244 hd kk
theorem pf6_22 (X : Cx p m c cc nL s args RX6 G) (w : Wh G s σ 0 ρ H locs) {x : Int32} (hz : isB x) (hd : decode cc pc = .ok (.putfield 22, 3)) (kk : ∀ (ρ1 : Gr) (H1 : Heap) (locs1 : List Loc), ρ1 = up ρ 0 3 x → Wh G s σ 0 ρ1 H1 locs1 → W p l e R s m args below meth c H1 locs1 cells slots Q (F0 m (pc + 3) ls rest)) : W p l e R s m args below meth c H locs cells slots Q (F0 m pc ls (.int x :: .ref (aa G 0 0) :: rest)) :=
  r_pi X w m0_0 rfl (k := 3) rfl rfl (by decide) inT6 tyX6 tyX6_ok nmX6 rfl kw244 rfl (ty := .boolean) (by decide +kernel) hz.n hz.f hd (fun H1 locs1 w1 => kk _ H1 locs1 rfl w1)
theorem gf6_29 (X : Cx p m c cc nL s args RX6 G) (w : Wh G s σ 0 ρ H locs) (hd : decode cc pc = .ok (.getfield 29, 3)) (kk : W p l e R s m args below meth c H locs cells slots Q (F0 m (pc + 3) ls (.ref (aa G 0 1) :: rest))) : W p l e R s m args below meth c H locs cells slots Q (F0 m pc ls (.ref (aa G 0 0) :: rest)) :=
  r_gv X w m0_0 rfl (k := 4) rfl rfl (by decide) inT6 rfl kw245 hd kk
theorem gf6_33 (X : Cx p m c cc nL s args RX6 G) (w : Wh G s σ 0 ρ H locs) (hd : decode cc pc = .ok (.getfield 33, 3)) (kk : W p l e R s m args below meth c H locs cells slots Q (F0 m (pc + 3) ls (.ref (aa G 0 3) :: rest))) : W p l e R s m args below meth c H locs cells slots Q (F0 m pc ls (.ref (aa G 0 0) :: rest)) :=
  r_gv X w m0_0 rfl (k := 5) rfl rfl (by decide) inT6 rfl kw246 hd kk
theorem gf6_37 (X : Cx p m c cc nL s args RX6 G) (w : Wh G s σ 0 ρ H locs) (hd : decode cc pc = .ok (.getfield 37, 3)) (kk : W p l e R s m args below meth c H locs cells slots Q (F0 m (pc + 3) ls (.int (ρ 0 6) :: rest))) : W p l e R s m args below meth c H locs cells slots Q (F0 m pc ls (.ref (aa G 0 0) :: rest)) :=
  r_gv X w m0_0 rfl (k := 6) rfl rfl (by decide) inT6 rfl kw247 hd kk
theorem pf6_37 (X : Cx p m c cc nL s args RX6 G) (w : Wh G s σ 0 ρ H locs) {x : Int32} (hd : decode cc pc = .ok (.putfield 37, 3)) (kk : ∀ (ρ1 : Gr) (H1 : Heap) (locs1 : List Loc), ρ1 = up ρ 0 6 x → Wh G s σ 0 ρ1 H1 locs1 → W p l e R s m args below meth c H1 locs1 cells slots Q (F0 m (pc + 3) ls rest)) : W p l e R s m args below meth c H locs cells slots Q (F0 m pc ls (.int x :: .ref (aa G 0 0) :: rest)) :=
  r_pi X w m0_0 rfl (k := 6) rfl rfl (by decide) inT6 tyX6 tyX6_ok nmX6 rfl kw247 rfl (ty := .int) (by decide +kernel) rfl rfl hd (fun H1 locs1 w1 => kk _ H1 locs1 rfl w1)
theorem gf6_41 (X : Cx p m c cc nL s args RX6 G) (w : Wh G s σ 0 ρ H locs) (hd : decode cc pc = .ok (.getfield 41, 3)) (kk : W p l e R s m args below meth c H locs cells slots Q (F0 m (pc + 3) ls (.ref (aa G 0 4) :: rest))) : W p l e R s m args below meth c H locs cells slots Q (F0 m pc ls (.ref (aa G 0 0) :: rest)) :=
  r_gv X w m0_0 rfl (k := 7) rfl rfl (by decide) inT6 rfl kw248 hd kk
theorem gf6_48 (X : Cx p m c cc nL s args RX6 G) (w : Wh G s σ 0 ρ H locs) (hd : decode cc pc = .ok (.getfield 48, 3)) (kk : W p l e R s m args below meth c H locs cells slots Q (F0 m (pc + 3) ls (.int (ρ 1 0) :: rest))) : W p l e R s m args below meth c H locs cells slots Q (F0 m pc ls (.ref (aa G 0 1) :: rest)) :=
  r_gv X w m0_1 rfl (k := 0) rfl rfl (by decide) inT1 rfl kw204 hd kk
theorem pf6_48 (X : Cx p m c cc nL s args RX6 G) (w : Wh G s σ 0 ρ H locs) {x : Int32} (hd : decode cc pc = .ok (.putfield 48, 3)) (kk : ∀ (ρ1 : Gr) (H1 : Heap) (locs1 : List Loc), ρ1 = up ρ 1 0 x → Wh G s σ 0 ρ1 H1 locs1 → W p l e R s m args below meth c H1 locs1 cells slots Q (F0 m (pc + 3) ls rest)) : W p l e R s m args below meth c H locs cells slots Q (F0 m pc ls (.int x :: .ref (aa G 0 1) :: rest)) :=
  r_pi X w m0_1 rfl (k := 0) rfl rfl (by decide) inT1 tyX1 tyX1_ok nmX1 rfl kw204 rfl (ty := .int) (by decide +kernel) rfl rfl hd (fun H1 locs1 w1 => kk _ H1 locs1 rfl w1)
theorem gf6_63 (hg : HG g) (X : Cx p m c cc nL s args RX6 G) (w : Wh G s σ g ρ H locs) (hd : decode cc pc = .ok (.getfield 63, 3)) (kk : W p l e R s m args below meth c H locs cells slots Q (F0 m (pc + 3) ls (.ref (aa G g 1) :: rest))) : W p l e R s m args below meth c H locs cells slots Q (F0 m pc ls (.ref (aa G g 0) :: rest)) :=
  r_gv X w (hg.in (by decide)) hg.sh (k := 0) rfl rfl (by decide) inT3 rfl kw151 hd kk
theorem gf6_88 (hg : HG g) (X : Cx p m c cc nL s args RX6 G) (w : Wh G s σ g ρ H locs) (hd : decode cc pc = .ok (.getfield 88, 3)) (kk : W p l e R s m args below meth c H locs cells slots Q (F0 m (pc + 3) ls (.ref (aa G g 9) :: rest))) : W p l e R s m args below meth c H locs cells slots Q (F0 m pc ls (.ref (aa G g 0) :: rest)) :=
  r_gv X w (hg.in (by decide)) hg.sh (k := 1) rfl rfl (by decide) inT3 rfl kw154 hd kk
theorem gf6_105 (hg : HG g) (X : Cx p m c cc nL s args RX6 G) (w : Wh G s σ g ρ H locs) (hd : decode cc pc = .ok (.getfield 105, 3)) (kk : W p l e R s m args below meth c H locs cells slots Q (F0 m (pc + 3) ls (.int (ρ 0 4) :: rest))) : W p l e R s m args below meth c H locs cells slots Q (F0 m pc ls (.ref (aa G g 0) :: rest)) :=
  r_gv X w (hg.in (by decide)) hg.sh (k := 4) rfl rfl (by decide) inT3 rfl kw160 hd kk
theorem pf6_105 (hg : HG g) (X : Cx p m c cc nL s args RX6 G) (w : Wh G s σ g ρ H locs) {x : Int32} (hd : decode cc pc = .ok (.putfield 105, 3)) (kk : ∀ (ρ1 : Gr) (H1 : Heap) (locs1 : List Loc), ρ1 = up ρ 0 4 x → Wh G s σ g ρ1 H1 locs1 → W p l e R s m args below meth c H1 locs1 cells slots Q (F0 m (pc + 3) ls rest)) : W p l e R s m args below meth c H locs cells slots Q (F0 m pc ls (.int x :: .ref (aa G g 0) :: rest)) :=
  r_pi X w (hg.in (by decide)) hg.sh (k := 4) rfl rfl (by decide) inT3 tyX3 tyX3_ok nmX3 rfl kw160 rfl (ty := .int) (by decide +kernel) rfl rfl hd (fun H1 locs1 w1 => kk _ H1 locs1 rfl w1)
theorem gf6_137 (hg : HG g) (X : Cx p m c cc nL s args RX6 G) (w : Wh G s σ g ρ H locs) (hd : decode cc pc = .ok (.getfield 137, 3)) (kk : W p l e R s m args below meth c H locs cells slots Q (F0 m (pc + 3) ls (.ref (aa G g 19) :: rest))) : W p l e R s m args below meth c H locs cells slots Q (F0 m pc ls (.ref (aa G g 0) :: rest)) :=
  r_gv X w (hg.in (by decide)) hg.sh (k := 3) rfl rfl (by decide) inT3 rfl kw158 hd kk
theorem gf6_147 (hg : HG g) (X : Cx p m c cc nL s args RX6 G) (w : Wh G s σ g ρ H locs) (hd : decode cc pc = .ok (.getfield 147, 3)) (kk : W p l e R s m args below meth c H locs cells slots Q (F0 m (pc + 3) ls (.int (ρ 1 0) :: rest))) : W p l e R s m args below meth c H locs cells slots Q (F0 m pc ls (.ref (aa G g 1) :: rest)) :=
  r_gv X w (hg.in (by decide)) hg.sh (k := 0) rfl rfl (by decide) inT0 rfl kw32 hd kk
theorem pf6_147 (hg : HG g) (X : Cx p m c cc nL s args RX6 G) (w : Wh G s σ g ρ H locs) {x : Int32} (hd : decode cc pc = .ok (.putfield 147, 3)) (kk : ∀ (ρ1 : Gr) (H1 : Heap) (locs1 : List Loc), ρ1 = up ρ 1 0 x → Wh G s σ g ρ1 H1 locs1 → W p l e R s m args below meth c H1 locs1 cells slots Q (F0 m (pc + 3) ls rest)) : W p l e R s m args below meth c H locs cells slots Q (F0 m pc ls (.int x :: .ref (aa G g 1) :: rest)) :=
  r_pi X w (hg.in (by decide)) hg.sh (k := 0) rfl rfl (by decide) inT0 tyX0 tyX0_ok nmX0 rfl kw32 rfl (ty := .int) (by decide +kernel) rfl rfl hd (fun H1 locs1 w1 => kk _ H1 locs1 rfl w1)
theorem gf6_157 (hg : HG g) (X : Cx p m c cc nL s args RX6 G) (w : Wh G s σ g ρ H locs) (hd : decode cc pc = .ok (.getfield 157, 3)) (kk : W p l e R s m args below meth c H locs cells slots Q (F0 m (pc + 3) ls (.int (ρ 19 1) :: rest))) : W p l e R s m args below meth c H locs cells slots Q (F0 m pc ls (.ref (aa G g 19) :: rest)) :=
  r_gv X w (hg.in (by decide)) hg.sh (k := 1) rfl rfl (by decide) inT2 rfl kw131 hd kk
theorem pf6_157 (hg : HG g) (X : Cx p m c cc nL s args RX6 G) (w : Wh G s σ g ρ H locs) {x : Int32} (hd : decode cc pc = .ok (.putfield 157, 3)) (kk : ∀ (ρ1 : Gr) (H1 : Heap) (locs1 : List Loc), ρ1 = up ρ 19 1 x → Wh G s σ g ρ1 H1 locs1 → W p l e R s m args below meth c H1 locs1 cells slots Q (F0 m (pc + 3) ls rest)) : W p l e R s m args below meth c H locs cells slots Q (F0 m pc ls (.int x :: .ref (aa G g 19) :: rest)) :=
  r_pi X w (hg.in (by decide)) hg.sh (k := 1) rfl rfl (by decide) inT2 tyX2 tyX2_ok nmX2 rfl kw131 rfl (ty := .int) (by decide +kernel) rfl rfl hd (fun H1 locs1 w1 => kk _ H1 locs1 rfl w1)
theorem gf6_166 (hg : HG g) (X : Cx p m c cc nL s args RX6 G) (w : Wh G s σ g ρ H locs) (hd : decode cc pc = .ok (.getfield 166, 3)) (kk : W p l e R s m args below meth c H locs cells slots Q (F0 m (pc + 3) ls (.int (ρ 0 6) :: rest))) : W p l e R s m args below meth c H locs cells slots Q (F0 m pc ls (.ref (aa G g 0) :: rest)) :=
  r_gv X w (hg.in (by decide)) hg.sh (k := 6) rfl rfl (by decide) inT3 rfl kw163 hd kk
theorem pf6_166 (hg : HG g) (X : Cx p m c cc nL s args RX6 G) (w : Wh G s σ g ρ H locs) {x : Int32} (hd : decode cc pc = .ok (.putfield 166, 3)) (kk : ∀ (ρ1 : Gr) (H1 : Heap) (locs1 : List Loc), ρ1 = up ρ 0 6 x → Wh G s σ g ρ1 H1 locs1 → W p l e R s m args below meth c H1 locs1 cells slots Q (F0 m (pc + 3) ls rest)) : W p l e R s m args below meth c H locs cells slots Q (F0 m pc ls (.int x :: .ref (aa G g 0) :: rest)) :=
  r_pi X w (hg.in (by decide)) hg.sh (k := 6) rfl rfl (by decide) inT3 tyX3 tyX3_ok nmX3 rfl kw163 rfl (ty := .int) (by decide +kernel) rfl rfl hd (fun H1 locs1 w1 => kk _ H1 locs1 rfl w1)
theorem gf6_189 (hg : HG g) (X : Cx p m c cc nL s args RX6 G) (w : Wh G s σ g ρ H locs) (hd : decode cc pc = .ok (.getfield 189, 3)) (kk : W p l e R s m args below meth c H locs cells slots Q (F0 m (pc + 3) ls (.int (ρ 19 2) :: rest))) : W p l e R s m args below meth c H locs cells slots Q (F0 m pc ls (.ref (aa G g 19) :: rest)) :=
  r_gv X w (hg.in (by decide)) hg.sh (k := 2) rfl rfl (by decide) inT2 rfl kw134 hd kk
theorem pf6_189 (hg : HG g) (X : Cx p m c cc nL s args RX6 G) (w : Wh G s σ g ρ H locs) {x : Int32} (hd : decode cc pc = .ok (.putfield 189, 3)) (kk : ∀ (ρ1 : Gr) (H1 : Heap) (locs1 : List Loc), ρ1 = up ρ 19 2 x → Wh G s σ g ρ1 H1 locs1 → W p l e R s m args below meth c H1 locs1 cells slots Q (F0 m (pc + 3) ls rest)) : W p l e R s m args below meth c H locs cells slots Q (F0 m pc ls (.int x :: .ref (aa G g 19) :: rest)) :=
  r_pi X w (hg.in (by decide)) hg.sh (k := 2) rfl rfl (by decide) inT2 tyX2 tyX2_ok nmX2 rfl kw134 rfl (ty := .int) (by decide +kernel) rfl rfl hd (fun H1 locs1 w1 => kk _ H1 locs1 rfl w1)
theorem gf6_192 (hg : HG g) (X : Cx p m c cc nL s args RX6 G) (w : Wh G s σ g ρ H locs) (hd : decode cc pc = .ok (.getfield 192, 3)) (kk : W p l e R s m args below meth c H locs cells slots Q (F0 m (pc + 3) ls (.int (ρ 19 0) :: rest))) : W p l e R s m args below meth c H locs cells slots Q (F0 m pc ls (.ref (aa G g 19) :: rest)) :=
  r_gv X w (hg.in (by decide)) hg.sh (k := 0) rfl rfl (by decide) inT2 rfl kw128 hd kk
theorem pf6_192 (hg : HG g) (X : Cx p m c cc nL s args RX6 G) (w : Wh G s σ g ρ H locs) {x : Int32} (hd : decode cc pc = .ok (.putfield 192, 3)) (kk : ∀ (ρ1 : Gr) (H1 : Heap) (locs1 : List Loc), ρ1 = up ρ 19 0 x → Wh G s σ g ρ1 H1 locs1 → W p l e R s m args below meth c H1 locs1 cells slots Q (F0 m (pc + 3) ls rest)) : W p l e R s m args below meth c H locs cells slots Q (F0 m pc ls (.int x :: .ref (aa G g 19) :: rest)) :=
  r_pi X w (hg.in (by decide)) hg.sh (k := 0) rfl rfl (by decide) inT2 tyX2 tyX2_ok nmX2 rfl kw128 rfl (ty := .int) (by decide +kernel) rfl rfl hd (fun H1 locs1 w1 => kk _ H1 locs1 rfl w1)
theorem gf6_195 (hg : HG g) (X : Cx p m c cc nL s args RX6 G) (w : Wh G s σ g ρ H locs) (hd : decode cc pc = .ok (.getfield 195, 3)) (kk : W p l e R s m args below meth c H locs cells slots Q (F0 m (pc + 3) ls (.int (ρ 9 0) :: rest))) : W p l e R s m args below meth c H locs cells slots Q (F0 m pc ls (.ref (aa G g 9) :: rest)) :=
  r_gv X w (hg.in (by decide)) hg.sh (k := 0) rfl rfl (by decide) inT5 rfl kw68 hd kk
theorem pf6_195 (hg : HG g) (X : Cx p m c cc nL s args RX6 G) (w : Wh G s σ g ρ H locs) {x : Int32} (hd : decode cc pc = .ok (.putfield 195, 3)) (kk : ∀ (ρ1 : Gr) (H1 : Heap) (locs1 : List Loc), ρ1 = up ρ 9 0 x → Wh G s σ g ρ1 H1 locs1 → W p l e R s m args below meth c H1 locs1 cells slots Q (F0 m (pc + 3) ls rest)) : W p l e R s m args below meth c H locs cells slots Q (F0 m pc ls (.int x :: .ref (aa G g 9) :: rest)) :=
  r_pi X w (hg.in (by decide)) hg.sh (k := 0) rfl rfl (by decide) inT5 tyX5 tyX5_ok nmX5 rfl kw68 rfl (ty := .int) (by decide +kernel) rfl rfl hd (fun H1 locs1 w1 => kk _ H1 locs1 rfl w1)
theorem gf6_196 (hg : HG g) (X : Cx p m c cc nL s args RX6 G) (w : Wh G s σ g ρ H locs) (hd : decode cc pc = .ok (.getfield 196, 3)) (kk : W p l e R s m args below meth c H locs cells slots Q (F0 m (pc + 3) ls (.ref (aa G g 15) :: rest))) : W p l e R s m args below meth c H locs cells slots Q (F0 m pc ls (.ref (aa G g 0) :: rest)) :=
  r_gv X w (hg.in (by decide)) hg.sh (k := 2) rfl rfl (by decide) inT3 rfl kw156 hd kk
theorem gf6_206 (hg : HG g) (X : Cx p m c cc nL s args RX6 G) (w : Wh G s σ g ρ H locs) (hd : decode cc pc = .ok (.getfield 206, 3)) (kk : W p l e R s m args below meth c H locs cells slots Q (F0 m (pc + 3) ls (.ref (aa G g 18) :: rest))) : W p l e R s m args below meth c H locs cells slots Q (F0 m pc ls (.ref (aa G g 15) :: rest)) :=
  r_gv X w (hg.in (by decide)) hg.sh (k := 3) rfl rfl (by decide) inT4 rfl kw110 hd kk
theorem gf6_220 (hg : HG g) (X : Cx p m c cc nL s args RX6 G) (w : Wh G s σ g ρ H locs) (hd : decode cc pc = .ok (.getfield 220, 3)) (kk : W p l e R s m args below meth c H locs cells slots Q (F0 m (pc + 3) ls (.int (ρ 0 9) :: rest))) : W p l e R s m args below meth c H locs cells slots Q (F0 m pc ls (.ref (aa G g 0) :: rest)) :=
  r_gv X w (hg.in (by decide)) hg.sh (k := 9) rfl rfl (by decide) inT3 rfl kw169 hd kk
theorem pf6_220 (hg : HG g) (X : Cx p m c cc nL s args RX6 G) (w : Wh G s σ g ρ H locs) {x : Int32} (hd : decode cc pc = .ok (.putfield 220, 3)) (kk : ∀ (ρ1 : Gr) (H1 : Heap) (locs1 : List Loc), ρ1 = up ρ 0 9 x → Wh G s σ g ρ1 H1 locs1 → W p l e R s m args below meth c H1 locs1 cells slots Q (F0 m (pc + 3) ls rest)) : W p l e R s m args below meth c H locs cells slots Q (F0 m pc ls (.int x :: .ref (aa G g 0) :: rest)) :=
  r_pi X w (hg.in (by decide)) hg.sh (k := 9) rfl rfl (by decide) inT3 tyX3 tyX3_ok nmX3 rfl kw169 rfl (ty := .int) (by decide +kernel) rfl rfl hd (fun H1 locs1 w1 => kk _ H1 locs1 rfl w1)
theorem gf6_226 (hg : HG g) (X : Cx p m c cc nL s args RX6 G) (w : Wh G s σ g ρ H locs) (hd : decode cc pc = .ok (.getfield 226, 3)) (kk : W p l e R s m args below meth c H locs cells slots Q (F0 m (pc + 3) ls (.int (ρ 15 0) :: rest))) : W p l e R s m args below meth c H locs cells slots Q (F0 m pc ls (.ref (aa G g 15) :: rest)) :=
  r_gv X w (hg.in (by decide)) hg.sh (k := 0) rfl rfl (by decide) inT4 rfl kw103 hd kk
theorem pf6_226 (hg : HG g) (X : Cx p m c cc nL s args RX6 G) (w : Wh G s σ g ρ H locs) {x : Int32} (hd : decode cc pc = .ok (.putfield 226, 3)) (kk : ∀ (ρ1 : Gr) (H1 : Heap) (locs1 : List Loc), ρ1 = up ρ 15 0 x → Wh G s σ g ρ1 H1 locs1 → W p l e R s m args below meth c H1 locs1 cells slots Q (F0 m (pc + 3) ls rest)) : W p l e R s m args below meth c H locs cells slots Q (F0 m pc ls (.int x :: .ref (aa G g 15) :: rest)) :=
  r_pi X w (hg.in (by decide)) hg.sh (k := 0) rfl rfl (by decide) inT4 tyX4 tyX4_ok nmX4 rfl kw103 rfl (ty := .int) (by decide +kernel) rfl rfl hd (fun H1 locs1 w1 => kk _ H1 locs1 rfl w1)
theorem gf6_230 (hg : HG g) (X : Cx p m c cc nL s args RX6 G) (w : Wh G s σ g ρ H locs) (hd : decode cc pc = .ok (.getfield 230, 3)) (kk : W p l e R s m args below meth c H locs cells slots Q (F0 m (pc + 3) ls (.int (ρ 0 7) :: rest))) : W p l e R s m args below meth c H locs cells slots Q (F0 m pc ls (.ref (aa G g 0) :: rest)) :=
  r_gv X w (hg.in (by decide)) hg.sh (k := 7) rfl rfl (by decide) inT3 rfl kw165 hd kk
theorem pf6_230 (hg : HG g) (X : Cx p m c cc nL s args RX6 G) (w : Wh G s σ g ρ H locs) {x : Int32} (hd : decode cc pc = .ok (.putfield 230, 3)) (kk : ∀ (ρ1 : Gr) (H1 : Heap) (locs1 : List Loc), ρ1 = up ρ 0 7 x → Wh G s σ g ρ1 H1 locs1 → W p l e R s m args below meth c H1 locs1 cells slots Q (F0 m (pc + 3) ls rest)) : W p l e R s m args below meth c H locs cells slots Q (F0 m pc ls (.int x :: .ref (aa G g 0) :: rest)) :=
  r_pi X w (hg.in (by decide)) hg.sh (k := 7) rfl rfl (by decide) inT3 tyX3 tyX3_ok nmX3 rfl kw165 rfl (ty := .int) (by decide +kernel) rfl rfl hd (fun H1 locs1 w1 => kk _ H1 locs1 rfl w1)
theorem gf6_233 (hg : HG g) (X : Cx p m c cc nL s args RX6 G) (w : Wh G s σ g ρ H locs) (hd : decode cc pc = .ok (.getfield 233, 3)) (kk : W p l e R s m args below meth c H locs cells slots Q (F0 m (pc + 3) ls (.int (ρ 0 8) :: rest))) : W p l e R s m args below meth c H locs cells slots Q (F0 m pc ls (.ref (aa G g 0) :: rest)) :=
  r_gv X w (hg.in (by decide)) hg.sh (k := 8) rfl rfl (by decide) inT3 rfl kw167 hd kk
theorem pf6_233 (hg : HG g) (X : Cx p m c cc nL s args RX6 G) (w : Wh G s σ g ρ H locs) {x : Int32} (hd : decode cc pc = .ok (.putfield 233, 3)) (kk : ∀ (ρ1 : Gr) (H1 : Heap) (locs1 : List Loc), ρ1 = up ρ 0 8 x → Wh G s σ g ρ1 H1 locs1 → W p l e R s m args below meth c H1 locs1 cells slots Q (F0 m (pc + 3) ls rest)) : W p l e R s m args below meth c H locs cells slots Q (F0 m pc ls (.int x :: .ref (aa G g 0) :: rest)) :=
  r_pi X w (hg.in (by decide)) hg.sh (k := 8) rfl rfl (by decide) inT3 tyX3 tyX3_ok nmX3 rfl kw167 rfl (ty := .int) (by decide +kernel) rfl rfl hd (fun H1 locs1 w1 => kk _ H1 locs1 rfl w1)
theorem gf7_7 (X : Cx p m c cc nL s args RX7 G) (w : Wh G s σ 4 ρ H locs) (hd : decode cc pc = .ok (.getfield 7, 3)) (kk : W p l e R s m args below meth c H locs cells slots Q (F0 m (pc + 3) ls (.ref (aa G 4 1) :: rest))) : W p l e R s m args below meth c H locs cells slots Q (F0 m pc ls (.ref (aa G 4 0) :: rest)) :=
  r_gv X w m4_0 rfl (k := 1) rfl rfl (by decide) inT7 rfl kw702 hd kk
theorem gf7_13 (X : Cx p m c cc nL s args RX7 G) (w : Wh G s σ 4 ρ H locs) (hd : decode cc pc = .ok (.getfield 13, 3)) (kk : W p l e R s m args below meth c H locs cells slots Q (F0 m (pc + 3) ls (.ref (aa G 4 2) :: rest))) : W p l e R s m args below meth c H locs cells slots Q (F0 m pc ls (.ref (aa G 4 0) :: rest)) :=
  r_gv X w m4_0 rfl (k := 2) rfl rfl (by decide) inT7 rfl kw703 hd kk
theorem gf7_16 (X : Cx p m c cc nL s args RX7 G) (w : Wh G s σ 4 ρ H locs) (hd : decode cc pc = .ok (.getfield 16, 3)) (kk : W p l e R s m args below meth c H locs cells slots Q (F0 m (pc + 3) ls (.ref (aa G 4 3) :: rest))) : W p l e R s m args below meth c H locs cells slots Q (F0 m pc ls (.ref (aa G 4 0) :: rest)) :=
  r_gv X w m4_0 rfl (k := 3) rfl rfl (by decide) inT7 rfl kw704 hd kk
theorem gf7_19 (X : Cx p m c cc nL s args RX7 G) (w : Wh G s σ 4 ρ H locs) (hd : decode cc pc = .ok (.getfield 19, 3)) (kk : W p l e R s m args below meth c H locs cells slots Q (F0 m (pc + 3) ls (.ref (aa G 4 4) :: rest))) : W p l e R s m args below meth c H locs cells slots Q (F0 m pc ls (.ref (aa G 4 0) :: rest)) :=
  r_gv X w m4_0 rfl (k := 4) rfl rfl (by decide) inT7 rfl kw705 hd kk
theorem gf7_22 (X : Cx p m c cc nL s args RX7 G) (w : Wh G s σ 4 ρ H locs) (hd : decode cc pc = .ok (.getfield 22, 3)) (kk : W p l e R s m args below meth c H locs cells slots Q (F0 m (pc + 3) ls (.ref (aa G 4 5) :: rest))) : W p l e R s m args below meth c H locs cells slots Q (F0 m pc ls (.ref (aa G 4 0) :: rest)) :=
  r_gv X w m4_0 rfl (k := 5) rfl rfl (by decide) inT7 rfl kw706 hd kk
theorem gf7_25 (X : Cx p m c cc nL s args RX7 G) (w : Wh G s σ 4 ρ H locs) (hd : decode cc pc = .ok (.getfield 25, 3)) (kk : W p l e R s m args below meth c H locs cells slots Q (F0 m (pc + 3) ls (.ref (aa G 4 6) :: rest))) : W p l e R s m args below meth c H locs cells slots Q (F0 m pc ls (.ref (aa G 4 0) :: rest)) :=
  r_gv X w m4_0 rfl (k := 6) rfl rfl (by decide) inT7 rfl kw707 hd kk
theorem gf7_28 (X : Cx p m c cc nL s args RX7 G) (w : Wh G s σ 4 ρ H locs) (hd : decode cc pc = .ok (.getfield 28, 3)) (kk : W p l e R s m args below meth c H locs cells slots Q (F0 m (pc + 3) ls (.ref (aa G 4 7) :: rest))) : W p l e R s m args below meth c H locs cells slots Q (F0 m pc ls (.ref (aa G 4 0) :: rest)) :=
  r_gv X w m4_0 rfl (k := 7) rfl rfl (by decide) inT7 rfl kw708 hd kk
theorem gf7_31 (X : Cx p m c cc nL s args RX7 G) (w : Wh G s σ 4 ρ H locs) (hd : decode cc pc = .ok (.getfield 31, 3)) (kk : W p l e R s m args below meth c H locs cells slots Q (F0 m (pc + 3) ls (.ref (aa G 4 9) :: rest))) : W p l e R s m args below meth c H locs cells slots Q (F0 m pc ls (.ref (aa G 4 0) :: rest)) :=
  r_gv X w m4_0 rfl (k := 9) rfl rfl (by decide) inT7 rfl kw710 hd kk
theorem gf7_34 (X : Cx p m c cc nL s args RX7 G) (w : Wh G s σ 4 ρ H locs) (hd : decode cc pc = .ok (.getfield 34, 3)) (kk : W p l e R s m args below meth c H locs cells slots Q (F0 m (pc + 3) ls (.ref (aa G 4 10) :: rest))) : W p l e R s m args below meth c H locs cells slots Q (F0 m pc ls (.ref (aa G 4 0) :: rest)) :=
  r_gv X w m4_0 rfl (k := 10) rfl rfl (by decide) inT7 rfl kw711 hd kk
theorem gf7_37 (X : Cx p m c cc nL s args RX7 G) (w : Wh G s σ 4 ρ H locs) (hd : decode cc pc = .ok (.getfield 37, 3)) (kk : W p l e R s m args below meth c H locs cells slots Q (F0 m (pc + 3) ls (.ref (aa G 4 11) :: rest))) : W p l e R s m args below meth c H locs cells slots Q (F0 m pc ls (.ref (aa G 4 0) :: rest)) :=
  r_gv X w m4_0 rfl (k := 11) rfl rfl (by decide) inT7 rfl kw712 hd kk
theorem gf7_40 (X : Cx p m c cc nL s args RX7 G) (w : Wh G s σ 4 ρ H locs) (hd : decode cc pc = .ok (.getfield 40, 3)) (kk : W p l e R s m args below meth c H locs cells slots Q (F0 m (pc + 3) ls (.ref (aa G 4 12) :: rest))) : W p l e R s m args below meth c H locs cells slots Q (F0 m pc ls (.ref (aa G 4 0) :: rest)) :=
  r_gv X w m4_0 rfl (k := 12) rfl rfl (by decide) inT7 rfl kw713 hd kk
theorem gf7_43 (X : Cx p m c cc nL s args RX7 G) (w : Wh G s σ 4 ρ H locs) (hd : decode cc pc = .ok (.getfield 43, 3)) (kk : W p l e R s m args below meth c H locs cells slots Q (F0 m (pc + 3) ls (.ref (aa G 4 13) :: rest))) : W p l e R s m args below meth c H locs cells slots Q (F0 m pc ls (.ref (aa G 4 0) :: rest)) :=
  r_gv X w m4_0 rfl (k := 13) rfl rfl (by decide) inT7 rfl kw714 hd kk
theorem gf7_46 (X : Cx p m c cc nL s args RX7 G) (w : Wh G s σ 4 ρ H locs) (hd : decode cc pc = .ok (.getfield 46, 3)) (kk : W p l e R s m args below meth c H locs cells slots Q (F0 m (pc + 3) ls (.ref (aa G 4 14) :: rest))) : W p l e R s m args below meth c H locs cells slots Q (F0 m pc ls (.ref (aa G 4 0) :: rest)) :=
  r_gv X w m4_0 rfl (k := 14) rfl rfl (by decide) inT7 rfl kw715 hd kk
theorem gf7_50 (X : Cx p m c cc nL s args RX7 G) (w : Wh G s σ 4 ρ H locs) (hd : decode cc pc = .ok (.getfield 50, 3)) (kk : W p l e R s m args below meth c H locs cells slots Q (F0 m (pc + 3) ls (.ref (aa G 4 16) :: rest))) : W p l e R s m args below meth c H locs cells slots Q (F0 m pc ls (.ref (aa G 4 0) :: rest)) :=
  r_gv X w m4_0 rfl (k := 16) rfl rfl (by decide) inT7 rfl kw717 hd kk
theorem gf7_53 (X : Cx p m c cc nL s args RX7 G) (w : Wh G s σ 4 ρ H locs) (hd : decode cc pc = .ok (.getfield 53, 3)) (kk : W p l e R s m args below meth c H locs cells slots Q (F0 m (pc + 3) ls (.ref (aa G 4 17) :: rest))) : W p l e R s m args below meth c H locs cells slots Q (F0 m pc ls (.ref (aa G 4 0) :: rest)) :=
  r_gv X w m4_0 rfl (k := 17) rfl rfl (by decide) inT7 rfl kw718 hd kk
theorem gf7_56 (X : Cx p m c cc nL s args RX7 G) (w : Wh G s σ 4 ρ H locs) (hd : decode cc pc = .ok (.getfield 56, 3)) (kk : W p l e R s m args below meth c H locs cells slots Q (F0 m (pc + 3) ls (.ref (aa G 4 18) :: rest))) : W p l e R s m args below meth c H locs cells slots Q (F0 m pc ls (.ref (aa G 4 0) :: rest)) :=
  r_gv X w m4_0 rfl (k := 18) rfl rfl (by decide) inT7 rfl kw719 hd kk
theorem gf7_59 (X : Cx p m c cc nL s args RX7 G) (w : Wh G s σ 4 ρ H locs) (hd : decode cc pc = .ok (.getfield 59, 3)) (kk : W p l e R s m args below meth c H locs cells slots Q (F0 m (pc + 3) ls (.ref (aa G 4 19) :: rest))) : W p l e R s m args below meth c H locs cells slots Q (F0 m pc ls (.ref (aa G 4 0) :: rest)) :=
  r_gv X w m4_0 rfl (k := 19) rfl rfl (by decide) inT7 rfl kw720 hd kk
theorem gf7_62 (X : Cx p m c cc nL s args RX7 G) (w : Wh G s σ 4 ρ H locs) (hd : decode cc pc = .ok (.getfield 62, 3)) (kk : W p l e R s m args below meth c H locs cells slots Q (F0 m (pc + 3) ls (.int (ρ 0 20) :: rest))) : W p l e R s m args below meth c H locs cells slots Q (F0 m pc ls (.ref (aa G 4 0) :: rest)) :=
  r_gv X w m4_0 rfl (k := 20) rfl rfl (by decide) inT7 rfl kw721 hd kk
theorem pf7_62 (X : Cx p m c cc nL s args RX7 G) (w : Wh G s σ 4 ρ H locs) {x : Int32} (hd : decode cc pc = .ok (.putfield 62, 3)) (kk : ∀ (ρ1 : Gr) (H1 : Heap) (locs1 : List Loc), ρ1 = up ρ 0 20 x → Wh G s σ 4 ρ1 H1 locs1 → W p l e R s m args below meth c H1 locs1 cells slots Q (F0 m (pc + 3) ls rest)) : W p l e R s m args below meth c H locs cells slots Q (F0 m pc ls (.int x :: .ref (aa G 4 0) :: rest)) :=
  r_pi X w m4_0 rfl (k := 20) rfl rfl (by decide) inT7 tyX7 tyX7_ok nmX7 rfl kw721 rfl (ty := .int) (by decide +kernel) rfl rfl hd (fun H1 locs1 w1 => kk _ H1 locs1 rfl w1)
theorem gf7_66 (X : Cx p m c cc nL s args RX7 G) (w : Wh G s σ 4 ρ H locs) (hd : decode cc pc = .ok (.getfield 66, 3)) (kk : W p l e R s m args below meth c H locs cells slots Q (F0 m (pc + 3) ls (.int (ρ 0 25) :: rest))) : W p l e R s m args below meth c H locs cells slots Q (F0 m pc ls (.ref (aa G 4 0) :: rest)) :=
  r_gv X w m4_0 rfl (k := 25) rfl rfl (by decide) inT7 rfl kw726 hd kk
theorem pf7_66 (X : Cx p m c cc nL s args RX7 G) (w : Wh G s σ 4 ρ H locs) {x : Int32} (hd : decode cc pc = .ok (.putfield 66, 3)) (kk : ∀ (ρ1 : Gr) (H1 : Heap) (locs1 : List Loc), ρ1 = up ρ 0 25 x → Wh G s σ 4 ρ1 H1 locs1 → W p l e R s m args below meth c H1 locs1 cells slots Q (F0 m (pc + 3) ls rest)) : W p l e R s m args below meth c H locs cells slots Q (F0 m pc ls (.int x :: .ref (aa G 4 0) :: rest)) :=
  r_pi X w m4_0 rfl (k := 25) rfl rfl (by decide) inT7 tyX7 tyX7_ok nmX7 rfl kw726 rfl (ty := .int) (by decide +kernel) rfl rfl hd (fun H1 locs1 w1 => kk _ H1 locs1 rfl w1)
theorem gf7_69 (X : Cx p m c cc nL s args RX7 G) (w : Wh G s σ 4 ρ H locs) (hd : decode cc pc = .ok (.getfield 69, 3)) (kk : W p l e R s m args below meth c H locs cells slots Q (F0 m (pc + 3) ls (.int (ρ 0 28) :: rest))) : W p l e R s m args below meth c H locs cells slots Q (F0 m pc ls (.ref (aa G 4 0) :: rest)) :=
  r_gv X w m4_0 rfl (k := 28) rfl rfl (by decide) inT7 rfl kw729 hd kk
theorem pf7_69 (X : Cx p m c cc nL s args RX7 G) (w : Wh G s σ 4 ρ H locs) {x : Int32} (hd : decode cc pc = .ok (.putfield 69, 3)) (kk : ∀ (ρ1 : Gr) (H1 : Heap) (locs1 : List Loc), ρ1 = up ρ 0 28 x → Wh G s σ 4 ρ1 H1 locs1 → W p l e R s m args below meth c H1 locs1 cells slots Q (F0 m (pc + 3) ls rest)) : W p l e R s m args below meth c H locs cells slots Q (F0 m pc ls (.int x :: .ref (aa G 4 0) :: rest)) :=
  r_pi X w m4_0 rfl (k := 28) rfl rfl (by decide) inT7 tyX7 tyX7_ok nmX7 rfl kw729 rfl (ty := .int) (by decide +kernel) rfl rfl hd (fun H1 locs1 w1 => kk _ H1 locs1 rfl w1)
theorem gf7_72 (X : Cx p m c cc nL s args RX7 G) (w : Wh G s σ 4 ρ H locs) (hd : decode cc pc = .ok (.getfield 72, 3)) (kk : W p l e R s m args below meth c H locs cells slots Q (F0 m (pc + 3) ls (.ref (aa G 4 29) :: rest))) : W p l e R s m args below meth c H locs cells slots Q (F0 m pc ls (.ref (aa G 4 0) :: rest)) :=
  r_gv X w m4_0 rfl (k := 29) rfl rfl (by decide) inT7 rfl kw730 hd kk
theorem gf7_75 (X : Cx p m c cc nL s args RX7 G) (w : Wh G s σ 4 ρ H locs) (hd : decode cc pc = .ok (.getfield 75, 3)) (kk : W p l e R s m args below meth c H locs cells slots Q (F0 m (pc + 3) ls (.ref (aa G 4 31) :: rest))) : W p l e R s m args below meth c H locs cells slots Q (F0 m pc ls (.ref (aa G 4 0) :: rest)) :=
  r_gv X w m4_0 rfl (k := 31) rfl rfl (by decide) inT7 rfl kw732 hd kk
theorem gf7_78 (X : Cx p m c cc nL s args RX7 G) (w : Wh G s σ 4 ρ H locs) (hd : decode cc pc = .ok (.getfield 78, 3)) (kk : W p l e R s m args below meth c H locs cells slots Q (F0 m (pc + 3) ls (.ref (aa G 4 33) :: rest))) : W p l e R s m args below meth c H locs cells slots Q (F0 m pc ls (.ref (aa G 4 0) :: rest)) :=
  r_gv X w m4_0 rfl (k := 33) rfl rfl (by decide) inT7 rfl kw734 hd kk
theorem gf7_81 (X : Cx p m c cc nL s args RX7 G) (w : Wh G s σ 4 ρ H locs) (hd : decode cc pc = .ok (.getfield 81, 3)) (kk : W p l e R s m args below meth c H locs cells slots Q (F0 m (pc + 3) ls (.int (ρ 0 34) :: rest))) : W p l e R s m args below meth c H locs cells slots Q (F0 m pc ls (.ref (aa G 4 0) :: rest)) :=
  r_gv X w m4_0 rfl (k := 34) rfl rfl (by decide) inT7 rfl kw735 hd kk
theorem pf7_81 (X : Cx p m c cc nL s args RX7 G) (w : Wh G s σ 4 ρ H locs) {x : Int32} (hd : decode cc pc = .ok (.putfield 81, 3)) (kk : ∀ (ρ1 : Gr) (H1 : Heap) (locs1 : List Loc), ρ1 = up ρ 0 34 x → Wh G s σ 4 ρ1 H1 locs1 → W p l e R s m args below meth c H1 locs1 cells slots Q (F0 m (pc + 3) ls rest)) : W p l e R s m args below meth c H locs cells slots Q (F0 m pc ls (.int x :: .ref (aa G 4 0) :: rest)) :=
  r_pi X w m4_0 rfl (k := 34) rfl rfl (by decide) inT7 tyX7 tyX7_ok nmX7 rfl kw735 rfl (ty := .int) (by decide +kernel) rfl rfl hd (fun H1 locs1 w1 => kk _ H1 locs1 rfl w1)
theorem gf7_84 (X : Cx p m c cc nL s args RX7 G) (w : Wh G s σ 4 ρ H locs) (hd : decode cc pc = .ok (.getfield 84, 3)) (kk : W p l e R s m args below meth c H locs cells slots Q (F0 m (pc + 3) ls (.ref (aa G 4 35) :: rest))) : W p l e R s m args below meth c H locs cells slots Q (F0 m pc ls (.ref (aa G 4 0) :: rest)) :=
  r_gv X w m4_0 rfl (k := 35) rfl rfl (by decide) inT7 rfl kw736 hd kk
theorem gf7_87 (X : Cx p m c cc nL s args RX7 G) (w : Wh G s σ 4 ρ H locs) (hd : decode cc pc = .ok (.getfield 87, 3)) (kk : W p l e R s m args below meth c H locs cells slots Q (F0 m (pc + 3) ls (.ref (aa G 4 38) :: rest))) : W p l e R s m args below meth c H locs cells slots Q (F0 m pc ls (.ref (aa G 4 0) :: rest)) :=
  r_gv X w m4_0 rfl (k := 38) rfl rfl (by decide) inT7 rfl kw739 hd kk
theorem gf7_90 (X : Cx p m c cc nL s args RX7 G) (w : Wh G s σ 4 ρ H locs) (hd : decode cc pc = .ok (.getfield 90, 3)) (kk : W p l e R s m args below meth c H locs cells slots Q (F0 m (pc + 3) ls (.ref (aa G 4 39) :: rest))) : W p l e R s m args below meth c H locs cells slots Q (F0 m pc ls (.ref (aa G 4 0) :: rest)) :=
  r_gv X w m4_0 rfl (k := 39) rfl rfl (by decide) inT7 rfl kw740 hd kk
theorem gf7_93 (X : Cx p m c cc nL s args RX7 G) (w : Wh G s σ 4 ρ H locs) (hd : decode cc pc = .ok (.getfield 93, 3)) (kk : W p l e R s m args below meth c H locs cells slots Q (F0 m (pc + 3) ls (.ref (aa G 4 47) :: rest))) : W p l e R s m args below meth c H locs cells slots Q (F0 m pc ls (.ref (aa G 4 0) :: rest)) :=
  r_gv X w m4_0 rfl (k := 47) rfl rfl (by decide) inT7 rfl kw748 hd kk
theorem gf7_96 (X : Cx p m c cc nL s args RX7 G) (w : Wh G s σ 4 ρ H locs) (hd : decode cc pc = .ok (.getfield 96, 3)) (kk : W p l e R s m args below meth c H locs cells slots Q (F0 m (pc + 3) ls (.ref (aa G 4 48) :: rest))) : W p l e R s m args below meth c H locs cells slots Q (F0 m pc ls (.ref (aa G 4 0) :: rest)) :=
  r_gv X w m4_0 rfl (k := 48) rfl rfl (by decide) inT7 rfl kw749 hd kk
theorem gf7_99 (X : Cx p m c cc nL s args RX7 G) (w : Wh G s σ 4 ρ H locs) (hd : decode cc pc = .ok (.getfield 99, 3)) (kk : W p l e R s m args below meth c H locs cells slots Q (F0 m (pc + 3) ls (.ref (aa G 4 49) :: rest))) : W p l e R s m args below meth c H locs cells slots Q (F0 m pc ls (.ref (aa G 4 0) :: rest)) :=
  r_gv X w m4_0 rfl (k := 49) rfl rfl (by decide) inT7 rfl kw750 hd kk
theorem gf7_102 (X : Cx p m c cc nL s args RX7 G) (w : Wh G s σ 4 ρ H locs) (hd : decode cc pc = .ok (.getfield 102, 3)) (kk : W p l e R s m args below meth c H locs cells slots Q (F0 m (pc + 3) ls (.ref (aa G 4 50) :: rest))) : W p l e R s m args below meth c H locs cells slots Q (F0 m pc ls (.ref (aa G 4 0) :: rest)) :=
  r_gv X w m4_0 rfl (k := 50) rfl rfl (by decide) inT7 rfl kw751 hd kk
theorem gf7_105 (X : Cx p m c cc nL s args RX7 G) (w : Wh G s σ 4 ρ H locs) (hd : decode cc pc = .ok (.getfield 105, 3)) (kk : W p l e R s m args below meth c H locs cells slots Q (F0 m (pc + 3) ls (.ref (aa G 4 52) :: rest))) : W p l e R s m args below meth c H locs cells slots Q (F0 m pc ls (.ref (aa G 4 0) :: rest)) :=
  r_gv X w m4_0 rfl (k := 52) rfl rfl (by decide) inT7 rfl kw753 hd kk
theorem gf7_108 (X : Cx p m c cc nL s args RX7 G) (w : Wh G s σ 4 ρ H locs) (hd : decode cc pc = .ok (.getfield 108, 3)) (kk : W p l e R s m args below meth c H locs cells slots Q (F0 m (pc + 3) ls (.int (ρ 0 30) :: rest))) : W p l e R s m args below meth c H locs cells slots Q (F0 m pc ls (.ref (aa G 4 0) :: rest)) :=
  r_gv X w m4_0 rfl (k := 30) rfl rfl (by decide) inT7 rfl kw731 hd kk
theorem pf7_108 (X : Cx p m c cc nL s args RX7 G) (w : Wh G s σ 4 ρ H locs) {x : Int32} (hd : decode cc pc = .ok (.putfield 108, 3)) (kk : ∀ (ρ1 : Gr) (H1 : Heap) (locs1 : List Loc), ρ1 = up ρ 0 30 x → Wh G s σ 4 ρ1 H1 locs1 → W p l e R s m args below meth c H1 locs1 cells slots Q (F0 m (pc + 3) ls rest)) : W p l e R s m args below meth c H locs cells slots Q (F0 m pc ls (.int x :: .ref (aa G 4 0) :: rest)) :=
  r_pi X w m4_0 rfl (k := 30) rfl rfl (by decide) inT7 tyX7 tyX7_ok nmX7 rfl kw731 rfl (ty := .int) (by decide +kernel) rfl rfl hd (fun H1 locs1 w1 => kk _ H1 locs1 rfl w1)
theorem gf7_111 (X : Cx p m c cc nL s args RX7 G) (w : Wh G s σ 4 ρ H locs) (hd : decode cc pc = .ok (.getfield 111, 3)) (kk : W p l e R s m args below meth c H locs cells slots Q (F0 m (pc + 3) ls (.int (ρ 0 0) :: rest))) : W p l e R s m args below meth c H locs cells slots Q (F0 m pc ls (.ref (aa G 4 0) :: rest)) :=
  r_gv X w m4_0 rfl (k := 0) rfl rfl (by decide) inT7 rfl kw701 hd kk
theorem pf7_111 (X : Cx p m c cc nL s args RX7 G) (w : Wh G s σ 4 ρ H locs) {x : Int32} (hd : decode cc pc = .ok (.putfield 111, 3)) (kk : ∀ (ρ1 : Gr) (H1 : Heap) (locs1 : List Loc), ρ1 = up ρ 0 0 x → Wh G s σ 4 ρ1 H1 locs1 → W p l e R s m args below meth c H1 locs1 cells slots Q (F0 m (pc + 3) ls rest)) : W p l e R s m args below meth c H locs cells slots Q (F0 m pc ls (.int x :: .ref (aa G 4 0) :: rest)) :=
  r_pi X w m4_0 rfl (k := 0) rfl rfl (by decide) inT7 tyX7 tyX7_ok nmX7 rfl kw701 rfl (ty := .int) (by decide +kernel) rfl rfl hd (fun H1 locs1 w1 => kk _ H1 locs1 rfl w1)
theorem gf7_132 (X : Cx p m c cc nL s args RX7 G) (w : Wh G s σ 4 ρ H locs) (hd : decode cc pc = .ok (.getfield 132, 3)) (kk : W p l e R s m args below meth c H locs cells slots Q (F0 m (pc + 3) ls (.int (ρ 0 8) :: rest))) : W p l e R s m args below meth c H locs cells slots Q (F0 m pc ls (.ref (aa G 4 0) :: rest)) :=
  r_gv X w m4_0 rfl (k := 8) rfl rfl (by decide) inT7 rfl kw709 hd kk
theorem pf7_132 (X : Cx p m c cc nL s args RX7 G) (w : Wh G s σ 4 ρ H locs) {x : Int32} (hd : decode cc pc = .ok (.putfield 132, 3)) (kk : ∀ (ρ1 : Gr) (H1 : Heap) (locs1 : List Loc), ρ1 = up ρ 0 8 x → Wh G s σ 4 ρ1 H1 locs1 → W p l e R s m args below meth c H1 locs1 cells slots Q (F0 m (pc + 3) ls rest)) : W p l e R s m args below meth c H locs cells slots Q (F0 m pc ls (.int x :: .ref (aa G 4 0) :: rest)) :=
  r_pi X w m4_0 rfl (k := 8) rfl rfl (by decide) inT7 tyX7 tyX7_ok nmX7 rfl kw709 rfl (ty := .int) (by decide +kernel) rfl rfl hd (fun H1 locs1 w1 => kk _ H1 locs1 rfl w1)
theorem gf7_147 (X : Cx p m c cc nL s args RX7 G) (w : Wh G s σ 4 ρ H locs) (hd : decode cc pc = .ok (.getfield 147, 3)) (kk : W p l e R s m args below meth c H locs cells slots Q (F0 m (pc + 3) ls (.int (ρ 0 15) :: rest))) : W p l e R s m args below meth c H locs cells slots Q (F0 m pc ls (.ref (aa G 4 0) :: rest)) :=
  r_gv X w m4_0 rfl (k := 15) rfl rfl (by decide) inT7 rfl kw716 hd kk
theorem pf7_147 (X : Cx p m c cc nL s args RX7 G) (w : Wh G s σ 4 ρ H locs) {x : Int32} (hd : decode cc pc = .ok (.putfield 147, 3)) (kk : ∀ (ρ1 : Gr) (H1 : Heap) (locs1 : List Loc), ρ1 = up ρ 0 15 x → Wh G s σ 4 ρ1 H1 locs1 → W p l e R s m args below meth c H1 locs1 cells slots Q (F0 m (pc + 3) ls rest)) : W p l e R s m args below meth c H locs cells slots Q (F0 m pc ls (.int x :: .ref (aa G 4 0) :: rest)) :=
  r_pi X w m4_0 rfl (k := 15) rfl rfl (by decide) inT7 tyX7 tyX7_ok nmX7 rfl kw716 rfl (ty := .int) (by decide +kernel) rfl rfl hd (fun H1 locs1 w1 => kk _ H1 locs1 rfl w1)
theorem gf7_170 (X : Cx p m c cc nL s args RX7 G) (w : Wh G s σ 4 ρ H locs) (hd : decode cc pc = .ok (.getfield 170, 3)) (kk : W p l e R s m args below meth c H locs cells slots Q (F0 m (pc + 3) ls (.int (ρ 0 24) :: rest))) : W p l e R s m args below meth c H locs cells slots Q (F0 m pc ls (.ref (aa G 4 0) :: rest)) :=
  r_gv X w m4_0 rfl (k := 24) rfl rfl (by decide) inT7 rfl kw725 hd kk
theorem pf7_170 (X : Cx p m c cc nL s args RX7 G) (w : Wh G s σ 4 ρ H locs) {x : Int32} (hd : decode cc pc = .ok (.putfield 170, 3)) (kk : ∀ (ρ1 : Gr) (H1 : Heap) (locs1 : List Loc), ρ1 = up ρ 0 24 x → Wh G s σ 4 ρ1 H1 locs1 → W p l e R s m args below meth c H1 locs1 cells slots Q (F0 m (pc + 3) ls rest)) : W p l e R s m args below meth c H locs cells slots Q (F0 m pc ls (.int x :: .ref (aa G 4 0) :: rest)) :=
  r_pi X w m4_0 rfl (k := 24) rfl rfl (by decide) inT7 tyX7 tyX7_ok nmX7 rfl kw725 rfl (ty := .int) (by decide +kernel) rfl rfl hd (fun H1 locs1 w1 => kk _ H1 locs1 rfl w1)
theorem gf7_173 (X : Cx p m c cc nL s args RX7 G) (w : Wh G s σ 4 ρ H locs) (hd : decode cc pc = .ok (.getfield 173, 3)) (kk : W p l e R s m args below meth c H locs cells slots Q (F0 m (pc + 3) ls (.int (ρ 0 26) :: rest))) : W p l e R s m args below meth c H locs cells slots Q (F0 m pc ls (.ref (aa G 4 0) :: rest)) :=
  r_gv X w m4_0 rfl (k := 26) rfl rfl (by decide) inT7 rfl kw727 hd kk
theorem pf7_173 (X : Cx p m c cc nL s args RX7 G) (w : Wh G s σ 4 ρ H locs) {x : Int32} (hd : decode cc pc = .ok (.putfield 173, 3)) (kk : ∀ (ρ1 : Gr) (H1 : Heap) (locs1 : List Loc), ρ1 = up ρ 0 26 x → Wh G s σ 4 ρ1 H1 locs1 → W p l e R s m args below meth c H1 locs1 cells slots Q (F0 m (pc + 3) ls rest)) : W p l e R s m args below meth c H locs cells slots Q (F0 m pc ls (.int x :: .ref (aa G 4 0) :: rest)) :=
  r_pi X w m4_0 rfl (k := 26) rfl rfl (by decide) inT7 tyX7 tyX7_ok nmX7 rfl kw727 rfl (ty := .int) (by decide +kernel) rfl rfl hd (fun H1 locs1 w1 => kk _ H1 locs1 rfl w1)
theorem gf7_176 (X : Cx p m c cc nL s args RX7 G) (w : Wh G s σ 4 ρ H locs) (hd : decode cc pc = .ok (.getfield 176, 3)) (kk : W p l e R s m args below meth c H locs cells slots Q (F0 m (pc + 3) ls (.int (ρ 0 27) :: rest))) : W p l e R s m args below meth c H locs cells slots Q (F0 m pc ls (.ref (aa G 4 0) :: rest)) :=
  r_gv X w m4_0 rfl (k := 27) rfl rfl (by decide) inT7 rfl kw728 hd kk
theorem pf7_176 (X : Cx p m c cc nL s args RX7 G) (w : Wh G s σ 4 ρ H locs) {x : Int32} (hd : decode cc pc = .ok (.putfield 176, 3)) (kk : ∀ (ρ1 : Gr) (H1 : Heap) (locs1 : List Loc), ρ1 = up ρ 0 27 x → Wh G s σ 4 ρ1 H1 locs1 → W p l e R s m args below meth c H1 locs1 cells slots Q (F0 m (pc + 3) ls rest)) : W p l e R s m args below meth c H locs cells slots Q (F0 m pc ls (.int x :: .ref (aa G 4 0) :: rest)) :=
  r_pi X w m4_0 rfl (k := 27) rfl rfl (by decide) inT7 tyX7 tyX7_ok nmX7 rfl kw728 rfl (ty := .int) (by decide +kernel) rfl rfl hd (fun H1 locs1 w1 => kk _ H1 locs1 rfl w1)
theorem gf7_186 (X : Cx p m c cc nL s args RX7 G) (w : Wh G s σ 4 ρ H locs) (hd : decode cc pc = .ok (.getfield 186, 3)) (kk : W p l e R s m args below meth c H locs cells slots Q (F0 m (pc + 3) ls (.int (ρ 0 21) :: rest))) : W p l e R s m args below meth c H locs cells slots Q (F0 m pc ls (.ref (aa G 4 0) :: rest)) :=
  r_gv X w m4_0 rfl (k := 21) rfl rfl (by decide) inT7 rfl kw722 hd kk
theorem pf7_186 (X : Cx p m c cc nL s args RX7 G) (w : Wh G s σ 4 ρ H locs) {x : Int32} (hd : decode cc pc = .ok (.putfield 186, 3)) (kk : ∀ (ρ1 : Gr) (H1 : Heap) (locs1 : List Loc), ρ1 = up ρ 0 21 x → Wh G s σ 4 ρ1 H1 locs1 → W p l e R s m args below meth c H1 locs1 cells slots Q (F0 m (pc + 3) ls rest)) : W p l e R s m args below meth c H locs cells slots Q (F0 m pc ls (.int x :: .ref (aa G 4 0) :: rest)) :=
  r_pi X w m4_0 rfl (k := 21) rfl rfl (by decide) inT7 tyX7 tyX7_ok nmX7 rfl kw722 rfl (ty := .int) (by decide +kernel) rfl rfl hd (fun H1 locs1 w1 => kk _ H1 locs1 rfl w1)
theorem gf7_194 (X : Cx p m c cc nL s args RX7 G) (w : Wh G s σ 4 ρ H locs) (hd : decode cc pc = .ok (.getfield 194, 3)) (kk : W p l e R s m args below meth c H locs cells slots Q (F0 m (pc + 3) ls (.int (ρ 0 22) :: rest))) : W p l e R s m args below meth c H locs cells slots Q (F0 m pc ls (.ref (aa G 4 0) :: rest)) :=
  r_gv X w m4_0 rfl (k := 22) rfl rfl (by decide) inT7 rfl kw723 hd kk
theorem pf7_194 (X : Cx p m c cc nL s args RX7 G) (w : Wh G s σ 4 ρ H locs) {x : Int32} (hd : decode cc pc = .ok (.putfield 194, 3)) (kk : ∀ (ρ1 : Gr) (H1 : Heap) (locs1 : List Loc), ρ1 = up ρ 0 22 x → Wh G s σ 4 ρ1 H1 locs1 → W p l e R s m args below meth c H1 locs1 cells slots Q (F0 m (pc + 3) ls rest)) : W p l e R s m args below meth c H locs cells slots Q (F0 m pc ls (.int x :: .ref (aa G 4 0) :: rest)) :=
  r_pi X w m4_0 rfl (k := 22) rfl rfl (by decide) inT7 tyX7 tyX7_ok nmX7 rfl kw723 rfl (ty := .int) (by decide +kernel) rfl rfl hd (fun H1 locs1 w1 => kk _ H1 locs1 rfl w1)
theorem gf7_197 (X : Cx p m c cc nL s args RX7 G) (w : Wh G s σ 4 ρ H locs) (hd : decode cc pc = .ok (.getfield 197, 3)) (kk : W p l e R s m args below meth c H locs cells slots Q (F0 m (pc + 3) ls (.int (ρ 0 36) :: rest))) : W p l e R s m args below meth c H locs cells slots Q (F0 m pc ls (.ref (aa G 4 0) :: rest)) :=
  r_gv X w m4_0 rfl (k := 36) rfl rfl (by decide) inT7 rfl kw737 hd kk
theorem pf7_197 (X : Cx p m c cc nL s args RX7 G) (w : Wh G s σ 4 ρ H locs) {x : Int32} (hd : decode cc pc = .ok (.putfield 197, 3)) (kk : ∀ (ρ1 : Gr) (H1 : Heap) (locs1 : List Loc), ρ1 = up ρ 0 36 x → Wh G s σ 4 ρ1 H1 locs1 → W p l e R s m args below meth c H1 locs1 cells slots Q (F0 m (pc + 3) ls rest)) : W p l e R s m args below meth c H locs cells slots Q (F0 m pc ls (.int x :: .ref (aa G 4 0) :: rest)) :=
  r_pi X w m4_0 rfl (k := 36) rfl rfl (by decide) inT7 tyX7 tyX7_ok nmX7 rfl kw737 rfl (ty := .int) (by decide +kernel) rfl rfl hd (fun H1 locs1 w1 => kk _ H1 locs1 rfl w1)
theorem gf7_200 (X : Cx p m c cc nL s args RX7 G) (w : Wh G s σ 4 ρ H locs) (hd : decode cc pc = .ok (.getfield 200, 3)) (kk : W p l e R s m args below meth c H locs cells slots Q (F0 m (pc + 3) ls (.int (ρ 0 37) :: rest))) : W p l e R s m args below meth c H locs cells slots Q (F0 m pc ls (.ref (aa G 4 0) :: rest)) :=
  r_gv X w m4_0 rfl (k := 37) rfl rfl (by decide) inT7 rfl kw738 hd kk
theorem pf7_200 (X : Cx p m c cc nL s args RX7 G) (w : Wh G s σ 4 ρ H locs) {x : Int32} (hd : decode cc pc = .ok (.putfield 200, 3)) (kk : ∀ (ρ1 : Gr) (H1 : Heap) (locs1 : List Loc), ρ1 = up ρ 0 37 x → Wh G s σ 4 ρ1 H1 locs1 → W p l e R s m args below meth c H1 locs1 cells slots Q (F0 m (pc + 3) ls rest)) : W p l e R s m args below meth c H locs cells slots Q (F0 m pc ls (.int x :: .ref (aa G 4 0) :: rest)) :=
  r_pi X w m4_0 rfl (k := 37) rfl rfl (by decide) inT7 tyX7 tyX7_ok nmX7 rfl kw738 rfl (ty := .int) (by decide +kernel) rfl rfl hd (fun H1 locs1 w1 => kk _ H1 locs1 rfl w1)
theorem gf7_203 (X : Cx p m c cc nL s args RX7 G) (w : Wh G s σ 4 ρ H locs) (hd : decode cc pc = .ok (.getfield 203, 3)) (kk : W p l e R s m args below meth c H locs cells slots Q (F0 m (pc + 3) ls (.int (ρ 0 23) :: rest))) : W p l e R s m args below meth c H locs cells slots Q (F0 m pc ls (.ref (aa G 4 0) :: rest)) :=
  r_gv X w m4_0 rfl (k := 23) rfl rfl (by decide) inT7 rfl kw724 hd kk
theorem pf7_203 (X : Cx p m c cc nL s args RX7 G) (w : Wh G s σ 4 ρ H locs) {x : Int32} (hd : decode cc pc = .ok (.putfield 203, 3)) (kk : ∀ (ρ1 : Gr) (H1 : Heap) (locs1 : List Loc), ρ1 = up ρ 0 23 x → Wh G s σ 4 ρ1 H1 locs1 → W p l e R s m args below meth c H1 locs1 cells slots Q (F0 m (pc + 3) ls rest)) : W p l e R s m args below meth c H locs cells slots Q (F0 m pc ls (.int x :: .ref (aa G 4 0) :: rest)) :=
  r_pi X w m4_0 rfl (k := 23) rfl rfl (by decide) inT7 tyX7 tyX7_ok nmX7 rfl kw724 rfl (ty := .int) (by decide +kernel) rfl rfl hd (fun H1 locs1 w1 => kk _ H1 locs1 rfl w1)
theorem gf7_226 (X : Cx p m c cc nL s args RX7 G) (w : Wh G s σ 4 ρ H locs) (hd : decode cc pc = .ok (.getfield 226, 3)) (kk : W p l e R s m args below meth c H locs cells slots Q (F0 m (pc + 3) ls (.int (ρ 0 40) :: rest))) : W p l e R s m args below meth c H locs cells slots Q (F0 m pc ls (.ref (aa G 4 0) :: rest)) :=
  r_gv X w m4_0 rfl (k := 40) rfl rfl (by decide) inT7 rfl kw741 hd kk
theorem pf7_226 (X : Cx p m c cc nL s args RX7 G) (w : Wh G s σ 4 ρ H locs) {x : Int32} (hd : decode cc pc = .ok (.putfield 226, 3)) (kk : ∀ (ρ1 : Gr) (H1 : Heap) (locs1 : List Loc), ρ1 = up ρ 0 40 x → Wh G s σ 4 ρ1 H1 locs1 → W p l e R s m args below meth c H1 locs1 cells slots Q (F0 m (pc + 3) ls rest)) : W p l e R s m args below meth c H locs cells slots Q (F0 m pc ls (.int x :: .ref (aa G 4 0) :: rest)) :=
  r_pi X w m4_0 rfl (k := 40) rfl rfl (by decide) inT7 tyX7 tyX7_ok nmX7 rfl kw741 rfl (ty := .int) (by decide +kernel) rfl rfl hd (fun H1 locs1 w1 => kk _ H1 locs1 rfl w1)
theorem gf7_229 (X : Cx p m c cc nL s args RX7 G) (w : Wh G s σ 4 ρ H locs) (hd : decode cc pc = .ok (.getfield 229, 3)) (kk : W p l e R s m args below meth c H locs cells slots Q (F0 m (pc + 3) ls (.int (ρ 0 41) :: rest))) : W p l e R s m args below meth c H locs cells slots Q (F0 m pc ls (.ref (aa G 4 0) :: rest)) :=
  r_gv X w m4_0 rfl (k := 41) rfl rfl (by decide) inT7 rfl kw742 hd kk
theorem pf7_229 (X : Cx p m c cc nL s args RX7 G) (w : Wh G s σ 4 ρ H locs) {x : Int32} (hd : decode cc pc = .ok (.putfield 229, 3)) (kk : ∀ (ρ1 : Gr) (H1 : Heap) (locs1 : List Loc), ρ1 = up ρ 0 41 x → Wh G s σ 4 ρ1 H1 locs1 → W p l e R s m args below meth c H1 locs1 cells slots Q (F0 m (pc + 3) ls rest)) : W p l e R s m args below meth c H locs cells slots Q (F0 m pc ls (.int x :: .ref (aa G 4 0) :: rest)) :=
  r_pi X w m4_0 rfl (k := 41) rfl rfl (by decide) inT7 tyX7 tyX7_ok nmX7 rfl kw742 rfl (ty := .int) (by decide +kernel) rfl rfl hd (fun H1 locs1 w1 => kk _ H1 locs1 rfl w1)
theorem gf7_232 (X : Cx p m c cc nL s args RX7 G) (w : Wh G s σ 4 ρ H locs) (hd : decode cc pc = .ok (.getfield 232, 3)) (kk : W p l e R s m args below meth c H locs cells slots Q (F0 m (pc + 3) ls (.int (ρ 0 42) :: rest))) : W p l e R s m args below meth c H locs cells slots Q (F0 m pc ls (.ref (aa G 4 0) :: rest)) :=
  r_gv X w m4_0 rfl (k := 42) rfl rfl (by decide) inT7 rfl kw743 hd kk
theorem pf7_232 (X : Cx p m c cc nL s args RX7 G) (w : Wh G s σ 4 ρ H locs) {x : Int32} (hd : decode cc pc = .ok (.putfield 232, 3)) (kk : ∀ (ρ1 : Gr) (H1 : Heap) (locs1 : List Loc), ρ1 = up ρ 0 42 x → Wh G s σ 4 ρ1 H1 locs1 → W p l e R s m args below meth c H1 locs1 cells slots Q (F0 m (pc + 3) ls rest)) : W p l e R s m args below meth c H locs cells slots Q (F0 m pc ls (.int x :: .ref (aa G 4 0) :: rest)) :=
  r_pi X w m4_0 rfl (k := 42) rfl rfl (by decide) inT7 tyX7 tyX7_ok nmX7 rfl kw743 rfl (ty := .int) (by decide +kernel) rfl rfl hd (fun H1 locs1 w1 => kk _ H1 locs1 rfl w1)
theorem gf7_261 (X : Cx p m c cc nL s args RX7 G) (w : Wh G s σ 4 ρ H locs) (hd : decode cc pc = .ok (.getfield 261, 3)) (kk : W p l e R s m args below meth c H locs cells slots Q (F0 m (pc + 3) ls (.int (ρ 0 32) :: rest))) : W p l e R s m args below meth c H locs cells slots Q (F0 m pc ls (.ref (aa G 4 0) :: rest)) :=
  r_gv X w m4_0 rfl (k := 32) rfl rfl (by decide) inT7 rfl kw733 hd kk
theorem pf7_261 (X : Cx p m c cc nL s args RX7 G) (w : Wh G s σ 4 ρ H locs) {x : Int32} (hd : decode cc pc = .ok (.putfield 261, 3)) (kk : ∀ (ρ1 : Gr) (H1 : Heap) (locs1 : List Loc), ρ1 = up ρ 0 32 x → Wh G s σ 4 ρ1 H1 locs1 → W p l e R s m args below meth c H1 locs1 cells slots Q (F0 m (pc + 3) ls rest)) : W p l e R s m args below meth c H locs cells slots Q (F0 m pc ls (.int x :: .ref (aa G 4 0) :: rest)) :=
  r_pi X w m4_0 rfl (k := 32) rfl rfl (by decide) inT7 tyX7 tyX7_ok nmX7 rfl kw733 rfl (ty := .int) (by decide +kernel) rfl rfl hd (fun H1 locs1 w1 => kk _ H1 locs1 rfl w1)
theorem gf7_268 (X : Cx p m c cc nL s args RX7 G) (w : Wh G s σ 4 ρ H locs) (hd : decode cc pc = .ok (.getfield 268, 3)) (kk : W p l e R s m args below meth c H locs cells slots Q (F0 m (pc + 3) ls (.int (ρ 0 43) :: rest))) : W p l e R s m args below meth c H locs cells slots Q (F0 m pc ls (.ref (aa G 4 0) :: rest)) :=
  r_gv X w m4_0 rfl (k := 43) rfl rfl (by decide) inT7 rfl kw744 hd kk
theorem pf7_268 (X : Cx p m c cc nL s args RX7 G) (w : Wh G s σ 4 ρ H locs) {x : Int32} (hd : decode cc pc = .ok (.putfield 268, 3)) (kk : ∀ (ρ1 : Gr) (H1 : Heap) (locs1 : List Loc), ρ1 = up ρ 0 43 x → Wh G s σ 4 ρ1 H1 locs1 → W p l e R s m args below meth c H1 locs1 cells slots Q (F0 m (pc + 3) ls rest)) : W p l e R s m args below meth c H locs cells slots Q (F0 m pc ls (.int x :: .ref (aa G 4 0) :: rest)) :=
  r_pi X w m4_0 rfl (k := 43) rfl rfl (by decide) inT7 tyX7 tyX7_ok nmX7 rfl kw744 rfl (ty := .int) (by decide +kernel) rfl rfl hd (fun H1 locs1 w1 => kk _ H1 locs1 rfl w1)
theorem gf7_271 (X : Cx p m c cc nL s args RX7 G) (w : Wh G s σ 4 ρ H locs) (hd : decode cc pc = .ok (.getfield 271, 3)) (kk : W p l e R s m args below meth c H locs cells slots Q (F0 m (pc + 3) ls (.int (ρ 0 44) :: rest))) : W p l e R s m args below meth c H locs cells slots Q (F0 m pc ls (.ref (aa G 4 0) :: rest)) :=
  r_gv X w m4_0 rfl (k := 44) rfl rfl (by decide) inT7 rfl kw745 hd kk
theorem pf7_271 (X : Cx p m c cc nL s args RX7 G) (w : Wh G s σ 4 ρ H locs) {x : Int32} (hd : decode cc pc = .ok (.putfield 271, 3)) (kk : ∀ (ρ1 : Gr) (H1 : Heap) (locs1 : List Loc), ρ1 = up ρ 0 44 x → Wh G s σ 4 ρ1 H1 locs1 → W p l e R s m args below meth c H1 locs1 cells slots Q (F0 m (pc + 3) ls rest)) : W p l e R s m args below meth c H locs cells slots Q (F0 m pc ls (.int x :: .ref (aa G 4 0) :: rest)) :=
  r_pi X w m4_0 rfl (k := 44) rfl rfl (by decide) inT7 tyX7 tyX7_ok nmX7 rfl kw745 rfl (ty := .int) (by decide +kernel) rfl rfl hd (fun H1 locs1 w1 => kk _ H1 locs1 rfl w1)
theorem gf7_274 (X : Cx p m c cc nL s args RX7 G) (w : Wh G s σ 4 ρ H locs) (hd : decode cc pc = .ok (.getfield 274, 3)) (kk : W p l e R s m args below meth c H locs cells slots Q (F0 m (pc + 3) ls (.int (ρ 0 45) :: rest))) : W p l e R s m args below meth c H locs cells slots Q (F0 m pc ls (.ref (aa G 4 0) :: rest)) :=
  r_gv X w m4_0 rfl (k := 45) rfl rfl (by decide) inT7 rfl kw746 hd kk
theorem pf7_274 (X : Cx p m c cc nL s args RX7 G) (w : Wh G s σ 4 ρ H locs) {x : Int32} (hz : isB x) (hd : decode cc pc = .ok (.putfield 274, 3)) (kk : ∀ (ρ1 : Gr) (H1 : Heap) (locs1 : List Loc), ρ1 = up ρ 0 45 x → Wh G s σ 4 ρ1 H1 locs1 → W p l e R s m args below meth c H1 locs1 cells slots Q (F0 m (pc + 3) ls rest)) : W p l e R s m args below meth c H locs cells slots Q (F0 m pc ls (.int x :: .ref (aa G 4 0) :: rest)) :=
  r_pi X w m4_0 rfl (k := 45) rfl rfl (by decide) inT7 tyX7 tyX7_ok nmX7 rfl kw746 rfl (ty := .boolean) (by decide +kernel) hz.n hz.f hd (fun H1 locs1 w1 => kk _ H1 locs1 rfl w1)
theorem gf7_292 (X : Cx p m c cc nL s args RX7 G) (w : Wh G s σ 4 ρ H locs) (hd : decode cc pc = .ok (.getfield 292, 3)) (kk : W p l e R s m args below meth c H locs cells slots Q (F0 m (pc + 3) ls (.int (ρ 0 46) :: rest))) : W p l e R s m args below meth c H locs cells slots Q (F0 m pc ls (.ref (aa G 4 0) :: rest)) :=
  r_gv X w m4_0 rfl (k := 46) rfl rfl (by decide) inT7 rfl kw747 hd kk
theorem pf7_292 (X : Cx p m c cc nL s args RX7 G) (w : Wh G s σ 4 ρ H locs) {x : Int32} (hd : decode cc pc = .ok (.putfield 292, 3)) (kk : ∀ (ρ1 : Gr) (H1 : Heap) (locs1 : List Loc), ρ1 = up ρ 0 46 x → Wh G s σ 4 ρ1 H1 locs1 → W p l e R s m args below meth c H1 locs1 cells slots Q (F0 m (pc + 3) ls rest)) : W p l e R s m args below meth c H locs cells slots Q (F0 m pc ls (.int x :: .ref (aa G 4 0) :: rest)) :=
  r_pi X w m4_0 rfl (k := 46) rfl rfl (by decide) inT7 tyX7 tyX7_ok nmX7 rfl kw747 rfl (ty := .int) (by decide +kernel) rfl rfl hd (fun H1 locs1 w1 => kk _ H1 locs1 rfl w1)
theorem gf7_311 (X : Cx p m c cc nL s args RX7 G) (w : Wh G s σ 4 ρ H locs) (hd : decode cc pc = .ok (.getfield 311, 3)) (kk : W p l e R s m args below meth c H locs cells slots Q (F0 m (pc + 3) ls (.int (ρ 0 54) :: rest))) : W p l e R s m args below meth c H locs cells slots Q (F0 m pc ls (.ref (aa G 4 0) :: rest)) :=
  r_gv X w m4_0 rfl (k := 54) rfl rfl (by decide) inT7 rfl kw755 hd kk
theorem pf7_311 (X : Cx p m c cc nL s args RX7 G) (w : Wh G s σ 4 ρ H locs) {x : Int32} (hz : isB x) (hd : decode cc pc = .ok (.putfield 311, 3)) (kk : ∀ (ρ1 : Gr) (H1 : Heap) (locs1 : List Loc), ρ1 = up ρ 0 54 x → Wh G s σ 4 ρ1 H1 locs1 → W p l e R s m args below meth c H1 locs1 cells slots Q (F0 m (pc + 3) ls rest)) : W p l e R s m args below meth c H locs cells slots Q (F0 m pc ls (.int x :: .ref (aa G 4 0) :: rest)) :=
  r_pi X w m4_0 rfl (k := 54) rfl rfl (by decide) inT7 tyX7 tyX7_ok nmX7 rfl kw755 rfl (ty := .boolean) (by decide +kernel) hz.n hz.f hd (fun H1 locs1 w1 => kk _ H1 locs1 rfl w1)
theorem gf7_314 (X : Cx p m c cc nL s args RX7 G) (w : Wh G s σ 4 ρ H locs) (hd : decode cc pc = .ok (.getfield 314, 3)) (kk : W p l e R s m args below meth c H locs cells slots Q (F0 m (pc + 3) ls (.int (ρ 0 53) :: rest))) : W p l e R s m args below meth c H locs cells slots Q (F0 m pc ls (.ref (aa G 4 0) :: rest)) :=
  r_gv X w m4_0 rfl (k := 53) rfl rfl (by decide) inT7 rfl kw754 hd kk
theorem pf7_314 (X : Cx p m c cc nL s args RX7 G) (w : Wh G s σ 4 ρ H locs) {x : Int32} (hd : decode cc pc = .ok (.putfield 314, 3)) (kk : ∀ (ρ1 : Gr) (H1 : Heap) (locs1 : List Loc), ρ1 = up ρ 0 53 x → Wh G s σ 4 ρ1 H1 locs1 → W p l e R s m args below meth c H1 locs1 cells slots Q (F0 m (pc + 3) ls rest)) : W p l e R s m args below meth c H locs cells slots Q (F0 m pc ls (.int x :: .ref (aa G 4 0) :: rest)) :=
  r_pi X w m4_0 rfl (k := 53) rfl rfl (by decide) inT7 tyX7 tyX7_ok nmX7 rfl kw754 rfl (ty := .int) (by decide +kernel) rfl rfl hd (fun H1 locs1 w1 => kk _ H1 locs1 rfl w1)
theorem gf7_320 (X : Cx p m c cc nL s args RX7 G) (w : Wh G s σ 4 ρ H locs) (hd : decode cc pc = .ok (.getfield 320, 3)) (kk : W p l e R s m args below meth c H locs cells slots Q (F0 m (pc + 3) ls (.int (ρ 0 51) :: rest))) : W p l e R s m args below meth c H locs cells slots Q (F0 m pc ls (.ref (aa G 4 0) :: rest)) :=
  r_gv X w m4_0 rfl (k := 51) rfl rfl (by decide) inT7 rfl kw752 hd kk
theorem pf7_320 (X : Cx p m c cc nL s args RX7 G) (w : Wh G s σ 4 ρ H locs) {x : Int32} (hz : isB x) (hd : decode cc pc = .ok (.putfield 320, 3)) (kk : ∀ (ρ1 : Gr) (H1 : Heap) (locs1 : List Loc), ρ1 = up ρ 0 51 x → Wh G s σ 4 ρ1 H1 locs1 → W p l e R s m args below meth c H1 locs1 cells slots Q (F0 m (pc + 3) ls rest)) : W p l e R s m args below meth c H locs cells slots Q (F0 m pc ls (.int x :: .ref (aa G 4 0) :: rest)) :=
  r_pi X w m4_0 rfl (k := 51) rfl rfl (by decide) inT7 tyX7 tyX7_ok nmX7 rfl kw752 rfl (ty := .boolean) (by decide +kernel) hz.n hz.f hd (fun H1 locs1 w1 => kk _ H1 locs1 rfl w1)
theorem ia {own : String} (X : Cx p m c cc nL s args own G) (w : Wh G s σ g ρ H locs) {f n : Nat} (hq : (g, f) ∈ cellsL) (hsh : sh g f = .inr (n, false)) {i : Int32} (hi : vp_in i n) (hd : decode cc pc = .ok (.iaload, 1))
    (kk : W p l e R s m args below meth c H locs cells slots Q (F0 m (pc + 1) ls (.int (ρ f i.toNatClampNeg) :: rest))) : W p l e R s m args below meth c H locs cells slots Q (F0 m pc ls (.int i :: .ref (aa G g f) :: rest)) := r_ia X w hq hsh hi hd kk
theorem iS {own : String} (X : Cx p m c cc nL s args own G) (w : Wh G s σ g ρ H locs) {f n : Nat} (hq : (g, f) ∈ cellsL) (hsh : sh g f = .inr (n, false)) {i x : Int32} (hi : vp_in i n) (hd : decode cc pc = .ok (.iastore, 1))
    (kk : ∀ (ρ1 : Gr) (H1 : Heap) (locs1 : List Loc), ρ1 = up ρ f i.toNatClampNeg x → Wh G s σ g ρ1 H1 locs1 → W p l e R s m args below meth c H1 locs1 cells slots Q (F0 m (pc + 1) ls rest)) : W p l e R s m args below meth c H locs cells slots Q (F0 m pc ls (.int x :: .int i :: .ref (aa G g f) :: rest)) := r_is X w hq hsh hi hd (fun H1 locs1 w1 => kk _ H1 locs1 rfl w1)
theorem zS {own : String} (X : Cx p m c cc nL s args own G) (w : Wh G s σ g ρ H locs) {f n : Nat} (hq : (g, f) ∈ cellsL) (hsh : sh g f = .inr (n, true)) {i x : Int32} (hi : vp_in i n) (hx : isB x) (hd : decode cc pc = .ok (.bastore, 1))
    (kk : ∀ (ρ1 : Gr) (H1 : Heap) (locs1 : List Loc), ρ1 = up ρ f i.toNatClampNeg x → Wh G s σ g ρ1 H1 locs1 → W p l e R s m args below meth c H1 locs1 cells slots Q (F0 m (pc + 1) ls rest)) : W p l e R s m args below meth c H locs cells slots Q (F0 m pc ls (.int x :: .int i :: .ref (aa G g f) :: rest)) := r_zs X w hq hsh hi hx.v hd (fun H1 locs1 w1 => kk _ H1 locs1 rfl w1)
theorem mmax {own : String} (X : Cx p m c cc nL s args own G) (hls : ls.size = nL) {idx : Nat} (hlk : Cond.methodLink own idx Lib.Math.max.name ∈ tbl) (hfr : 1 ≤ R.frames) (hlo : (rest.map fun v => v.category).sum + 13 ≤ R.locals) (hc : cells ≤ R.cells) (hs : slots ≤ R.slots) {x y : Int32} (hd : decode cc pc = .ok (.invokestatic idx, 3))
    (kk : W p l e R s m args below meth c H locs cells slots Q (F0 m (pc + 3) ls (.int (if x < y then y else x) :: rest))) : W p l e R s m args below meth c H locs cells slots Q (F0 m pc ls (.int y :: .int x :: rest)) :=
  va_mmax X.1.1 X.1.2.1 (X.1.2.2.1.trans hls.symm) X.1.2.2.2.1 (X.1.2.2.2.2 _ hlk) (X.1.2.2.2.2 _ kw461) (X.1.2.2.2.2 _ kw10) (X.1.2.2.2.2 _ kw462) hfr hlo hc hs hd kk
theorem mmin {own : String} (X : Cx p m c cc nL s args own G) (hls : ls.size = nL) {idx : Nat} (hlk : Cond.methodLink own idx Lib.Math.min.name ∈ tbl) (hfr : 1 ≤ R.frames) (hlo : (rest.map fun v => v.category).sum + 13 ≤ R.locals) (hc : cells ≤ R.cells) (hs : slots ≤ R.slots) {x y : Int32} (hd : decode cc pc = .ok (.invokestatic idx, 3))
    (kk : W p l e R s m args below meth c H locs cells slots Q (F0 m (pc + 3) ls (.int (if y < x then y else x) :: rest))) : W p l e R s m args below meth c H locs cells slots Q (F0 m pc ls (.int y :: .int x :: rest)) :=
  va_mmin X.1.1 X.1.2.1 (X.1.2.2.1.trans hls.symm) X.1.2.2.2.1 (X.1.2.2.2.2 _ hlk) (X.1.2.2.2.2 _ kw580) (X.1.2.2.2.2 _ kw10) (X.1.2.2.2.2 _ kw581) hfr hlo hc hs hd kk
end Links
theorem mX0_add : CM yX0_add RX0 cX0_add 4 2 (some .int) := ⟨kw352, kw353, kw3, kw354, by decide +kernel⟩
theorem mX0_become : CM yX0_become RX0 cX0_become 2 1 none := ⟨kw287, kw288, kw3, kw289, by decide +kernel⟩
theorem mX0_depthOf : CM yX0_depthOf RX0 cX0_depthOf 2 1 (some .int) := ⟨kw473, kw474, kw3, kw475, by decide +kernel⟩
theorem mX0_feetLacked : CM yX0_feetLacked RX0 cX0_feetLacked 3 0 (some .int) := ⟨kw675, kw676, kw3, kw677, by decide +kernel⟩
theorem mX0_fullest : CM yX0_fullest RX0 cX0_fullest 5 1 (some .int) := ⟨kw521, kw522, kw3, kw523, by decide +kernel⟩
theorem mX0_has : CM yX0_has RX0 cX0_has 2 1 (some .boolean) := ⟨kw360, kw361, kw3, kw362, by decide +kernel⟩
theorem mX0_hasAll : CM yX0_hasAll RX0 cX0_hasAll 2 1 (some .boolean) := ⟨kw623, kw624, kw3, kw625, by decide +kernel⟩
theorem mX0_heapsOf : CM yX0_heapsOf RX0 cX0_heapsOf 2 1 (some (.array .int)) := ⟨kw454, kw455, kw3, kw456, by decide +kernel⟩
theorem mX0_lackOf : CM yX0_lackOf RX0 cX0_lackOf 2 1 (some .int) := ⟨kw489, kw490, kw3, kw491, by decide +kernel⟩
theorem mX0_nearest : CM yX0_nearest RX0 cX0_nearest 5 1 (some .int) := ⟨kw516, kw517, kw3, kw518, by decide +kernel⟩
theorem mX0_priceOfLacks : CM yX0_priceOfLacks RX0 cX0_priceOfLacks 4 0 (some .long) := ⟨kw597, kw598, kw3, kw599, by decide +kernel⟩
theorem mX0_settle : CM yX0_settle RX0 cX0_settle 5 0 none := ⟨kw567, kw568, kw3, kw569, by decide +kernel⟩
theorem mX0_settledIn : CM yX0_settledIn RX0 cX0_settledIn 2 1 (some .int) := ⟨kw477, kw478, kw3, kw479, by decide +kernel⟩
theorem mX0_settledInAll : CM yX0_settledInAll RX0 cX0_settledInAll 3 0 (some .int) := ⟨kw657, kw658, kw3, kw659, by decide +kernel⟩
theorem mX0_someLack : CM yX0_someLack RX0 cX0_someLack 2 0 (some .boolean) := ⟨kw611, kw612, kw3, kw613, by decide +kernel⟩
theorem mX0_stir : CM yX0_stir RX0 cX0_stir 5 0 none := ⟨kw542, kw543, kw3, kw544, by decide +kernel⟩
theorem mX0_tonsInAll : CM yX0_tonsInAll RX0 cX0_tonsInAll 2 0 (some .int) := ⟨kw691, kw692, kw3, kw693, by decide +kernel⟩
theorem mX0_tonsInSet : CM yX0_tonsInSet RX0 cX0_tonsInSet 6 2 (some .int) := ⟨kw627, kw628, kw3, kw629, by decide +kernel⟩
theorem mX0_valuesOf : CM yX0_valuesOf RX0 cX0_valuesOf 2 1 (some (.array .int)) := ⟨kw414, kw415, kw3, kw416, by decide +kernel⟩
theorem mX1_append : CM yX1_append RX1 cX1_append 2 1 none := ⟨kw275, kw276, kw7, kw277, by decide +kernel⟩
theorem mX1_byteHere : CM yX1_byteHere RX1 cX1_byteHere 1 0 (some .int) := ⟨kw317, ks2, kw7, kw318, by decide +kernel⟩
theorem mX1_digitIsHere : CM yX1_digitIsHere RX1 cX1_digitIsHere 1 0 (some .boolean) := ⟨kw325, ks4, kw7, kw326, by decide +kernel⟩
theorem mX1_giveTo : CM yX1_giveTo RX1 cX1_giveTo 2 1 (some .boolean) := ⟨kw349, ks10, kw7, kw350, by decide +kernel⟩
theorem mX1_readDigit : CM yX1_readDigit RX1 cX1_readDigit 1 0 (some .boolean) := ⟨kw333, ks6, kw7, kw334, by decide +kernel⟩
theorem mX1_readInto : CM yX1_readInto RX1 cX1_readInto 5 1 (some .int) := ⟨kw308, kw309, kw7, kw310, by decide +kernel⟩
theorem mX1_readKind : CM yX1_readKind RX1 cX1_readKind 1 0 (some .boolean) := ⟨kw337, ks7, kw7, kw338, by decide +kernel⟩
theorem mX1_readMoon : CM yX1_readMoon RX1 cX1_readMoon 2 0 (some .boolean) := ⟨kw345, ks9, kw7, kw346, by decide +kernel⟩
theorem mX1_readNumber : CM yX1_readNumber RX1 cX1_readNumber 4 0 (some .boolean) := ⟨kw321, ks3, kw7, kw322, by decide +kernel⟩
theorem mX1_readSign : CM yX1_readSign RX1 cX1_readSign 2 1 (some .boolean) := ⟨kw329, ks5, kw7, kw330, by decide +kernel⟩
theorem mX1_readStatement : CM yX1_readStatement RX1 cX1_readStatement 1 0 (some .boolean) := ⟨kw313, ks1, kw7, kw314, by decide +kernel⟩
theorem mX1_readStuff : CM yX1_readStuff RX1 cX1_readStuff 1 0 (some .boolean) := ⟨kw341, ks8, kw7, kw342, by decide +kernel⟩
theorem mX2_become : CM yX2_become RX2 cX2_become 2 1 none := ⟨kw304, kw305, kw6, kw306, by decide +kernel⟩
theorem mX2_change : CM yX2_change RX2 cX2_change 4 2 (some .int) := ⟨kw497, kw498, kw6, kw499, by decide +kernel⟩
theorem mX2_greatest : CS yX2_greatest RX2 cX2_greatest 1 1 (some .int) := ⟨kw501, kw6, kw502, by decide +kernel⟩
theorem mX3_addRiver : CM yX3_addRiver RX3 cX3_addRiver 4 3 (some .int) := ⟨kw383, kw384, kw2, kw385, by decide +kernel⟩
theorem mX3_addWay : CM yX3_addWay RX3 cX3_addWay 6 5 (some .int) := ⟨kw356, kw357, kw2, kw358, by decide +kernel⟩
theorem mX3_become : CM yX3_become RX3 cX3_become 2 1 none := ⟨kw283, kw284, kw2, kw285, by decide +kernel⟩
theorem mX3_bring : CM yX3_bring RX3 cX3_bring 2 0 none := ⟨kw564, ks14, kw2, kw565, by decide +kernel⟩
theorem mX3_carry : CM yX3_carry RX3 cX3_carry 6 1 none := ⟨kw552, ks13, kw2, kw553, by decide +kernel⟩
theorem mX3_changeMoon : CM yX3_changeMoon RX3 cX3_changeMoon 3 2 none := ⟨kw396, kw397, kw2, kw398, by decide +kernel⟩
theorem mX3_dredge : CM yX3_dredge RX3 cX3_dredge 2 1 none := ⟨kw573, ks15, kw2, kw574, by decide +kernel⟩
theorem mX3_dredgeStuff : CM yX3_dredgeStuff RX3 cX3_dredgeStuff 5 2 none := ⟨kw577, ks16, kw2, kw578, by decide +kernel⟩
theorem mX3_drop : CM yX3_drop RX3 cX3_drop 4 3 none := ⟨kw559, kw560, kw2, kw561, by decide +kernel⟩
theorem mX3_firstLack : CM yX3_firstLack RX3 cX3_firstLack 4 2 (some .int) := ⟨kw607, kw608, kw2, kw609, by decide +kernel⟩
theorem mX3_goBy : CM yX3_goBy RX3 cX3_goBy 3 1 none := ⟨kw537, kw538, kw2, kw539, by decide +kernel⟩
theorem mX3_goOn : CM yX3_goOn RX3 cX3_goOn 4 2 none := ⟨kw533, kw534, kw2, kw535, by decide +kernel⟩
theorem mX3_kindNow : CM yX3_kindNow RX3 cX3_kindNow 1 0 (some .int) := ⟨kw508, kw509, kw2, kw510, by decide +kernel⟩
theorem mX3_plannedCell : CM yX3_plannedCell RX3 cX3_plannedCell 2 1 (some .int) := ⟨kw512, kw513, kw2, kw514, by decide +kernel⟩
theorem mX3_runCosts : CM yX3_runCosts RX3 cX3_runCosts 7 2 (some .long) := ⟨kw589, kw590, kw2, kw591, by decide +kernel⟩
theorem mX3_tideCosts : CM yX3_tideCosts RX3 cX3_tideCosts 1 0 (some .long) := ⟨kw593, kw594, kw2, kw595, by decide +kernel⟩
theorem mX4_add : CM yX4_add RX4 cX4_add 5 3 (some .int) := ⟨kw391, kw392, kw5, kw393, by decide +kernel⟩
theorem mX4_become : CM yX4_become RX4 cX4_become 2 1 none := ⟨kw299, kw300, kw5, kw301, by decide +kernel⟩
theorem mX4_has : CM yX4_has RX4 cX4_has 2 1 (some .boolean) := ⟨kw653, kw654, kw5, kw655, by decide +kernel⟩
theorem mX4_isFull : CM yX4_isFull RX4 cX4_isFull 1 0 (some .boolean) := ⟨kw387, kw388, kw5, kw389, by decide +kernel⟩
theorem mX5_add : CM yX5_add RX5 cX5_add 7 5 (some .int) := ⟨kw378, kw379, kw4, kw380, by decide +kernel⟩
theorem mX5_become : CM yX5_become RX5 cX5_become 2 1 none := ⟨kw294, kw295, kw4, kw296, by decide +kernel⟩
theorem mX5_has : CM yX5_has RX5 cX5_has 2 1 (some .boolean) := ⟨kw427, kw428, kw4, kw429, by decide +kernel⟩
theorem mX5_isFull : CM yX5_isFull RX5 cX5_isFull 1 0 (some .boolean) := ⟨kw370, kw371, kw4, kw372, by decide +kernel⟩
theorem mX5_isShut : CM yX5_isShut RX5 cX5_isShut 2 1 (some .boolean) := ⟨kw431, kw432, kw4, kw433, by decide +kernel⟩
theorem mX5_together : CM yX5_together RX5 cX5_together 6 3 (some .int) := ⟨kw374, kw375, kw4, kw376, by decide +kernel⟩
theorem mX5_turn : CM yX5_turn RX5 cX5_turn 2 1 none := ⟨kw435, kw436, kw4, kw437, by decide +kernel⟩
theorem mX6_alone : CM yX6_alone RX6 cX6_alone 3 1 (some .int) := ⟨kw615, kw616, kw1, kw617, by decide +kernel⟩
theorem mX6_back : CM yX6_back RX6 cX6_back 7 5 (some .int) := ⟨kw619, kw620, kw1, kw621, by decide +kernel⟩
theorem mX6_bestDrop : CM yX6_bestDrop RX6 cX6_bestDrop 9 1 (some .int) := ⟨kw633, kw634, kw1, kw635, by decide +kernel⟩
theorem mX6_bestPlan : CM yX6_bestPlan RX6 cX6_bestPlan 9 1 (some .int) := ⟨kw637, kw638, kw1, kw639, by decide +kernel⟩
theorem mX6_cell : CM yX6_cell RX6 cX6_cell 3 2 (some .int) := ⟨kw400, kw401, kw1, kw402, by decide +kernel⟩
theorem mX6_coast : CM yX6_coast RX6 cX6_coast 2 0 (some .int) := ⟨kw279, kw280, kw1, kw281, by decide +kernel⟩
theorem mX6_cost : CM yX6_cost RX6 cX6_cost 3 1 (some .long) := ⟨kw583, kw584, kw1, kw585, by decide +kernel⟩
theorem mX6_count : CM yX6_count RX6 cX6_count 2 1 (some .int) := ⟨kw687, kw688, kw1, kw689, by decide +kernel⟩
theorem mX6_depth : CM yX6_depth RX6 cX6_depth 2 1 (some .int) := ⟨kw469, kw470, kw1, kw471, by decide +kernel⟩
theorem mX6_depthAbove : CS yX6_depthAbove RX6 cX6_depthAbove 2 2 (some .int) := ⟨kw481, kw1, kw482, by decide +kernel⟩
theorem mX6_dredger : CM yX6_dredger RX6 cX6_dredger 4 2 (some .int) := ⟨kw493, kw494, kw1, kw495, by decide +kernel⟩
theorem mX6_feed : CM yX6_feed RX6 cX6_feed 5 2 (some .int) := ⟨kw267, kw268, kw1, kw269, by decide +kernel⟩
theorem mX6_go : CM yX6_go RX6 cX6_go 3 1 (some .int) := ⟨kw525, kw526, kw1, kw527, by decide +kernel⟩
theorem mX6_heapOf : CS yX6_heapOf RX6 cX6_heapOf 2 2 (some .int) := ⟨kw458, kw1, kw459, by decide +kernel⟩
theorem mX6_holds : CM yX6_holds RX6 cX6_holds 3 1 (some .int) := ⟨kw603, kw604, kw1, kw605, by decide +kernel⟩
theorem mX6_image : CM yX6_image RX6 cX6_image 1 0 (some .int) := ⟨kw679, kw680, kw1, kw681, by decide +kernel⟩
theorem mX6_isKind : CS yX6_isKind RX6 cX6_isKind 1 1 (some .boolean) := ⟨kw364, kw1, kw365, by decide +kernel⟩
theorem mX6_isStuff : CS yX6_isStuff RX6 cX6_isStuff 1 1 (some .boolean) := ⟨kw367, kw1, kw368, by decide +kernel⟩
theorem mX6_judge : CM yX6_judge RX6 cX6_judge 6 1 (some .int) := ⟨kw665, kw666, kw1, kw667, by decide +kernel⟩
theorem mX6_lacks : CM yX6_lacks RX6 cX6_lacks 2 1 (some .int) := ⟨kw484, kw485, kw1, kw486, by decide +kernel⟩
theorem mX6_leastCap : CM yX6_leastCap RX6 cX6_leastCap 4 1 (some .int) := ⟨kw641, kw642, kw1, kw643, by decide +kernel⟩
theorem mX6_moon : CM yX6_moon RX6 cX6_moon 4 2 (some .int) := ⟨kw444, kw445, kw1, kw446, by decide +kernel⟩
theorem mX6_partOf : CS yX6_partOf RX6 cX6_partOf 2 2 (some .int) := ⟨kw547, kw1, kw548, by decide +kernel⟩
theorem mX6_put : CM yX6_put RX6 cX6_put 8 4 (some .int) := ⟨kw449, kw450, kw1, kw451, by decide +kernel⟩
theorem mX6_refuse : CM yX6_refuse RX6 cX6_refuse 3 1 (some .int) := ⟨kw272, ks0, kw1, kw273, by decide +kernel⟩
theorem mX6_refuseIfBelow0 : CM yX6_refuseIfBelow0 RX6 cX6_refuseIfBelow0 2 1 (some .int) := ⟨kw406, ks11, kw1, kw407, by decide +kernel⟩
theorem mX6_restore : CM yX6_restore RX6 cX6_restore 1 0 (some .int) := ⟨kw683, kw684, kw1, kw685, by decide +kernel⟩
theorem mX6_river : CM yX6_river RX6 cX6_river 4 3 (some .int) := ⟨kw439, kw440, kw1, kw441, by decide +kernel⟩
theorem mX6_row : CM yX6_row RX6 cX6_row 2 1 (some .int) := ⟨kw661, kw662, kw1, kw663, by decide +kernel⟩
theorem mX6_rowIsOfCells : CM yX6_rowIsOfCells RX6 cX6_rowIsOfCells 2 0 (some .boolean) := ⟨kw670, ks17, kw1, kw671, by decide +kernel⟩
theorem mX6_set : CM yX6_set RX6 cX6_set 6 3 (some .int) := ⟨kw409, kw410, kw1, kw411, by decide +kernel⟩
theorem mX6_share : CM yX6_share RX6 cX6_share 4 2 (some .int) := ⟨kw649, kw650, kw1, kw651, by decide +kernel⟩
theorem mX6_shut : CM yX6_shut RX6 cX6_shut 3 2 (some .int) := ⟨kw423, kw424, kw1, kw425, by decide +kernel⟩
theorem mX6_takes : CM yX6_takes RX6 cX6_takes 2 0 (some .int) := ⟨kw504, kw505, kw1, kw506, by decide +kernel⟩
theorem mX6_tons : CM yX6_tons RX6 cX6_tons 4 3 (some .int) := ⟨kw465, kw466, kw1, kw467, by decide +kernel⟩
theorem mX6_wall : CM yX6_wall RX6 cX6_wall 9 1 (some .int) := ⟨kw645, kw646, kw1, kw647, by decide +kernel⟩
theorem mX6_way : CM yX6_way RX6 cX6_way 5 4 (some .int) := ⟨kw418, kw419, kw1, kw420, by decide +kernel⟩
theorem mX6_whyNoRun : CM yX6_whyNoRun RX6 cX6_whyNoRun 2 1 (some .int) := ⟨kw530, ks12, kw1, kw531, by decide +kernel⟩
theorem mX7_addCell : CM yX7_addCell RX7 cX7_addCell 4 2 none := ⟨kw878, ks19, kw8, kw879, by decide +kernel⟩
theorem mX7_addRiver : CM yX7_addRiver RX7 cX7_addRiver 4 3 none := ⟨kw921, ks24, kw8, kw922, by decide +kernel⟩
theorem mX7_addWay : CM yX7_addWay RX7 cX7_addWay 6 5 none := ⟨kw906, ks23, kw8, kw907, by decide +kernel⟩
theorem mX7_alone : CM yX7_alone RX7 cX7_alone 4 1 (some .int) := ⟨kw1037, kw1038, kw8, kw1039, by decide +kernel⟩
theorem mX7_areEnds : CM yX7_areEnds RX7 cX7_areEnds 3 2 (some .boolean) := ⟨kw898, ks21, kw8, kw899, by decide +kernel⟩
theorem mX7_back : CM yX7_back RX7 cX7_back 6 5 (some .int) := ⟨kw1041, kw1042, kw8, kw1043, by decide +kernel⟩
theorem mX7_bestDrop : CM yX7_bestDrop RX7 cX7_bestDrop 9 1 (some .int) := ⟨kw1049, kw1050, kw8, kw1051, by decide +kernel⟩
theorem mX7_bestPlan : CM yX7_bestPlan RX7 cX7_bestPlan 9 1 (some .int) := ⟨kw1053, kw1054, kw8, kw1055, by decide +kernel⟩
theorem mX7_carry : CM yX7_carry RX7 cX7_carry 2 1 (some .int) := ⟨kw1132, ks52, kw8, kw1133, by decide +kernel⟩
theorem mX7_carryAll : CM yX7_carryAll RX7 cX7_carryAll 2 0 none := ⟨kw1128, ks51, kw8, kw1129, by decide +kernel⟩
theorem mX7_cell : CM yX7_cell RX7 cX7_cell 3 2 (some .int) := ⟨kw869, kw870, kw8, kw871, by decide +kernel⟩
theorem mX7_chosen : CM yX7_chosen RX7 cX7_chosen 3 1 (some .int) := ⟨kw972, ks29, kw8, kw973, by decide +kernel⟩
theorem mX7_coast : CM yX7_coast RX7 cX7_coast 7 0 (some .int) := ⟨kw1087, kw1088, kw8, kw1089, by decide +kernel⟩
theorem mX7_comes : CM yX7_comes RX7 cX7_comes 9 1 (some .boolean) := ⟨kw1118, ks50, kw8, kw1119, by decide +kernel⟩
theorem mX7_cost : CM yX7_cost RX7 cX7_cost 2 1 (some .long) := ⟨kw1004, kw1005, kw8, kw1006, by decide +kernel⟩
theorem mX7_costNow : CM yX7_costNow RX7 cX7_costNow 1 0 (some .int) := ⟨kw1018, ks38, kw8, kw1019, by decide +kernel⟩
theorem mX7_costOf : CM yX7_costOf RX7 cX7_costOf 5 1 (some .long) := ⟨kw1010, ks36, kw8, kw1011, by decide +kernel⟩
theorem mX7_count : CM yX7_count RX7 cX7_count 4 1 (some .int) := ⟨kw1139, kw1140, kw8, kw1141, by decide +kernel⟩
theorem mX7_deepest : CM yX7_deepest RX7 cX7_deepest 4 0 (some .int) := ⟨kw980, ks31, kw8, kw981, by decide +kernel⟩
theorem mX7_depth : CM yX7_depth RX7 cX7_depth 2 1 (some .int) := ⟨kw937, kw938, kw8, kw939, by decide +kernel⟩
theorem mX7_depthOf : CM yX7_depthOf RX7 cX7_depthOf 3 1 (some .int) := ⟨kw942, ks25, kw8, kw943, by decide +kernel⟩
theorem mX7_dredger : CM yX7_dredger RX7 cX7_dredger 4 2 (some .int) := ⟨kw958, kw959, kw8, kw960, by decide +kernel⟩
theorem mX7_feed : CM yX7_feed RX7 cX7_feed 5 2 (some .int) := ⟨kw1082, kw1083, kw8, kw1084, by decide +kernel⟩
theorem mX7_feetLacking : CM yX7_feetLacking RX7 cX7_feetLacking 5 1 (some .int) := ⟨kw1022, ks39, kw8, kw1023, by decide +kernel⟩
theorem mX7_flow : CM yX7_flow RX7 cX7_flow 5 0 none := ⟨kw996, ks34, kw8, kw997, by decide +kernel⟩
theorem mX7_go : CM yX7_go RX7 cX7_go 3 1 (some .int) := ⟨kw983, kw984, kw8, kw985, by decide +kernel⟩
theorem mX7_here : CM yX7_here RX7 cX7_here 1 0 (some .int) := ⟨kw1096, ks45, kw8, kw1097, by decide +kernel⟩
theorem mX7_holds : CM yX7_holds RX7 cX7_holds 2 1 (some .int) := ⟨kw1029, kw1030, kw8, kw1031, by decide +kernel⟩
theorem mX7_holdsFor : CM yX7_holdsFor RX7 cX7_holdsFor 4 1 (some .int) := ⟨kw1034, ks41, kw8, kw1035, by decide +kernel⟩
theorem mX7_image : CM yX7_image RX7 cX7_image 1 0 (some .int) := ⟨kw1123, kw1124, kw8, kw1125, by decide +kernel⟩
theorem mX7_in : CS yX7_in RX7 cX7_in 6 3 (some .boolean) := ⟨kw889, kw8, kw890, by decide +kernel⟩
theorem mX7_isCell : CM yX7_isCell RX7 cX7_isCell 2 1 (some .boolean) := ⟨kw886, ks20, kw8, kw887, by decide +kernel⟩
theorem mX7_isStuff : CS yX7_isStuff RX7 cX7_isStuff 1 1 (some .boolean) := ⟨kw917, kw8, kw918, by decide +kernel⟩
theorem mX7_judge : CM yX7_judge RX7 cX7_judge 5 1 (some .int) := ⟨kw1077, kw1078, kw8, kw1079, by decide +kernel⟩
theorem mX7_kindAt : CM yX7_kindAt RX7 cX7_kindAt 2 1 (some .int) := ⟨kw968, ks28, kw8, kw969, by decide +kernel⟩
theorem mX7_lackingMost : CM yX7_lackingMost RX7 cX7_lackingMost 4 0 (some .int) := ⟨kw976, ks30, kw8, kw977, by decide +kernel⟩
theorem mX7_lacks : CM yX7_lacks RX7 cX7_lacks 2 1 (some .int) := ⟨kw949, kw950, kw8, kw951, by decide +kernel⟩
theorem mX7_lacksOf : CM yX7_lacksOf RX7 cX7_lacksOf 2 1 (some .int) := ⟨kw954, ks27, kw8, kw955, by decide +kernel⟩
theorem mX7_leastCap : CM yX7_leastCap RX7 cX7_leastCap 5 1 (some .int) := ⟨kw1057, kw1058, kw8, kw1059, by decide +kernel⟩
theorem mX7_moon : CM yX7_moon RX7 cX7_moon 5 2 (some .int) := ⟨kw924, kw925, kw8, kw926, by decide +kernel⟩
theorem mX7_partsFrom : CM yX7_partsFrom RX7 cX7_partsFrom 6 3 (some .int) := ⟨kw902, ks22, kw8, kw903, by decide +kernel⟩
theorem mX7_passTide : CM yX7_passTide RX7 cX7_passTide 1 0 none := ⟨kw992, ks33, kw8, kw993, by decide +kernel⟩
theorem mX7_put : CM yX7_put RX7 cX7_put 7 4 (some .int) := ⟨kw928, kw929, kw8, kw930, by decide +kernel⟩
theorem mX7_putBack : CM yX7_putBack RX7 cX7_putBack 2 0 none := ⟨kw1026, ks40, kw8, kw1027, by decide +kernel⟩
theorem mX7_readDigit : CM yX7_readDigit RX7 cX7_readDigit 2 0 (some .int) := ⟨kw1108, ks48, kw8, kw1109, by decide +kernel⟩
theorem mX7_readNumber : CM yX7_readNumber RX7 cX7_readNumber 3 0 (some .int) := ⟨kw1104, ks47, kw8, kw1105, by decide +kernel⟩
theorem mX7_readOf : CM yX7_readOf RX7 cX7_readOf 4 2 (some .int) := ⟨kw1114, ks49, kw8, kw1115, by decide +kernel⟩
theorem mX7_readStatement : CM yX7_readStatement RX7 cX7_readStatement 3 0 none := ⟨kw1092, ks44, kw8, kw1093, by decide +kernel⟩
theorem mX7_refuse : CM yX7_refuse RX7 cX7_refuse 2 1 (some .int) := ⟨kw874, ks18, kw8, kw875, by decide +kernel⟩
theorem mX7_restore : CM yX7_restore RX7 cX7_restore 1 0 (some .int) := ⟨kw1135, kw1136, kw8, kw1137, by decide +kernel⟩
theorem mX7_river : CM yX7_river RX7 cX7_river 4 3 (some .int) := ⟨kw913, kw914, kw8, kw915, by decide +kernel⟩
theorem mX7_row : CM yX7_row RX7 cX7_row 2 1 (some .int) := ⟨kw1073, kw1074, kw8, kw1075, by decide +kernel⟩
theorem mX7_save : CM yX7_save RX7 cX7_save 2 0 none := ⟨kw1014, ks37, kw8, kw1015, by decide +kernel⟩
theorem mX7_set : CM yX7_set RX7 cX7_set 5 3 (some .int) := ⟨kw881, kw882, kw8, kw883, by decide +kernel⟩
theorem mX7_settledAfter : CM yX7_settledAfter RX7 cX7_settledAfter 5 2 (some .int) := ⟨kw1070, ks43, kw8, kw1071, by decide +kernel⟩
theorem mX7_settledIn : CM yX7_settledIn RX7 cX7_settledIn 2 1 (some .int) := ⟨kw946, ks26, kw8, kw947, by decide +kernel⟩
theorem mX7_share : CM yX7_share RX7 cX7_share 3 2 (some .int) := ⟨kw1065, kw1066, kw8, kw1067, by decide +kernel⟩
theorem mX7_shut : CM yX7_shut RX7 cX7_shut 4 2 (some .int) := ⟨kw909, kw910, kw8, kw911, by decide +kernel⟩
theorem mX7_take : CM yX7_take RX7 cX7_take 6 1 none := ⟨kw1001, ks35, kw8, kw1002, by decide +kernel⟩
theorem mX7_takeSign : CM yX7_takeSign RX7 cX7_takeSign 2 1 none := ⟨kw1100, ks46, kw8, kw1101, by decide +kernel⟩
theorem mX7_takes : CM yX7_takes RX7 cX7_takes 1 0 (some .int) := ⟨kw963, kw964, kw8, kw965, by decide +kernel⟩
theorem mX7_tons : CM yX7_tons RX7 cX7_tons 4 3 (some .int) := ⟨kw933, kw934, kw8, kw935, by decide +kernel⟩
theorem mX7_tonsAfter : CM yX7_tonsAfter RX7 cX7_tonsAfter 8 5 (some .int) := ⟨kw1046, ks42, kw8, kw1047, by decide +kernel⟩
theorem mX7_wall : CM yX7_wall RX7 cX7_wall 8 1 (some .int) := ⟨kw1061, kw1062, kw8, kw1063, by decide +kernel⟩
theorem mX7_way : CM yX7_way RX7 cX7_way 5 4 (some .int) := ⟨kw893, kw894, kw8, kw895, by decide +kernel⟩
theorem mX7_wrongTides : CM yX7_wrongTides RX7 cX7_wrongTides 2 1 (some .int) := ⟨kw988, ks32, kw8, kw989, by decide +kernel⟩
theorem nw0 : Cond.methodLinkNest RX6 9 yX3_init "HarbourMud" ∈ nestW := List.mem_of_getElem? (i := 0) rfl
theorem nw1 : Cond.methodLinkNest RX3 11 yX0_init "HarbourMud" ∈ nestW := List.mem_of_getElem? (i := 1) rfl
theorem nw2 : Cond.methodLinkNest RX3 20 yX5_init "HarbourMud" ∈ nestW := List.mem_of_getElem? (i := 2) rfl
theorem nw3 : Cond.methodLinkNest RX3 27 yX4_init "HarbourMud" ∈ nestW := List.mem_of_getElem? (i := 3) rfl
theorem nw4 : Cond.methodLinkNest RX3 34 yX2_init "HarbourMud" ∈ nestW := List.mem_of_getElem? (i := 4) rfl
theorem nw5 : Cond.methodLinkNest RX6 28 yX1_init "HarbourMud" ∈ nestW := List.mem_of_getElem? (i := 5) rfl
theorem nw6 : Cond.methodLinkNest RX3 82 yX6_isKind "HarbourMud" ∈ nestW := List.mem_of_getElem? (i := 6) rfl
theorem nw7 : Cond.methodLinkNest RX3 85 yX6_isStuff "HarbourMud" ∈ nestW := List.mem_of_getElem? (i := 7) rfl
theorem nw8 : Cond.methodLinkNest RX0 47 yX6_depthAbove "HarbourMud" ∈ nestW := List.mem_of_getElem? (i := 8) rfl
theorem nw9 : Cond.methodLinkNest RX0 63 yX6_heapOf "HarbourMud" ∈ nestW := List.mem_of_getElem? (i := 9) rfl
theorem nw10 : Cond.methodLinkNest RX0 69 yX6_partOf "HarbourMud" ∈ nestW := List.mem_of_getElem? (i := 10) rfl
theorem nw11 : Cond.methodLinkNest RX3 154 yX6_heapOf "HarbourMud" ∈ nestW := List.mem_of_getElem? (i := 11) rfl
theorem nw12 : Cond.methodLinkNest RX3 161 yX6_partOf "HarbourMud" ∈ nestW := List.mem_of_getElem? (i := 12) rfl
theorem nw13 : Cond.methodLinkNest RX0 59 yX6_isStuff "HarbourMud" ∈ nestW := List.mem_of_getElem? (i := 13) rfl
