theorem takeSign_c (ρ : Gr) (x : Int32) (f : Nat) (hf : f ≠ 0) : g_X7_takeSign ρ x f = ρ f := by
  unfold g_X7_takeSign
  repeat' split
  all_goals simp only [up_ne hf]
theorem readOf_c (ρ : Gr) (a b : Int32) (f : Nat) (hf : f ≠ 0) : g_X7_readOf ρ a b f = ρ f := by
  unfold g_X7_readOf
  repeat' split
  all_goals exact takeSign_c _ _ _ hf
theorem n5r {s z : Int32} (e : z = 5 * s) (h : rg s 0 47) : rg z 0 240 := by
  obtain ⟨j, _, h2, rfl⟩ := h
  exact ⟨5 * j, by omega, by omega, by rw [e, show (5 : Int32) = nI 5 from rfl, pk_mul]⟩
theorem n5s {z : Int32} (h : rg z 0 240) (j : Nat) (hj : j ≤ 4) : vp_in (z + nI j) 250 := by
  obtain ⟨i, _, h2, rfl⟩ := h
  rw [nI_add]
  exact vp_in_nI (by omega) (by decide)
theorem n5ne {z : Int32} (h : rg z 0 240) : ¬ (z + 1).toNatClampNeg = z.toNatClampNeg := by
  obtain ⟨i, _, h2, rfl⟩ := h
  rw [nI_1, nI_clamp (by omega), nI_clamp (by omega)]
  omega
theorem mo28 {x : Int32} {k : Nat} (hk : k ≤ 28) (h : x = nI (1 + k)) (c : ¬ 28 ≤ x) : k < 28 := by
  rw [h] at c
  have : ¬ 28 ≤ 1 + k := fun q => c ((nI_leI (a := 28) (by decide) (by omega)).mpr q)
  omega
noncomputable def b_X7_readStatement_364 (y1 : Int32) (y2 : Int32) (k : Nat) (v : Gr) : Bool × Nat × Int32 × Gr :=
  if (v 0 45) = 0 then
    if 28 ≤ (v 49 (y2 + 1).toNatClampNeg) then
      (false, 443, 0, v)
    else
      if (f_X7_here v) = 115 then
        let zs414 : Gr := g_X7_readOf v 115 110
        let zs427 : Gr := up zs414 49 y2.toNatClampNeg ((v 49 y2.toNatClampNeg) ||| ((f_X7_readOf v 115 110) <<< ((zs414 49 (y2 + 1).toNatClampNeg) &&& 31)))
        let zs439 : Gr := up zs427 49 (y2 + 1).toNatClampNeg ((zs427 49 (y2 + 1).toNatClampNeg) + 1)
        (true, 0, 0, zs439)
      else
        if (f_X7_here v) = 110 then
          let zs414_2 : Gr := g_X7_readOf v 115 110
          let zs427_2 : Gr := up zs414_2 49 y2.toNatClampNeg ((v 49 y2.toNatClampNeg) ||| ((f_X7_readOf v 115 110) <<< ((zs414_2 49 (y2 + 1).toNatClampNeg) &&& 31)))
          let zs439_2 : Gr := up zs427_2 49 (y2 + 1).toNatClampNeg ((zs427_2 49 (y2 + 1).toNatClampNeg) + 1)
          (true, 0, 0, zs439_2)
        else
          (false, 443, 0, v)
  else
    (false, 443, 0, v)
noncomputable def l_X7_readStatement_364 (y1 : Int32) (y2 : Int32) (v0 : Gr) : Nat × Int32 × Gr   := wl (b_X7_readStatement_364 y1 y2) (nn (28 + 1)) 0 v0
noncomputable def g_X7_readStatement (ρ : Gr)  : Gr :=
  let zv4 : Int32 := f_X7_here ρ
  let zv11 : Int32 := 5 * (ρ 0 46)
  let zs24 : Gr := up ρ 47 (ρ 0 46).toNatClampNeg (ρ 0 43)
  let zs34 : Gr := up zs24 48 (ρ 0 46).toNatClampNeg zv4
  if zv4 = 99 then
    let zs65 : Gr := g_X7_takeSign zs34 1
    if (zs65 0 45) = 0 then
      let zs87 : Gr := g_X7_readNumber zs65
      let zs90 : Gr := up zs87 49 zv11.toNatClampNeg (f_X7_readNumber zs65)
      if (f_X7_here zs90) = 44 then
        let zs106_2 : Gr := g_X7_takeSign zs90 1
        if (zs106_2 0 45) = 0 then
          let zs128_2 : Gr := g_X7_readNumber zs106_2
          let zs131_3 : Gr := up zs128_2 49 (zv11 + 1).toNatClampNeg (f_X7_readNumber zs106_2)
          if (zs128_2 0 45) = 0 then
            if (f_X7_here zs131_3) = 59 then
              let zs458_12 : Gr := g_X7_takeSign zs131_3 1
              let zs468_12 : Gr := up zs458_12 0 46 ((zs458_12 0 46) + 1)
              zs468_12
            else
              let zs458_11 : Gr := g_X7_takeSign zs131_3 0
              let zs468_11 : Gr := up zs458_11 0 46 ((zs458_11 0 46) + 1)
              zs468_11
          else
            if (f_X7_here zs131_3) = 59 then
              let zs458_10 : Gr := g_X7_takeSign zs131_3 1
              let zs468_10 : Gr := up zs458_10 0 46 ((zs458_10 0 46) + 1)
              zs468_10
            else
              let zs458_9 : Gr := g_X7_takeSign zs131_3 0
              let zs468_9 : Gr := up zs458_9 0 46 ((zs458_9 0 46) + 1)
              zs468_9
        else
          let zs131_4 : Gr := up zs106_2 49 (zv11 + 1).toNatClampNeg 0
          if (f_X7_here zs131_4) = 59 then
            let zs458_14 : Gr := g_X7_takeSign zs131_4 1
            let zs468_14 : Gr := up zs458_14 0 46 ((zs458_14 0 46) + 1)
            zs468_14
          else
            let zs458_13 : Gr := g_X7_takeSign zs131_4 0
            let zs468_13 : Gr := up zs458_13 0 46 ((zs458_13 0 46) + 1)
            zs468_13
      else
        let zs106 : Gr := g_X7_takeSign zs90 0
        if (zs106 0 45) = 0 then
          let zs128 : Gr := g_X7_readNumber zs106
          let zs131 : Gr := up zs128 49 (zv11 + 1).toNatClampNeg (f_X7_readNumber zs106)
          if (zs128 0 45) = 0 then
            if (f_X7_here zs131) = 59 then
              let zs458_6 : Gr := g_X7_takeSign zs131 1
              let zs468_6 : Gr := up zs458_6 0 46 ((zs458_6 0 46) + 1)
              zs468_6
            else
              let zs458_5 : Gr := g_X7_takeSign zs131 0
              let zs468_5 : Gr := up zs458_5 0 46 ((zs458_5 0 46) + 1)
              zs468_5
          else
            if (f_X7_here zs131) = 59 then
              let zs458_4 : Gr := g_X7_takeSign zs131 1
              let zs468_4 : Gr := up zs458_4 0 46 ((zs458_4 0 46) + 1)
              zs468_4
            else
              let zs458_3 : Gr := g_X7_takeSign zs131 0
              let zs468_3 : Gr := up zs458_3 0 46 ((zs458_3 0 46) + 1)
              zs468_3
        else
          let zs131_2 : Gr := up zs106 49 (zv11 + 1).toNatClampNeg 0
          if (f_X7_here zs131_2) = 59 then
            let zs458_8 : Gr := g_X7_takeSign zs131_2 1
            let zs468_8 : Gr := up zs458_8 0 46 ((zs458_8 0 46) + 1)
            zs468_8
          else
            let zs458_7 : Gr := g_X7_takeSign zs131_2 0
            let zs468_7 : Gr := up zs458_7 0 46 ((zs458_7 0 46) + 1)
            zs468_7
    else
      if (f_X7_here zs65) = 59 then
        let zs458_2 : Gr := g_X7_takeSign zs65 1
        let zs468_2 : Gr := up zs458_2 0 46 ((zs458_2 0 46) + 1)
        zs468_2
      else
        let zs458 : Gr := g_X7_takeSign zs65 0
        let zs468 : Gr := up zs458 0 46 ((zs458 0 46) + 1)
        zs468
  else
    if zv4 = 119 then
      let zs65_2 : Gr := g_X7_takeSign zs34 1
      if (zs65_2 0 45) = 0 then
        let zs151 : Gr := g_X7_readDigit zs65_2
        let zs154 : Gr := up zs151 49 zv11.toNatClampNeg (f_X7_readDigit zs65_2)
        if (zs151 0 45) = 0 then
          let zs174 : Gr := g_X7_readDigit zs154
          let zs177 : Gr := up zs174 49 (zv11 + 1).toNatClampNeg (f_X7_readDigit zs154)
          if (zs174 0 45) = 0 then
            let zs201 : Gr := g_X7_readOf zs177 115 110
            let zs204 : Gr := up zs201 49 (zv11 + 2).toNatClampNeg (f_X7_readOf zs177 115 110)
            if (zs201 0 45) = 0 then
              let zs228 : Gr := g_X7_readOf zs204 83 77
              let zs231 : Gr := up zs228 49 (zv11 + 3).toNatClampNeg (f_X7_readOf zs204 83 77)
              if (zs228 0 45) = 0 then
                let zs251 : Gr := g_X7_readNumber zs231
                let zs254 : Gr := up zs251 49 (zv11 + 4).toNatClampNeg (f_X7_readNumber zs231)
                if (zs251 0 45) = 0 then
                  if (f_X7_here zs254) = 59 then
                    let zs458_20 : Gr := g_X7_takeSign zs254 1
                    let zs468_20 : Gr := up zs458_20 0 46 ((zs458_20 0 46) + 1)
                    zs468_20
                  else
                    let zs458_19 : Gr := g_X7_takeSign zs254 0
                    let zs468_19 : Gr := up zs458_19 0 46 ((zs458_19 0 46) + 1)
                    zs468_19
                else
                  if (f_X7_here zs254) = 59 then
                    let zs458_18 : Gr := g_X7_takeSign zs254 1
                    let zs468_18 : Gr := up zs458_18 0 46 ((zs458_18 0 46) + 1)
                    zs468_18
                  else
                    let zs458_17 : Gr := g_X7_takeSign zs254 0
                    let zs468_17 : Gr := up zs458_17 0 46 ((zs458_17 0 46) + 1)
                    zs468_17
              else
                let zs254_2 : Gr := up zs231 49 (zv11 + 4).toNatClampNeg 0
                if (f_X7_here zs254_2) = 59 then
                  let zs458_22 : Gr := g_X7_takeSign zs254_2 1
                  let zs468_22 : Gr := up zs458_22 0 46 ((zs458_22 0 46) + 1)
                  zs468_22
                else
                  let zs458_21 : Gr := g_X7_takeSign zs254_2 0
                  let zs468_21 : Gr := up zs458_21 0 46 ((zs458_21 0 46) + 1)
                  zs468_21
            else
              let zs231_2 : Gr := up zs204 49 (zv11 + 3).toNatClampNeg 0
              let zs254_3 : Gr := up zs231_2 49 (zv11 + 4).toNatClampNeg 0
              if (f_X7_here zs254_3) = 59 then
                let zs458_24 : Gr := g_X7_takeSign zs254_3 1
                let zs468_24 : Gr := up zs458_24 0 46 ((zs458_24 0 46) + 1)
                zs468_24
              else
                let zs458_23 : Gr := g_X7_takeSign zs254_3 0
                let zs468_23 : Gr := up zs458_23 0 46 ((zs458_23 0 46) + 1)
                zs468_23
          else
            let zs204_2 : Gr := up zs177 49 (zv11 + 2).toNatClampNeg 0
            let zs231_3 : Gr := up zs204_2 49 (zv11 + 3).toNatClampNeg 0
            let zs254_4 : Gr := up zs231_3 49 (zv11 + 4).toNatClampNeg 0
            if (f_X7_here zs254_4) = 59 then
              let zs458_26 : Gr := g_X7_takeSign zs254_4 1
              let zs468_26 : Gr := up zs458_26 0 46 ((zs458_26 0 46) + 1)
              zs468_26
            else
              let zs458_25 : Gr := g_X7_takeSign zs254_4 0
              let zs468_25 : Gr := up zs458_25 0 46 ((zs458_25 0 46) + 1)
              zs468_25
        else
          let zs177_2 : Gr := up zs154 49 (zv11 + 1).toNatClampNeg 0
          let zs204_3 : Gr := up zs177_2 49 (zv11 + 2).toNatClampNeg 0
          let zs231_4 : Gr := up zs204_3 49 (zv11 + 3).toNatClampNeg 0
          let zs254_5 : Gr := up zs231_4 49 (zv11 + 4).toNatClampNeg 0
          if (f_X7_here zs254_5) = 59 then
            let zs458_28 : Gr := g_X7_takeSign zs254_5 1
            let zs468_28 : Gr := up zs458_28 0 46 ((zs458_28 0 46) + 1)
            zs468_28
          else
            let zs458_27 : Gr := g_X7_takeSign zs254_5 0
            let zs468_27 : Gr := up zs458_27 0 46 ((zs458_27 0 46) + 1)
            zs468_27
      else
        if (f_X7_here zs65_2) = 59 then
          let zs458_16 : Gr := g_X7_takeSign zs65_2 1
          let zs468_16 : Gr := up zs458_16 0 46 ((zs458_16 0 46) + 1)
          zs468_16
        else
          let zs458_15 : Gr := g_X7_takeSign zs65_2 0
          let zs468_15 : Gr := up zs458_15 0 46 ((zs458_15 0 46) + 1)
          zs468_15
    else
      if zv4 = 114 then
        let zs65_3 : Gr := g_X7_takeSign zs34 1
        if (zs65_3 0 45) = 0 then
          let zs274 : Gr := g_X7_readDigit zs65_3
          let zs277 : Gr := up zs274 49 zv11.toNatClampNeg (f_X7_readDigit zs65_3)
          if (zs274 0 45) = 0 then
            let zs301 : Gr := g_X7_readOf zs277 83 77
            let zs304 : Gr := up zs301 49 (zv11 + 1).toNatClampNeg (f_X7_readOf zs277 83 77)
            if (zs301 0 45) = 0 then
              let zs324 : Gr := g_X7_readNumber zs304
              let zs327 : Gr := up zs324 49 (zv11 + 2).toNatClampNeg (f_X7_readNumber zs304)
              if (zs324 0 45) = 0 then
                if (f_X7_here zs327) = 59 then
                  let zs458_34 : Gr := g_X7_takeSign zs327 1
                  let zs468_34 : Gr := up zs458_34 0 46 ((zs458_34 0 46) + 1)
                  zs468_34
                else
                  let zs458_33 : Gr := g_X7_takeSign zs327 0
                  let zs468_33 : Gr := up zs458_33 0 46 ((zs458_33 0 46) + 1)
                  zs468_33
              else
                if (f_X7_here zs327) = 59 then
                  let zs458_32 : Gr := g_X7_takeSign zs327 1
                  let zs468_32 : Gr := up zs458_32 0 46 ((zs458_32 0 46) + 1)
                  zs468_32
                else
                  let zs458_31 : Gr := g_X7_takeSign zs327 0
                  let zs468_31 : Gr := up zs458_31 0 46 ((zs458_31 0 46) + 1)
                  zs468_31
            else
              let zs327_2 : Gr := up zs304 49 (zv11 + 2).toNatClampNeg 0
              if (f_X7_here zs327_2) = 59 then
                let zs458_36 : Gr := g_X7_takeSign zs327_2 1
                let zs468_36 : Gr := up zs458_36 0 46 ((zs458_36 0 46) + 1)
                zs468_36
              else
                let zs458_35 : Gr := g_X7_takeSign zs327_2 0
                let zs468_35 : Gr := up zs458_35 0 46 ((zs458_35 0 46) + 1)
                zs468_35
          else
            let zs304_2 : Gr := up zs277 49 (zv11 + 1).toNatClampNeg 0
            let zs327_3 : Gr := up zs304_2 49 (zv11 + 2).toNatClampNeg 0
            if (f_X7_here zs327_3) = 59 then
              let zs458_38 : Gr := g_X7_takeSign zs327_3 1
              let zs468_38 : Gr := up zs458_38 0 46 ((zs458_38 0 46) + 1)
              zs468_38
            else
              let zs458_37 : Gr := g_X7_takeSign zs327_3 0
              let zs468_37 : Gr := up zs458_37 0 46 ((zs458_37 0 46) + 1)
              zs468_37
        else
          if (f_X7_here zs65_3) = 59 then
            let zs458_30 : Gr := g_X7_takeSign zs65_3 1
            let zs468_30 : Gr := up zs458_30 0 46 ((zs458_30 0 46) + 1)
            zs468_30
          else
            let zs458_29 : Gr := g_X7_takeSign zs65_3 0
            let zs468_29 : Gr := up zs458_29 0 46 ((zs458_29 0 46) + 1)
            zs468_29
      else
        if zv4 = 109 then
          let zs65_5 : Gr := g_X7_takeSign zs34 1
          if (zs65_5 0 45) = 0 then
            let zs351 : Gr := g_X7_readOf zs65_5 115 110
            let zs354 : Gr := up zs351 49 zv11.toNatClampNeg (f_X7_readOf zs65_5 115 110)
            let zs363 : Gr := up zs354 49 (zv11 + 1).toNatClampNeg 1
            let zl364 : Nat × Int32 × Gr := (l_X7_readStatement_364 zv4 zv11 zs363)
            if (f_X7_here zl364.2.2) = 59 then
              let zs458_46 : Gr := g_X7_takeSign zl364.2.2 1
              let zs468_46 : Gr := up zs458_46 0 46 ((zs458_46 0 46) + 1)
              zs468_46
            else
              let zs458_45 : Gr := g_X7_takeSign zl364.2.2 0
              let zs468_45 : Gr := up zs458_45 0 46 ((zs458_45 0 46) + 1)
              zs468_45
          else
            if (f_X7_here zs65_5) = 59 then
              let zs458_44 : Gr := g_X7_takeSign zs65_5 1
              let zs468_44 : Gr := up zs458_44 0 46 ((zs458_44 0 46) + 1)
              zs468_44
            else
              let zs458_43 : Gr := g_X7_takeSign zs65_5 0
              let zs468_43 : Gr := up zs458_43 0 46 ((zs458_43 0 46) + 1)
              zs468_43
        else
          let zs65_4 : Gr := g_X7_takeSign zs34 0
          if (zs65_4 0 45) = 0 then
            if (f_X7_here zs65_4) = 59 then
              let zs458_42 : Gr := g_X7_takeSign zs65_4 1
              let zs468_42 : Gr := up zs458_42 0 46 ((zs458_42 0 46) + 1)
              zs468_42
            else
              let zs458_41 : Gr := g_X7_takeSign zs65_4 0
              let zs468_41 : Gr := up zs458_41 0 46 ((zs458_41 0 46) + 1)
              zs468_41
          else
            if (f_X7_here zs65_4) = 59 then
              let zs458_40 : Gr := g_X7_takeSign zs65_4 1
              let zs468_40 : Gr := up zs458_40 0 46 ((zs458_40 0 46) + 1)
              zs468_40
            else
              let zs458_39 : Gr := g_X7_takeSign zs65_4 0
              let zs468_39 : Gr := up zs458_39 0 46 ((zs458_39 0 46) + 1)
              zs468_39
set_option maxRecDepth 100000 in
set_option maxHeartbeats 4000000 in
theorem lp_X7_readStatement_364 {l : Launch} {G : GG} {p : Program} {e : Env} {s : State} {m : MethodId} {args : Array Value} {below : List Frame} {meth : Method} {c : Code} {Q : State → Prop} {σ : St} (X : Cx p m c cX7_readStatement 3 s args RX7 G) (y1 : Int32) (y2 : Int32) (hy : rg y2 0 240) (z : Nat × Int32 × Gr)
    (kk443 : z.1 = 443 → PA z.2.2 → ∀ (H : Heap) (locs : List Loc) (ls : Array Slot), Wh G s σ 4 z.2.2 H locs → lv_has ls 3 [(0, .ref (aa G 4 0)), (1, .int y1), (2, .int y2)] → W p l e (rmv 3 68) s m args below meth c H locs 0 0 Q (F0 m 443 ls [])) :
    ∀ (n k : Nat) (v : Gr), k ≤ 28 → 28 - k < n → wl (b_X7_readStatement_364 y1 y2) n k v = z → (PA v) → (v 49 (y2 + 1).toNatClampNeg = nI (1 + k)) → ∀ (H : Heap) (locs : List Loc) (ls : Array Slot), Wh G s σ 4 v H locs → lv_has ls 3 [(0, .ref (aa G 4 0)), (1, .int y1), (2, .int y2)] → W p l e (rmv 3 68) s m args below meth c H locs 0 0 Q (F0 m 364 ls []) := by
  have hx := X.1.1
  have hb := X.1.2.1
  intro n
  induction n with
  | zero => intro k v _ h; omega
  | succ n ih =>
    intro k v hkN hn hz hp hq H locs ls w hl
    refine lv_aload_n hx hb dX7_readStatement_364 rfl (lv_at hl 0 rfl) ?_
    refine gf7_274 X w dX7_readStatement_365 ?_
    refine lv_if_ne (tgt := 443) hx hb dX7_readStatement_368 (by decide) (fun zc368 => ?_) (fun zc368 => ?_)
    · -- 443
      have hz1 : z = ((443, 0, v) : Nat × Int32 × Gr) := by rw [← hz]; exact wl_out (by simp only [b_X7_readStatement_364, if_neg zc368])
      subst hz1
      exact kk443 rfl hp _ _ _ w (lv_sub hl [0, 1, 2] rfl)
    · -- 371
      refine lv_aload_n hx hb dX7_readStatement_371 rfl (lv_at hl 0 rfl) ?_
      refine gf7_99 X w dX7_readStatement_372 ?_
      refine lv_iload_n hx hb dX7_readStatement_375 rfl (lv_at hl 2 rfl) ?_
      refine lv_iconst (v := 1) hx hb dX7_readStatement_376 (by decide) ?_
      refine lv_iadd hx hb dX7_readStatement_377 ?_
      refine ia (f := 49) (n := 250) X w m4_49 rfl (n5s hy 1 (by decide)) dX7_readStatement_378 ?_
      refine lv_bipush (v := 28) hx hb dX7_readStatement_379 (by decide) ?_
      refine lv_icmp_ge (tgt := 443) hx hb dX7_readStatement_381 (by decide) (fun zc381 => ?_) (fun zc381 => ?_)
      · -- 443
        have hz1 : z = ((443, 0, v) : Nat × Int32 × Gr) := by rw [← hz]; exact wl_out (by simp only [b_X7_readStatement_364, if_pos zc368, if_pos zc381])
        subst hz1
        exact kk443 rfl hp _ _ _ w (lv_sub hl [0, 1, 2] rfl)
      · -- 384
        refine lv_aload_n hx hb dX7_readStatement_384 rfl (lv_at hl 0 rfl) ?_
        refine k_i (rr_v (rest := []) X w mX7_here kw1094 (c_X7_here (by assumption)) m4_0 rfl rfl ⟨Nat.le_of_ble_eq_true rfl, Nat.le_of_ble_eq_true rfl⟩ rfl hl.1 rfl (Nat.le_of_ble_eq_true rfl) dX7_readStatement_385 ⟨Nat.zero_le _, Nat.zero_le _⟩) w (fun H locs w => ?_)
        refine lv_bipush (v := 115) hx hb dX7_readStatement_388 (by decide) ?_
        refine lv_icmp_eq (tgt := 402) hx hb dX7_readStatement_390 (by decide) (fun zc390 => ?_) (fun zc390 => ?_)
        · -- 402
          refine lv_aload_n hx hb dX7_readStatement_402 rfl (lv_at hl 0 rfl) ?_
          refine gf7_99 X w dX7_readStatement_403 ?_
          refine lv_iload_n hx hb dX7_readStatement_406 rfl (lv_at hl 2 rfl) ?_
          refine lv_dup2_11 hx hb dX7_readStatement_407 rfl rfl ?_
          refine ia (f := 49) (n := 250) X w m4_49 rfl (rg.v hy (by decide) (by decide)) dX7_readStatement_408 ?_
          refine lv_aload_n hx hb dX7_readStatement_409 rfl (lv_at hl 0 rfl) ?_
          refine lv_bipush (v := 115) hx hb dX7_readStatement_410 (by decide) ?_
          refine lv_bipush (v := 110) hx hb dX7_readStatement_412 (by decide) ?_
          refine k_i (rr_v (rest := [.int (v 49 y2.toNatClampNeg), .int y2, .ref (aa G 4 49)]) X w mX7_readOf kw1112 (c_X7_readOf 115 110 (by assumption)) m4_0 rfl rfl ⟨Nat.le_of_ble_eq_true rfl, Nat.le_of_ble_eq_true rfl⟩ rfl hl.1 rfl (Nat.le_of_ble_eq_true rfl) dX7_readStatement_414 ⟨Nat.zero_le _, Nat.zero_le _⟩) w (fun H locs w => ?_)
          obtain ⟨zs414, ezs414⟩ : ∃ y : Gr, y = g_X7_readOf v 115 110 := ⟨_, rfl⟩; rw [← ezs414] at w
          have hp : PA zs414 := by rw [ezs414]; exact readOf_PA hp (by decide) (by decide)
          refine lv_aload_n hx hb dX7_readStatement_417 rfl (lv_at hl 0 rfl) ?_
          refine gf7_99 X w dX7_readStatement_418 ?_
          change W _ _ _ _ _ _ _ _ _ _ _ _ _ _ _ (F0 m 421 ls _)
          refine lv_iload_n hx hb dX7_readStatement_421 rfl (lv_at hl 2 rfl) ?_
          refine lv_iconst (v := 1) hx hb dX7_readStatement_422 (by decide) ?_
          refine lv_iadd hx hb dX7_readStatement_423 ?_
          refine ia (f := 49) (n := 250) X w m4_49 rfl (n5s hy 1 (by decide)) dX7_readStatement_424 ?_
          refine lv_ishl hx hb dX7_readStatement_425 ?_
          refine lv_ior hx hb dX7_readStatement_426 ?_
          refine iS (f := 49) (n := 250) X w m4_49 rfl (rg.v hy (by decide) (by decide)) dX7_readStatement_427 (fun zs427 H locs ezs427 w => ?_)
          have hp : PA zs427 := by rw [ezs427]; exact hp
          refine lv_aload_n hx hb dX7_readStatement_428 rfl (lv_at hl 0 rfl) ?_
          refine gf7_99 X w dX7_readStatement_429 ?_
          refine lv_iload_n hx hb dX7_readStatement_432 rfl (lv_at hl 2 rfl) ?_
          refine lv_iconst (v := 1) hx hb dX7_readStatement_433 (by decide) ?_
          refine lv_iadd hx hb dX7_readStatement_434 ?_
          change W _ _ _ _ _ _ _ _ _ _ _ _ _ _ _ (F0 m 435 ls _)
          refine lv_dup2_11 hx hb dX7_readStatement_435 rfl rfl ?_
          refine ia (f := 49) (n := 250) X w m4_49 rfl (n5s hy 1 (by decide)) dX7_readStatement_436 ?_
          refine lv_iconst (v := 1) hx hb dX7_readStatement_437 (by decide) ?_
          refine lv_iadd hx hb dX7_readStatement_438 ?_
          refine iS (f := 49) (n := 250) X w m4_49 rfl (n5s hy 1 (by decide)) dX7_readStatement_439 (fun zs439 H locs ezs439 w => ?_)
          have hp : PA zs439 := by rw [ezs439]; exact hp
          refine lv_goto (tgt := 364) hx hb dX7_readStatement_440 (by decide) ?_
          have hk : k < 28 := (mo28 hkN hq zc381)
          exact ih (k + 1) zs439 (by omega) (by omega) (by rw [← hz]; replace ezs439 := ezs439.symm; subst ezs439; replace ezs427 := ezs427.symm; subst ezs427; replace ezs414 := ezs414.symm; subst ezs414; exact (wl_go (t := 0) (r := 0) (by simp only [b_X7_readStatement_364, if_pos zc368, if_neg zc381, if_pos zc390])).symm) hp (by rw [ezs439, up0, if_pos rfl, ezs427, up0, if_neg (n5ne hy), ezs414, readOf_c _ _ _ 49 (by decide), hq]; exact nI_1 _) _ _ _ w (lv_sub hl [0, 1, 2] rfl)
        · -- 393
          refine lv_aload_n hx hb dX7_readStatement_393 rfl (lv_at hl 0 rfl) ?_
          refine k_i (rr_v (rest := []) X w mX7_here kw1094 (c_X7_here (by assumption)) m4_0 rfl rfl ⟨Nat.le_of_ble_eq_true rfl, Nat.le_of_ble_eq_true rfl⟩ rfl hl.1 rfl (Nat.le_of_ble_eq_true rfl) dX7_readStatement_394 ⟨Nat.zero_le _, Nat.zero_le _⟩) w (fun H locs w => ?_)
          refine lv_bipush (v := 110) hx hb dX7_readStatement_397 (by decide) ?_
          refine lv_icmp_ne (tgt := 443) hx hb dX7_readStatement_399 (by decide) (fun zc399 => ?_) (fun zc399 => ?_)
          · -- 443
            have hz1 : z = ((443, 0, v) : Nat × Int32 × Gr) := by rw [← hz]; exact wl_out (by simp only [b_X7_readStatement_364, if_pos zc368, if_neg zc381, if_neg zc390, if_neg zc399])
            subst hz1
            exact kk443 rfl hp _ _ _ w (lv_sub hl [0, 1, 2] rfl)
          · -- 402
            refine lv_aload_n hx hb dX7_readStatement_402 rfl (lv_at hl 0 rfl) ?_
            refine gf7_99 X w dX7_readStatement_403 ?_
            refine lv_iload_n hx hb dX7_readStatement_406 rfl (lv_at hl 2 rfl) ?_
            refine lv_dup2_11 hx hb dX7_readStatement_407 rfl rfl ?_
            refine ia (f := 49) (n := 250) X w m4_49 rfl (rg.v hy (by decide) (by decide)) dX7_readStatement_408 ?_
            refine lv_aload_n hx hb dX7_readStatement_409 rfl (lv_at hl 0 rfl) ?_
            refine lv_bipush (v := 115) hx hb dX7_readStatement_410 (by decide) ?_
            refine lv_bipush (v := 110) hx hb dX7_readStatement_412 (by decide) ?_
            refine k_i (rr_v (rest := [.int (v 49 y2.toNatClampNeg), .int y2, .ref (aa G 4 49)]) X w mX7_readOf kw1112 (c_X7_readOf 115 110 (by assumption)) m4_0 rfl rfl ⟨Nat.le_of_ble_eq_true rfl, Nat.le_of_ble_eq_true rfl⟩ rfl hl.1 rfl (Nat.le_of_ble_eq_true rfl) dX7_readStatement_414 ⟨Nat.zero_le _, Nat.zero_le _⟩) w (fun H locs w => ?_)
            obtain ⟨zs414_2, ezs414_2⟩ : ∃ y : Gr, y = g_X7_readOf v 115 110 := ⟨_, rfl⟩; rw [← ezs414_2] at w
            have hp : PA zs414_2 := by rw [ezs414_2]; exact readOf_PA hp (by decide) (by decide)
            refine lv_aload_n hx hb dX7_readStatement_417 rfl (lv_at hl 0 rfl) ?_
            refine gf7_99 X w dX7_readStatement_418 ?_
            change W _ _ _ _ _ _ _ _ _ _ _ _ _ _ _ (F0 m 421 ls _)
            refine lv_iload_n hx hb dX7_readStatement_421 rfl (lv_at hl 2 rfl) ?_
            refine lv_iconst (v := 1) hx hb dX7_readStatement_422 (by decide) ?_
            refine lv_iadd hx hb dX7_readStatement_423 ?_
            refine ia (f := 49) (n := 250) X w m4_49 rfl (n5s hy 1 (by decide)) dX7_readStatement_424 ?_
            refine lv_ishl hx hb dX7_readStatement_425 ?_
            refine lv_ior hx hb dX7_readStatement_426 ?_
            refine iS (f := 49) (n := 250) X w m4_49 rfl (rg.v hy (by decide) (by decide)) dX7_readStatement_427 (fun zs427_2 H locs ezs427_2 w => ?_)
            have hp : PA zs427_2 := by rw [ezs427_2]; exact hp
            refine lv_aload_n hx hb dX7_readStatement_428 rfl (lv_at hl 0 rfl) ?_
            refine gf7_99 X w dX7_readStatement_429 ?_
            refine lv_iload_n hx hb dX7_readStatement_432 rfl (lv_at hl 2 rfl) ?_
            refine lv_iconst (v := 1) hx hb dX7_readStatement_433 (by decide) ?_
            refine lv_iadd hx hb dX7_readStatement_434 ?_
            change W _ _ _ _ _ _ _ _ _ _ _ _ _ _ _ (F0 m 435 ls _)
            refine lv_dup2_11 hx hb dX7_readStatement_435 rfl rfl ?_
            refine ia (f := 49) (n := 250) X w m4_49 rfl (n5s hy 1 (by decide)) dX7_readStatement_436 ?_
            refine lv_iconst (v := 1) hx hb dX7_readStatement_437 (by decide) ?_
            refine lv_iadd hx hb dX7_readStatement_438 ?_
            refine iS (f := 49) (n := 250) X w m4_49 rfl (n5s hy 1 (by decide)) dX7_readStatement_439 (fun zs439_2 H locs ezs439_2 w => ?_)
            have hp : PA zs439_2 := by rw [ezs439_2]; exact hp
            refine lv_goto (tgt := 364) hx hb dX7_readStatement_440 (by decide) ?_
            have hk : k < 28 := (mo28 hkN hq zc381)
            exact ih (k + 1) zs439_2 (by omega) (by omega) (by rw [← hz]; replace ezs439_2 := ezs439_2.symm; subst ezs439_2; replace ezs427_2 := ezs427_2.symm; subst ezs427_2; replace ezs414_2 := ezs414_2.symm; subst ezs414_2; exact (wl_go (t := 0) (r := 0) (by simp only [b_X7_readStatement_364, if_pos zc368, if_neg zc381, if_neg zc390, if_pos zc399])).symm) hp (by rw [ezs439_2, up0, if_pos rfl, ezs427_2, up0, if_neg (n5ne hy), ezs414_2, readOf_c _ _ _ 49 (by decide), hq]; exact nI_1 _) _ _ _ w (lv_sub hl [0, 1, 2] rfl)
set_option maxRecDepth 100000 in
set_option maxHeartbeats 4000000 in
theorem c_X7_readStatement {l : Launch} {G : GG} {σ : St} {ρ : Gr}  (hp : PA ρ) (hst : rg (ρ 0 46) 0 47) : MM l G yX7_readStatement cX7_readStatement 3 3 68 none [.ref (aa G 4 0)] (setG σ 4 ρ) (Qv G (setG σ 4 (g_X7_readStatement ρ))) := by
  refine MM.of (by decide) (Nat.le_of_ble_eq_true rfl) ?_
  intro p e s m below meth c ls X hr hlk w hl
  have hx := X.1.1
  have hb := X.1.2.1
  have hl : lv_has ls 3 [(0, .ref (aa G 4 0))] := hl
  refine lv_aload_n hx hb dX7_readStatement_0 rfl (lv_at hl 0 rfl) ?_
  refine k_i (rr_v (rest := []) X w mX7_here kw1094 (c_X7_here (by assumption)) m4_0 rfl rfl ⟨Nat.le_of_ble_eq_true rfl, Nat.le_of_ble_eq_true rfl⟩ rfl hl.1 rfl (Nat.le_of_ble_eq_true rfl) dX7_readStatement_1 ⟨Nat.zero_le _, Nat.zero_le _⟩) w (fun H locs w => ?_)
  refine lv_topi (fun zv4 ezv4 => ?_)
  refine lv_istore_n (lv' := [(1, .int zv4), (0, .ref (aa G 4 0))]) hx hb dX7_readStatement_4 rfl hl (by decide) rfl (fun ls hl => ?_)
  refine lv_iconst (v := 5) hx hb dX7_readStatement_5 (by decide) ?_
  refine lv_aload_n hx hb dX7_readStatement_6 rfl (lv_at hl 1 rfl) ?_
  refine gf7_292 X w dX7_readStatement_7 ?_
  refine lv_imul hx hb dX7_readStatement_10 ?_
  refine lv_topi (fun zv11 ezv11 => ?_)
  refine lv_istore_n (lv' := [(2, .int zv11), (1, .int zv4), (0, .ref (aa G 4 0))]) hx hb dX7_readStatement_11 rfl hl (by decide) rfl (fun ls hl => ?_)
  refine lv_aload_n hx hb dX7_readStatement_12 rfl (lv_at hl 2 rfl) ?_
  refine gf7_93 X w dX7_readStatement_13 ?_
  refine lv_aload_n hx hb dX7_readStatement_16 rfl (lv_at hl 2 rfl) ?_
  change W _ _ _ _ _ _ _ _ _ _ _ _ _ _ _ (F0 m 17 ls _)
  refine gf7_292 X w dX7_readStatement_17 ?_
  refine lv_aload_n hx hb dX7_readStatement_20 rfl (lv_at hl 2 rfl) ?_
  refine gf7_268 X w dX7_readStatement_21 ?_
  refine iS (f := 47) (n := 50) X w m4_47 rfl (hst.v (by decide) (by decide)) dX7_readStatement_24 (fun zs24 H locs ezs24 w => ?_)
  have hp : PA zs24 := by rw [ezs24]; exact hp
  refine lv_aload_n hx hb dX7_readStatement_25 rfl (lv_at hl 2 rfl) ?_
  refine gf7_96 X w dX7_readStatement_26 ?_
  refine lv_aload_n hx hb dX7_readStatement_29 rfl (lv_at hl 2 rfl) ?_
  refine gf7_292 X w dX7_readStatement_30 ?_
  refine topeq (show zs24 0 46 = ρ 0 46 from by rw [ezs24]; rfl) ?_
  refine lv_iload_n hx hb dX7_readStatement_33 rfl (lv_at hl 1 rfl) ?_
  refine iS (f := 48) (n := 50) X w m4_48 rfl (hst.v (by decide) (by decide)) dX7_readStatement_34 (fun zs34 H locs ezs34 w => ?_)
  have hlt : ¬ zv4 = -1 → zs34 0 43 < zs34 0 44 := by rw [ezs34, ezs24, ezv4]; exact here_lt
  have hp : PA zs34 := by rw [ezs34]; exact hp
  refine lv_aload_n hx hb dX7_readStatement_35 rfl (lv_at hl 2 rfl) ?_
  refine lv_iload_n hx hb dX7_readStatement_36 rfl (lv_at hl 1 rfl) ?_
  change W _ _ _ _ _ _ _ _ _ _ _ _ _ _ _ (F0 m 37 ls _)
  refine lv_bipush (v := 99) hx hb dX7_readStatement_37 (by decide) ?_
  refine lv_icmp_eq (tgt := 60) hx hb dX7_readStatement_39 (by decide) (fun zc39 => ?_) (fun zc39 => ?_)
  · -- 60
    refine lv_iconst (v := 1) hx hb dX7_readStatement_60 (by decide) ?_
    refine lv_goto (tgt := 65) hx hb dX7_readStatement_61 (by decide) ?_
    refine k_v (rr_v (rest := []) X w mX7_takeSign kw1098 (c_X7_takeSign 1) m4_0 rfl rfl ⟨Nat.le_of_ble_eq_true rfl, Nat.le_of_ble_eq_true rfl⟩ rfl hl.1 rfl (Nat.le_of_ble_eq_true rfl) dX7_readStatement_65 ⟨Nat.zero_le _, Nat.zero_le _⟩) w (fun H locs w => ?_)
    obtain ⟨zs65, ezs65⟩ : ∃ y : Gr, y = g_X7_takeSign zs34 1 := ⟨_, rfl⟩; rw [← ezs65] at w
    have hp : PA zs65 := by rw [ezs65]; first | exact takeSign_PA hp (fun q => absurd rfl q) | exact takeSign_PA hp (fun _ => hlt (by rw [zc39]; decide)) | exact takeSign_PA hp (fun _ => hlt (by rw [zc45]; decide)) | exact takeSign_PA hp (fun _ => hlt (by rw [zc51]; decide)) | exact takeSign_PA hp (fun _ => hlt (by rw [zc57]; decide))
    refine lv_aload_n hx hb dX7_readStatement_68 rfl (lv_at hl 2 rfl) ?_
    refine gf7_274 X w dX7_readStatement_69 ?_
    refine lv_if_ne (tgt := 132) hx hb dX7_readStatement_72 (by decide) (fun zc72 => ?_) (fun zc72 => ?_)
    · -- 132
      refine lv_aload_n hx hb dX7_readStatement_132 rfl (lv_at hl 2 rfl) ?_
      refine gf7_274 X w dX7_readStatement_133 ?_
      refine lv_if_ne (tgt := 255) hx hb dX7_readStatement_136 (by decide) (fun _ => ?_) (fun zc136 => absurd zc136 zc72)
      refine lv_aload_n hx hb dX7_readStatement_255 rfl (lv_at hl 2 rfl) ?_
      refine gf7_274 X w dX7_readStatement_256 ?_
      refine lv_if_ne (tgt := 328) hx hb dX7_readStatement_259 (by decide) (fun _ => ?_) (fun zc259 => absurd zc259 zc72)
      refine lv_aload_n hx hb dX7_readStatement_328 rfl (lv_at hl 2 rfl) ?_
      refine gf7_274 X w dX7_readStatement_329 ?_
      refine lv_if_ne (tgt := 443) hx hb dX7_readStatement_332 (by decide) (fun _ => ?_) (fun zc332 => absurd zc332 zc72)
      refine lv_aload_n hx hb dX7_readStatement_443 rfl (lv_at hl 2 rfl) ?_
      refine lv_aload_n hx hb dX7_readStatement_444 rfl (lv_at hl 2 rfl) ?_
      change W _ _ _ _ _ _ _ _ _ _ _ _ _ _ _ (F0 m 445 ls _)
      refine k_i (rr_v (rest := [.ref (aa G 4 0)]) X w mX7_here kw1094 (c_X7_here (by assumption)) m4_0 rfl rfl ⟨Nat.le_of_ble_eq_true rfl, Nat.le_of_ble_eq_true rfl⟩ rfl hl.1 rfl (Nat.le_of_ble_eq_true rfl) dX7_readStatement_445 ⟨Nat.zero_le _, Nat.zero_le _⟩) w (fun H locs w => ?_)
      refine lv_bipush (v := 59) hx hb dX7_readStatement_448 (by decide) ?_
      refine lv_icmp_ne (tgt := 457) hx hb dX7_readStatement_450 (by decide) (fun zc450 => ?_) (fun zc450 => ?_)
      · -- 457
        refine lv_iconst (v := 0) hx hb dX7_readStatement_457 (by decide) ?_
        refine k_v (rr_v (rest := []) X w mX7_takeSign kw1098 (c_X7_takeSign 0) m4_0 rfl rfl ⟨Nat.le_of_ble_eq_true rfl, Nat.le_of_ble_eq_true rfl⟩ rfl hl.1 rfl (Nat.le_of_ble_eq_true rfl) dX7_readStatement_458 ⟨Nat.zero_le _, Nat.zero_le _⟩) w (fun H locs w => ?_)
        obtain ⟨zs458, ezs458⟩ : ∃ y : Gr, y = g_X7_takeSign zs65 0 := ⟨_, rfl⟩; rw [← ezs458] at w
        have hp : PA zs458 := by rw [ezs458]; first | exact takeSign_PA hp (fun q => absurd rfl q) | exact takeSign_PA hp (fun _ => here_c zc450 (by decide))
        refine lv_aload_n hx hb dX7_readStatement_461 rfl (lv_at hl 2 rfl) ?_
        refine lv_dup hx hb dX7_readStatement_462 rfl ?_
        refine gf7_292 X w dX7_readStatement_463 ?_
        refine lv_iconst (v := 1) hx hb dX7_readStatement_466 (by decide) ?_
        refine lv_iadd hx hb dX7_readStatement_467 ?_
        refine pf7_292 X w dX7_readStatement_468 (fun zs468 H locs ezs468 w => ?_)
        have hp : PA zs468 := by rw [ezs468]; exact hp
        exact t_v X w hr hlk dX7_readStatement_471 (by replace ezs468 := ezs468.symm; subst ezs468; replace ezs458 := ezs458.symm; subst ezs458; replace ezs65 := ezs65.symm; subst ezs65; replace ezs34 := ezs34.symm; subst ezs34; replace ezs24 := ezs24.symm; subst ezs24; replace ezv11 := ezv11.symm; subst ezv11; replace ezv4 := ezv4.symm; subst ezv4; simp only [g_X7_readStatement, if_pos zc39, if_neg zc72, if_neg zc450])
      · -- 453
        refine lv_iconst (v := 1) hx hb dX7_readStatement_453 (by decide) ?_
        refine lv_goto (tgt := 458) hx hb dX7_readStatement_454 (by decide) ?_
        refine k_v (rr_v (rest := []) X w mX7_takeSign kw1098 (c_X7_takeSign 1) m4_0 rfl rfl ⟨Nat.le_of_ble_eq_true rfl, Nat.le_of_ble_eq_true rfl⟩ rfl hl.1 rfl (Nat.le_of_ble_eq_true rfl) dX7_readStatement_458 ⟨Nat.zero_le _, Nat.zero_le _⟩) w (fun H locs w => ?_)
        obtain ⟨zs458_2, ezs458_2⟩ : ∃ y : Gr, y = g_X7_takeSign zs65 1 := ⟨_, rfl⟩; rw [← ezs458_2] at w
        have hp : PA zs458_2 := by rw [ezs458_2]; first | exact takeSign_PA hp (fun q => absurd rfl q) | exact takeSign_PA hp (fun _ => here_c zc450 (by decide))
        refine lv_aload_n hx hb dX7_readStatement_461 rfl (lv_at hl 2 rfl) ?_
        refine lv_dup hx hb dX7_readStatement_462 rfl ?_
        refine gf7_292 X w dX7_readStatement_463 ?_
        refine lv_iconst (v := 1) hx hb dX7_readStatement_466 (by decide) ?_
        refine lv_iadd hx hb dX7_readStatement_467 ?_
        refine pf7_292 X w dX7_readStatement_468 (fun zs468_2 H locs ezs468_2 w => ?_)
        have hp : PA zs468_2 := by rw [ezs468_2]; exact hp
        exact t_v X w hr hlk dX7_readStatement_471 (by replace ezs468_2 := ezs468_2.symm; subst ezs468_2; replace ezs458_2 := ezs458_2.symm; subst ezs458_2; replace ezs65 := ezs65.symm; subst ezs65; replace ezs34 := ezs34.symm; subst ezs34; replace ezs24 := ezs24.symm; subst ezs24; replace ezv11 := ezv11.symm; subst ezv11; replace ezv4 := ezv4.symm; subst ezv4; simp only [g_X7_readStatement, if_pos zc39, if_neg zc72, if_pos zc450])
    · -- 75
      refine lv_iload_n hx hb dX7_readStatement_75 rfl (lv_at hl 1 rfl) ?_
      refine lv_bipush (v := 99) hx hb dX7_readStatement_76 (by decide) ?_
      refine lv_icmp_ne (tgt := 132) hx hb dX7_readStatement_78 (by decide) (fun zc78 => absurd zc39 zc78) (fun _ => ?_)
      refine lv_aload_n hx hb dX7_readStatement_81 rfl (lv_at hl 2 rfl) ?_
      refine gf7_99 X w dX7_readStatement_82 ?_
      refine lv_iload_n hx hb dX7_readStatement_85 rfl (lv_at hl 0 rfl) ?_
      refine lv_aload_n hx hb dX7_readStatement_86 rfl (lv_at hl 2 rfl) ?_
      refine k_i (rr_v (rest := [.int zv11, .ref (aa G 4 49)]) X w mX7_readNumber kw1102 (c_X7_readNumber (by assumption)) m4_0 rfl rfl ⟨Nat.le_of_ble_eq_true rfl, Nat.le_of_ble_eq_true rfl⟩ rfl hl.1 rfl (Nat.le_of_ble_eq_true rfl) dX7_readStatement_87 ⟨Nat.zero_le _, Nat.zero_le _⟩) w (fun H locs w => ?_)
      obtain ⟨zs87, ezs87⟩ : ∃ y : Gr, y = g_X7_readNumber zs65 := ⟨_, rfl⟩; rw [← ezs87] at w
      have hp : PA zs87 := by rw [ezs87]; exact readNumber_PA hp
      refine iS (f := 49) (n := 250) X w m4_49 rfl (rg.v (n5r ezv11 hst) (by decide) (by decide)) dX7_readStatement_90 (fun zs90 H locs ezs90 w => ?_)
      have hp : PA zs90 := by rw [ezs90]; exact hp
      refine lv_aload_n hx hb dX7_readStatement_91 rfl (lv_at hl 2 rfl) ?_
      refine lv_aload_n hx hb dX7_readStatement_92 rfl (lv_at hl 2 rfl) ?_
      change W _ _ _ _ _ _ _ _ _ _ _ _ _ _ _ (F0 m 93 ls _)
      refine k_i (rr_v (rest := [.ref (aa G 4 0)]) X w mX7_here kw1094 (c_X7_here (by assumption)) m4_0 rfl rfl ⟨Nat.le_of_ble_eq_true rfl, Nat.le_of_ble_eq_true rfl⟩ rfl hl.1 rfl (Nat.le_of_ble_eq_true rfl) dX7_readStatement_93 ⟨Nat.zero_le _, Nat.zero_le _⟩) w (fun H locs w => ?_)
      refine lv_bipush (v := 44) hx hb dX7_readStatement_96 (by decide) ?_
      refine lv_icmp_ne (tgt := 105) hx hb dX7_readStatement_98 (by decide) (fun zc98 => ?_) (fun zc98 => ?_)
      · -- 105
        refine lv_iconst (v := 0) hx hb dX7_readStatement_105 (by decide) ?_
        refine k_v (rr_v (rest := []) X w mX7_takeSign kw1098 (c_X7_takeSign 0) m4_0 rfl rfl ⟨Nat.le_of_ble_eq_true rfl, Nat.le_of_ble_eq_true rfl⟩ rfl hl.1 rfl (Nat.le_of_ble_eq_true rfl) dX7_readStatement_106 ⟨Nat.zero_le _, Nat.zero_le _⟩) w (fun H locs w => ?_)
        obtain ⟨zs106, ezs106⟩ : ∃ y : Gr, y = g_X7_takeSign zs90 0 := ⟨_, rfl⟩; rw [← ezs106] at w
        have hp : PA zs106 := by rw [ezs106]; first | exact takeSign_PA hp (fun q => absurd rfl q) | exact takeSign_PA hp (fun _ => here_c zc98 (by decide))
        refine lv_aload_n hx hb dX7_readStatement_109 rfl (lv_at hl 2 rfl) ?_
        refine gf7_99 X w dX7_readStatement_110 ?_
        refine lv_iload_n hx hb dX7_readStatement_113 rfl (lv_at hl 0 rfl) ?_
        refine lv_iconst (v := 1) hx hb dX7_readStatement_114 (by decide) ?_
        refine lv_iadd hx hb dX7_readStatement_115 ?_
        refine lv_aload_n hx hb dX7_readStatement_116 rfl (lv_at hl 2 rfl) ?_
        refine gf7_274 X w dX7_readStatement_117 ?_
        refine lv_if_eq (tgt := 127) hx hb dX7_readStatement_120 (by decide) (fun zc120 => ?_) (fun zc120 => ?_)
        · -- 127
          refine lv_aload_n hx hb dX7_readStatement_127 rfl (lv_at hl 2 rfl) ?_
          refine k_i (rr_v (rest := [.int (zv11 + 1), .ref (aa G 4 49)]) X w mX7_readNumber kw1102 (c_X7_readNumber (by assumption)) m4_0 rfl rfl ⟨Nat.le_of_ble_eq_true rfl, Nat.le_of_ble_eq_true rfl⟩ rfl hl.1 rfl (Nat.le_of_ble_eq_true rfl) dX7_readStatement_128 ⟨Nat.zero_le _, Nat.zero_le _⟩) w (fun H locs w => ?_)
          obtain ⟨zs128, ezs128⟩ : ∃ y : Gr, y = g_X7_readNumber zs106 := ⟨_, rfl⟩; rw [← ezs128] at w
          have hp : PA zs128 := by rw [ezs128]; exact readNumber_PA hp
          refine iS (f := 49) (n := 250) X w m4_49 rfl (n5s (n5r ezv11 hst) 1 (by decide)) dX7_readStatement_131 (fun zs131 H locs ezs131 w => ?_)
          have hp : PA zs131 := by rw [ezs131]; exact hp
          refine lv_aload_n hx hb dX7_readStatement_132 rfl (lv_at hl 2 rfl) ?_
          refine gf7_274 X w dX7_readStatement_133 ?_
          refine topeq (show zs131 0 45 = zs128 0 45 from by rw [ezs131]; rfl) ?_
          refine lv_if_ne (tgt := 255) hx hb dX7_readStatement_136 (by decide) (fun zc136 => ?_) (fun zc136 => ?_)
          · -- 255
            refine lv_aload_n hx hb dX7_readStatement_255 rfl (lv_at hl 2 rfl) ?_
            refine gf7_274 X w dX7_readStatement_256 ?_
            refine topeq (show zs131 0 45 = zs128 0 45 from by rw [ezs131]; rfl) ?_
            refine lv_if_ne (tgt := 328) hx hb dX7_readStatement_259 (by decide) (fun _ => ?_) (fun zc259 => absurd zc259 zc136)
            refine lv_aload_n hx hb dX7_readStatement_328 rfl (lv_at hl 2 rfl) ?_
            refine gf7_274 X w dX7_readStatement_329 ?_
            refine topeq (show zs131 0 45 = zs128 0 45 from by rw [ezs131]; rfl) ?_
            refine lv_if_ne (tgt := 443) hx hb dX7_readStatement_332 (by decide) (fun _ => ?_) (fun zc332 => absurd zc332 zc136)
            refine lv_aload_n hx hb dX7_readStatement_443 rfl (lv_at hl 2 rfl) ?_
            refine lv_aload_n hx hb dX7_readStatement_444 rfl (lv_at hl 2 rfl) ?_
            refine k_i (rr_v (rest := [.ref (aa G 4 0)]) X w mX7_here kw1094 (c_X7_here (by assumption)) m4_0 rfl rfl ⟨Nat.le_of_ble_eq_true rfl, Nat.le_of_ble_eq_true rfl⟩ rfl hl.1 rfl (Nat.le_of_ble_eq_true rfl) dX7_readStatement_445 ⟨Nat.zero_le _, Nat.zero_le _⟩) w (fun H locs w => ?_)
            refine lv_bipush (v := 59) hx hb dX7_readStatement_448 (by decide) ?_
            refine lv_icmp_ne (tgt := 457) hx hb dX7_readStatement_450 (by decide) (fun zc450 => ?_) (fun zc450 => ?_)
            · -- 457
              refine lv_iconst (v := 0) hx hb dX7_readStatement_457 (by decide) ?_
              refine k_v (rr_v (rest := []) X w mX7_takeSign kw1098 (c_X7_takeSign 0) m4_0 rfl rfl ⟨Nat.le_of_ble_eq_true rfl, Nat.le_of_ble_eq_true rfl⟩ rfl hl.1 rfl (Nat.le_of_ble_eq_true rfl) dX7_readStatement_458 ⟨Nat.zero_le _, Nat.zero_le _⟩) w (fun H locs w => ?_)
              obtain ⟨zs458_3, ezs458_3⟩ : ∃ y : Gr, y = g_X7_takeSign zs131 0 := ⟨_, rfl⟩; rw [← ezs458_3] at w
              have hp : PA zs458_3 := by rw [ezs458_3]; first | exact takeSign_PA hp (fun q => absurd rfl q) | exact takeSign_PA hp (fun _ => here_c zc450 (by decide))
              refine lv_aload_n hx hb dX7_readStatement_461 rfl (lv_at hl 2 rfl) ?_
              refine lv_dup hx hb dX7_readStatement_462 rfl ?_
              refine gf7_292 X w dX7_readStatement_463 ?_
              refine lv_iconst (v := 1) hx hb dX7_readStatement_466 (by decide) ?_
              refine lv_iadd hx hb dX7_readStatement_467 ?_
              refine pf7_292 X w dX7_readStatement_468 (fun zs468_3 H locs ezs468_3 w => ?_)
              have hp : PA zs468_3 := by rw [ezs468_3]; exact hp
              exact t_v X w hr hlk dX7_readStatement_471 (by replace ezs468_3 := ezs468_3.symm; subst ezs468_3; replace ezs458_3 := ezs458_3.symm; subst ezs458_3; replace ezs131 := ezs131.symm; subst ezs131; replace ezs128 := ezs128.symm; subst ezs128; replace ezs106 := ezs106.symm; subst ezs106; replace ezs90 := ezs90.symm; subst ezs90; replace ezs87 := ezs87.symm; subst ezs87; replace ezs65 := ezs65.symm; subst ezs65; replace ezs34 := ezs34.symm; subst ezs34; replace ezs24 := ezs24.symm; subst ezs24; replace ezv11 := ezv11.symm; subst ezv11; replace ezv4 := ezv4.symm; subst ezv4; simp only [g_X7_readStatement, if_pos zc39, if_pos zc72, if_neg zc98, if_pos zc120, if_neg zc136, if_neg zc450])
            · -- 453
              refine lv_iconst (v := 1) hx hb dX7_readStatement_453 (by decide) ?_
              refine lv_goto (tgt := 458) hx hb dX7_readStatement_454 (by decide) ?_
              refine k_v (rr_v (rest := []) X w mX7_takeSign kw1098 (c_X7_takeSign 1) m4_0 rfl rfl ⟨Nat.le_of_ble_eq_true rfl, Nat.le_of_ble_eq_true rfl⟩ rfl hl.1 rfl (Nat.le_of_ble_eq_true rfl) dX7_readStatement_458 ⟨Nat.zero_le _, Nat.zero_le _⟩) w (fun H locs w => ?_)
              obtain ⟨zs458_4, ezs458_4⟩ : ∃ y : Gr, y = g_X7_takeSign zs131 1 := ⟨_, rfl⟩; rw [← ezs458_4] at w
              have hp : PA zs458_4 := by rw [ezs458_4]; first | exact takeSign_PA hp (fun q => absurd rfl q) | exact takeSign_PA hp (fun _ => here_c zc450 (by decide))
              refine lv_aload_n hx hb dX7_readStatement_461 rfl (lv_at hl 2 rfl) ?_
              refine lv_dup hx hb dX7_readStatement_462 rfl ?_
              refine gf7_292 X w dX7_readStatement_463 ?_
              refine lv_iconst (v := 1) hx hb dX7_readStatement_466 (by decide) ?_
              refine lv_iadd hx hb dX7_readStatement_467 ?_
              refine pf7_292 X w dX7_readStatement_468 (fun zs468_4 H locs ezs468_4 w => ?_)
              have hp : PA zs468_4 := by rw [ezs468_4]; exact hp
              exact t_v X w hr hlk dX7_readStatement_471 (by replace ezs468_4 := ezs468_4.symm; subst ezs468_4; replace ezs458_4 := ezs458_4.symm; subst ezs458_4; replace ezs131 := ezs131.symm; subst ezs131; replace ezs128 := ezs128.symm; subst ezs128; replace ezs106 := ezs106.symm; subst ezs106; replace ezs90 := ezs90.symm; subst ezs90; replace ezs87 := ezs87.symm; subst ezs87; replace ezs65 := ezs65.symm; subst ezs65; replace ezs34 := ezs34.symm; subst ezs34; replace ezs24 := ezs24.symm; subst ezs24; replace ezv11 := ezv11.symm; subst ezv11; replace ezv4 := ezv4.symm; subst ezv4; simp only [g_X7_readStatement, if_pos zc39, if_pos zc72, if_neg zc98, if_pos zc120, if_neg zc136, if_pos zc450])
          · -- 139
            refine lv_iload_n hx hb dX7_readStatement_139 rfl (lv_at hl 1 rfl) ?_
            refine lv_bipush (v := 119) hx hb dX7_readStatement_140 (by decide) ?_
            refine lv_icmp_ne (tgt := 255) hx hb dX7_readStatement_142 (by decide) (fun _ => ?_) (fun zc142 => absurd zc142 (by rw [zc39]; decide))
            refine lv_aload_n hx hb dX7_readStatement_255 rfl (lv_at hl 2 rfl) ?_
            refine gf7_274 X w dX7_readStatement_256 ?_
            refine topeq (show zs131 0 45 = zs128 0 45 from by rw [ezs131]; rfl) ?_
            refine lv_if_ne (tgt := 328) hx hb dX7_readStatement_259 (by decide) (fun zc259 => absurd zc136 zc259) (fun _ => ?_)
            refine lv_iload_n hx hb dX7_readStatement_262 rfl (lv_at hl 1 rfl) ?_
            refine lv_bipush (v := 114) hx hb dX7_readStatement_263 (by decide) ?_
            refine lv_icmp_ne (tgt := 328) hx hb dX7_readStatement_265 (by decide) (fun _ => ?_) (fun zc265 => absurd zc265 (by rw [zc39]; decide))
            refine lv_aload_n hx hb dX7_readStatement_328 rfl (lv_at hl 2 rfl) ?_
            refine gf7_274 X w dX7_readStatement_329 ?_
            refine topeq (show zs131 0 45 = zs128 0 45 from by rw [ezs131]; rfl) ?_
            change W _ _ _ _ _ _ _ _ _ _ _ _ _ _ _ (F0 m 332 ls _)
            refine lv_if_ne (tgt := 443) hx hb dX7_readStatement_332 (by decide) (fun zc332 => absurd zc136 zc332) (fun _ => ?_)
            refine lv_iload_n hx hb dX7_readStatement_335 rfl (lv_at hl 1 rfl) ?_
            refine lv_bipush (v := 109) hx hb dX7_readStatement_336 (by decide) ?_
            refine lv_icmp_ne (tgt := 443) hx hb dX7_readStatement_338 (by decide) (fun _ => ?_) (fun zc338 => absurd zc338 (by rw [zc39]; decide))
            refine lv_aload_n hx hb dX7_readStatement_443 rfl (lv_at hl 2 rfl) ?_
            refine lv_aload_n hx hb dX7_readStatement_444 rfl (lv_at hl 2 rfl) ?_
            refine k_i (rr_v (rest := [.ref (aa G 4 0)]) X w mX7_here kw1094 (c_X7_here (by assumption)) m4_0 rfl rfl ⟨Nat.le_of_ble_eq_true rfl, Nat.le_of_ble_eq_true rfl⟩ rfl hl.1 rfl (Nat.le_of_ble_eq_true rfl) dX7_readStatement_445 ⟨Nat.zero_le _, Nat.zero_le _⟩) w (fun H locs w => ?_)
            refine lv_bipush (v := 59) hx hb dX7_readStatement_448 (by decide) ?_
            refine lv_icmp_ne (tgt := 457) hx hb dX7_readStatement_450 (by decide) (fun zc450 => ?_) (fun zc450 => ?_)
            · -- 457
              refine lv_iconst (v := 0) hx hb dX7_readStatement_457 (by decide) ?_
              refine k_v (rr_v (rest := []) X w mX7_takeSign kw1098 (c_X7_takeSign 0) m4_0 rfl rfl ⟨Nat.le_of_ble_eq_true rfl, Nat.le_of_ble_eq_true rfl⟩ rfl hl.1 rfl (Nat.le_of_ble_eq_true rfl) dX7_readStatement_458 ⟨Nat.zero_le _, Nat.zero_le _⟩) w (fun H locs w => ?_)
              obtain ⟨zs458_5, ezs458_5⟩ : ∃ y : Gr, y = g_X7_takeSign zs131 0 := ⟨_, rfl⟩; rw [← ezs458_5] at w
              have hp : PA zs458_5 := by rw [ezs458_5]; first | exact takeSign_PA hp (fun q => absurd rfl q) | exact takeSign_PA hp (fun _ => here_c zc450 (by decide))
              refine lv_aload_n hx hb dX7_readStatement_461 rfl (lv_at hl 2 rfl) ?_
              refine lv_dup hx hb dX7_readStatement_462 rfl ?_
              refine gf7_292 X w dX7_readStatement_463 ?_
              refine lv_iconst (v := 1) hx hb dX7_readStatement_466 (by decide) ?_
              refine lv_iadd hx hb dX7_readStatement_467 ?_
              refine pf7_292 X w dX7_readStatement_468 (fun zs468_5 H locs ezs468_5 w => ?_)
              have hp : PA zs468_5 := by rw [ezs468_5]; exact hp
              exact t_v X w hr hlk dX7_readStatement_471 (by replace ezs468_5 := ezs468_5.symm; subst ezs468_5; replace ezs458_5 := ezs458_5.symm; subst ezs458_5; replace ezs131 := ezs131.symm; subst ezs131; replace ezs128 := ezs128.symm; subst ezs128; replace ezs106 := ezs106.symm; subst ezs106; replace ezs90 := ezs90.symm; subst ezs90; replace ezs87 := ezs87.symm; subst ezs87; replace ezs65 := ezs65.symm; subst ezs65; replace ezs34 := ezs34.symm; subst ezs34; replace ezs24 := ezs24.symm; subst ezs24; replace ezv11 := ezv11.symm; subst ezv11; replace ezv4 := ezv4.symm; subst ezv4; simp only [g_X7_readStatement, if_pos zc39, if_pos zc72, if_neg zc98, if_pos zc120, if_pos zc136, if_neg zc450])
            · -- 453
              refine lv_iconst (v := 1) hx hb dX7_readStatement_453 (by decide) ?_
              refine lv_goto (tgt := 458) hx hb dX7_readStatement_454 (by decide) ?_
              refine k_v (rr_v (rest := []) X w mX7_takeSign kw1098 (c_X7_takeSign 1) m4_0 rfl rfl ⟨Nat.le_of_ble_eq_true rfl, Nat.le_of_ble_eq_true rfl⟩ rfl hl.1 rfl (Nat.le_of_ble_eq_true rfl) dX7_readStatement_458 ⟨Nat.zero_le _, Nat.zero_le _⟩) w (fun H locs w => ?_)
              obtain ⟨zs458_6, ezs458_6⟩ : ∃ y : Gr, y = g_X7_takeSign zs131 1 := ⟨_, rfl⟩; rw [← ezs458_6] at w
              have hp : PA zs458_6 := by rw [ezs458_6]; first | exact takeSign_PA hp (fun q => absurd rfl q) | exact takeSign_PA hp (fun _ => here_c zc450 (by decide))
              refine lv_aload_n hx hb dX7_readStatement_461 rfl (lv_at hl 2 rfl) ?_
              refine lv_dup hx hb dX7_readStatement_462 rfl ?_
              refine gf7_292 X w dX7_readStatement_463 ?_
              refine lv_iconst (v := 1) hx hb dX7_readStatement_466 (by decide) ?_
              refine lv_iadd hx hb dX7_readStatement_467 ?_
              refine pf7_292 X w dX7_readStatement_468 (fun zs468_6 H locs ezs468_6 w => ?_)
              have hp : PA zs468_6 := by rw [ezs468_6]; exact hp
              exact t_v X w hr hlk dX7_readStatement_471 (by replace ezs468_6 := ezs468_6.symm; subst ezs468_6; replace ezs458_6 := ezs458_6.symm; subst ezs458_6; replace ezs131 := ezs131.symm; subst ezs131; replace ezs128 := ezs128.symm; subst ezs128; replace ezs106 := ezs106.symm; subst ezs106; replace ezs90 := ezs90.symm; subst ezs90; replace ezs87 := ezs87.symm; subst ezs87; replace ezs65 := ezs65.symm; subst ezs65; replace ezs34 := ezs34.symm; subst ezs34; replace ezs24 := ezs24.symm; subst ezs24; replace ezv11 := ezv11.symm; subst ezv11; replace ezv4 := ezv4.symm; subst ezv4; simp only [g_X7_readStatement, if_pos zc39, if_pos zc72, if_neg zc98, if_pos zc120, if_pos zc136, if_pos zc450])
        · -- 123
          refine lv_iconst (v := 0) hx hb dX7_readStatement_123 (by decide) ?_
          refine lv_goto (tgt := 131) hx hb dX7_readStatement_124 (by decide) ?_
          refine iS (f := 49) (n := 250) X w m4_49 rfl (n5s (n5r ezv11 hst) 1 (by decide)) dX7_readStatement_131 (fun zs131_2 H locs ezs131_2 w => ?_)
          have hp : PA zs131_2 := by rw [ezs131_2]; exact hp
          refine lv_aload_n hx hb dX7_readStatement_132 rfl (lv_at hl 2 rfl) ?_
          refine gf7_274 X w dX7_readStatement_133 ?_
          refine topeq (show zs131_2 0 45 = zs106 0 45 from by rw [ezs131_2]; rfl) ?_
          refine lv_if_ne (tgt := 255) hx hb dX7_readStatement_136 (by decide) (fun _ => ?_) (fun zc136 => absurd zc136 zc120)
          refine lv_aload_n hx hb dX7_readStatement_255 rfl (lv_at hl 2 rfl) ?_
          refine gf7_274 X w dX7_readStatement_256 ?_
          refine topeq (show zs131_2 0 45 = zs106 0 45 from by rw [ezs131_2]; rfl) ?_
          refine lv_if_ne (tgt := 328) hx hb dX7_readStatement_259 (by decide) (fun _ => ?_) (fun zc259 => absurd zc259 zc120)
          refine lv_aload_n hx hb dX7_readStatement_328 rfl (lv_at hl 2 rfl) ?_
          refine gf7_274 X w dX7_readStatement_329 ?_
          refine topeq (show zs131_2 0 45 = zs106 0 45 from by rw [ezs131_2]; rfl) ?_
          change W _ _ _ _ _ _ _ _ _ _ _ _ _ _ _ (F0 m 332 ls _)
          refine lv_if_ne (tgt := 443) hx hb dX7_readStatement_332 (by decide) (fun _ => ?_) (fun zc332 => absurd zc332 zc120)
          refine lv_aload_n hx hb dX7_readStatement_443 rfl (lv_at hl 2 rfl) ?_
          refine lv_aload_n hx hb dX7_readStatement_444 rfl (lv_at hl 2 rfl) ?_
          refine k_i (rr_v (rest := [.ref (aa G 4 0)]) X w mX7_here kw1094 (c_X7_here (by assumption)) m4_0 rfl rfl ⟨Nat.le_of_ble_eq_true rfl, Nat.le_of_ble_eq_true rfl⟩ rfl hl.1 rfl (Nat.le_of_ble_eq_true rfl) dX7_readStatement_445 ⟨Nat.zero_le _, Nat.zero_le _⟩) w (fun H locs w => ?_)
          refine lv_bipush (v := 59) hx hb dX7_readStatement_448 (by decide) ?_
          refine lv_icmp_ne (tgt := 457) hx hb dX7_readStatement_450 (by decide) (fun zc450 => ?_) (fun zc450 => ?_)
          · -- 457
            refine lv_iconst (v := 0) hx hb dX7_readStatement_457 (by decide) ?_
            refine k_v (rr_v (rest := []) X w mX7_takeSign kw1098 (c_X7_takeSign 0) m4_0 rfl rfl ⟨Nat.le_of_ble_eq_true rfl, Nat.le_of_ble_eq_true rfl⟩ rfl hl.1 rfl (Nat.le_of_ble_eq_true rfl) dX7_readStatement_458 ⟨Nat.zero_le _, Nat.zero_le _⟩) w (fun H locs w => ?_)
            obtain ⟨zs458_7, ezs458_7⟩ : ∃ y : Gr, y = g_X7_takeSign zs131_2 0 := ⟨_, rfl⟩; rw [← ezs458_7] at w
            have hp : PA zs458_7 := by rw [ezs458_7]; first | exact takeSign_PA hp (fun q => absurd rfl q) | exact takeSign_PA hp (fun _ => here_c zc450 (by decide))
            refine lv_aload_n hx hb dX7_readStatement_461 rfl (lv_at hl 2 rfl) ?_
            refine lv_dup hx hb dX7_readStatement_462 rfl ?_
            refine gf7_292 X w dX7_readStatement_463 ?_
            refine lv_iconst (v := 1) hx hb dX7_readStatement_466 (by decide) ?_
            refine lv_iadd hx hb dX7_readStatement_467 ?_
            refine pf7_292 X w dX7_readStatement_468 (fun zs468_7 H locs ezs468_7 w => ?_)
            have hp : PA zs468_7 := by rw [ezs468_7]; exact hp
            exact t_v X w hr hlk dX7_readStatement_471 (by replace ezs468_7 := ezs468_7.symm; subst ezs468_7; replace ezs458_7 := ezs458_7.symm; subst ezs458_7; replace ezs131_2 := ezs131_2.symm; subst ezs131_2; replace ezs106 := ezs106.symm; subst ezs106; replace ezs90 := ezs90.symm; subst ezs90; replace ezs87 := ezs87.symm; subst ezs87; replace ezs65 := ezs65.symm; subst ezs65; replace ezs34 := ezs34.symm; subst ezs34; replace ezs24 := ezs24.symm; subst ezs24; replace ezv11 := ezv11.symm; subst ezv11; replace ezv4 := ezv4.symm; subst ezv4; simp only [g_X7_readStatement, if_pos zc39, if_pos zc72, if_neg zc98, if_neg zc120, if_neg zc450])
          · -- 453
            refine lv_iconst (v := 1) hx hb dX7_readStatement_453 (by decide) ?_
            refine lv_goto (tgt := 458) hx hb dX7_readStatement_454 (by decide) ?_
            refine k_v (rr_v (rest := []) X w mX7_takeSign kw1098 (c_X7_takeSign 1) m4_0 rfl rfl ⟨Nat.le_of_ble_eq_true rfl, Nat.le_of_ble_eq_true rfl⟩ rfl hl.1 rfl (Nat.le_of_ble_eq_true rfl) dX7_readStatement_458 ⟨Nat.zero_le _, Nat.zero_le _⟩) w (fun H locs w => ?_)
            obtain ⟨zs458_8, ezs458_8⟩ : ∃ y : Gr, y = g_X7_takeSign zs131_2 1 := ⟨_, rfl⟩; rw [← ezs458_8] at w
            have hp : PA zs458_8 := by rw [ezs458_8]; first | exact takeSign_PA hp (fun q => absurd rfl q) | exact takeSign_PA hp (fun _ => here_c zc450 (by decide))
            refine lv_aload_n hx hb dX7_readStatement_461 rfl (lv_at hl 2 rfl) ?_
            refine lv_dup hx hb dX7_readStatement_462 rfl ?_
            refine gf7_292 X w dX7_readStatement_463 ?_
            refine lv_iconst (v := 1) hx hb dX7_readStatement_466 (by decide) ?_
            refine lv_iadd hx hb dX7_readStatement_467 ?_
            refine pf7_292 X w dX7_readStatement_468 (fun zs468_8 H locs ezs468_8 w => ?_)
            have hp : PA zs468_8 := by rw [ezs468_8]; exact hp
            exact t_v X w hr hlk dX7_readStatement_471 (by replace ezs468_8 := ezs468_8.symm; subst ezs468_8; replace ezs458_8 := ezs458_8.symm; subst ezs458_8; replace ezs131_2 := ezs131_2.symm; subst ezs131_2; replace ezs106 := ezs106.symm; subst ezs106; replace ezs90 := ezs90.symm; subst ezs90; replace ezs87 := ezs87.symm; subst ezs87; replace ezs65 := ezs65.symm; subst ezs65; replace ezs34 := ezs34.symm; subst ezs34; replace ezs24 := ezs24.symm; subst ezs24; replace ezv11 := ezv11.symm; subst ezv11; replace ezv4 := ezv4.symm; subst ezv4; simp only [g_X7_readStatement, if_pos zc39, if_pos zc72, if_neg zc98, if_neg zc120, if_pos zc450])
      · -- 101
        refine lv_iconst (v := 1) hx hb dX7_readStatement_101 (by decide) ?_
        refine lv_goto (tgt := 106) hx hb dX7_readStatement_102 (by decide) ?_
        refine k_v (rr_v (rest := []) X w mX7_takeSign kw1098 (c_X7_takeSign 1) m4_0 rfl rfl ⟨Nat.le_of_ble_eq_true rfl, Nat.le_of_ble_eq_true rfl⟩ rfl hl.1 rfl (Nat.le_of_ble_eq_true rfl) dX7_readStatement_106 ⟨Nat.zero_le _, Nat.zero_le _⟩) w (fun H locs w => ?_)
        obtain ⟨zs106_2, ezs106_2⟩ : ∃ y : Gr, y = g_X7_takeSign zs90 1 := ⟨_, rfl⟩; rw [← ezs106_2] at w
        have hp : PA zs106_2 := by rw [ezs106_2]; first | exact takeSign_PA hp (fun q => absurd rfl q) | exact takeSign_PA hp (fun _ => here_c zc98 (by decide))
        refine lv_aload_n hx hb dX7_readStatement_109 rfl (lv_at hl 2 rfl) ?_
        refine gf7_99 X w dX7_readStatement_110 ?_
        refine lv_iload_n hx hb dX7_readStatement_113 rfl (lv_at hl 0 rfl) ?_
        refine lv_iconst (v := 1) hx hb dX7_readStatement_114 (by decide) ?_
        refine lv_iadd hx hb dX7_readStatement_115 ?_
        refine lv_aload_n hx hb dX7_readStatement_116 rfl (lv_at hl 2 rfl) ?_
        refine gf7_274 X w dX7_readStatement_117 ?_
        refine lv_if_eq (tgt := 127) hx hb dX7_readStatement_120 (by decide) (fun zc120 => ?_) (fun zc120 => ?_)
        · -- 127
          refine lv_aload_n hx hb dX7_readStatement_127 rfl (lv_at hl 2 rfl) ?_
          refine k_i (rr_v (rest := [.int (zv11 + 1), .ref (aa G 4 49)]) X w mX7_readNumber kw1102 (c_X7_readNumber (by assumption)) m4_0 rfl rfl ⟨Nat.le_of_ble_eq_true rfl, Nat.le_of_ble_eq_true rfl⟩ rfl hl.1 rfl (Nat.le_of_ble_eq_true rfl) dX7_readStatement_128 ⟨Nat.zero_le _, Nat.zero_le _⟩) w (fun H locs w => ?_)
          obtain ⟨zs128_2, ezs128_2⟩ : ∃ y : Gr, y = g_X7_readNumber zs106_2 := ⟨_, rfl⟩; rw [← ezs128_2] at w
          have hp : PA zs128_2 := by rw [ezs128_2]; exact readNumber_PA hp
          refine iS (f := 49) (n := 250) X w m4_49 rfl (n5s (n5r ezv11 hst) 1 (by decide)) dX7_readStatement_131 (fun zs131_3 H locs ezs131_3 w => ?_)
          have hp : PA zs131_3 := by rw [ezs131_3]; exact hp
          refine lv_aload_n hx hb dX7_readStatement_132 rfl (lv_at hl 2 rfl) ?_
          refine gf7_274 X w dX7_readStatement_133 ?_
          refine topeq (show zs131_3 0 45 = zs128_2 0 45 from by rw [ezs131_3]; rfl) ?_
          refine lv_if_ne (tgt := 255) hx hb dX7_readStatement_136 (by decide) (fun zc136 => ?_) (fun zc136 => ?_)
          · -- 255
            refine lv_aload_n hx hb dX7_readStatement_255 rfl (lv_at hl 2 rfl) ?_
            refine gf7_274 X w dX7_readStatement_256 ?_
            refine topeq (show zs131_3 0 45 = zs128_2 0 45 from by rw [ezs131_3]; rfl) ?_
            refine lv_if_ne (tgt := 328) hx hb dX7_readStatement_259 (by decide) (fun _ => ?_) (fun zc259 => absurd zc259 zc136)
            refine lv_aload_n hx hb dX7_readStatement_328 rfl (lv_at hl 2 rfl) ?_
            refine gf7_274 X w dX7_readStatement_329 ?_
            refine topeq (show zs131_3 0 45 = zs128_2 0 45 from by rw [ezs131_3]; rfl) ?_
            refine lv_if_ne (tgt := 443) hx hb dX7_readStatement_332 (by decide) (fun _ => ?_) (fun zc332 => absurd zc332 zc136)
            refine lv_aload_n hx hb dX7_readStatement_443 rfl (lv_at hl 2 rfl) ?_
            refine lv_aload_n hx hb dX7_readStatement_444 rfl (lv_at hl 2 rfl) ?_
            refine k_i (rr_v (rest := [.ref (aa G 4 0)]) X w mX7_here kw1094 (c_X7_here (by assumption)) m4_0 rfl rfl ⟨Nat.le_of_ble_eq_true rfl, Nat.le_of_ble_eq_true rfl⟩ rfl hl.1 rfl (Nat.le_of_ble_eq_true rfl) dX7_readStatement_445 ⟨Nat.zero_le _, Nat.zero_le _⟩) w (fun H locs w => ?_)
            refine lv_bipush (v := 59) hx hb dX7_readStatement_448 (by decide) ?_
            refine lv_icmp_ne (tgt := 457) hx hb dX7_readStatement_450 (by decide) (fun zc450 => ?_) (fun zc450 => ?_)
            · -- 457
              refine lv_iconst (v := 0) hx hb dX7_readStatement_457 (by decide) ?_
              refine k_v (rr_v (rest := []) X w mX7_takeSign kw1098 (c_X7_takeSign 0) m4_0 rfl rfl ⟨Nat.le_of_ble_eq_true rfl, Nat.le_of_ble_eq_true rfl⟩ rfl hl.1 rfl (Nat.le_of_ble_eq_true rfl) dX7_readStatement_458 ⟨Nat.zero_le _, Nat.zero_le _⟩) w (fun H locs w => ?_)
              obtain ⟨zs458_9, ezs458_9⟩ : ∃ y : Gr, y = g_X7_takeSign zs131_3 0 := ⟨_, rfl⟩; rw [← ezs458_9] at w
              have hp : PA zs458_9 := by rw [ezs458_9]; first | exact takeSign_PA hp (fun q => absurd rfl q) | exact takeSign_PA hp (fun _ => here_c zc450 (by decide))
              refine lv_aload_n hx hb dX7_readStatement_461 rfl (lv_at hl 2 rfl) ?_
              refine lv_dup hx hb dX7_readStatement_462 rfl ?_
              refine gf7_292 X w dX7_readStatement_463 ?_
              refine lv_iconst (v := 1) hx hb dX7_readStatement_466 (by decide) ?_
              refine lv_iadd hx hb dX7_readStatement_467 ?_
              refine pf7_292 X w dX7_readStatement_468 (fun zs468_9 H locs ezs468_9 w => ?_)
              have hp : PA zs468_9 := by rw [ezs468_9]; exact hp
              exact t_v X w hr hlk dX7_readStatement_471 (by replace ezs468_9 := ezs468_9.symm; subst ezs468_9; replace ezs458_9 := ezs458_9.symm; subst ezs458_9; replace ezs131_3 := ezs131_3.symm; subst ezs131_3; replace ezs128_2 := ezs128_2.symm; subst ezs128_2; replace ezs106_2 := ezs106_2.symm; subst ezs106_2; replace ezs90 := ezs90.symm; subst ezs90; replace ezs87 := ezs87.symm; subst ezs87; replace ezs65 := ezs65.symm; subst ezs65; replace ezs34 := ezs34.symm; subst ezs34; replace ezs24 := ezs24.symm; subst ezs24; replace ezv11 := ezv11.symm; subst ezv11; replace ezv4 := ezv4.symm; subst ezv4; simp only [g_X7_readStatement, if_pos zc39, if_pos zc72, if_pos zc98, if_pos zc120, if_neg zc136, if_neg zc450])
            · -- 453
              refine lv_iconst (v := 1) hx hb dX7_readStatement_453 (by decide) ?_
              refine lv_goto (tgt := 458) hx hb dX7_readStatement_454 (by decide) ?_
              refine k_v (rr_v (rest := []) X w mX7_takeSign kw1098 (c_X7_takeSign 1) m4_0 rfl rfl ⟨Nat.le_of_ble_eq_true rfl, Nat.le_of_ble_eq_true rfl⟩ rfl hl.1 rfl (Nat.le_of_ble_eq_true rfl) dX7_readStatement_458 ⟨Nat.zero_le _, Nat.zero_le _⟩) w (fun H locs w => ?_)
              obtain ⟨zs458_10, ezs458_10⟩ : ∃ y : Gr, y = g_X7_takeSign zs131_3 1 := ⟨_, rfl⟩; rw [← ezs458_10] at w
              have hp : PA zs458_10 := by rw [ezs458_10]; first | exact takeSign_PA hp (fun q => absurd rfl q) | exact takeSign_PA hp (fun _ => here_c zc450 (by decide))
              refine lv_aload_n hx hb dX7_readStatement_461 rfl (lv_at hl 2 rfl) ?_
              refine lv_dup hx hb dX7_readStatement_462 rfl ?_
              refine gf7_292 X w dX7_readStatement_463 ?_
              refine lv_iconst (v := 1) hx hb dX7_readStatement_466 (by decide) ?_
              refine lv_iadd hx hb dX7_readStatement_467 ?_
              refine pf7_292 X w dX7_readStatement_468 (fun zs468_10 H locs ezs468_10 w => ?_)
              have hp : PA zs468_10 := by rw [ezs468_10]; exact hp
              exact t_v X w hr hlk dX7_readStatement_471 (by replace ezs468_10 := ezs468_10.symm; subst ezs468_10; replace ezs458_10 := ezs458_10.symm; subst ezs458_10; replace ezs131_3 := ezs131_3.symm; subst ezs131_3; replace ezs128_2 := ezs128_2.symm; subst ezs128_2; replace ezs106_2 := ezs106_2.symm; subst ezs106_2; replace ezs90 := ezs90.symm; subst ezs90; replace ezs87 := ezs87.symm; subst ezs87; replace ezs65 := ezs65.symm; subst ezs65; replace ezs34 := ezs34.symm; subst ezs34; replace ezs24 := ezs24.symm; subst ezs24; replace ezv11 := ezv11.symm; subst ezv11; replace ezv4 := ezv4.symm; subst ezv4; simp only [g_X7_readStatement, if_pos zc39, if_pos zc72, if_pos zc98, if_pos zc120, if_neg zc136, if_pos zc450])
          · -- 139
            refine lv_iload_n hx hb dX7_readStatement_139 rfl (lv_at hl 1 rfl) ?_
            refine lv_bipush (v := 119) hx hb dX7_readStatement_140 (by decide) ?_
            refine lv_icmp_ne (tgt := 255) hx hb dX7_readStatement_142 (by decide) (fun _ => ?_) (fun zc142 => absurd zc142 (by rw [zc39]; decide))
            refine lv_aload_n hx hb dX7_readStatement_255 rfl (lv_at hl 2 rfl) ?_
            refine gf7_274 X w dX7_readStatement_256 ?_
            refine topeq (show zs131_3 0 45 = zs128_2 0 45 from by rw [ezs131_3]; rfl) ?_
            refine lv_if_ne (tgt := 328) hx hb dX7_readStatement_259 (by decide) (fun zc259 => absurd zc136 zc259) (fun _ => ?_)
            refine lv_iload_n hx hb dX7_readStatement_262 rfl (lv_at hl 1 rfl) ?_
            refine lv_bipush (v := 114) hx hb dX7_readStatement_263 (by decide) ?_
            refine lv_icmp_ne (tgt := 328) hx hb dX7_readStatement_265 (by decide) (fun _ => ?_) (fun zc265 => absurd zc265 (by rw [zc39]; decide))
            refine lv_aload_n hx hb dX7_readStatement_328 rfl (lv_at hl 2 rfl) ?_
            refine gf7_274 X w dX7_readStatement_329 ?_
            refine topeq (show zs131_3 0 45 = zs128_2 0 45 from by rw [ezs131_3]; rfl) ?_
            change W _ _ _ _ _ _ _ _ _ _ _ _ _ _ _ (F0 m 332 ls _)
            refine lv_if_ne (tgt := 443) hx hb dX7_readStatement_332 (by decide) (fun zc332 => absurd zc136 zc332) (fun _ => ?_)
            refine lv_iload_n hx hb dX7_readStatement_335 rfl (lv_at hl 1 rfl) ?_
            refine lv_bipush (v := 109) hx hb dX7_readStatement_336 (by decide) ?_
            refine lv_icmp_ne (tgt := 443) hx hb dX7_readStatement_338 (by decide) (fun _ => ?_) (fun zc338 => absurd zc338 (by rw [zc39]; decide))
            refine lv_aload_n hx hb dX7_readStatement_443 rfl (lv_at hl 2 rfl) ?_
            refine lv_aload_n hx hb dX7_readStatement_444 rfl (lv_at hl 2 rfl) ?_
            refine k_i (rr_v (rest := [.ref (aa G 4 0)]) X w mX7_here kw1094 (c_X7_here (by assumption)) m4_0 rfl rfl ⟨Nat.le_of_ble_eq_true rfl, Nat.le_of_ble_eq_true rfl⟩ rfl hl.1 rfl (Nat.le_of_ble_eq_true rfl) dX7_readStatement_445 ⟨Nat.zero_le _, Nat.zero_le _⟩) w (fun H locs w => ?_)
            refine lv_bipush (v := 59) hx hb dX7_readStatement_448 (by decide) ?_
            refine lv_icmp_ne (tgt := 457) hx hb dX7_readStatement_450 (by decide) (fun zc450 => ?_) (fun zc450 => ?_)
            · -- 457
              refine lv_iconst (v := 0) hx hb dX7_readStatement_457 (by decide) ?_
              refine k_v (rr_v (rest := []) X w mX7_takeSign kw1098 (c_X7_takeSign 0) m4_0 rfl rfl ⟨Nat.le_of_ble_eq_true rfl, Nat.le_of_ble_eq_true rfl⟩ rfl hl.1 rfl (Nat.le_of_ble_eq_true rfl) dX7_readStatement_458 ⟨Nat.zero_le _, Nat.zero_le _⟩) w (fun H locs w => ?_)
              obtain ⟨zs458_11, ezs458_11⟩ : ∃ y : Gr, y = g_X7_takeSign zs131_3 0 := ⟨_, rfl⟩; rw [← ezs458_11] at w
              have hp : PA zs458_11 := by rw [ezs458_11]; first | exact takeSign_PA hp (fun q => absurd rfl q) | exact takeSign_PA hp (fun _ => here_c zc450 (by decide))
              refine lv_aload_n hx hb dX7_readStatement_461 rfl (lv_at hl 2 rfl) ?_
              refine lv_dup hx hb dX7_readStatement_462 rfl ?_
              refine gf7_292 X w dX7_readStatement_463 ?_
              refine lv_iconst (v := 1) hx hb dX7_readStatement_466 (by decide) ?_
              refine lv_iadd hx hb dX7_readStatement_467 ?_
              refine pf7_292 X w dX7_readStatement_468 (fun zs468_11 H locs ezs468_11 w => ?_)
              have hp : PA zs468_11 := by rw [ezs468_11]; exact hp
              exact t_v X w hr hlk dX7_readStatement_471 (by replace ezs468_11 := ezs468_11.symm; subst ezs468_11; replace ezs458_11 := ezs458_11.symm; subst ezs458_11; replace ezs131_3 := ezs131_3.symm; subst ezs131_3; replace ezs128_2 := ezs128_2.symm; subst ezs128_2; replace ezs106_2 := ezs106_2.symm; subst ezs106_2; replace ezs90 := ezs90.symm; subst ezs90; replace ezs87 := ezs87.symm; subst ezs87; replace ezs65 := ezs65.symm; subst ezs65; replace ezs34 := ezs34.symm; subst ezs34; replace ezs24 := ezs24.symm; subst ezs24; replace ezv11 := ezv11.symm; subst ezv11; replace ezv4 := ezv4.symm; subst ezv4; simp only [g_X7_readStatement, if_pos zc39, if_pos zc72, if_pos zc98, if_pos zc120, if_pos zc136, if_neg zc450])
            · -- 453
              refine lv_iconst (v := 1) hx hb dX7_readStatement_453 (by decide) ?_
              refine lv_goto (tgt := 458) hx hb dX7_readStatement_454 (by decide) ?_
              refine k_v (rr_v (rest := []) X w mX7_takeSign kw1098 (c_X7_takeSign 1) m4_0 rfl rfl ⟨Nat.le_of_ble_eq_true rfl, Nat.le_of_ble_eq_true rfl⟩ rfl hl.1 rfl (Nat.le_of_ble_eq_true rfl) dX7_readStatement_458 ⟨Nat.zero_le _, Nat.zero_le _⟩) w (fun H locs w => ?_)
              obtain ⟨zs458_12, ezs458_12⟩ : ∃ y : Gr, y = g_X7_takeSign zs131_3 1 := ⟨_, rfl⟩; rw [← ezs458_12] at w
              have hp : PA zs458_12 := by rw [ezs458_12]; first | exact takeSign_PA hp (fun q => absurd rfl q) | exact takeSign_PA hp (fun _ => here_c zc450 (by decide))
              refine lv_aload_n hx hb dX7_readStatement_461 rfl (lv_at hl 2 rfl) ?_
              refine lv_dup hx hb dX7_readStatement_462 rfl ?_
              refine gf7_292 X w dX7_readStatement_463 ?_
              refine lv_iconst (v := 1) hx hb dX7_readStatement_466 (by decide) ?_
              refine lv_iadd hx hb dX7_readStatement_467 ?_
              refine pf7_292 X w dX7_readStatement_468 (fun zs468_12 H locs ezs468_12 w => ?_)
              have hp : PA zs468_12 := by rw [ezs468_12]; exact hp
              exact t_v X w hr hlk dX7_readStatement_471 (by replace ezs468_12 := ezs468_12.symm; subst ezs468_12; replace ezs458_12 := ezs458_12.symm; subst ezs458_12; replace ezs131_3 := ezs131_3.symm; subst ezs131_3; replace ezs128_2 := ezs128_2.symm; subst ezs128_2; replace ezs106_2 := ezs106_2.symm; subst ezs106_2; replace ezs90 := ezs90.symm; subst ezs90; replace ezs87 := ezs87.symm; subst ezs87; replace ezs65 := ezs65.symm; subst ezs65; replace ezs34 := ezs34.symm; subst ezs34; replace ezs24 := ezs24.symm; subst ezs24; replace ezv11 := ezv11.symm; subst ezv11; replace ezv4 := ezv4.symm; subst ezv4; simp only [g_X7_readStatement, if_pos zc39, if_pos zc72, if_pos zc98, if_pos zc120, if_pos zc136, if_pos zc450])
        · -- 123
          refine lv_iconst (v := 0) hx hb dX7_readStatement_123 (by decide) ?_
          refine lv_goto (tgt := 131) hx hb dX7_readStatement_124 (by decide) ?_
          refine iS (f := 49) (n := 250) X w m4_49 rfl (n5s (n5r ezv11 hst) 1 (by decide)) dX7_readStatement_131 (fun zs131_4 H locs ezs131_4 w => ?_)
          have hp : PA zs131_4 := by rw [ezs131_4]; exact hp
          refine lv_aload_n hx hb dX7_readStatement_132 rfl (lv_at hl 2 rfl) ?_
          refine gf7_274 X w dX7_readStatement_133 ?_
          refine topeq (show zs131_4 0 45 = zs106_2 0 45 from by rw [ezs131_4]; rfl) ?_
          refine lv_if_ne (tgt := 255) hx hb dX7_readStatement_136 (by decide) (fun _ => ?_) (fun zc136 => absurd zc136 zc120)
          refine lv_aload_n hx hb dX7_readStatement_255 rfl (lv_at hl 2 rfl) ?_
          refine gf7_274 X w dX7_readStatement_256 ?_
          refine topeq (show zs131_4 0 45 = zs106_2 0 45 from by rw [ezs131_4]; rfl) ?_
          refine lv_if_ne (tgt := 328) hx hb dX7_readStatement_259 (by decide) (fun _ => ?_) (fun zc259 => absurd zc259 zc120)
          refine lv_aload_n hx hb dX7_readStatement_328 rfl (lv_at hl 2 rfl) ?_
          refine gf7_274 X w dX7_readStatement_329 ?_
          refine topeq (show zs131_4 0 45 = zs106_2 0 45 from by rw [ezs131_4]; rfl) ?_
          change W _ _ _ _ _ _ _ _ _ _ _ _ _ _ _ (F0 m 332 ls _)
          refine lv_if_ne (tgt := 443) hx hb dX7_readStatement_332 (by decide) (fun _ => ?_) (fun zc332 => absurd zc332 zc120)
          refine lv_aload_n hx hb dX7_readStatement_443 rfl (lv_at hl 2 rfl) ?_
          refine lv_aload_n hx hb dX7_readStatement_444 rfl (lv_at hl 2 rfl) ?_
          refine k_i (rr_v (rest := [.ref (aa G 4 0)]) X w mX7_here kw1094 (c_X7_here (by assumption)) m4_0 rfl rfl ⟨Nat.le_of_ble_eq_true rfl, Nat.le_of_ble_eq_true rfl⟩ rfl hl.1 rfl (Nat.le_of_ble_eq_true rfl) dX7_readStatement_445 ⟨Nat.zero_le _, Nat.zero_le _⟩) w (fun H locs w => ?_)
          refine lv_bipush (v := 59) hx hb dX7_readStatement_448 (by decide) ?_
          refine lv_icmp_ne (tgt := 457) hx hb dX7_readStatement_450 (by decide) (fun zc450 => ?_) (fun zc450 => ?_)
          · -- 457
            refine lv_iconst (v := 0) hx hb dX7_readStatement_457 (by decide) ?_
            refine k_v (rr_v (rest := []) X w mX7_takeSign kw1098 (c_X7_takeSign 0) m4_0 rfl rfl ⟨Nat.le_of_ble_eq_true rfl, Nat.le_of_ble_eq_true rfl⟩ rfl hl.1 rfl (Nat.le_of_ble_eq_true rfl) dX7_readStatement_458 ⟨Nat.zero_le _, Nat.zero_le _⟩) w (fun H locs w => ?_)
            obtain ⟨zs458_13, ezs458_13⟩ : ∃ y : Gr, y = g_X7_takeSign zs131_4 0 := ⟨_, rfl⟩; rw [← ezs458_13] at w
            have hp : PA zs458_13 := by rw [ezs458_13]; first | exact takeSign_PA hp (fun q => absurd rfl q) | exact takeSign_PA hp (fun _ => here_c zc450 (by decide))
            refine lv_aload_n hx hb dX7_readStatement_461 rfl (lv_at hl 2 rfl) ?_
            refine lv_dup hx hb dX7_readStatement_462 rfl ?_
            refine gf7_292 X w dX7_readStatement_463 ?_
            refine lv_iconst (v := 1) hx hb dX7_readStatement_466 (by decide) ?_
            refine lv_iadd hx hb dX7_readStatement_467 ?_
            refine pf7_292 X w dX7_readStatement_468 (fun zs468_13 H locs ezs468_13 w => ?_)
            have hp : PA zs468_13 := by rw [ezs468_13]; exact hp
            exact t_v X w hr hlk dX7_readStatement_471 (by replace ezs468_13 := ezs468_13.symm; subst ezs468_13; replace ezs458_13 := ezs458_13.symm; subst ezs458_13; replace ezs131_4 := ezs131_4.symm; subst ezs131_4; replace ezs106_2 := ezs106_2.symm; subst ezs106_2; replace ezs90 := ezs90.symm; subst ezs90; replace ezs87 := ezs87.symm; subst ezs87; replace ezs65 := ezs65.symm; subst ezs65; replace ezs34 := ezs34.symm; subst ezs34; replace ezs24 := ezs24.symm; subst ezs24; replace ezv11 := ezv11.symm; subst ezv11; replace ezv4 := ezv4.symm; subst ezv4; simp only [g_X7_readStatement, if_pos zc39, if_pos zc72, if_pos zc98, if_neg zc120, if_neg zc450])
          · -- 453
            refine lv_iconst (v := 1) hx hb dX7_readStatement_453 (by decide) ?_
            refine lv_goto (tgt := 458) hx hb dX7_readStatement_454 (by decide) ?_
            refine k_v (rr_v (rest := []) X w mX7_takeSign kw1098 (c_X7_takeSign 1) m4_0 rfl rfl ⟨Nat.le_of_ble_eq_true rfl, Nat.le_of_ble_eq_true rfl⟩ rfl hl.1 rfl (Nat.le_of_ble_eq_true rfl) dX7_readStatement_458 ⟨Nat.zero_le _, Nat.zero_le _⟩) w (fun H locs w => ?_)
            obtain ⟨zs458_14, ezs458_14⟩ : ∃ y : Gr, y = g_X7_takeSign zs131_4 1 := ⟨_, rfl⟩; rw [← ezs458_14] at w
            have hp : PA zs458_14 := by rw [ezs458_14]; first | exact takeSign_PA hp (fun q => absurd rfl q) | exact takeSign_PA hp (fun _ => here_c zc450 (by decide))
            refine lv_aload_n hx hb dX7_readStatement_461 rfl (lv_at hl 2 rfl) ?_
            refine lv_dup hx hb dX7_readStatement_462 rfl ?_
            refine gf7_292 X w dX7_readStatement_463 ?_
            refine lv_iconst (v := 1) hx hb dX7_readStatement_466 (by decide) ?_
            refine lv_iadd hx hb dX7_readStatement_467 ?_
            refine pf7_292 X w dX7_readStatement_468 (fun zs468_14 H locs ezs468_14 w => ?_)
            have hp : PA zs468_14 := by rw [ezs468_14]; exact hp
            exact t_v X w hr hlk dX7_readStatement_471 (by replace ezs468_14 := ezs468_14.symm; subst ezs468_14; replace ezs458_14 := ezs458_14.symm; subst ezs458_14; replace ezs131_4 := ezs131_4.symm; subst ezs131_4; replace ezs106_2 := ezs106_2.symm; subst ezs106_2; replace ezs90 := ezs90.symm; subst ezs90; replace ezs87 := ezs87.symm; subst ezs87; replace ezs65 := ezs65.symm; subst ezs65; replace ezs34 := ezs34.symm; subst ezs34; replace ezs24 := ezs24.symm; subst ezs24; replace ezv11 := ezv11.symm; subst ezv11; replace ezv4 := ezv4.symm; subst ezv4; simp only [g_X7_readStatement, if_pos zc39, if_pos zc72, if_pos zc98, if_neg zc120, if_pos zc450])
  · -- 42
    refine lv_iload_n hx hb dX7_readStatement_42 rfl (lv_at hl 1 rfl) ?_
    refine lv_bipush (v := 119) hx hb dX7_readStatement_43 (by decide) ?_
    refine lv_icmp_eq (tgt := 60) hx hb dX7_readStatement_45 (by decide) (fun zc45 => ?_) (fun zc45 => ?_)
    · -- 60
      refine lv_iconst (v := 1) hx hb dX7_readStatement_60 (by decide) ?_
      refine lv_goto (tgt := 65) hx hb dX7_readStatement_61 (by decide) ?_
      refine k_v (rr_v (rest := []) X w mX7_takeSign kw1098 (c_X7_takeSign 1) m4_0 rfl rfl ⟨Nat.le_of_ble_eq_true rfl, Nat.le_of_ble_eq_true rfl⟩ rfl hl.1 rfl (Nat.le_of_ble_eq_true rfl) dX7_readStatement_65 ⟨Nat.zero_le _, Nat.zero_le _⟩) w (fun H locs w => ?_)
      obtain ⟨zs65_2, ezs65_2⟩ : ∃ y : Gr, y = g_X7_takeSign zs34 1 := ⟨_, rfl⟩; rw [← ezs65_2] at w
      have hp : PA zs65_2 := by rw [ezs65_2]; first | exact takeSign_PA hp (fun q => absurd rfl q) | exact takeSign_PA hp (fun _ => hlt (by rw [zc39]; decide)) | exact takeSign_PA hp (fun _ => hlt (by rw [zc45]; decide)) | exact takeSign_PA hp (fun _ => hlt (by rw [zc51]; decide)) | exact takeSign_PA hp (fun _ => hlt (by rw [zc57]; decide))
      refine lv_aload_n hx hb dX7_readStatement_68 rfl (lv_at hl 2 rfl) ?_
      refine gf7_274 X w dX7_readStatement_69 ?_
      refine lv_if_ne (tgt := 132) hx hb dX7_readStatement_72 (by decide) (fun zc72 => ?_) (fun zc72 => ?_)
      · -- 132
        refine lv_aload_n hx hb dX7_readStatement_132 rfl (lv_at hl 2 rfl) ?_
        refine gf7_274 X w dX7_readStatement_133 ?_
        refine lv_if_ne (tgt := 255) hx hb dX7_readStatement_136 (by decide) (fun _ => ?_) (fun zc136 => absurd zc136 zc72)
        refine lv_aload_n hx hb dX7_readStatement_255 rfl (lv_at hl 2 rfl) ?_
        refine gf7_274 X w dX7_readStatement_256 ?_
        refine lv_if_ne (tgt := 328) hx hb dX7_readStatement_259 (by decide) (fun _ => ?_) (fun zc259 => absurd zc259 zc72)
        refine lv_aload_n hx hb dX7_readStatement_328 rfl (lv_at hl 2 rfl) ?_
        refine gf7_274 X w dX7_readStatement_329 ?_
        refine lv_if_ne (tgt := 443) hx hb dX7_readStatement_332 (by decide) (fun _ => ?_) (fun zc332 => absurd zc332 zc72)
        refine lv_aload_n hx hb dX7_readStatement_443 rfl (lv_at hl 2 rfl) ?_
        refine lv_aload_n hx hb dX7_readStatement_444 rfl (lv_at hl 2 rfl) ?_
        change W _ _ _ _ _ _ _ _ _ _ _ _ _ _ _ (F0 m 445 ls _)
        refine k_i (rr_v (rest := [.ref (aa G 4 0)]) X w mX7_here kw1094 (c_X7_here (by assumption)) m4_0 rfl rfl ⟨Nat.le_of_ble_eq_true rfl, Nat.le_of_ble_eq_true rfl⟩ rfl hl.1 rfl (Nat.le_of_ble_eq_true rfl) dX7_readStatement_445 ⟨Nat.zero_le _, Nat.zero_le _⟩) w (fun H locs w => ?_)
        refine lv_bipush (v := 59) hx hb dX7_readStatement_448 (by decide) ?_
        refine lv_icmp_ne (tgt := 457) hx hb dX7_readStatement_450 (by decide) (fun zc450 => ?_) (fun zc450 => ?_)
        · -- 457
          refine lv_iconst (v := 0) hx hb dX7_readStatement_457 (by decide) ?_
          refine k_v (rr_v (rest := []) X w mX7_takeSign kw1098 (c_X7_takeSign 0) m4_0 rfl rfl ⟨Nat.le_of_ble_eq_true rfl, Nat.le_of_ble_eq_true rfl⟩ rfl hl.1 rfl (Nat.le_of_ble_eq_true rfl) dX7_readStatement_458 ⟨Nat.zero_le _, Nat.zero_le _⟩) w (fun H locs w => ?_)
          obtain ⟨zs458_15, ezs458_15⟩ : ∃ y : Gr, y = g_X7_takeSign zs65_2 0 := ⟨_, rfl⟩; rw [← ezs458_15] at w
          have hp : PA zs458_15 := by rw [ezs458_15]; first | exact takeSign_PA hp (fun q => absurd rfl q) | exact takeSign_PA hp (fun _ => here_c zc450 (by decide))
          refine lv_aload_n hx hb dX7_readStatement_461 rfl (lv_at hl 2 rfl) ?_
          refine lv_dup hx hb dX7_readStatement_462 rfl ?_
          refine gf7_292 X w dX7_readStatement_463 ?_
          refine lv_iconst (v := 1) hx hb dX7_readStatement_466 (by decide) ?_
          refine lv_iadd hx hb dX7_readStatement_467 ?_
          refine pf7_292 X w dX7_readStatement_468 (fun zs468_15 H locs ezs468_15 w => ?_)
          have hp : PA zs468_15 := by rw [ezs468_15]; exact hp
          exact t_v X w hr hlk dX7_readStatement_471 (by replace ezs468_15 := ezs468_15.symm; subst ezs468_15; replace ezs458_15 := ezs458_15.symm; subst ezs458_15; replace ezs65_2 := ezs65_2.symm; subst ezs65_2; replace ezs34 := ezs34.symm; subst ezs34; replace ezs24 := ezs24.symm; subst ezs24; replace ezv11 := ezv11.symm; subst ezv11; replace ezv4 := ezv4.symm; subst ezv4; simp only [g_X7_readStatement, if_neg zc39, if_pos zc45, if_neg zc72, if_neg zc450])
        · -- 453
          refine lv_iconst (v := 1) hx hb dX7_readStatement_453 (by decide) ?_
          refine lv_goto (tgt := 458) hx hb dX7_readStatement_454 (by decide) ?_
          refine k_v (rr_v (rest := []) X w mX7_takeSign kw1098 (c_X7_takeSign 1) m4_0 rfl rfl ⟨Nat.le_of_ble_eq_true rfl, Nat.le_of_ble_eq_true rfl⟩ rfl hl.1 rfl (Nat.le_of_ble_eq_true rfl) dX7_readStatement_458 ⟨Nat.zero_le _, Nat.zero_le _⟩) w (fun H locs w => ?_)
          obtain ⟨zs458_16, ezs458_16⟩ : ∃ y : Gr, y = g_X7_takeSign zs65_2 1 := ⟨_, rfl⟩; rw [← ezs458_16] at w
          have hp : PA zs458_16 := by rw [ezs458_16]; first | exact takeSign_PA hp (fun q => absurd rfl q) | exact takeSign_PA hp (fun _ => here_c zc450 (by decide))
          refine lv_aload_n hx hb dX7_readStatement_461 rfl (lv_at hl 2 rfl) ?_
          refine lv_dup hx hb dX7_readStatement_462 rfl ?_
          refine gf7_292 X w dX7_readStatement_463 ?_
          refine lv_iconst (v := 1) hx hb dX7_readStatement_466 (by decide) ?_
          refine lv_iadd hx hb dX7_readStatement_467 ?_
          refine pf7_292 X w dX7_readStatement_468 (fun zs468_16 H locs ezs468_16 w => ?_)
          have hp : PA zs468_16 := by rw [ezs468_16]; exact hp
          exact t_v X w hr hlk dX7_readStatement_471 (by replace ezs468_16 := ezs468_16.symm; subst ezs468_16; replace ezs458_16 := ezs458_16.symm; subst ezs458_16; replace ezs65_2 := ezs65_2.symm; subst ezs65_2; replace ezs34 := ezs34.symm; subst ezs34; replace ezs24 := ezs24.symm; subst ezs24; replace ezv11 := ezv11.symm; subst ezv11; replace ezv4 := ezv4.symm; subst ezv4; simp only [g_X7_readStatement, if_neg zc39, if_pos zc45, if_neg zc72, if_pos zc450])
      · -- 75
        refine lv_iload_n hx hb dX7_readStatement_75 rfl (lv_at hl 1 rfl) ?_
        refine lv_bipush (v := 99) hx hb dX7_readStatement_76 (by decide) ?_
        refine lv_icmp_ne (tgt := 132) hx hb dX7_readStatement_78 (by decide) (fun _ => ?_) (fun zc78 => absurd zc78 zc39)
        refine lv_aload_n hx hb dX7_readStatement_132 rfl (lv_at hl 2 rfl) ?_
        refine gf7_274 X w dX7_readStatement_133 ?_
        refine lv_if_ne (tgt := 255) hx hb dX7_readStatement_136 (by decide) (fun zc136 => absurd zc72 zc136) (fun _ => ?_)
        refine lv_iload_n hx hb dX7_readStatement_139 rfl (lv_at hl 1 rfl) ?_
        refine lv_bipush (v := 119) hx hb dX7_readStatement_140 (by decide) ?_
        refine lv_icmp_ne (tgt := 255) hx hb dX7_readStatement_142 (by decide) (fun zc142 => absurd zc45 zc142) (fun _ => ?_)
        refine lv_aload_n hx hb dX7_readStatement_145 rfl (lv_at hl 2 rfl) ?_
        refine gf7_99 X w dX7_readStatement_146 ?_
        change W _ _ _ _ _ _ _ _ _ _ _ _ _ _ _ (F0 m 149 ls _)
        refine lv_iload_n hx hb dX7_readStatement_149 rfl (lv_at hl 0 rfl) ?_
        refine lv_aload_n hx hb dX7_readStatement_150 rfl (lv_at hl 2 rfl) ?_
        refine k_i (rr_v (rest := [.int zv11, .ref (aa G 4 49)]) X w mX7_readDigit kw1106 (c_X7_readDigit (by assumption)) m4_0 rfl rfl ⟨Nat.le_of_ble_eq_true rfl, Nat.le_of_ble_eq_true rfl⟩ rfl hl.1 rfl (Nat.le_of_ble_eq_true rfl) dX7_readStatement_151 ⟨Nat.zero_le _, Nat.zero_le _⟩) w (fun H locs w => ?_)
        obtain ⟨zs151, ezs151⟩ : ∃ y : Gr, y = g_X7_readDigit zs65_2 := ⟨_, rfl⟩; rw [← ezs151] at w
        have hp : PA zs151 := by rw [ezs151]; exact readDigit_PA hp
        refine iS (f := 49) (n := 250) X w m4_49 rfl (rg.v (n5r ezv11 hst) (by decide) (by decide)) dX7_readStatement_154 (fun zs154 H locs ezs154 w => ?_)
        have hp : PA zs154 := by rw [ezs154]; exact hp
        refine lv_aload_n hx hb dX7_readStatement_155 rfl (lv_at hl 2 rfl) ?_
        refine gf7_99 X w dX7_readStatement_156 ?_
        refine lv_iload_n hx hb dX7_readStatement_159 rfl (lv_at hl 0 rfl) ?_
        refine lv_iconst (v := 1) hx hb dX7_readStatement_160 (by decide) ?_
        refine lv_iadd hx hb dX7_readStatement_161 ?_
        refine lv_aload_n hx hb dX7_readStatement_162 rfl (lv_at hl 2 rfl) ?_
        refine gf7_274 X w dX7_readStatement_163 ?_
        refine topeq (show zs154 0 45 = zs151 0 45 from by rw [ezs154]; rfl) ?_
        refine lv_if_eq (tgt := 173) hx hb dX7_readStatement_166 (by decide) (fun zc166 => ?_) (fun zc166 => ?_)
        · -- 173
          refine lv_aload_n hx hb dX7_readStatement_173 rfl (lv_at hl 2 rfl) ?_
          refine k_i (rr_v (rest := [.int (zv11 + 1), .ref (aa G 4 49)]) X w mX7_readDigit kw1106 (c_X7_readDigit (by assumption)) m4_0 rfl rfl ⟨Nat.le_of_ble_eq_true rfl, Nat.le_of_ble_eq_true rfl⟩ rfl hl.1 rfl (Nat.le_of_ble_eq_true rfl) dX7_readStatement_174 ⟨Nat.zero_le _, Nat.zero_le _⟩) w (fun H locs w => ?_)
          obtain ⟨zs174, ezs174⟩ : ∃ y : Gr, y = g_X7_readDigit zs154 := ⟨_, rfl⟩; rw [← ezs174] at w
          have hp : PA zs174 := by rw [ezs174]; exact readDigit_PA hp
          refine iS (f := 49) (n := 250) X w m4_49 rfl (n5s (n5r ezv11 hst) 1 (by decide)) dX7_readStatement_177 (fun zs177 H locs ezs177 w => ?_)
          have hp : PA zs177 := by rw [ezs177]; exact hp
          refine lv_aload_n hx hb dX7_readStatement_178 rfl (lv_at hl 2 rfl) ?_
          refine gf7_99 X w dX7_readStatement_179 ?_
          refine lv_iload_n hx hb dX7_readStatement_182 rfl (lv_at hl 0 rfl) ?_
          refine lv_iconst (v := 2) hx hb dX7_readStatement_183 (by decide) ?_
          refine lv_iadd hx hb dX7_readStatement_184 ?_
          refine lv_aload_n hx hb dX7_readStatement_185 rfl (lv_at hl 2 rfl) ?_
          refine gf7_274 X w dX7_readStatement_186 ?_
          refine topeq (show zs177 0 45 = zs174 0 45 from by rw [ezs177]; rfl) ?_
          refine lv_if_eq (tgt := 196) hx hb dX7_readStatement_189 (by decide) (fun zc189 => ?_) (fun zc189 => ?_)
          · -- 196
            refine lv_aload_n hx hb dX7_readStatement_196 rfl (lv_at hl 2 rfl) ?_
            refine lv_bipush (v := 115) hx hb dX7_readStatement_197 (by decide) ?_
            refine lv_bipush (v := 110) hx hb dX7_readStatement_199 (by decide) ?_
            refine k_i (rr_v (rest := [.int (zv11 + 2), .ref (aa G 4 49)]) X w mX7_readOf kw1112 (c_X7_readOf 115 110 (by assumption)) m4_0 rfl rfl ⟨Nat.le_of_ble_eq_true rfl, Nat.le_of_ble_eq_true rfl⟩ rfl hl.1 rfl (Nat.le_of_ble_eq_true rfl) dX7_readStatement_201 ⟨Nat.zero_le _, Nat.zero_le _⟩) w (fun H locs w => ?_)
            obtain ⟨zs201, ezs201⟩ : ∃ y : Gr, y = g_X7_readOf zs177 115 110 := ⟨_, rfl⟩; rw [← ezs201] at w
            have hp : PA zs201 := by rw [ezs201]; exact readOf_PA hp (by decide) (by decide)
            refine iS (f := 49) (n := 250) X w m4_49 rfl (n5s (n5r ezv11 hst) 2 (by decide)) dX7_readStatement_204 (fun zs204 H locs ezs204 w => ?_)
            have hp : PA zs204 := by rw [ezs204]; exact hp
            refine lv_aload_n hx hb dX7_readStatement_205 rfl (lv_at hl 2 rfl) ?_
            refine gf7_99 X w dX7_readStatement_206 ?_
            refine lv_iload_n hx hb dX7_readStatement_209 rfl (lv_at hl 0 rfl) ?_
            refine lv_iconst (v := 3) hx hb dX7_readStatement_210 (by decide) ?_
            refine lv_iadd hx hb dX7_readStatement_211 ?_
            refine lv_aload_n hx hb dX7_readStatement_212 rfl (lv_at hl 2 rfl) ?_
            change W _ _ _ _ _ _ _ _ _ _ _ _ _ _ _ (F0 m 213 ls _)
            refine gf7_274 X w dX7_readStatement_213 ?_
            refine topeq (show zs204 0 45 = zs201 0 45 from by rw [ezs204]; rfl) ?_
            refine lv_if_eq (tgt := 223) hx hb dX7_readStatement_216 (by decide) (fun zc216 => ?_) (fun zc216 => ?_)
            · -- 223
              refine lv_aload_n hx hb dX7_readStatement_223 rfl (lv_at hl 2 rfl) ?_
              refine lv_bipush (v := 83) hx hb dX7_readStatement_224 (by decide) ?_
              refine lv_bipush (v := 77) hx hb dX7_readStatement_226 (by decide) ?_
              refine k_i (rr_v (rest := [.int (zv11 + 3), .ref (aa G 4 49)]) X w mX7_readOf kw1112 (c_X7_readOf 83 77 (by assumption)) m4_0 rfl rfl ⟨Nat.le_of_ble_eq_true rfl, Nat.le_of_ble_eq_true rfl⟩ rfl hl.1 rfl (Nat.le_of_ble_eq_true rfl) dX7_readStatement_228 ⟨Nat.zero_le _, Nat.zero_le _⟩) w (fun H locs w => ?_)
              obtain ⟨zs228, ezs228⟩ : ∃ y : Gr, y = g_X7_readOf zs204 83 77 := ⟨_, rfl⟩; rw [← ezs228] at w
              have hp : PA zs228 := by rw [ezs228]; exact readOf_PA hp (by decide) (by decide)
              refine iS (f := 49) (n := 250) X w m4_49 rfl (n5s (n5r ezv11 hst) 3 (by decide)) dX7_readStatement_231 (fun zs231 H locs ezs231 w => ?_)
              have hp : PA zs231 := by rw [ezs231]; exact hp
              refine lv_aload_n hx hb dX7_readStatement_232 rfl (lv_at hl 2 rfl) ?_
              refine gf7_99 X w dX7_readStatement_233 ?_
              refine lv_iload_n hx hb dX7_readStatement_236 rfl (lv_at hl 0 rfl) ?_
              refine lv_iconst (v := 4) hx hb dX7_readStatement_237 (by decide) ?_
              refine lv_iadd hx hb dX7_readStatement_238 ?_
              refine lv_aload_n hx hb dX7_readStatement_239 rfl (lv_at hl 2 rfl) ?_
              change W _ _ _ _ _ _ _ _ _ _ _ _ _ _ _ (F0 m 240 ls _)
              refine gf7_274 X w dX7_readStatement_240 ?_
              refine topeq (show zs231 0 45 = zs228 0 45 from by rw [ezs231]; rfl) ?_
              refine lv_if_eq (tgt := 250) hx hb dX7_readStatement_243 (by decide) (fun zc243 => ?_) (fun zc243 => ?_)
              · -- 250
                refine lv_aload_n hx hb dX7_readStatement_250 rfl (lv_at hl 2 rfl) ?_
                refine k_i (rr_v (rest := [.int (zv11 + 4), .ref (aa G 4 49)]) X w mX7_readNumber kw1102 (c_X7_readNumber (by assumption)) m4_0 rfl rfl ⟨Nat.le_of_ble_eq_true rfl, Nat.le_of_ble_eq_true rfl⟩ rfl hl.1 rfl (Nat.le_of_ble_eq_true rfl) dX7_readStatement_251 ⟨Nat.zero_le _, Nat.zero_le _⟩) w (fun H locs w => ?_)
                obtain ⟨zs251, ezs251⟩ : ∃ y : Gr, y = g_X7_readNumber zs231 := ⟨_, rfl⟩; rw [← ezs251] at w
                have hp : PA zs251 := by rw [ezs251]; exact readNumber_PA hp
                refine iS (f := 49) (n := 250) X w m4_49 rfl (n5s (n5r ezv11 hst) 4 (by decide)) dX7_readStatement_254 (fun zs254 H locs ezs254 w => ?_)
                have hp : PA zs254 := by rw [ezs254]; exact hp
                refine lv_aload_n hx hb dX7_readStatement_255 rfl (lv_at hl 2 rfl) ?_
                refine gf7_274 X w dX7_readStatement_256 ?_
                refine topeq (show zs254 0 45 = zs251 0 45 from by rw [ezs254]; rfl) ?_
                refine lv_if_ne (tgt := 328) hx hb dX7_readStatement_259 (by decide) (fun zc259 => ?_) (fun zc259 => ?_)
                · -- 328
                  refine lv_aload_n hx hb dX7_readStatement_328 rfl (lv_at hl 2 rfl) ?_
                  refine gf7_274 X w dX7_readStatement_329 ?_
                  refine topeq (show zs254 0 45 = zs251 0 45 from by rw [ezs254]; rfl) ?_
                  refine lv_if_ne (tgt := 443) hx hb dX7_readStatement_332 (by decide) (fun _ => ?_) (fun zc332 => absurd zc332 zc259)
                  refine lv_aload_n hx hb dX7_readStatement_443 rfl (lv_at hl 2 rfl) ?_
                  refine lv_aload_n hx hb dX7_readStatement_444 rfl (lv_at hl 2 rfl) ?_
                  refine k_i (rr_v (rest := [.ref (aa G 4 0)]) X w mX7_here kw1094 (c_X7_here (by assumption)) m4_0 rfl rfl ⟨Nat.le_of_ble_eq_true rfl, Nat.le_of_ble_eq_true rfl⟩ rfl hl.1 rfl (Nat.le_of_ble_eq_true rfl) dX7_readStatement_445 ⟨Nat.zero_le _, Nat.zero_le _⟩) w (fun H locs w => ?_)
                  refine lv_bipush (v := 59) hx hb dX7_readStatement_448 (by decide) ?_
                  refine lv_icmp_ne (tgt := 457) hx hb dX7_readStatement_450 (by decide) (fun zc450 => ?_) (fun zc450 => ?_)
                  · -- 457
                    refine lv_iconst (v := 0) hx hb dX7_readStatement_457 (by decide) ?_
                    refine k_v (rr_v (rest := []) X w mX7_takeSign kw1098 (c_X7_takeSign 0) m4_0 rfl rfl ⟨Nat.le_of_ble_eq_true rfl, Nat.le_of_ble_eq_true rfl⟩ rfl hl.1 rfl (Nat.le_of_ble_eq_true rfl) dX7_readStatement_458 ⟨Nat.zero_le _, Nat.zero_le _⟩) w (fun H locs w => ?_)
                    obtain ⟨zs458_17, ezs458_17⟩ : ∃ y : Gr, y = g_X7_takeSign zs254 0 := ⟨_, rfl⟩; rw [← ezs458_17] at w
                    have hp : PA zs458_17 := by rw [ezs458_17]; first | exact takeSign_PA hp (fun q => absurd rfl q) | exact takeSign_PA hp (fun _ => here_c zc450 (by decide))
                    refine lv_aload_n hx hb dX7_readStatement_461 rfl (lv_at hl 2 rfl) ?_
                    refine lv_dup hx hb dX7_readStatement_462 rfl ?_
                    refine gf7_292 X w dX7_readStatement_463 ?_
                    refine lv_iconst (v := 1) hx hb dX7_readStatement_466 (by decide) ?_
                    refine lv_iadd hx hb dX7_readStatement_467 ?_
                    refine pf7_292 X w dX7_readStatement_468 (fun zs468_17 H locs ezs468_17 w => ?_)
                    have hp : PA zs468_17 := by rw [ezs468_17]; exact hp
                    exact t_v X w hr hlk dX7_readStatement_471 (by replace ezs468_17 := ezs468_17.symm; subst ezs468_17; replace ezs458_17 := ezs458_17.symm; subst ezs458_17; replace ezs254 := ezs254.symm; subst ezs254; replace ezs251 := ezs251.symm; subst ezs251; replace ezs231 := ezs231.symm; subst ezs231; replace ezs228 := ezs228.symm; subst ezs228; replace ezs204 := ezs204.symm; subst ezs204; replace ezs201 := ezs201.symm; subst ezs201; replace ezs177 := ezs177.symm; subst ezs177; replace ezs174 := ezs174.symm; subst ezs174; replace ezs154 := ezs154.symm; subst ezs154; replace ezs151 := ezs151.symm; subst ezs151; replace ezs65_2 := ezs65_2.symm; subst ezs65_2; replace ezs34 := ezs34.symm; subst ezs34; replace ezs24 := ezs24.symm; subst ezs24; replace ezv11 := ezv11.symm; subst ezv11; replace ezv4 := ezv4.symm; subst ezv4; simp only [g_X7_readStatement, if_neg zc39, if_pos zc45, if_pos zc72, if_pos zc166, if_pos zc189, if_pos zc216, if_pos zc243, if_neg zc259, if_neg zc450])
                  · -- 453
                    refine lv_iconst (v := 1) hx hb dX7_readStatement_453 (by decide) ?_
                    refine lv_goto (tgt := 458) hx hb dX7_readStatement_454 (by decide) ?_
                    refine k_v (rr_v (rest := []) X w mX7_takeSign kw1098 (c_X7_takeSign 1) m4_0 rfl rfl ⟨Nat.le_of_ble_eq_true rfl, Nat.le_of_ble_eq_true rfl⟩ rfl hl.1 rfl (Nat.le_of_ble_eq_true rfl) dX7_readStatement_458 ⟨Nat.zero_le _, Nat.zero_le _⟩) w (fun H locs w => ?_)
                    obtain ⟨zs458_18, ezs458_18⟩ : ∃ y : Gr, y = g_X7_takeSign zs254 1 := ⟨_, rfl⟩; rw [← ezs458_18] at w
                    have hp : PA zs458_18 := by rw [ezs458_18]; first | exact takeSign_PA hp (fun q => absurd rfl q) | exact takeSign_PA hp (fun _ => here_c zc450 (by decide))
                    refine lv_aload_n hx hb dX7_readStatement_461 rfl (lv_at hl 2 rfl) ?_
                    refine lv_dup hx hb dX7_readStatement_462 rfl ?_
                    refine gf7_292 X w dX7_readStatement_463 ?_
                    refine lv_iconst (v := 1) hx hb dX7_readStatement_466 (by decide) ?_
                    refine lv_iadd hx hb dX7_readStatement_467 ?_
                    refine pf7_292 X w dX7_readStatement_468 (fun zs468_18 H locs ezs468_18 w => ?_)
                    have hp : PA zs468_18 := by rw [ezs468_18]; exact hp
                    exact t_v X w hr hlk dX7_readStatement_471 (by replace ezs468_18 := ezs468_18.symm; subst ezs468_18; replace ezs458_18 := ezs458_18.symm; subst ezs458_18; replace ezs254 := ezs254.symm; subst ezs254; replace ezs251 := ezs251.symm; subst ezs251; replace ezs231 := ezs231.symm; subst ezs231; replace ezs228 := ezs228.symm; subst ezs228; replace ezs204 := ezs204.symm; subst ezs204; replace ezs201 := ezs201.symm; subst ezs201; replace ezs177 := ezs177.symm; subst ezs177; replace ezs174 := ezs174.symm; subst ezs174; replace ezs154 := ezs154.symm; subst ezs154; replace ezs151 := ezs151.symm; subst ezs151; replace ezs65_2 := ezs65_2.symm; subst ezs65_2; replace ezs34 := ezs34.symm; subst ezs34; replace ezs24 := ezs24.symm; subst ezs24; replace ezv11 := ezv11.symm; subst ezv11; replace ezv4 := ezv4.symm; subst ezv4; simp only [g_X7_readStatement, if_neg zc39, if_pos zc45, if_pos zc72, if_pos zc166, if_pos zc189, if_pos zc216, if_pos zc243, if_neg zc259, if_pos zc450])
                · -- 262
                  refine lv_iload_n hx hb dX7_readStatement_262 rfl (lv_at hl 1 rfl) ?_
                  refine lv_bipush (v := 114) hx hb dX7_readStatement_263 (by decide) ?_
                  refine lv_icmp_ne (tgt := 328) hx hb dX7_readStatement_265 (by decide) (fun _ => ?_) (fun zc265 => absurd zc265 (by rw [zc45]; decide))
                  refine lv_aload_n hx hb dX7_readStatement_328 rfl (lv_at hl 2 rfl) ?_
                  refine gf7_274 X w dX7_readStatement_329 ?_
                  refine topeq (show zs254 0 45 = zs251 0 45 from by rw [ezs254]; rfl) ?_
                  refine lv_if_ne (tgt := 443) hx hb dX7_readStatement_332 (by decide) (fun zc332 => absurd zc259 zc332) (fun _ => ?_)
                  refine lv_iload_n hx hb dX7_readStatement_335 rfl (lv_at hl 1 rfl) ?_
                  refine lv_bipush (v := 109) hx hb dX7_readStatement_336 (by decide) ?_
                  refine lv_icmp_ne (tgt := 443) hx hb dX7_readStatement_338 (by decide) (fun _ => ?_) (fun zc338 => absurd zc338 (by rw [zc45]; decide))
                  refine lv_aload_n hx hb dX7_readStatement_443 rfl (lv_at hl 2 rfl) ?_
                  refine lv_aload_n hx hb dX7_readStatement_444 rfl (lv_at hl 2 rfl) ?_
                  change W _ _ _ _ _ _ _ _ _ _ _ _ _ _ _ (F0 m 445 ls _)
                  refine k_i (rr_v (rest := [.ref (aa G 4 0)]) X w mX7_here kw1094 (c_X7_here (by assumption)) m4_0 rfl rfl ⟨Nat.le_of_ble_eq_true rfl, Nat.le_of_ble_eq_true rfl⟩ rfl hl.1 rfl (Nat.le_of_ble_eq_true rfl) dX7_readStatement_445 ⟨Nat.zero_le _, Nat.zero_le _⟩) w (fun H locs w => ?_)
                  refine lv_bipush (v := 59) hx hb dX7_readStatement_448 (by decide) ?_
                  refine lv_icmp_ne (tgt := 457) hx hb dX7_readStatement_450 (by decide) (fun zc450 => ?_) (fun zc450 => ?_)
                  · -- 457
                    refine lv_iconst (v := 0) hx hb dX7_readStatement_457 (by decide) ?_
                    refine k_v (rr_v (rest := []) X w mX7_takeSign kw1098 (c_X7_takeSign 0) m4_0 rfl rfl ⟨Nat.le_of_ble_eq_true rfl, Nat.le_of_ble_eq_true rfl⟩ rfl hl.1 rfl (Nat.le_of_ble_eq_true rfl) dX7_readStatement_458 ⟨Nat.zero_le _, Nat.zero_le _⟩) w (fun H locs w => ?_)
                    obtain ⟨zs458_19, ezs458_19⟩ : ∃ y : Gr, y = g_X7_takeSign zs254 0 := ⟨_, rfl⟩; rw [← ezs458_19] at w
                    have hp : PA zs458_19 := by rw [ezs458_19]; first | exact takeSign_PA hp (fun q => absurd rfl q) | exact takeSign_PA hp (fun _ => here_c zc450 (by decide))
                    refine lv_aload_n hx hb dX7_readStatement_461 rfl (lv_at hl 2 rfl) ?_
                    refine lv_dup hx hb dX7_readStatement_462 rfl ?_
                    refine gf7_292 X w dX7_readStatement_463 ?_
                    refine lv_iconst (v := 1) hx hb dX7_readStatement_466 (by decide) ?_
                    refine lv_iadd hx hb dX7_readStatement_467 ?_
                    refine pf7_292 X w dX7_readStatement_468 (fun zs468_19 H locs ezs468_19 w => ?_)
                    have hp : PA zs468_19 := by rw [ezs468_19]; exact hp
                    exact t_v X w hr hlk dX7_readStatement_471 (by replace ezs468_19 := ezs468_19.symm; subst ezs468_19; replace ezs458_19 := ezs458_19.symm; subst ezs458_19; replace ezs254 := ezs254.symm; subst ezs254; replace ezs251 := ezs251.symm; subst ezs251; replace ezs231 := ezs231.symm; subst ezs231; replace ezs228 := ezs228.symm; subst ezs228; replace ezs204 := ezs204.symm; subst ezs204; replace ezs201 := ezs201.symm; subst ezs201; replace ezs177 := ezs177.symm; subst ezs177; replace ezs174 := ezs174.symm; subst ezs174; replace ezs154 := ezs154.symm; subst ezs154; replace ezs151 := ezs151.symm; subst ezs151; replace ezs65_2 := ezs65_2.symm; subst ezs65_2; replace ezs34 := ezs34.symm; subst ezs34; replace ezs24 := ezs24.symm; subst ezs24; replace ezv11 := ezv11.symm; subst ezv11; replace ezv4 := ezv4.symm; subst ezv4; simp only [g_X7_readStatement, if_neg zc39, if_pos zc45, if_pos zc72, if_pos zc166, if_pos zc189, if_pos zc216, if_pos zc243, if_pos zc259, if_neg zc450])
                  · -- 453
                    refine lv_iconst (v := 1) hx hb dX7_readStatement_453 (by decide) ?_
                    refine lv_goto (tgt := 458) hx hb dX7_readStatement_454 (by decide) ?_
                    refine k_v (rr_v (rest := []) X w mX7_takeSign kw1098 (c_X7_takeSign 1) m4_0 rfl rfl ⟨Nat.le_of_ble_eq_true rfl, Nat.le_of_ble_eq_true rfl⟩ rfl hl.1 rfl (Nat.le_of_ble_eq_true rfl) dX7_readStatement_458 ⟨Nat.zero_le _, Nat.zero_le _⟩) w (fun H locs w => ?_)
                    obtain ⟨zs458_20, ezs458_20⟩ : ∃ y : Gr, y = g_X7_takeSign zs254 1 := ⟨_, rfl⟩; rw [← ezs458_20] at w
                    have hp : PA zs458_20 := by rw [ezs458_20]; first | exact takeSign_PA hp (fun q => absurd rfl q) | exact takeSign_PA hp (fun _ => here_c zc450 (by decide))
                    refine lv_aload_n hx hb dX7_readStatement_461 rfl (lv_at hl 2 rfl) ?_
                    refine lv_dup hx hb dX7_readStatement_462 rfl ?_
                    refine gf7_292 X w dX7_readStatement_463 ?_
                    refine lv_iconst (v := 1) hx hb dX7_readStatement_466 (by decide) ?_
                    refine lv_iadd hx hb dX7_readStatement_467 ?_
                    refine pf7_292 X w dX7_readStatement_468 (fun zs468_20 H locs ezs468_20 w => ?_)
                    have hp : PA zs468_20 := by rw [ezs468_20]; exact hp
                    exact t_v X w hr hlk dX7_readStatement_471 (by replace ezs468_20 := ezs468_20.symm; subst ezs468_20; replace ezs458_20 := ezs458_20.symm; subst ezs458_20; replace ezs254 := ezs254.symm; subst ezs254; replace ezs251 := ezs251.symm; subst ezs251; replace ezs231 := ezs231.symm; subst ezs231; replace ezs228 := ezs228.symm; subst ezs228; replace ezs204 := ezs204.symm; subst ezs204; replace ezs201 := ezs201.symm; subst ezs201; replace ezs177 := ezs177.symm; subst ezs177; replace ezs174 := ezs174.symm; subst ezs174; replace ezs154 := ezs154.symm; subst ezs154; replace ezs151 := ezs151.symm; subst ezs151; replace ezs65_2 := ezs65_2.symm; subst ezs65_2; replace ezs34 := ezs34.symm; subst ezs34; replace ezs24 := ezs24.symm; subst ezs24; replace ezv11 := ezv11.symm; subst ezv11; replace ezv4 := ezv4.symm; subst ezv4; simp only [g_X7_readStatement, if_neg zc39, if_pos zc45, if_pos zc72, if_pos zc166, if_pos zc189, if_pos zc216, if_pos zc243, if_pos zc259, if_pos zc450])
              · -- 246
                refine lv_iconst (v := 0) hx hb dX7_readStatement_246 (by decide) ?_
                refine lv_goto (tgt := 254) hx hb dX7_readStatement_247 (by decide) ?_
                refine iS (f := 49) (n := 250) X w m4_49 rfl (n5s (n5r ezv11 hst) 4 (by decide)) dX7_readStatement_254 (fun zs254_2 H locs ezs254_2 w => ?_)
                have hp : PA zs254_2 := by rw [ezs254_2]; exact hp
                refine lv_aload_n hx hb dX7_readStatement_255 rfl (lv_at hl 2 rfl) ?_
                refine gf7_274 X w dX7_readStatement_256 ?_
                refine topeq (show zs254_2 0 45 = zs228 0 45 from by rw [ezs254_2, ezs231]; rfl) ?_
                refine lv_if_ne (tgt := 328) hx hb dX7_readStatement_259 (by decide) (fun _ => ?_) (fun zc259 => absurd zc259 zc243)
                refine lv_aload_n hx hb dX7_readStatement_328 rfl (lv_at hl 2 rfl) ?_
                refine gf7_274 X w dX7_readStatement_329 ?_
                refine topeq (show zs254_2 0 45 = zs228 0 45 from by rw [ezs254_2, ezs231]; rfl) ?_
                refine lv_if_ne (tgt := 443) hx hb dX7_readStatement_332 (by decide) (fun _ => ?_) (fun zc332 => absurd zc332 zc243)
                refine lv_aload_n hx hb dX7_readStatement_443 rfl (lv_at hl 2 rfl) ?_
                refine lv_aload_n hx hb dX7_readStatement_444 rfl (lv_at hl 2 rfl) ?_
                change W _ _ _ _ _ _ _ _ _ _ _ _ _ _ _ (F0 m 445 ls _)
                refine k_i (rr_v (rest := [.ref (aa G 4 0)]) X w mX7_here kw1094 (c_X7_here (by assumption)) m4_0 rfl rfl ⟨Nat.le_of_ble_eq_true rfl, Nat.le_of_ble_eq_true rfl⟩ rfl hl.1 rfl (Nat.le_of_ble_eq_true rfl) dX7_readStatement_445 ⟨Nat.zero_le _, Nat.zero_le _⟩) w (fun H locs w => ?_)
                refine lv_bipush (v := 59) hx hb dX7_readStatement_448 (by decide) ?_
                refine lv_icmp_ne (tgt := 457) hx hb dX7_readStatement_450 (by decide) (fun zc450 => ?_) (fun zc450 => ?_)
                · -- 457
                  refine lv_iconst (v := 0) hx hb dX7_readStatement_457 (by decide) ?_
                  refine k_v (rr_v (rest := []) X w mX7_takeSign kw1098 (c_X7_takeSign 0) m4_0 rfl rfl ⟨Nat.le_of_ble_eq_true rfl, Nat.le_of_ble_eq_true rfl⟩ rfl hl.1 rfl (Nat.le_of_ble_eq_true rfl) dX7_readStatement_458 ⟨Nat.zero_le _, Nat.zero_le _⟩) w (fun H locs w => ?_)
                  obtain ⟨zs458_21, ezs458_21⟩ : ∃ y : Gr, y = g_X7_takeSign zs254_2 0 := ⟨_, rfl⟩; rw [← ezs458_21] at w
                  have hp : PA zs458_21 := by rw [ezs458_21]; first | exact takeSign_PA hp (fun q => absurd rfl q) | exact takeSign_PA hp (fun _ => here_c zc450 (by decide))
                  refine lv_aload_n hx hb dX7_readStatement_461 rfl (lv_at hl 2 rfl) ?_
                  refine lv_dup hx hb dX7_readStatement_462 rfl ?_
                  refine gf7_292 X w dX7_readStatement_463 ?_
                  refine lv_iconst (v := 1) hx hb dX7_readStatement_466 (by decide) ?_
                  refine lv_iadd hx hb dX7_readStatement_467 ?_
                  refine pf7_292 X w dX7_readStatement_468 (fun zs468_21 H locs ezs468_21 w => ?_)
                  have hp : PA zs468_21 := by rw [ezs468_21]; exact hp
                  exact t_v X w hr hlk dX7_readStatement_471 (by replace ezs468_21 := ezs468_21.symm; subst ezs468_21; replace ezs458_21 := ezs458_21.symm; subst ezs458_21; replace ezs254_2 := ezs254_2.symm; subst ezs254_2; replace ezs231 := ezs231.symm; subst ezs231; replace ezs228 := ezs228.symm; subst ezs228; replace ezs204 := ezs204.symm; subst ezs204; replace ezs201 := ezs201.symm; subst ezs201; replace ezs177 := ezs177.symm; subst ezs177; replace ezs174 := ezs174.symm; subst ezs174; replace ezs154 := ezs154.symm; subst ezs154; replace ezs151 := ezs151.symm; subst ezs151; replace ezs65_2 := ezs65_2.symm; subst ezs65_2; replace ezs34 := ezs34.symm; subst ezs34; replace ezs24 := ezs24.symm; subst ezs24; replace ezv11 := ezv11.symm; subst ezv11; replace ezv4 := ezv4.symm; subst ezv4; simp only [g_X7_readStatement, if_neg zc39, if_pos zc45, if_pos zc72, if_pos zc166, if_pos zc189, if_pos zc216, if_neg zc243, if_neg zc450])
                · -- 453
                  refine lv_iconst (v := 1) hx hb dX7_readStatement_453 (by decide) ?_
                  refine lv_goto (tgt := 458) hx hb dX7_readStatement_454 (by decide) ?_
                  refine k_v (rr_v (rest := []) X w mX7_takeSign kw1098 (c_X7_takeSign 1) m4_0 rfl rfl ⟨Nat.le_of_ble_eq_true rfl, Nat.le_of_ble_eq_true rfl⟩ rfl hl.1 rfl (Nat.le_of_ble_eq_true rfl) dX7_readStatement_458 ⟨Nat.zero_le _, Nat.zero_le _⟩) w (fun H locs w => ?_)
                  obtain ⟨zs458_22, ezs458_22⟩ : ∃ y : Gr, y = g_X7_takeSign zs254_2 1 := ⟨_, rfl⟩; rw [← ezs458_22] at w
                  have hp : PA zs458_22 := by rw [ezs458_22]; first | exact takeSign_PA hp (fun q => absurd rfl q) | exact takeSign_PA hp (fun _ => here_c zc450 (by decide))
                  refine lv_aload_n hx hb dX7_readStatement_461 rfl (lv_at hl 2 rfl) ?_
                  refine lv_dup hx hb dX7_readStatement_462 rfl ?_
                  refine gf7_292 X w dX7_readStatement_463 ?_
                  refine lv_iconst (v := 1) hx hb dX7_readStatement_466 (by decide) ?_
                  refine lv_iadd hx hb dX7_readStatement_467 ?_
                  refine pf7_292 X w dX7_readStatement_468 (fun zs468_22 H locs ezs468_22 w => ?_)
                  have hp : PA zs468_22 := by rw [ezs468_22]; exact hp
                  exact t_v X w hr hlk dX7_readStatement_471 (by replace ezs468_22 := ezs468_22.symm; subst ezs468_22; replace ezs458_22 := ezs458_22.symm; subst ezs458_22; replace ezs254_2 := ezs254_2.symm; subst ezs254_2; replace ezs231 := ezs231.symm; subst ezs231; replace ezs228 := ezs228.symm; subst ezs228; replace ezs204 := ezs204.symm; subst ezs204; replace ezs201 := ezs201.symm; subst ezs201; replace ezs177 := ezs177.symm; subst ezs177; replace ezs174 := ezs174.symm; subst ezs174; replace ezs154 := ezs154.symm; subst ezs154; replace ezs151 := ezs151.symm; subst ezs151; replace ezs65_2 := ezs65_2.symm; subst ezs65_2; replace ezs34 := ezs34.symm; subst ezs34; replace ezs24 := ezs24.symm; subst ezs24; replace ezv11 := ezv11.symm; subst ezv11; replace ezv4 := ezv4.symm; subst ezv4; simp only [g_X7_readStatement, if_neg zc39, if_pos zc45, if_pos zc72, if_pos zc166, if_pos zc189, if_pos zc216, if_neg zc243, if_pos zc450])
            · -- 219
              refine lv_iconst (v := 0) hx hb dX7_readStatement_219 (by decide) ?_
              refine lv_goto (tgt := 231) hx hb dX7_readStatement_220 (by decide) ?_
              refine iS (f := 49) (n := 250) X w m4_49 rfl (n5s (n5r ezv11 hst) 3 (by decide)) dX7_readStatement_231 (fun zs231_2 H locs ezs231_2 w => ?_)
              have hp : PA zs231_2 := by rw [ezs231_2]; exact hp
              refine lv_aload_n hx hb dX7_readStatement_232 rfl (lv_at hl 2 rfl) ?_
              refine gf7_99 X w dX7_readStatement_233 ?_
              refine lv_iload_n hx hb dX7_readStatement_236 rfl (lv_at hl 0 rfl) ?_
              refine lv_iconst (v := 4) hx hb dX7_readStatement_237 (by decide) ?_
              refine lv_iadd hx hb dX7_readStatement_238 ?_
              refine lv_aload_n hx hb dX7_readStatement_239 rfl (lv_at hl 2 rfl) ?_
              refine gf7_274 X w dX7_readStatement_240 ?_
              refine topeq (show zs231_2 0 45 = zs201 0 45 from by rw [ezs231_2, ezs204]; rfl) ?_
              refine lv_if_eq (tgt := 250) hx hb dX7_readStatement_243 (by decide) (fun zc243 => absurd zc243 zc216) (fun _ => ?_)
              change W _ _ _ _ _ _ _ _ _ _ _ _ _ _ _ (F0 m 246 ls _)
              refine lv_iconst (v := 0) hx hb dX7_readStatement_246 (by decide) ?_
              refine lv_goto (tgt := 254) hx hb dX7_readStatement_247 (by decide) ?_
              refine iS (f := 49) (n := 250) X w m4_49 rfl (n5s (n5r ezv11 hst) 4 (by decide)) dX7_readStatement_254 (fun zs254_3 H locs ezs254_3 w => ?_)
              have hp : PA zs254_3 := by rw [ezs254_3]; exact hp
              refine lv_aload_n hx hb dX7_readStatement_255 rfl (lv_at hl 2 rfl) ?_
              refine gf7_274 X w dX7_readStatement_256 ?_
              refine topeq (show zs254_3 0 45 = zs201 0 45 from by rw [ezs254_3, ezs231_2, ezs204]; rfl) ?_
              refine lv_if_ne (tgt := 328) hx hb dX7_readStatement_259 (by decide) (fun _ => ?_) (fun zc259 => absurd zc259 zc216)
              refine lv_aload_n hx hb dX7_readStatement_328 rfl (lv_at hl 2 rfl) ?_
              refine gf7_274 X w dX7_readStatement_329 ?_
              refine topeq (show zs254_3 0 45 = zs201 0 45 from by rw [ezs254_3, ezs231_2, ezs204]; rfl) ?_
              refine lv_if_ne (tgt := 443) hx hb dX7_readStatement_332 (by decide) (fun _ => ?_) (fun zc332 => absurd zc332 zc216)
              refine lv_aload_n hx hb dX7_readStatement_443 rfl (lv_at hl 2 rfl) ?_
              refine lv_aload_n hx hb dX7_readStatement_444 rfl (lv_at hl 2 rfl) ?_
              refine k_i (rr_v (rest := [.ref (aa G 4 0)]) X w mX7_here kw1094 (c_X7_here (by assumption)) m4_0 rfl rfl ⟨Nat.le_of_ble_eq_true rfl, Nat.le_of_ble_eq_true rfl⟩ rfl hl.1 rfl (Nat.le_of_ble_eq_true rfl) dX7_readStatement_445 ⟨Nat.zero_le _, Nat.zero_le _⟩) w (fun H locs w => ?_)
              change W _ _ _ _ _ _ _ _ _ _ _ _ _ _ _ (F0 m 448 ls _)
              refine lv_bipush (v := 59) hx hb dX7_readStatement_448 (by decide) ?_
              refine lv_icmp_ne (tgt := 457) hx hb dX7_readStatement_450 (by decide) (fun zc450 => ?_) (fun zc450 => ?_)
              · -- 457
                refine lv_iconst (v := 0) hx hb dX7_readStatement_457 (by decide) ?_
                refine k_v (rr_v (rest := []) X w mX7_takeSign kw1098 (c_X7_takeSign 0) m4_0 rfl rfl ⟨Nat.le_of_ble_eq_true rfl, Nat.le_of_ble_eq_true rfl⟩ rfl hl.1 rfl (Nat.le_of_ble_eq_true rfl) dX7_readStatement_458 ⟨Nat.zero_le _, Nat.zero_le _⟩) w (fun H locs w => ?_)
                obtain ⟨zs458_23, ezs458_23⟩ : ∃ y : Gr, y = g_X7_takeSign zs254_3 0 := ⟨_, rfl⟩; rw [← ezs458_23] at w
                have hp : PA zs458_23 := by rw [ezs458_23]; first | exact takeSign_PA hp (fun q => absurd rfl q) | exact takeSign_PA hp (fun _ => here_c zc450 (by decide))
                refine lv_aload_n hx hb dX7_readStatement_461 rfl (lv_at hl 2 rfl) ?_
                refine lv_dup hx hb dX7_readStatement_462 rfl ?_
                refine gf7_292 X w dX7_readStatement_463 ?_
                refine lv_iconst (v := 1) hx hb dX7_readStatement_466 (by decide) ?_
                refine lv_iadd hx hb dX7_readStatement_467 ?_
                refine pf7_292 X w dX7_readStatement_468 (fun zs468_23 H locs ezs468_23 w => ?_)
                have hp : PA zs468_23 := by rw [ezs468_23]; exact hp
                exact t_v X w hr hlk dX7_readStatement_471 (by replace ezs468_23 := ezs468_23.symm; subst ezs468_23; replace ezs458_23 := ezs458_23.symm; subst ezs458_23; replace ezs254_3 := ezs254_3.symm; subst ezs254_3; replace ezs231_2 := ezs231_2.symm; subst ezs231_2; replace ezs204 := ezs204.symm; subst ezs204; replace ezs201 := ezs201.symm; subst ezs201; replace ezs177 := ezs177.symm; subst ezs177; replace ezs174 := ezs174.symm; subst ezs174; replace ezs154 := ezs154.symm; subst ezs154; replace ezs151 := ezs151.symm; subst ezs151; replace ezs65_2 := ezs65_2.symm; subst ezs65_2; replace ezs34 := ezs34.symm; subst ezs34; replace ezs24 := ezs24.symm; subst ezs24; replace ezv11 := ezv11.symm; subst ezv11; replace ezv4 := ezv4.symm; subst ezv4; simp only [g_X7_readStatement, if_neg zc39, if_pos zc45, if_pos zc72, if_pos zc166, if_pos zc189, if_neg zc216, if_neg zc450])
              · -- 453
                refine lv_iconst (v := 1) hx hb dX7_readStatement_453 (by decide) ?_
                refine lv_goto (tgt := 458) hx hb dX7_readStatement_454 (by decide) ?_
                refine k_v (rr_v (rest := []) X w mX7_takeSign kw1098 (c_X7_takeSign 1) m4_0 rfl rfl ⟨Nat.le_of_ble_eq_true rfl, Nat.le_of_ble_eq_true rfl⟩ rfl hl.1 rfl (Nat.le_of_ble_eq_true rfl) dX7_readStatement_458 ⟨Nat.zero_le _, Nat.zero_le _⟩) w (fun H locs w => ?_)
                obtain ⟨zs458_24, ezs458_24⟩ : ∃ y : Gr, y = g_X7_takeSign zs254_3 1 := ⟨_, rfl⟩; rw [← ezs458_24] at w
                have hp : PA zs458_24 := by rw [ezs458_24]; first | exact takeSign_PA hp (fun q => absurd rfl q) | exact takeSign_PA hp (fun _ => here_c zc450 (by decide))
                refine lv_aload_n hx hb dX7_readStatement_461 rfl (lv_at hl 2 rfl) ?_
                refine lv_dup hx hb dX7_readStatement_462 rfl ?_
                refine gf7_292 X w dX7_readStatement_463 ?_
                refine lv_iconst (v := 1) hx hb dX7_readStatement_466 (by decide) ?_
                refine lv_iadd hx hb dX7_readStatement_467 ?_
                refine pf7_292 X w dX7_readStatement_468 (fun zs468_24 H locs ezs468_24 w => ?_)
                have hp : PA zs468_24 := by rw [ezs468_24]; exact hp
                exact t_v X w hr hlk dX7_readStatement_471 (by replace ezs468_24 := ezs468_24.symm; subst ezs468_24; replace ezs458_24 := ezs458_24.symm; subst ezs458_24; replace ezs254_3 := ezs254_3.symm; subst ezs254_3; replace ezs231_2 := ezs231_2.symm; subst ezs231_2; replace ezs204 := ezs204.symm; subst ezs204; replace ezs201 := ezs201.symm; subst ezs201; replace ezs177 := ezs177.symm; subst ezs177; replace ezs174 := ezs174.symm; subst ezs174; replace ezs154 := ezs154.symm; subst ezs154; replace ezs151 := ezs151.symm; subst ezs151; replace ezs65_2 := ezs65_2.symm; subst ezs65_2; replace ezs34 := ezs34.symm; subst ezs34; replace ezs24 := ezs24.symm; subst ezs24; replace ezv11 := ezv11.symm; subst ezv11; replace ezv4 := ezv4.symm; subst ezv4; simp only [g_X7_readStatement, if_neg zc39, if_pos zc45, if_pos zc72, if_pos zc166, if_pos zc189, if_neg zc216, if_pos zc450])
          · -- 192
            refine lv_iconst (v := 0) hx hb dX7_readStatement_192 (by decide) ?_
            refine lv_goto (tgt := 204) hx hb dX7_readStatement_193 (by decide) ?_
            refine iS (f := 49) (n := 250) X w m4_49 rfl (n5s (n5r ezv11 hst) 2 (by decide)) dX7_readStatement_204 (fun zs204_2 H locs ezs204_2 w => ?_)
            have hp : PA zs204_2 := by rw [ezs204_2]; exact hp
            refine lv_aload_n hx hb dX7_readStatement_205 rfl (lv_at hl 2 rfl) ?_
            refine gf7_99 X w dX7_readStatement_206 ?_
            refine lv_iload_n hx hb dX7_readStatement_209 rfl (lv_at hl 0 rfl) ?_
            refine lv_iconst (v := 3) hx hb dX7_readStatement_210 (by decide) ?_
            refine lv_iadd hx hb dX7_readStatement_211 ?_
            refine lv_aload_n hx hb dX7_readStatement_212 rfl (lv_at hl 2 rfl) ?_
            refine gf7_274 X w dX7_readStatement_213 ?_
            refine topeq (show zs204_2 0 45 = zs174 0 45 from by rw [ezs204_2, ezs177]; rfl) ?_
            refine lv_if_eq (tgt := 223) hx hb dX7_readStatement_216 (by decide) (fun zc216 => absurd zc216 zc189) (fun _ => ?_)
            change W _ _ _ _ _ _ _ _ _ _ _ _ _ _ _ (F0 m 219 ls _)
            refine lv_iconst (v := 0) hx hb dX7_readStatement_219 (by decide) ?_
            refine lv_goto (tgt := 231) hx hb dX7_readStatement_220 (by decide) ?_
            refine iS (f := 49) (n := 250) X w m4_49 rfl (n5s (n5r ezv11 hst) 3 (by decide)) dX7_readStatement_231 (fun zs231_3 H locs ezs231_3 w => ?_)
            have hp : PA zs231_3 := by rw [ezs231_3]; exact hp
            refine lv_aload_n hx hb dX7_readStatement_232 rfl (lv_at hl 2 rfl) ?_
            refine gf7_99 X w dX7_readStatement_233 ?_
            refine lv_iload_n hx hb dX7_readStatement_236 rfl (lv_at hl 0 rfl) ?_
            refine lv_iconst (v := 4) hx hb dX7_readStatement_237 (by decide) ?_
            refine lv_iadd hx hb dX7_readStatement_238 ?_
            refine lv_aload_n hx hb dX7_readStatement_239 rfl (lv_at hl 2 rfl) ?_
            refine gf7_274 X w dX7_readStatement_240 ?_
            refine topeq (show zs231_3 0 45 = zs174 0 45 from by rw [ezs231_3, ezs204_2, ezs177]; rfl) ?_
            refine lv_if_eq (tgt := 250) hx hb dX7_readStatement_243 (by decide) (fun zc243 => absurd zc243 zc189) (fun _ => ?_)
            refine lv_iconst (v := 0) hx hb dX7_readStatement_246 (by decide) ?_
            change W _ _ _ _ _ _ _ _ _ _ _ _ _ _ _ (F0 m 247 ls _)
            refine lv_goto (tgt := 254) hx hb dX7_readStatement_247 (by decide) ?_
            refine iS (f := 49) (n := 250) X w m4_49 rfl (n5s (n5r ezv11 hst) 4 (by decide)) dX7_readStatement_254 (fun zs254_4 H locs ezs254_4 w => ?_)
            have hp : PA zs254_4 := by rw [ezs254_4]; exact hp
            refine lv_aload_n hx hb dX7_readStatement_255 rfl (lv_at hl 2 rfl) ?_
            refine gf7_274 X w dX7_readStatement_256 ?_
            refine topeq (show zs254_4 0 45 = zs174 0 45 from by rw [ezs254_4, ezs231_3, ezs204_2, ezs177]; rfl) ?_
            refine lv_if_ne (tgt := 328) hx hb dX7_readStatement_259 (by decide) (fun _ => ?_) (fun zc259 => absurd zc259 zc189)
            refine lv_aload_n hx hb dX7_readStatement_328 rfl (lv_at hl 2 rfl) ?_
            refine gf7_274 X w dX7_readStatement_329 ?_
            refine topeq (show zs254_4 0 45 = zs174 0 45 from by rw [ezs254_4, ezs231_3, ezs204_2, ezs177]; rfl) ?_
            refine lv_if_ne (tgt := 443) hx hb dX7_readStatement_332 (by decide) (fun _ => ?_) (fun zc332 => absurd zc332 zc189)
            refine lv_aload_n hx hb dX7_readStatement_443 rfl (lv_at hl 2 rfl) ?_
            refine lv_aload_n hx hb dX7_readStatement_444 rfl (lv_at hl 2 rfl) ?_
            refine k_i (rr_v (rest := [.ref (aa G 4 0)]) X w mX7_here kw1094 (c_X7_here (by assumption)) m4_0 rfl rfl ⟨Nat.le_of_ble_eq_true rfl, Nat.le_of_ble_eq_true rfl⟩ rfl hl.1 rfl (Nat.le_of_ble_eq_true rfl) dX7_readStatement_445 ⟨Nat.zero_le _, Nat.zero_le _⟩) w (fun H locs w => ?_)
            refine lv_bipush (v := 59) hx hb dX7_readStatement_448 (by decide) ?_
            change W _ _ _ _ _ _ _ _ _ _ _ _ _ _ _ (F0 m 450 ls _)
            refine lv_icmp_ne (tgt := 457) hx hb dX7_readStatement_450 (by decide) (fun zc450 => ?_) (fun zc450 => ?_)
            · -- 457
              refine lv_iconst (v := 0) hx hb dX7_readStatement_457 (by decide) ?_
              refine k_v (rr_v (rest := []) X w mX7_takeSign kw1098 (c_X7_takeSign 0) m4_0 rfl rfl ⟨Nat.le_of_ble_eq_true rfl, Nat.le_of_ble_eq_true rfl⟩ rfl hl.1 rfl (Nat.le_of_ble_eq_true rfl) dX7_readStatement_458 ⟨Nat.zero_le _, Nat.zero_le _⟩) w (fun H locs w => ?_)
              obtain ⟨zs458_25, ezs458_25⟩ : ∃ y : Gr, y = g_X7_takeSign zs254_4 0 := ⟨_, rfl⟩; rw [← ezs458_25] at w
              have hp : PA zs458_25 := by rw [ezs458_25]; first | exact takeSign_PA hp (fun q => absurd rfl q) | exact takeSign_PA hp (fun _ => here_c zc450 (by decide))
              refine lv_aload_n hx hb dX7_readStatement_461 rfl (lv_at hl 2 rfl) ?_
              refine lv_dup hx hb dX7_readStatement_462 rfl ?_
              refine gf7_292 X w dX7_readStatement_463 ?_
              refine lv_iconst (v := 1) hx hb dX7_readStatement_466 (by decide) ?_
              refine lv_iadd hx hb dX7_readStatement_467 ?_
              refine pf7_292 X w dX7_readStatement_468 (fun zs468_25 H locs ezs468_25 w => ?_)
              have hp : PA zs468_25 := by rw [ezs468_25]; exact hp
              exact t_v X w hr hlk dX7_readStatement_471 (by replace ezs468_25 := ezs468_25.symm; subst ezs468_25; replace ezs458_25 := ezs458_25.symm; subst ezs458_25; replace ezs254_4 := ezs254_4.symm; subst ezs254_4; replace ezs231_3 := ezs231_3.symm; subst ezs231_3; replace ezs204_2 := ezs204_2.symm; subst ezs204_2; replace ezs177 := ezs177.symm; subst ezs177; replace ezs174 := ezs174.symm; subst ezs174; replace ezs154 := ezs154.symm; subst ezs154; replace ezs151 := ezs151.symm; subst ezs151; replace ezs65_2 := ezs65_2.symm; subst ezs65_2; replace ezs34 := ezs34.symm; subst ezs34; replace ezs24 := ezs24.symm; subst ezs24; replace ezv11 := ezv11.symm; subst ezv11; replace ezv4 := ezv4.symm; subst ezv4; simp only [g_X7_readStatement, if_neg zc39, if_pos zc45, if_pos zc72, if_pos zc166, if_neg zc189, if_neg zc450])
            · -- 453
              refine lv_iconst (v := 1) hx hb dX7_readStatement_453 (by decide) ?_
              refine lv_goto (tgt := 458) hx hb dX7_readStatement_454 (by decide) ?_
              refine k_v (rr_v (rest := []) X w mX7_takeSign kw1098 (c_X7_takeSign 1) m4_0 rfl rfl ⟨Nat.le_of_ble_eq_true rfl, Nat.le_of_ble_eq_true rfl⟩ rfl hl.1 rfl (Nat.le_of_ble_eq_true rfl) dX7_readStatement_458 ⟨Nat.zero_le _, Nat.zero_le _⟩) w (fun H locs w => ?_)
              obtain ⟨zs458_26, ezs458_26⟩ : ∃ y : Gr, y = g_X7_takeSign zs254_4 1 := ⟨_, rfl⟩; rw [← ezs458_26] at w
              have hp : PA zs458_26 := by rw [ezs458_26]; first | exact takeSign_PA hp (fun q => absurd rfl q) | exact takeSign_PA hp (fun _ => here_c zc450 (by decide))
              refine lv_aload_n hx hb dX7_readStatement_461 rfl (lv_at hl 2 rfl) ?_
              refine lv_dup hx hb dX7_readStatement_462 rfl ?_
              refine gf7_292 X w dX7_readStatement_463 ?_
              refine lv_iconst (v := 1) hx hb dX7_readStatement_466 (by decide) ?_
              refine lv_iadd hx hb dX7_readStatement_467 ?_
              refine pf7_292 X w dX7_readStatement_468 (fun zs468_26 H locs ezs468_26 w => ?_)
              have hp : PA zs468_26 := by rw [ezs468_26]; exact hp
              exact t_v X w hr hlk dX7_readStatement_471 (by replace ezs468_26 := ezs468_26.symm; subst ezs468_26; replace ezs458_26 := ezs458_26.symm; subst ezs458_26; replace ezs254_4 := ezs254_4.symm; subst ezs254_4; replace ezs231_3 := ezs231_3.symm; subst ezs231_3; replace ezs204_2 := ezs204_2.symm; subst ezs204_2; replace ezs177 := ezs177.symm; subst ezs177; replace ezs174 := ezs174.symm; subst ezs174; replace ezs154 := ezs154.symm; subst ezs154; replace ezs151 := ezs151.symm; subst ezs151; replace ezs65_2 := ezs65_2.symm; subst ezs65_2; replace ezs34 := ezs34.symm; subst ezs34; replace ezs24 := ezs24.symm; subst ezs24; replace ezv11 := ezv11.symm; subst ezv11; replace ezv4 := ezv4.symm; subst ezv4; simp only [g_X7_readStatement, if_neg zc39, if_pos zc45, if_pos zc72, if_pos zc166, if_neg zc189, if_pos zc450])
        · -- 169
          refine lv_iconst (v := 0) hx hb dX7_readStatement_169 (by decide) ?_
          refine lv_goto (tgt := 177) hx hb dX7_readStatement_170 (by decide) ?_
          refine iS (f := 49) (n := 250) X w m4_49 rfl (n5s (n5r ezv11 hst) 1 (by decide)) dX7_readStatement_177 (fun zs177_2 H locs ezs177_2 w => ?_)
          have hp : PA zs177_2 := by rw [ezs177_2]; exact hp
          refine lv_aload_n hx hb dX7_readStatement_178 rfl (lv_at hl 2 rfl) ?_
          refine gf7_99 X w dX7_readStatement_179 ?_
          refine lv_iload_n hx hb dX7_readStatement_182 rfl (lv_at hl 0 rfl) ?_
          refine lv_iconst (v := 2) hx hb dX7_readStatement_183 (by decide) ?_
          refine lv_iadd hx hb dX7_readStatement_184 ?_
          refine lv_aload_n hx hb dX7_readStatement_185 rfl (lv_at hl 2 rfl) ?_
          refine gf7_274 X w dX7_readStatement_186 ?_
          refine topeq (show zs177_2 0 45 = zs151 0 45 from by rw [ezs177_2, ezs154]; rfl) ?_
          refine lv_if_eq (tgt := 196) hx hb dX7_readStatement_189 (by decide) (fun zc189 => absurd zc189 zc166) (fun _ => ?_)
          change W _ _ _ _ _ _ _ _ _ _ _ _ _ _ _ (F0 m 192 ls _)
          refine lv_iconst (v := 0) hx hb dX7_readStatement_192 (by decide) ?_
          refine lv_goto (tgt := 204) hx hb dX7_readStatement_193 (by decide) ?_
          refine iS (f := 49) (n := 250) X w m4_49 rfl (n5s (n5r ezv11 hst) 2 (by decide)) dX7_readStatement_204 (fun zs204_3 H locs ezs204_3 w => ?_)
          have hp : PA zs204_3 := by rw [ezs204_3]; exact hp
          refine lv_aload_n hx hb dX7_readStatement_205 rfl (lv_at hl 2 rfl) ?_
          refine gf7_99 X w dX7_readStatement_206 ?_
          refine lv_iload_n hx hb dX7_readStatement_209 rfl (lv_at hl 0 rfl) ?_
          refine lv_iconst (v := 3) hx hb dX7_readStatement_210 (by decide) ?_
          refine lv_iadd hx hb dX7_readStatement_211 ?_
          refine lv_aload_n hx hb dX7_readStatement_212 rfl (lv_at hl 2 rfl) ?_
          refine gf7_274 X w dX7_readStatement_213 ?_
          refine topeq (show zs204_3 0 45 = zs151 0 45 from by rw [ezs204_3, ezs177_2, ezs154]; rfl) ?_
          refine lv_if_eq (tgt := 223) hx hb dX7_readStatement_216 (by decide) (fun zc216 => absurd zc216 zc166) (fun _ => ?_)
          refine lv_iconst (v := 0) hx hb dX7_readStatement_219 (by decide) ?_
          change W _ _ _ _ _ _ _ _ _ _ _ _ _ _ _ (F0 m 220 ls _)
          refine lv_goto (tgt := 231) hx hb dX7_readStatement_220 (by decide) ?_
          refine iS (f := 49) (n := 250) X w m4_49 rfl (n5s (n5r ezv11 hst) 3 (by decide)) dX7_readStatement_231 (fun zs231_4 H locs ezs231_4 w => ?_)
          have hp : PA zs231_4 := by rw [ezs231_4]; exact hp
          refine lv_aload_n hx hb dX7_readStatement_232 rfl (lv_at hl 2 rfl) ?_
          refine gf7_99 X w dX7_readStatement_233 ?_
          refine lv_iload_n hx hb dX7_readStatement_236 rfl (lv_at hl 0 rfl) ?_
          refine lv_iconst (v := 4) hx hb dX7_readStatement_237 (by decide) ?_
          refine lv_iadd hx hb dX7_readStatement_238 ?_
          refine lv_aload_n hx hb dX7_readStatement_239 rfl (lv_at hl 2 rfl) ?_
          refine gf7_274 X w dX7_readStatement_240 ?_
          refine topeq (show zs231_4 0 45 = zs151 0 45 from by rw [ezs231_4, ezs204_3, ezs177_2, ezs154]; rfl) ?_
          refine lv_if_eq (tgt := 250) hx hb dX7_readStatement_243 (by decide) (fun zc243 => absurd zc243 zc166) (fun _ => ?_)
          refine lv_iconst (v := 0) hx hb dX7_readStatement_246 (by decide) ?_
          refine lv_goto (tgt := 254) hx hb dX7_readStatement_247 (by decide) ?_
          change W _ _ _ _ _ _ _ _ _ _ _ _ _ _ _ (F0 m 254 ls _)
          refine iS (f := 49) (n := 250) X w m4_49 rfl (n5s (n5r ezv11 hst) 4 (by decide)) dX7_readStatement_254 (fun zs254_5 H locs ezs254_5 w => ?_)
          have hp : PA zs254_5 := by rw [ezs254_5]; exact hp
          refine lv_aload_n hx hb dX7_readStatement_255 rfl (lv_at hl 2 rfl) ?_
          refine gf7_274 X w dX7_readStatement_256 ?_
          refine topeq (show zs254_5 0 45 = zs151 0 45 from by rw [ezs254_5, ezs231_4, ezs204_3, ezs177_2, ezs154]; rfl) ?_
          refine lv_if_ne (tgt := 328) hx hb dX7_readStatement_259 (by decide) (fun _ => ?_) (fun zc259 => absurd zc259 zc166)
          refine lv_aload_n hx hb dX7_readStatement_328 rfl (lv_at hl 2 rfl) ?_
          refine gf7_274 X w dX7_readStatement_329 ?_
          refine topeq (show zs254_5 0 45 = zs151 0 45 from by rw [ezs254_5, ezs231_4, ezs204_3, ezs177_2, ezs154]; rfl) ?_
          refine lv_if_ne (tgt := 443) hx hb dX7_readStatement_332 (by decide) (fun _ => ?_) (fun zc332 => absurd zc332 zc166)
          refine lv_aload_n hx hb dX7_readStatement_443 rfl (lv_at hl 2 rfl) ?_
          refine lv_aload_n hx hb dX7_readStatement_444 rfl (lv_at hl 2 rfl) ?_
          refine k_i (rr_v (rest := [.ref (aa G 4 0)]) X w mX7_here kw1094 (c_X7_here (by assumption)) m4_0 rfl rfl ⟨Nat.le_of_ble_eq_true rfl, Nat.le_of_ble_eq_true rfl⟩ rfl hl.1 rfl (Nat.le_of_ble_eq_true rfl) dX7_readStatement_445 ⟨Nat.zero_le _, Nat.zero_le _⟩) w (fun H locs w => ?_)
          refine lv_bipush (v := 59) hx hb dX7_readStatement_448 (by decide) ?_
          refine lv_icmp_ne (tgt := 457) hx hb dX7_readStatement_450 (by decide) (fun zc450 => ?_) (fun zc450 => ?_)
          · -- 457
            refine lv_iconst (v := 0) hx hb dX7_readStatement_457 (by decide) ?_
            refine k_v (rr_v (rest := []) X w mX7_takeSign kw1098 (c_X7_takeSign 0) m4_0 rfl rfl ⟨Nat.le_of_ble_eq_true rfl, Nat.le_of_ble_eq_true rfl⟩ rfl hl.1 rfl (Nat.le_of_ble_eq_true rfl) dX7_readStatement_458 ⟨Nat.zero_le _, Nat.zero_le _⟩) w (fun H locs w => ?_)
            obtain ⟨zs458_27, ezs458_27⟩ : ∃ y : Gr, y = g_X7_takeSign zs254_5 0 := ⟨_, rfl⟩; rw [← ezs458_27] at w
            have hp : PA zs458_27 := by rw [ezs458_27]; first | exact takeSign_PA hp (fun q => absurd rfl q) | exact takeSign_PA hp (fun _ => here_c zc450 (by decide))
            refine lv_aload_n hx hb dX7_readStatement_461 rfl (lv_at hl 2 rfl) ?_
            refine lv_dup hx hb dX7_readStatement_462 rfl ?_
            refine gf7_292 X w dX7_readStatement_463 ?_
            refine lv_iconst (v := 1) hx hb dX7_readStatement_466 (by decide) ?_
            refine lv_iadd hx hb dX7_readStatement_467 ?_
            refine pf7_292 X w dX7_readStatement_468 (fun zs468_27 H locs ezs468_27 w => ?_)
            have hp : PA zs468_27 := by rw [ezs468_27]; exact hp
            exact t_v X w hr hlk dX7_readStatement_471 (by replace ezs468_27 := ezs468_27.symm; subst ezs468_27; replace ezs458_27 := ezs458_27.symm; subst ezs458_27; replace ezs254_5 := ezs254_5.symm; subst ezs254_5; replace ezs231_4 := ezs231_4.symm; subst ezs231_4; replace ezs204_3 := ezs204_3.symm; subst ezs204_3; replace ezs177_2 := ezs177_2.symm; subst ezs177_2; replace ezs154 := ezs154.symm; subst ezs154; replace ezs151 := ezs151.symm; subst ezs151; replace ezs65_2 := ezs65_2.symm; subst ezs65_2; replace ezs34 := ezs34.symm; subst ezs34; replace ezs24 := ezs24.symm; subst ezs24; replace ezv11 := ezv11.symm; subst ezv11; replace ezv4 := ezv4.symm; subst ezv4; simp only [g_X7_readStatement, if_neg zc39, if_pos zc45, if_pos zc72, if_neg zc166, if_neg zc450])
          · -- 453
            refine lv_iconst (v := 1) hx hb dX7_readStatement_453 (by decide) ?_
            refine lv_goto (tgt := 458) hx hb dX7_readStatement_454 (by decide) ?_
            refine k_v (rr_v (rest := []) X w mX7_takeSign kw1098 (c_X7_takeSign 1) m4_0 rfl rfl ⟨Nat.le_of_ble_eq_true rfl, Nat.le_of_ble_eq_true rfl⟩ rfl hl.1 rfl (Nat.le_of_ble_eq_true rfl) dX7_readStatement_458 ⟨Nat.zero_le _, Nat.zero_le _⟩) w (fun H locs w => ?_)
            obtain ⟨zs458_28, ezs458_28⟩ : ∃ y : Gr, y = g_X7_takeSign zs254_5 1 := ⟨_, rfl⟩; rw [← ezs458_28] at w
            have hp : PA zs458_28 := by rw [ezs458_28]; first | exact takeSign_PA hp (fun q => absurd rfl q) | exact takeSign_PA hp (fun _ => here_c zc450 (by decide))
            refine lv_aload_n hx hb dX7_readStatement_461 rfl (lv_at hl 2 rfl) ?_
            refine lv_dup hx hb dX7_readStatement_462 rfl ?_
            refine gf7_292 X w dX7_readStatement_463 ?_
            refine lv_iconst (v := 1) hx hb dX7_readStatement_466 (by decide) ?_
            refine lv_iadd hx hb dX7_readStatement_467 ?_
            refine pf7_292 X w dX7_readStatement_468 (fun zs468_28 H locs ezs468_28 w => ?_)
            have hp : PA zs468_28 := by rw [ezs468_28]; exact hp
            exact t_v X w hr hlk dX7_readStatement_471 (by replace ezs468_28 := ezs468_28.symm; subst ezs468_28; replace ezs458_28 := ezs458_28.symm; subst ezs458_28; replace ezs254_5 := ezs254_5.symm; subst ezs254_5; replace ezs231_4 := ezs231_4.symm; subst ezs231_4; replace ezs204_3 := ezs204_3.symm; subst ezs204_3; replace ezs177_2 := ezs177_2.symm; subst ezs177_2; replace ezs154 := ezs154.symm; subst ezs154; replace ezs151 := ezs151.symm; subst ezs151; replace ezs65_2 := ezs65_2.symm; subst ezs65_2; replace ezs34 := ezs34.symm; subst ezs34; replace ezs24 := ezs24.symm; subst ezs24; replace ezv11 := ezv11.symm; subst ezv11; replace ezv4 := ezv4.symm; subst ezv4; simp only [g_X7_readStatement, if_neg zc39, if_pos zc45, if_pos zc72, if_neg zc166, if_pos zc450])
    · -- 48
      refine lv_iload_n hx hb dX7_readStatement_48 rfl (lv_at hl 1 rfl) ?_
      refine lv_bipush (v := 114) hx hb dX7_readStatement_49 (by decide) ?_
      refine lv_icmp_eq (tgt := 60) hx hb dX7_readStatement_51 (by decide) (fun zc51 => ?_) (fun zc51 => ?_)
      · -- 60
        refine lv_iconst (v := 1) hx hb dX7_readStatement_60 (by decide) ?_
        refine lv_goto (tgt := 65) hx hb dX7_readStatement_61 (by decide) ?_
        refine k_v (rr_v (rest := []) X w mX7_takeSign kw1098 (c_X7_takeSign 1) m4_0 rfl rfl ⟨Nat.le_of_ble_eq_true rfl, Nat.le_of_ble_eq_true rfl⟩ rfl hl.1 rfl (Nat.le_of_ble_eq_true rfl) dX7_readStatement_65 ⟨Nat.zero_le _, Nat.zero_le _⟩) w (fun H locs w => ?_)
        obtain ⟨zs65_3, ezs65_3⟩ : ∃ y : Gr, y = g_X7_takeSign zs34 1 := ⟨_, rfl⟩; rw [← ezs65_3] at w
        have hp : PA zs65_3 := by rw [ezs65_3]; first | exact takeSign_PA hp (fun q => absurd rfl q) | exact takeSign_PA hp (fun _ => hlt (by rw [zc39]; decide)) | exact takeSign_PA hp (fun _ => hlt (by rw [zc45]; decide)) | exact takeSign_PA hp (fun _ => hlt (by rw [zc51]; decide)) | exact takeSign_PA hp (fun _ => hlt (by rw [zc57]; decide))
        refine lv_aload_n hx hb dX7_readStatement_68 rfl (lv_at hl 2 rfl) ?_
        refine gf7_274 X w dX7_readStatement_69 ?_
        refine lv_if_ne (tgt := 132) hx hb dX7_readStatement_72 (by decide) (fun zc72 => ?_) (fun zc72 => ?_)
        · -- 132
          refine lv_aload_n hx hb dX7_readStatement_132 rfl (lv_at hl 2 rfl) ?_
          refine gf7_274 X w dX7_readStatement_133 ?_
          refine lv_if_ne (tgt := 255) hx hb dX7_readStatement_136 (by decide) (fun _ => ?_) (fun zc136 => absurd zc136 zc72)
          refine lv_aload_n hx hb dX7_readStatement_255 rfl (lv_at hl 2 rfl) ?_
          refine gf7_274 X w dX7_readStatement_256 ?_
          refine lv_if_ne (tgt := 328) hx hb dX7_readStatement_259 (by decide) (fun _ => ?_) (fun zc259 => absurd zc259 zc72)
          refine lv_aload_n hx hb dX7_readStatement_328 rfl (lv_at hl 2 rfl) ?_
          refine gf7_274 X w dX7_readStatement_329 ?_
          refine lv_if_ne (tgt := 443) hx hb dX7_readStatement_332 (by decide) (fun _ => ?_) (fun zc332 => absurd zc332 zc72)
          refine lv_aload_n hx hb dX7_readStatement_443 rfl (lv_at hl 2 rfl) ?_
          refine lv_aload_n hx hb dX7_readStatement_444 rfl (lv_at hl 2 rfl) ?_
          change W _ _ _ _ _ _ _ _ _ _ _ _ _ _ _ (F0 m 445 ls _)
          refine k_i (rr_v (rest := [.ref (aa G 4 0)]) X w mX7_here kw1094 (c_X7_here (by assumption)) m4_0 rfl rfl ⟨Nat.le_of_ble_eq_true rfl, Nat.le_of_ble_eq_true rfl⟩ rfl hl.1 rfl (Nat.le_of_ble_eq_true rfl) dX7_readStatement_445 ⟨Nat.zero_le _, Nat.zero_le _⟩) w (fun H locs w => ?_)
          refine lv_bipush (v := 59) hx hb dX7_readStatement_448 (by decide) ?_
          refine lv_icmp_ne (tgt := 457) hx hb dX7_readStatement_450 (by decide) (fun zc450 => ?_) (fun zc450 => ?_)
          · -- 457
            refine lv_iconst (v := 0) hx hb dX7_readStatement_457 (by decide) ?_
            refine k_v (rr_v (rest := []) X w mX7_takeSign kw1098 (c_X7_takeSign 0) m4_0 rfl rfl ⟨Nat.le_of_ble_eq_true rfl, Nat.le_of_ble_eq_true rfl⟩ rfl hl.1 rfl (Nat.le_of_ble_eq_true rfl) dX7_readStatement_458 ⟨Nat.zero_le _, Nat.zero_le _⟩) w (fun H locs w => ?_)
            obtain ⟨zs458_29, ezs458_29⟩ : ∃ y : Gr, y = g_X7_takeSign zs65_3 0 := ⟨_, rfl⟩; rw [← ezs458_29] at w
            have hp : PA zs458_29 := by rw [ezs458_29]; first | exact takeSign_PA hp (fun q => absurd rfl q) | exact takeSign_PA hp (fun _ => here_c zc450 (by decide))
            refine lv_aload_n hx hb dX7_readStatement_461 rfl (lv_at hl 2 rfl) ?_
            refine lv_dup hx hb dX7_readStatement_462 rfl ?_
            refine gf7_292 X w dX7_readStatement_463 ?_
            refine lv_iconst (v := 1) hx hb dX7_readStatement_466 (by decide) ?_
            refine lv_iadd hx hb dX7_readStatement_467 ?_
            refine pf7_292 X w dX7_readStatement_468 (fun zs468_29 H locs ezs468_29 w => ?_)
            have hp : PA zs468_29 := by rw [ezs468_29]; exact hp
            exact t_v X w hr hlk dX7_readStatement_471 (by replace ezs468_29 := ezs468_29.symm; subst ezs468_29; replace ezs458_29 := ezs458_29.symm; subst ezs458_29; replace ezs65_3 := ezs65_3.symm; subst ezs65_3; replace ezs34 := ezs34.symm; subst ezs34; replace ezs24 := ezs24.symm; subst ezs24; replace ezv11 := ezv11.symm; subst ezv11; replace ezv4 := ezv4.symm; subst ezv4; simp only [g_X7_readStatement, if_neg zc39, if_neg zc45, if_pos zc51, if_neg zc72, if_neg zc450])
          · -- 453
            refine lv_iconst (v := 1) hx hb dX7_readStatement_453 (by decide) ?_
            refine lv_goto (tgt := 458) hx hb dX7_readStatement_454 (by decide) ?_
            refine k_v (rr_v (rest := []) X w mX7_takeSign kw1098 (c_X7_takeSign 1) m4_0 rfl rfl ⟨Nat.le_of_ble_eq_true rfl, Nat.le_of_ble_eq_true rfl⟩ rfl hl.1 rfl (Nat.le_of_ble_eq_true rfl) dX7_readStatement_458 ⟨Nat.zero_le _, Nat.zero_le _⟩) w (fun H locs w => ?_)
            obtain ⟨zs458_30, ezs458_30⟩ : ∃ y : Gr, y = g_X7_takeSign zs65_3 1 := ⟨_, rfl⟩; rw [← ezs458_30] at w
            have hp : PA zs458_30 := by rw [ezs458_30]; first | exact takeSign_PA hp (fun q => absurd rfl q) | exact takeSign_PA hp (fun _ => here_c zc450 (by decide))
            refine lv_aload_n hx hb dX7_readStatement_461 rfl (lv_at hl 2 rfl) ?_
            refine lv_dup hx hb dX7_readStatement_462 rfl ?_
            refine gf7_292 X w dX7_readStatement_463 ?_
            refine lv_iconst (v := 1) hx hb dX7_readStatement_466 (by decide) ?_
            refine lv_iadd hx hb dX7_readStatement_467 ?_
            refine pf7_292 X w dX7_readStatement_468 (fun zs468_30 H locs ezs468_30 w => ?_)
            have hp : PA zs468_30 := by rw [ezs468_30]; exact hp
            exact t_v X w hr hlk dX7_readStatement_471 (by replace ezs468_30 := ezs468_30.symm; subst ezs468_30; replace ezs458_30 := ezs458_30.symm; subst ezs458_30; replace ezs65_3 := ezs65_3.symm; subst ezs65_3; replace ezs34 := ezs34.symm; subst ezs34; replace ezs24 := ezs24.symm; subst ezs24; replace ezv11 := ezv11.symm; subst ezv11; replace ezv4 := ezv4.symm; subst ezv4; simp only [g_X7_readStatement, if_neg zc39, if_neg zc45, if_pos zc51, if_neg zc72, if_pos zc450])
        · -- 75
          refine lv_iload_n hx hb dX7_readStatement_75 rfl (lv_at hl 1 rfl) ?_
          refine lv_bipush (v := 99) hx hb dX7_readStatement_76 (by decide) ?_
          refine lv_icmp_ne (tgt := 132) hx hb dX7_readStatement_78 (by decide) (fun _ => ?_) (fun zc78 => absurd zc78 zc39)
          refine lv_aload_n hx hb dX7_readStatement_132 rfl (lv_at hl 2 rfl) ?_
          refine gf7_274 X w dX7_readStatement_133 ?_
          refine lv_if_ne (tgt := 255) hx hb dX7_readStatement_136 (by decide) (fun zc136 => absurd zc72 zc136) (fun _ => ?_)
          refine lv_iload_n hx hb dX7_readStatement_139 rfl (lv_at hl 1 rfl) ?_
          refine lv_bipush (v := 119) hx hb dX7_readStatement_140 (by decide) ?_
          refine lv_icmp_ne (tgt := 255) hx hb dX7_readStatement_142 (by decide) (fun _ => ?_) (fun zc142 => absurd zc142 zc45)
          refine lv_aload_n hx hb dX7_readStatement_255 rfl (lv_at hl 2 rfl) ?_
          refine gf7_274 X w dX7_readStatement_256 ?_
          change W _ _ _ _ _ _ _ _ _ _ _ _ _ _ _ (F0 m 259 ls _)
          refine lv_if_ne (tgt := 328) hx hb dX7_readStatement_259 (by decide) (fun zc259 => absurd zc72 zc259) (fun _ => ?_)
          refine lv_iload_n hx hb dX7_readStatement_262 rfl (lv_at hl 1 rfl) ?_
          refine lv_bipush (v := 114) hx hb dX7_readStatement_263 (by decide) ?_
          refine lv_icmp_ne (tgt := 328) hx hb dX7_readStatement_265 (by decide) (fun zc265 => absurd zc51 zc265) (fun _ => ?_)
          refine lv_aload_n hx hb dX7_readStatement_268 rfl (lv_at hl 2 rfl) ?_
          refine gf7_99 X w dX7_readStatement_269 ?_
          refine lv_iload_n hx hb dX7_readStatement_272 rfl (lv_at hl 0 rfl) ?_
          refine lv_aload_n hx hb dX7_readStatement_273 rfl (lv_at hl 2 rfl) ?_
          refine k_i (rr_v (rest := [.int zv11, .ref (aa G 4 49)]) X w mX7_readDigit kw1106 (c_X7_readDigit (by assumption)) m4_0 rfl rfl ⟨Nat.le_of_ble_eq_true rfl, Nat.le_of_ble_eq_true rfl⟩ rfl hl.1 rfl (Nat.le_of_ble_eq_true rfl) dX7_readStatement_274 ⟨Nat.zero_le _, Nat.zero_le _⟩) w (fun H locs w => ?_)
          obtain ⟨zs274, ezs274⟩ : ∃ y : Gr, y = g_X7_readDigit zs65_3 := ⟨_, rfl⟩; rw [← ezs274] at w
          have hp : PA zs274 := by rw [ezs274]; exact readDigit_PA hp
          refine iS (f := 49) (n := 250) X w m4_49 rfl (rg.v (n5r ezv11 hst) (by decide) (by decide)) dX7_readStatement_277 (fun zs277 H locs ezs277 w => ?_)
          have hp : PA zs277 := by rw [ezs277]; exact hp
          refine lv_aload_n hx hb dX7_readStatement_278 rfl (lv_at hl 2 rfl) ?_
          refine gf7_99 X w dX7_readStatement_279 ?_
          change W _ _ _ _ _ _ _ _ _ _ _ _ _ _ _ (F0 m 282 ls _)
          refine lv_iload_n hx hb dX7_readStatement_282 rfl (lv_at hl 0 rfl) ?_
          refine lv_iconst (v := 1) hx hb dX7_readStatement_283 (by decide) ?_
          refine lv_iadd hx hb dX7_readStatement_284 ?_
          refine lv_aload_n hx hb dX7_readStatement_285 rfl (lv_at hl 2 rfl) ?_
          refine gf7_274 X w dX7_readStatement_286 ?_
          refine topeq (show zs277 0 45 = zs274 0 45 from by rw [ezs277]; rfl) ?_
          refine lv_if_eq (tgt := 296) hx hb dX7_readStatement_289 (by decide) (fun zc289 => ?_) (fun zc289 => ?_)
          · -- 296
            refine lv_aload_n hx hb dX7_readStatement_296 rfl (lv_at hl 2 rfl) ?_
            refine lv_bipush (v := 83) hx hb dX7_readStatement_297 (by decide) ?_
            refine lv_bipush (v := 77) hx hb dX7_readStatement_299 (by decide) ?_
            refine k_i (rr_v (rest := [.int (zv11 + 1), .ref (aa G 4 49)]) X w mX7_readOf kw1112 (c_X7_readOf 83 77 (by assumption)) m4_0 rfl rfl ⟨Nat.le_of_ble_eq_true rfl, Nat.le_of_ble_eq_true rfl⟩ rfl hl.1 rfl (Nat.le_of_ble_eq_true rfl) dX7_readStatement_301 ⟨Nat.zero_le _, Nat.zero_le _⟩) w (fun H locs w => ?_)
            obtain ⟨zs301, ezs301⟩ : ∃ y : Gr, y = g_X7_readOf zs277 83 77 := ⟨_, rfl⟩; rw [← ezs301] at w
            have hp : PA zs301 := by rw [ezs301]; exact readOf_PA hp (by decide) (by decide)
            refine iS (f := 49) (n := 250) X w m4_49 rfl (n5s (n5r ezv11 hst) 1 (by decide)) dX7_readStatement_304 (fun zs304 H locs ezs304 w => ?_)
            have hp : PA zs304 := by rw [ezs304]; exact hp
            refine lv_aload_n hx hb dX7_readStatement_305 rfl (lv_at hl 2 rfl) ?_
            refine gf7_99 X w dX7_readStatement_306 ?_
            refine lv_iload_n hx hb dX7_readStatement_309 rfl (lv_at hl 0 rfl) ?_
            refine lv_iconst (v := 2) hx hb dX7_readStatement_310 (by decide) ?_
            refine lv_iadd hx hb dX7_readStatement_311 ?_
            refine lv_aload_n hx hb dX7_readStatement_312 rfl (lv_at hl 2 rfl) ?_
            change W _ _ _ _ _ _ _ _ _ _ _ _ _ _ _ (F0 m 313 ls _)
            refine gf7_274 X w dX7_readStatement_313 ?_
            refine topeq (show zs304 0 45 = zs301 0 45 from by rw [ezs304]; rfl) ?_
            refine lv_if_eq (tgt := 323) hx hb dX7_readStatement_316 (by decide) (fun zc316 => ?_) (fun zc316 => ?_)
            · -- 323
              refine lv_aload_n hx hb dX7_readStatement_323 rfl (lv_at hl 2 rfl) ?_
              refine k_i (rr_v (rest := [.int (zv11 + 2), .ref (aa G 4 49)]) X w mX7_readNumber kw1102 (c_X7_readNumber (by assumption)) m4_0 rfl rfl ⟨Nat.le_of_ble_eq_true rfl, Nat.le_of_ble_eq_true rfl⟩ rfl hl.1 rfl (Nat.le_of_ble_eq_true rfl) dX7_readStatement_324 ⟨Nat.zero_le _, Nat.zero_le _⟩) w (fun H locs w => ?_)
              obtain ⟨zs324, ezs324⟩ : ∃ y : Gr, y = g_X7_readNumber zs304 := ⟨_, rfl⟩; rw [← ezs324] at w
              have hp : PA zs324 := by rw [ezs324]; exact readNumber_PA hp
              refine iS (f := 49) (n := 250) X w m4_49 rfl (n5s (n5r ezv11 hst) 2 (by decide)) dX7_readStatement_327 (fun zs327 H locs ezs327 w => ?_)
              have hp : PA zs327 := by rw [ezs327]; exact hp
              refine lv_aload_n hx hb dX7_readStatement_328 rfl (lv_at hl 2 rfl) ?_
              refine gf7_274 X w dX7_readStatement_329 ?_
              refine topeq (show zs327 0 45 = zs324 0 45 from by rw [ezs327]; rfl) ?_
              refine lv_if_ne (tgt := 443) hx hb dX7_readStatement_332 (by decide) (fun zc332 => ?_) (fun zc332 => ?_)
              · -- 443
                refine lv_aload_n hx hb dX7_readStatement_443 rfl (lv_at hl 2 rfl) ?_
                refine lv_aload_n hx hb dX7_readStatement_444 rfl (lv_at hl 2 rfl) ?_
                refine k_i (rr_v (rest := [.ref (aa G 4 0)]) X w mX7_here kw1094 (c_X7_here (by assumption)) m4_0 rfl rfl ⟨Nat.le_of_ble_eq_true rfl, Nat.le_of_ble_eq_true rfl⟩ rfl hl.1 rfl (Nat.le_of_ble_eq_true rfl) dX7_readStatement_445 ⟨Nat.zero_le _, Nat.zero_le _⟩) w (fun H locs w => ?_)
                refine lv_bipush (v := 59) hx hb dX7_readStatement_448 (by decide) ?_
                refine lv_icmp_ne (tgt := 457) hx hb dX7_readStatement_450 (by decide) (fun zc450 => ?_) (fun zc450 => ?_)
                · -- 457
                  refine lv_iconst (v := 0) hx hb dX7_readStatement_457 (by decide) ?_
                  refine k_v (rr_v (rest := []) X w mX7_takeSign kw1098 (c_X7_takeSign 0) m4_0 rfl rfl ⟨Nat.le_of_ble_eq_true rfl, Nat.le_of_ble_eq_true rfl⟩ rfl hl.1 rfl (Nat.le_of_ble_eq_true rfl) dX7_readStatement_458 ⟨Nat.zero_le _, Nat.zero_le _⟩) w (fun H locs w => ?_)
                  obtain ⟨zs458_31, ezs458_31⟩ : ∃ y : Gr, y = g_X7_takeSign zs327 0 := ⟨_, rfl⟩; rw [← ezs458_31] at w
                  have hp : PA zs458_31 := by rw [ezs458_31]; first | exact takeSign_PA hp (fun q => absurd rfl q) | exact takeSign_PA hp (fun _ => here_c zc450 (by decide))
                  refine lv_aload_n hx hb dX7_readStatement_461 rfl (lv_at hl 2 rfl) ?_
                  refine lv_dup hx hb dX7_readStatement_462 rfl ?_
                  refine gf7_292 X w dX7_readStatement_463 ?_
                  refine lv_iconst (v := 1) hx hb dX7_readStatement_466 (by decide) ?_
                  refine lv_iadd hx hb dX7_readStatement_467 ?_
                  refine pf7_292 X w dX7_readStatement_468 (fun zs468_31 H locs ezs468_31 w => ?_)
                  have hp : PA zs468_31 := by rw [ezs468_31]; exact hp
                  exact t_v X w hr hlk dX7_readStatement_471 (by replace ezs468_31 := ezs468_31.symm; subst ezs468_31; replace ezs458_31 := ezs458_31.symm; subst ezs458_31; replace ezs327 := ezs327.symm; subst ezs327; replace ezs324 := ezs324.symm; subst ezs324; replace ezs304 := ezs304.symm; subst ezs304; replace ezs301 := ezs301.symm; subst ezs301; replace ezs277 := ezs277.symm; subst ezs277; replace ezs274 := ezs274.symm; subst ezs274; replace ezs65_3 := ezs65_3.symm; subst ezs65_3; replace ezs34 := ezs34.symm; subst ezs34; replace ezs24 := ezs24.symm; subst ezs24; replace ezv11 := ezv11.symm; subst ezv11; replace ezv4 := ezv4.symm; subst ezv4; simp only [g_X7_readStatement, if_neg zc39, if_neg zc45, if_pos zc51, if_pos zc72, if_pos zc289, if_pos zc316, if_neg zc332, if_neg zc450])
                · -- 453
                  refine lv_iconst (v := 1) hx hb dX7_readStatement_453 (by decide) ?_
                  refine lv_goto (tgt := 458) hx hb dX7_readStatement_454 (by decide) ?_
                  refine k_v (rr_v (rest := []) X w mX7_takeSign kw1098 (c_X7_takeSign 1) m4_0 rfl rfl ⟨Nat.le_of_ble_eq_true rfl, Nat.le_of_ble_eq_true rfl⟩ rfl hl.1 rfl (Nat.le_of_ble_eq_true rfl) dX7_readStatement_458 ⟨Nat.zero_le _, Nat.zero_le _⟩) w (fun H locs w => ?_)
                  obtain ⟨zs458_32, ezs458_32⟩ : ∃ y : Gr, y = g_X7_takeSign zs327 1 := ⟨_, rfl⟩; rw [← ezs458_32] at w
                  have hp : PA zs458_32 := by rw [ezs458_32]; first | exact takeSign_PA hp (fun q => absurd rfl q) | exact takeSign_PA hp (fun _ => here_c zc450 (by decide))
                  refine lv_aload_n hx hb dX7_readStatement_461 rfl (lv_at hl 2 rfl) ?_
                  refine lv_dup hx hb dX7_readStatement_462 rfl ?_
                  refine gf7_292 X w dX7_readStatement_463 ?_
                  refine lv_iconst (v := 1) hx hb dX7_readStatement_466 (by decide) ?_
                  refine lv_iadd hx hb dX7_readStatement_467 ?_
                  refine pf7_292 X w dX7_readStatement_468 (fun zs468_32 H locs ezs468_32 w => ?_)
                  have hp : PA zs468_32 := by rw [ezs468_32]; exact hp
                  exact t_v X w hr hlk dX7_readStatement_471 (by replace ezs468_32 := ezs468_32.symm; subst ezs468_32; replace ezs458_32 := ezs458_32.symm; subst ezs458_32; replace ezs327 := ezs327.symm; subst ezs327; replace ezs324 := ezs324.symm; subst ezs324; replace ezs304 := ezs304.symm; subst ezs304; replace ezs301 := ezs301.symm; subst ezs301; replace ezs277 := ezs277.symm; subst ezs277; replace ezs274 := ezs274.symm; subst ezs274; replace ezs65_3 := ezs65_3.symm; subst ezs65_3; replace ezs34 := ezs34.symm; subst ezs34; replace ezs24 := ezs24.symm; subst ezs24; replace ezv11 := ezv11.symm; subst ezv11; replace ezv4 := ezv4.symm; subst ezv4; simp only [g_X7_readStatement, if_neg zc39, if_neg zc45, if_pos zc51, if_pos zc72, if_pos zc289, if_pos zc316, if_neg zc332, if_pos zc450])
              · -- 335
                refine lv_iload_n hx hb dX7_readStatement_335 rfl (lv_at hl 1 rfl) ?_
                refine lv_bipush (v := 109) hx hb dX7_readStatement_336 (by decide) ?_
                refine lv_icmp_ne (tgt := 443) hx hb dX7_readStatement_338 (by decide) (fun _ => ?_) (fun zc338 => absurd zc338 (by rw [zc51]; decide))
                refine lv_aload_n hx hb dX7_readStatement_443 rfl (lv_at hl 2 rfl) ?_
                refine lv_aload_n hx hb dX7_readStatement_444 rfl (lv_at hl 2 rfl) ?_
                refine k_i (rr_v (rest := [.ref (aa G 4 0)]) X w mX7_here kw1094 (c_X7_here (by assumption)) m4_0 rfl rfl ⟨Nat.le_of_ble_eq_true rfl, Nat.le_of_ble_eq_true rfl⟩ rfl hl.1 rfl (Nat.le_of_ble_eq_true rfl) dX7_readStatement_445 ⟨Nat.zero_le _, Nat.zero_le _⟩) w (fun H locs w => ?_)
                refine lv_bipush (v := 59) hx hb dX7_readStatement_448 (by decide) ?_
                refine lv_icmp_ne (tgt := 457) hx hb dX7_readStatement_450 (by decide) (fun zc450 => ?_) (fun zc450 => ?_)
                · -- 457
                  refine lv_iconst (v := 0) hx hb dX7_readStatement_457 (by decide) ?_
                  refine k_v (rr_v (rest := []) X w mX7_takeSign kw1098 (c_X7_takeSign 0) m4_0 rfl rfl ⟨Nat.le_of_ble_eq_true rfl, Nat.le_of_ble_eq_true rfl⟩ rfl hl.1 rfl (Nat.le_of_ble_eq_true rfl) dX7_readStatement_458 ⟨Nat.zero_le _, Nat.zero_le _⟩) w (fun H locs w => ?_)
                  obtain ⟨zs458_33, ezs458_33⟩ : ∃ y : Gr, y = g_X7_takeSign zs327 0 := ⟨_, rfl⟩; rw [← ezs458_33] at w
                  have hp : PA zs458_33 := by rw [ezs458_33]; first | exact takeSign_PA hp (fun q => absurd rfl q) | exact takeSign_PA hp (fun _ => here_c zc450 (by decide))
                  refine lv_aload_n hx hb dX7_readStatement_461 rfl (lv_at hl 2 rfl) ?_
                  refine lv_dup hx hb dX7_readStatement_462 rfl ?_
                  refine gf7_292 X w dX7_readStatement_463 ?_
                  refine lv_iconst (v := 1) hx hb dX7_readStatement_466 (by decide) ?_
                  refine lv_iadd hx hb dX7_readStatement_467 ?_
                  refine pf7_292 X w dX7_readStatement_468 (fun zs468_33 H locs ezs468_33 w => ?_)
                  have hp : PA zs468_33 := by rw [ezs468_33]; exact hp
                  exact t_v X w hr hlk dX7_readStatement_471 (by replace ezs468_33 := ezs468_33.symm; subst ezs468_33; replace ezs458_33 := ezs458_33.symm; subst ezs458_33; replace ezs327 := ezs327.symm; subst ezs327; replace ezs324 := ezs324.symm; subst ezs324; replace ezs304 := ezs304.symm; subst ezs304; replace ezs301 := ezs301.symm; subst ezs301; replace ezs277 := ezs277.symm; subst ezs277; replace ezs274 := ezs274.symm; subst ezs274; replace ezs65_3 := ezs65_3.symm; subst ezs65_3; replace ezs34 := ezs34.symm; subst ezs34; replace ezs24 := ezs24.symm; subst ezs24; replace ezv11 := ezv11.symm; subst ezv11; replace ezv4 := ezv4.symm; subst ezv4; simp only [g_X7_readStatement, if_neg zc39, if_neg zc45, if_pos zc51, if_pos zc72, if_pos zc289, if_pos zc316, if_pos zc332, if_neg zc450])
                · -- 453
                  refine lv_iconst (v := 1) hx hb dX7_readStatement_453 (by decide) ?_
                  refine lv_goto (tgt := 458) hx hb dX7_readStatement_454 (by decide) ?_
                  refine k_v (rr_v (rest := []) X w mX7_takeSign kw1098 (c_X7_takeSign 1) m4_0 rfl rfl ⟨Nat.le_of_ble_eq_true rfl, Nat.le_of_ble_eq_true rfl⟩ rfl hl.1 rfl (Nat.le_of_ble_eq_true rfl) dX7_readStatement_458 ⟨Nat.zero_le _, Nat.zero_le _⟩) w (fun H locs w => ?_)
                  obtain ⟨zs458_34, ezs458_34⟩ : ∃ y : Gr, y = g_X7_takeSign zs327 1 := ⟨_, rfl⟩; rw [← ezs458_34] at w
                  have hp : PA zs458_34 := by rw [ezs458_34]; first | exact takeSign_PA hp (fun q => absurd rfl q) | exact takeSign_PA hp (fun _ => here_c zc450 (by decide))
                  refine lv_aload_n hx hb dX7_readStatement_461 rfl (lv_at hl 2 rfl) ?_
                  refine lv_dup hx hb dX7_readStatement_462 rfl ?_
                  refine gf7_292 X w dX7_readStatement_463 ?_
                  refine lv_iconst (v := 1) hx hb dX7_readStatement_466 (by decide) ?_
                  refine lv_iadd hx hb dX7_readStatement_467 ?_
                  refine pf7_292 X w dX7_readStatement_468 (fun zs468_34 H locs ezs468_34 w => ?_)
                  have hp : PA zs468_34 := by rw [ezs468_34]; exact hp
                  exact t_v X w hr hlk dX7_readStatement_471 (by replace ezs468_34 := ezs468_34.symm; subst ezs468_34; replace ezs458_34 := ezs458_34.symm; subst ezs458_34; replace ezs327 := ezs327.symm; subst ezs327; replace ezs324 := ezs324.symm; subst ezs324; replace ezs304 := ezs304.symm; subst ezs304; replace ezs301 := ezs301.symm; subst ezs301; replace ezs277 := ezs277.symm; subst ezs277; replace ezs274 := ezs274.symm; subst ezs274; replace ezs65_3 := ezs65_3.symm; subst ezs65_3; replace ezs34 := ezs34.symm; subst ezs34; replace ezs24 := ezs24.symm; subst ezs24; replace ezv11 := ezv11.symm; subst ezv11; replace ezv4 := ezv4.symm; subst ezv4; simp only [g_X7_readStatement, if_neg zc39, if_neg zc45, if_pos zc51, if_pos zc72, if_pos zc289, if_pos zc316, if_pos zc332, if_pos zc450])
            · -- 319
              refine lv_iconst (v := 0) hx hb dX7_readStatement_319 (by decide) ?_
              refine lv_goto (tgt := 327) hx hb dX7_readStatement_320 (by decide) ?_
              refine iS (f := 49) (n := 250) X w m4_49 rfl (n5s (n5r ezv11 hst) 2 (by decide)) dX7_readStatement_327 (fun zs327_2 H locs ezs327_2 w => ?_)
              have hp : PA zs327_2 := by rw [ezs327_2]; exact hp
              refine lv_aload_n hx hb dX7_readStatement_328 rfl (lv_at hl 2 rfl) ?_
              refine gf7_274 X w dX7_readStatement_329 ?_
              refine topeq (show zs327_2 0 45 = zs301 0 45 from by rw [ezs327_2, ezs304]; rfl) ?_
              refine lv_if_ne (tgt := 443) hx hb dX7_readStatement_332 (by decide) (fun _ => ?_) (fun zc332 => absurd zc332 zc316)
              refine lv_aload_n hx hb dX7_readStatement_443 rfl (lv_at hl 2 rfl) ?_
              refine lv_aload_n hx hb dX7_readStatement_444 rfl (lv_at hl 2 rfl) ?_
              refine k_i (rr_v (rest := [.ref (aa G 4 0)]) X w mX7_here kw1094 (c_X7_here (by assumption)) m4_0 rfl rfl ⟨Nat.le_of_ble_eq_true rfl, Nat.le_of_ble_eq_true rfl⟩ rfl hl.1 rfl (Nat.le_of_ble_eq_true rfl) dX7_readStatement_445 ⟨Nat.zero_le _, Nat.zero_le _⟩) w (fun H locs w => ?_)
              refine lv_bipush (v := 59) hx hb dX7_readStatement_448 (by decide) ?_
              refine lv_icmp_ne (tgt := 457) hx hb dX7_readStatement_450 (by decide) (fun zc450 => ?_) (fun zc450 => ?_)
              · -- 457
                refine lv_iconst (v := 0) hx hb dX7_readStatement_457 (by decide) ?_
                refine k_v (rr_v (rest := []) X w mX7_takeSign kw1098 (c_X7_takeSign 0) m4_0 rfl rfl ⟨Nat.le_of_ble_eq_true rfl, Nat.le_of_ble_eq_true rfl⟩ rfl hl.1 rfl (Nat.le_of_ble_eq_true rfl) dX7_readStatement_458 ⟨Nat.zero_le _, Nat.zero_le _⟩) w (fun H locs w => ?_)
                obtain ⟨zs458_35, ezs458_35⟩ : ∃ y : Gr, y = g_X7_takeSign zs327_2 0 := ⟨_, rfl⟩; rw [← ezs458_35] at w
                have hp : PA zs458_35 := by rw [ezs458_35]; first | exact takeSign_PA hp (fun q => absurd rfl q) | exact takeSign_PA hp (fun _ => here_c zc450 (by decide))
                refine lv_aload_n hx hb dX7_readStatement_461 rfl (lv_at hl 2 rfl) ?_
                refine lv_dup hx hb dX7_readStatement_462 rfl ?_
                refine gf7_292 X w dX7_readStatement_463 ?_
                refine lv_iconst (v := 1) hx hb dX7_readStatement_466 (by decide) ?_
                refine lv_iadd hx hb dX7_readStatement_467 ?_
                refine pf7_292 X w dX7_readStatement_468 (fun zs468_35 H locs ezs468_35 w => ?_)
                have hp : PA zs468_35 := by rw [ezs468_35]; exact hp
                exact t_v X w hr hlk dX7_readStatement_471 (by replace ezs468_35 := ezs468_35.symm; subst ezs468_35; replace ezs458_35 := ezs458_35.symm; subst ezs458_35; replace ezs327_2 := ezs327_2.symm; subst ezs327_2; replace ezs304 := ezs304.symm; subst ezs304; replace ezs301 := ezs301.symm; subst ezs301; replace ezs277 := ezs277.symm; subst ezs277; replace ezs274 := ezs274.symm; subst ezs274; replace ezs65_3 := ezs65_3.symm; subst ezs65_3; replace ezs34 := ezs34.symm; subst ezs34; replace ezs24 := ezs24.symm; subst ezs24; replace ezv11 := ezv11.symm; subst ezv11; replace ezv4 := ezv4.symm; subst ezv4; simp only [g_X7_readStatement, if_neg zc39, if_neg zc45, if_pos zc51, if_pos zc72, if_pos zc289, if_neg zc316, if_neg zc450])
              · -- 453
                refine lv_iconst (v := 1) hx hb dX7_readStatement_453 (by decide) ?_
                refine lv_goto (tgt := 458) hx hb dX7_readStatement_454 (by decide) ?_
                refine k_v (rr_v (rest := []) X w mX7_takeSign kw1098 (c_X7_takeSign 1) m4_0 rfl rfl ⟨Nat.le_of_ble_eq_true rfl, Nat.le_of_ble_eq_true rfl⟩ rfl hl.1 rfl (Nat.le_of_ble_eq_true rfl) dX7_readStatement_458 ⟨Nat.zero_le _, Nat.zero_le _⟩) w (fun H locs w => ?_)
                obtain ⟨zs458_36, ezs458_36⟩ : ∃ y : Gr, y = g_X7_takeSign zs327_2 1 := ⟨_, rfl⟩; rw [← ezs458_36] at w
                have hp : PA zs458_36 := by rw [ezs458_36]; first | exact takeSign_PA hp (fun q => absurd rfl q) | exact takeSign_PA hp (fun _ => here_c zc450 (by decide))
                refine lv_aload_n hx hb dX7_readStatement_461 rfl (lv_at hl 2 rfl) ?_
                refine lv_dup hx hb dX7_readStatement_462 rfl ?_
                refine gf7_292 X w dX7_readStatement_463 ?_
                refine lv_iconst (v := 1) hx hb dX7_readStatement_466 (by decide) ?_
                refine lv_iadd hx hb dX7_readStatement_467 ?_
                refine pf7_292 X w dX7_readStatement_468 (fun zs468_36 H locs ezs468_36 w => ?_)
                have hp : PA zs468_36 := by rw [ezs468_36]; exact hp
                exact t_v X w hr hlk dX7_readStatement_471 (by replace ezs468_36 := ezs468_36.symm; subst ezs468_36; replace ezs458_36 := ezs458_36.symm; subst ezs458_36; replace ezs327_2 := ezs327_2.symm; subst ezs327_2; replace ezs304 := ezs304.symm; subst ezs304; replace ezs301 := ezs301.symm; subst ezs301; replace ezs277 := ezs277.symm; subst ezs277; replace ezs274 := ezs274.symm; subst ezs274; replace ezs65_3 := ezs65_3.symm; subst ezs65_3; replace ezs34 := ezs34.symm; subst ezs34; replace ezs24 := ezs24.symm; subst ezs24; replace ezv11 := ezv11.symm; subst ezv11; replace ezv4 := ezv4.symm; subst ezv4; simp only [g_X7_readStatement, if_neg zc39, if_neg zc45, if_pos zc51, if_pos zc72, if_pos zc289, if_neg zc316, if_pos zc450])
          · -- 292
            refine lv_iconst (v := 0) hx hb dX7_readStatement_292 (by decide) ?_
            refine lv_goto (tgt := 304) hx hb dX7_readStatement_293 (by decide) ?_
            refine iS (f := 49) (n := 250) X w m4_49 rfl (n5s (n5r ezv11 hst) 1 (by decide)) dX7_readStatement_304 (fun zs304_2 H locs ezs304_2 w => ?_)
            have hp : PA zs304_2 := by rw [ezs304_2]; exact hp
            refine lv_aload_n hx hb dX7_readStatement_305 rfl (lv_at hl 2 rfl) ?_
            refine gf7_99 X w dX7_readStatement_306 ?_
            refine lv_iload_n hx hb dX7_readStatement_309 rfl (lv_at hl 0 rfl) ?_
            refine lv_iconst (v := 2) hx hb dX7_readStatement_310 (by decide) ?_
            refine lv_iadd hx hb dX7_readStatement_311 ?_
            refine lv_aload_n hx hb dX7_readStatement_312 rfl (lv_at hl 2 rfl) ?_
            refine gf7_274 X w dX7_readStatement_313 ?_
            refine topeq (show zs304_2 0 45 = zs274 0 45 from by rw [ezs304_2, ezs277]; rfl) ?_
            refine lv_if_eq (tgt := 323) hx hb dX7_readStatement_316 (by decide) (fun zc316 => absurd zc316 zc289) (fun _ => ?_)
            change W _ _ _ _ _ _ _ _ _ _ _ _ _ _ _ (F0 m 319 ls _)
            refine lv_iconst (v := 0) hx hb dX7_readStatement_319 (by decide) ?_
            refine lv_goto (tgt := 327) hx hb dX7_readStatement_320 (by decide) ?_
            refine iS (f := 49) (n := 250) X w m4_49 rfl (n5s (n5r ezv11 hst) 2 (by decide)) dX7_readStatement_327 (fun zs327_3 H locs ezs327_3 w => ?_)
            have hp : PA zs327_3 := by rw [ezs327_3]; exact hp
            refine lv_aload_n hx hb dX7_readStatement_328 rfl (lv_at hl 2 rfl) ?_
            refine gf7_274 X w dX7_readStatement_329 ?_
            refine topeq (show zs327_3 0 45 = zs274 0 45 from by rw [ezs327_3, ezs304_2, ezs277]; rfl) ?_
            refine lv_if_ne (tgt := 443) hx hb dX7_readStatement_332 (by decide) (fun _ => ?_) (fun zc332 => absurd zc332 zc289)
            refine lv_aload_n hx hb dX7_readStatement_443 rfl (lv_at hl 2 rfl) ?_
            refine lv_aload_n hx hb dX7_readStatement_444 rfl (lv_at hl 2 rfl) ?_
            refine k_i (rr_v (rest := [.ref (aa G 4 0)]) X w mX7_here kw1094 (c_X7_here (by assumption)) m4_0 rfl rfl ⟨Nat.le_of_ble_eq_true rfl, Nat.le_of_ble_eq_true rfl⟩ rfl hl.1 rfl (Nat.le_of_ble_eq_true rfl) dX7_readStatement_445 ⟨Nat.zero_le _, Nat.zero_le _⟩) w (fun H locs w => ?_)
            refine lv_bipush (v := 59) hx hb dX7_readStatement_448 (by decide) ?_
            refine lv_icmp_ne (tgt := 457) hx hb dX7_readStatement_450 (by decide) (fun zc450 => ?_) (fun zc450 => ?_)
            · -- 457
              refine lv_iconst (v := 0) hx hb dX7_readStatement_457 (by decide) ?_
              refine k_v (rr_v (rest := []) X w mX7_takeSign kw1098 (c_X7_takeSign 0) m4_0 rfl rfl ⟨Nat.le_of_ble_eq_true rfl, Nat.le_of_ble_eq_true rfl⟩ rfl hl.1 rfl (Nat.le_of_ble_eq_true rfl) dX7_readStatement_458 ⟨Nat.zero_le _, Nat.zero_le _⟩) w (fun H locs w => ?_)
              obtain ⟨zs458_37, ezs458_37⟩ : ∃ y : Gr, y = g_X7_takeSign zs327_3 0 := ⟨_, rfl⟩; rw [← ezs458_37] at w
              have hp : PA zs458_37 := by rw [ezs458_37]; first | exact takeSign_PA hp (fun q => absurd rfl q) | exact takeSign_PA hp (fun _ => here_c zc450 (by decide))
              refine lv_aload_n hx hb dX7_readStatement_461 rfl (lv_at hl 2 rfl) ?_
              refine lv_dup hx hb dX7_readStatement_462 rfl ?_
              refine gf7_292 X w dX7_readStatement_463 ?_
              refine lv_iconst (v := 1) hx hb dX7_readStatement_466 (by decide) ?_
              refine lv_iadd hx hb dX7_readStatement_467 ?_
              refine pf7_292 X w dX7_readStatement_468 (fun zs468_37 H locs ezs468_37 w => ?_)
              have hp : PA zs468_37 := by rw [ezs468_37]; exact hp
              exact t_v X w hr hlk dX7_readStatement_471 (by replace ezs468_37 := ezs468_37.symm; subst ezs468_37; replace ezs458_37 := ezs458_37.symm; subst ezs458_37; replace ezs327_3 := ezs327_3.symm; subst ezs327_3; replace ezs304_2 := ezs304_2.symm; subst ezs304_2; replace ezs277 := ezs277.symm; subst ezs277; replace ezs274 := ezs274.symm; subst ezs274; replace ezs65_3 := ezs65_3.symm; subst ezs65_3; replace ezs34 := ezs34.symm; subst ezs34; replace ezs24 := ezs24.symm; subst ezs24; replace ezv11 := ezv11.symm; subst ezv11; replace ezv4 := ezv4.symm; subst ezv4; simp only [g_X7_readStatement, if_neg zc39, if_neg zc45, if_pos zc51, if_pos zc72, if_neg zc289, if_neg zc450])
            · -- 453
              refine lv_iconst (v := 1) hx hb dX7_readStatement_453 (by decide) ?_
              refine lv_goto (tgt := 458) hx hb dX7_readStatement_454 (by decide) ?_
              refine k_v (rr_v (rest := []) X w mX7_takeSign kw1098 (c_X7_takeSign 1) m4_0 rfl rfl ⟨Nat.le_of_ble_eq_true rfl, Nat.le_of_ble_eq_true rfl⟩ rfl hl.1 rfl (Nat.le_of_ble_eq_true rfl) dX7_readStatement_458 ⟨Nat.zero_le _, Nat.zero_le _⟩) w (fun H locs w => ?_)
              obtain ⟨zs458_38, ezs458_38⟩ : ∃ y : Gr, y = g_X7_takeSign zs327_3 1 := ⟨_, rfl⟩; rw [← ezs458_38] at w
              have hp : PA zs458_38 := by rw [ezs458_38]; first | exact takeSign_PA hp (fun q => absurd rfl q) | exact takeSign_PA hp (fun _ => here_c zc450 (by decide))
              refine lv_aload_n hx hb dX7_readStatement_461 rfl (lv_at hl 2 rfl) ?_
              refine lv_dup hx hb dX7_readStatement_462 rfl ?_
              refine gf7_292 X w dX7_readStatement_463 ?_
              refine lv_iconst (v := 1) hx hb dX7_readStatement_466 (by decide) ?_
              refine lv_iadd hx hb dX7_readStatement_467 ?_
              refine pf7_292 X w dX7_readStatement_468 (fun zs468_38 H locs ezs468_38 w => ?_)
              have hp : PA zs468_38 := by rw [ezs468_38]; exact hp
              exact t_v X w hr hlk dX7_readStatement_471 (by replace ezs468_38 := ezs468_38.symm; subst ezs468_38; replace ezs458_38 := ezs458_38.symm; subst ezs458_38; replace ezs327_3 := ezs327_3.symm; subst ezs327_3; replace ezs304_2 := ezs304_2.symm; subst ezs304_2; replace ezs277 := ezs277.symm; subst ezs277; replace ezs274 := ezs274.symm; subst ezs274; replace ezs65_3 := ezs65_3.symm; subst ezs65_3; replace ezs34 := ezs34.symm; subst ezs34; replace ezs24 := ezs24.symm; subst ezs24; replace ezv11 := ezv11.symm; subst ezv11; replace ezv4 := ezv4.symm; subst ezv4; simp only [g_X7_readStatement, if_neg zc39, if_neg zc45, if_pos zc51, if_pos zc72, if_neg zc289, if_pos zc450])
      · -- 54
        refine lv_iload_n hx hb dX7_readStatement_54 rfl (lv_at hl 1 rfl) ?_
        refine lv_bipush (v := 109) hx hb dX7_readStatement_55 (by decide) ?_
        refine lv_icmp_ne (tgt := 64) hx hb dX7_readStatement_57 (by decide) (fun zc57 => ?_) (fun zc57 => ?_)
        · -- 64
          refine lv_iconst (v := 0) hx hb dX7_readStatement_64 (by decide) ?_
          refine k_v (rr_v (rest := []) X w mX7_takeSign kw1098 (c_X7_takeSign 0) m4_0 rfl rfl ⟨Nat.le_of_ble_eq_true rfl, Nat.le_of_ble_eq_true rfl⟩ rfl hl.1 rfl (Nat.le_of_ble_eq_true rfl) dX7_readStatement_65 ⟨Nat.zero_le _, Nat.zero_le _⟩) w (fun H locs w => ?_)
          obtain ⟨zs65_4, ezs65_4⟩ : ∃ y : Gr, y = g_X7_takeSign zs34 0 := ⟨_, rfl⟩; rw [← ezs65_4] at w
          have hp : PA zs65_4 := by rw [ezs65_4]; first | exact takeSign_PA hp (fun q => absurd rfl q) | exact takeSign_PA hp (fun _ => hlt (by rw [zc39]; decide)) | exact takeSign_PA hp (fun _ => hlt (by rw [zc45]; decide)) | exact takeSign_PA hp (fun _ => hlt (by rw [zc51]; decide)) | exact takeSign_PA hp (fun _ => hlt (by rw [zc57]; decide))
          refine lv_aload_n hx hb dX7_readStatement_68 rfl (lv_at hl 2 rfl) ?_
          refine gf7_274 X w dX7_readStatement_69 ?_
          refine lv_if_ne (tgt := 132) hx hb dX7_readStatement_72 (by decide) (fun zc72 => ?_) (fun zc72 => ?_)
          · -- 132
            refine lv_aload_n hx hb dX7_readStatement_132 rfl (lv_at hl 2 rfl) ?_
            refine gf7_274 X w dX7_readStatement_133 ?_
            refine lv_if_ne (tgt := 255) hx hb dX7_readStatement_136 (by decide) (fun _ => ?_) (fun zc136 => absurd zc136 zc72)
            refine lv_aload_n hx hb dX7_readStatement_255 rfl (lv_at hl 2 rfl) ?_
            refine gf7_274 X w dX7_readStatement_256 ?_
            refine lv_if_ne (tgt := 328) hx hb dX7_readStatement_259 (by decide) (fun _ => ?_) (fun zc259 => absurd zc259 zc72)
            refine lv_aload_n hx hb dX7_readStatement_328 rfl (lv_at hl 2 rfl) ?_
            refine gf7_274 X w dX7_readStatement_329 ?_
            refine lv_if_ne (tgt := 443) hx hb dX7_readStatement_332 (by decide) (fun _ => ?_) (fun zc332 => absurd zc332 zc72)
            refine lv_aload_n hx hb dX7_readStatement_443 rfl (lv_at hl 2 rfl) ?_
            refine lv_aload_n hx hb dX7_readStatement_444 rfl (lv_at hl 2 rfl) ?_
            change W _ _ _ _ _ _ _ _ _ _ _ _ _ _ _ (F0 m 445 ls _)
            refine k_i (rr_v (rest := [.ref (aa G 4 0)]) X w mX7_here kw1094 (c_X7_here (by assumption)) m4_0 rfl rfl ⟨Nat.le_of_ble_eq_true rfl, Nat.le_of_ble_eq_true rfl⟩ rfl hl.1 rfl (Nat.le_of_ble_eq_true rfl) dX7_readStatement_445 ⟨Nat.zero_le _, Nat.zero_le _⟩) w (fun H locs w => ?_)
            refine lv_bipush (v := 59) hx hb dX7_readStatement_448 (by decide) ?_
            refine lv_icmp_ne (tgt := 457) hx hb dX7_readStatement_450 (by decide) (fun zc450 => ?_) (fun zc450 => ?_)
            · -- 457
              refine lv_iconst (v := 0) hx hb dX7_readStatement_457 (by decide) ?_
              refine k_v (rr_v (rest := []) X w mX7_takeSign kw1098 (c_X7_takeSign 0) m4_0 rfl rfl ⟨Nat.le_of_ble_eq_true rfl, Nat.le_of_ble_eq_true rfl⟩ rfl hl.1 rfl (Nat.le_of_ble_eq_true rfl) dX7_readStatement_458 ⟨Nat.zero_le _, Nat.zero_le _⟩) w (fun H locs w => ?_)
              obtain ⟨zs458_39, ezs458_39⟩ : ∃ y : Gr, y = g_X7_takeSign zs65_4 0 := ⟨_, rfl⟩; rw [← ezs458_39] at w
              have hp : PA zs458_39 := by rw [ezs458_39]; first | exact takeSign_PA hp (fun q => absurd rfl q) | exact takeSign_PA hp (fun _ => here_c zc450 (by decide))
              refine lv_aload_n hx hb dX7_readStatement_461 rfl (lv_at hl 2 rfl) ?_
              refine lv_dup hx hb dX7_readStatement_462 rfl ?_
              refine gf7_292 X w dX7_readStatement_463 ?_
              refine lv_iconst (v := 1) hx hb dX7_readStatement_466 (by decide) ?_
              refine lv_iadd hx hb dX7_readStatement_467 ?_
              refine pf7_292 X w dX7_readStatement_468 (fun zs468_39 H locs ezs468_39 w => ?_)
              have hp : PA zs468_39 := by rw [ezs468_39]; exact hp
              exact t_v X w hr hlk dX7_readStatement_471 (by replace ezs468_39 := ezs468_39.symm; subst ezs468_39; replace ezs458_39 := ezs458_39.symm; subst ezs458_39; replace ezs65_4 := ezs65_4.symm; subst ezs65_4; replace ezs34 := ezs34.symm; subst ezs34; replace ezs24 := ezs24.symm; subst ezs24; replace ezv11 := ezv11.symm; subst ezv11; replace ezv4 := ezv4.symm; subst ezv4; simp only [g_X7_readStatement, if_neg zc39, if_neg zc45, if_neg zc51, if_neg zc57, if_neg zc72, if_neg zc450])
            · -- 453
              refine lv_iconst (v := 1) hx hb dX7_readStatement_453 (by decide) ?_
              refine lv_goto (tgt := 458) hx hb dX7_readStatement_454 (by decide) ?_
              refine k_v (rr_v (rest := []) X w mX7_takeSign kw1098 (c_X7_takeSign 1) m4_0 rfl rfl ⟨Nat.le_of_ble_eq_true rfl, Nat.le_of_ble_eq_true rfl⟩ rfl hl.1 rfl (Nat.le_of_ble_eq_true rfl) dX7_readStatement_458 ⟨Nat.zero_le _, Nat.zero_le _⟩) w (fun H locs w => ?_)
              obtain ⟨zs458_40, ezs458_40⟩ : ∃ y : Gr, y = g_X7_takeSign zs65_4 1 := ⟨_, rfl⟩; rw [← ezs458_40] at w
              have hp : PA zs458_40 := by rw [ezs458_40]; first | exact takeSign_PA hp (fun q => absurd rfl q) | exact takeSign_PA hp (fun _ => here_c zc450 (by decide))
              refine lv_aload_n hx hb dX7_readStatement_461 rfl (lv_at hl 2 rfl) ?_
              refine lv_dup hx hb dX7_readStatement_462 rfl ?_
              refine gf7_292 X w dX7_readStatement_463 ?_
              refine lv_iconst (v := 1) hx hb dX7_readStatement_466 (by decide) ?_
              refine lv_iadd hx hb dX7_readStatement_467 ?_
              refine pf7_292 X w dX7_readStatement_468 (fun zs468_40 H locs ezs468_40 w => ?_)
              have hp : PA zs468_40 := by rw [ezs468_40]; exact hp
              exact t_v X w hr hlk dX7_readStatement_471 (by replace ezs468_40 := ezs468_40.symm; subst ezs468_40; replace ezs458_40 := ezs458_40.symm; subst ezs458_40; replace ezs65_4 := ezs65_4.symm; subst ezs65_4; replace ezs34 := ezs34.symm; subst ezs34; replace ezs24 := ezs24.symm; subst ezs24; replace ezv11 := ezv11.symm; subst ezv11; replace ezv4 := ezv4.symm; subst ezv4; simp only [g_X7_readStatement, if_neg zc39, if_neg zc45, if_neg zc51, if_neg zc57, if_neg zc72, if_pos zc450])
          · -- 75
            refine lv_iload_n hx hb dX7_readStatement_75 rfl (lv_at hl 1 rfl) ?_
            refine lv_bipush (v := 99) hx hb dX7_readStatement_76 (by decide) ?_
            refine lv_icmp_ne (tgt := 132) hx hb dX7_readStatement_78 (by decide) (fun _ => ?_) (fun zc78 => absurd zc78 zc39)
            refine lv_aload_n hx hb dX7_readStatement_132 rfl (lv_at hl 2 rfl) ?_
            refine gf7_274 X w dX7_readStatement_133 ?_
            refine lv_if_ne (tgt := 255) hx hb dX7_readStatement_136 (by decide) (fun zc136 => absurd zc72 zc136) (fun _ => ?_)
            refine lv_iload_n hx hb dX7_readStatement_139 rfl (lv_at hl 1 rfl) ?_
            refine lv_bipush (v := 119) hx hb dX7_readStatement_140 (by decide) ?_
            refine lv_icmp_ne (tgt := 255) hx hb dX7_readStatement_142 (by decide) (fun _ => ?_) (fun zc142 => absurd zc142 zc45)
            refine lv_aload_n hx hb dX7_readStatement_255 rfl (lv_at hl 2 rfl) ?_
            refine gf7_274 X w dX7_readStatement_256 ?_
            change W _ _ _ _ _ _ _ _ _ _ _ _ _ _ _ (F0 m 259 ls _)
            refine lv_if_ne (tgt := 328) hx hb dX7_readStatement_259 (by decide) (fun zc259 => absurd zc72 zc259) (fun _ => ?_)
            refine lv_iload_n hx hb dX7_readStatement_262 rfl (lv_at hl 1 rfl) ?_
            refine lv_bipush (v := 114) hx hb dX7_readStatement_263 (by decide) ?_
            refine lv_icmp_ne (tgt := 328) hx hb dX7_readStatement_265 (by decide) (fun _ => ?_) (fun zc265 => absurd zc265 zc51)
            refine lv_aload_n hx hb dX7_readStatement_328 rfl (lv_at hl 2 rfl) ?_
            refine gf7_274 X w dX7_readStatement_329 ?_
            refine lv_if_ne (tgt := 443) hx hb dX7_readStatement_332 (by decide) (fun zc332 => absurd zc72 zc332) (fun _ => ?_)
            refine lv_iload_n hx hb dX7_readStatement_335 rfl (lv_at hl 1 rfl) ?_
            refine lv_bipush (v := 109) hx hb dX7_readStatement_336 (by decide) ?_
            refine lv_icmp_ne (tgt := 443) hx hb dX7_readStatement_338 (by decide) (fun _ => ?_) (fun zc338 => absurd zc338 zc57)
            refine lv_aload_n hx hb dX7_readStatement_443 rfl (lv_at hl 2 rfl) ?_
            refine lv_aload_n hx hb dX7_readStatement_444 rfl (lv_at hl 2 rfl) ?_
            change W _ _ _ _ _ _ _ _ _ _ _ _ _ _ _ (F0 m 445 ls _)
            refine k_i (rr_v (rest := [.ref (aa G 4 0)]) X w mX7_here kw1094 (c_X7_here (by assumption)) m4_0 rfl rfl ⟨Nat.le_of_ble_eq_true rfl, Nat.le_of_ble_eq_true rfl⟩ rfl hl.1 rfl (Nat.le_of_ble_eq_true rfl) dX7_readStatement_445 ⟨Nat.zero_le _, Nat.zero_le _⟩) w (fun H locs w => ?_)
            refine lv_bipush (v := 59) hx hb dX7_readStatement_448 (by decide) ?_
            refine lv_icmp_ne (tgt := 457) hx hb dX7_readStatement_450 (by decide) (fun zc450 => ?_) (fun zc450 => ?_)
            · -- 457
              refine lv_iconst (v := 0) hx hb dX7_readStatement_457 (by decide) ?_
              refine k_v (rr_v (rest := []) X w mX7_takeSign kw1098 (c_X7_takeSign 0) m4_0 rfl rfl ⟨Nat.le_of_ble_eq_true rfl, Nat.le_of_ble_eq_true rfl⟩ rfl hl.1 rfl (Nat.le_of_ble_eq_true rfl) dX7_readStatement_458 ⟨Nat.zero_le _, Nat.zero_le _⟩) w (fun H locs w => ?_)
              obtain ⟨zs458_41, ezs458_41⟩ : ∃ y : Gr, y = g_X7_takeSign zs65_4 0 := ⟨_, rfl⟩; rw [← ezs458_41] at w
              have hp : PA zs458_41 := by rw [ezs458_41]; first | exact takeSign_PA hp (fun q => absurd rfl q) | exact takeSign_PA hp (fun _ => here_c zc450 (by decide))
              refine lv_aload_n hx hb dX7_readStatement_461 rfl (lv_at hl 2 rfl) ?_
              refine lv_dup hx hb dX7_readStatement_462 rfl ?_
              refine gf7_292 X w dX7_readStatement_463 ?_
              refine lv_iconst (v := 1) hx hb dX7_readStatement_466 (by decide) ?_
              refine lv_iadd hx hb dX7_readStatement_467 ?_
              refine pf7_292 X w dX7_readStatement_468 (fun zs468_41 H locs ezs468_41 w => ?_)
              have hp : PA zs468_41 := by rw [ezs468_41]; exact hp
              exact t_v X w hr hlk dX7_readStatement_471 (by replace ezs468_41 := ezs468_41.symm; subst ezs468_41; replace ezs458_41 := ezs458_41.symm; subst ezs458_41; replace ezs65_4 := ezs65_4.symm; subst ezs65_4; replace ezs34 := ezs34.symm; subst ezs34; replace ezs24 := ezs24.symm; subst ezs24; replace ezv11 := ezv11.symm; subst ezv11; replace ezv4 := ezv4.symm; subst ezv4; simp only [g_X7_readStatement, if_neg zc39, if_neg zc45, if_neg zc51, if_neg zc57, if_pos zc72, if_neg zc450])
            · -- 453
              refine lv_iconst (v := 1) hx hb dX7_readStatement_453 (by decide) ?_
              refine lv_goto (tgt := 458) hx hb dX7_readStatement_454 (by decide) ?_
              refine k_v (rr_v (rest := []) X w mX7_takeSign kw1098 (c_X7_takeSign 1) m4_0 rfl rfl ⟨Nat.le_of_ble_eq_true rfl, Nat.le_of_ble_eq_true rfl⟩ rfl hl.1 rfl (Nat.le_of_ble_eq_true rfl) dX7_readStatement_458 ⟨Nat.zero_le _, Nat.zero_le _⟩) w (fun H locs w => ?_)
              obtain ⟨zs458_42, ezs458_42⟩ : ∃ y : Gr, y = g_X7_takeSign zs65_4 1 := ⟨_, rfl⟩; rw [← ezs458_42] at w
              have hp : PA zs458_42 := by rw [ezs458_42]; first | exact takeSign_PA hp (fun q => absurd rfl q) | exact takeSign_PA hp (fun _ => here_c zc450 (by decide))
              refine lv_aload_n hx hb dX7_readStatement_461 rfl (lv_at hl 2 rfl) ?_
              refine lv_dup hx hb dX7_readStatement_462 rfl ?_
              refine gf7_292 X w dX7_readStatement_463 ?_
              refine lv_iconst (v := 1) hx hb dX7_readStatement_466 (by decide) ?_
              refine lv_iadd hx hb dX7_readStatement_467 ?_
              refine pf7_292 X w dX7_readStatement_468 (fun zs468_42 H locs ezs468_42 w => ?_)
              have hp : PA zs468_42 := by rw [ezs468_42]; exact hp
              exact t_v X w hr hlk dX7_readStatement_471 (by replace ezs468_42 := ezs468_42.symm; subst ezs468_42; replace ezs458_42 := ezs458_42.symm; subst ezs458_42; replace ezs65_4 := ezs65_4.symm; subst ezs65_4; replace ezs34 := ezs34.symm; subst ezs34; replace ezs24 := ezs24.symm; subst ezs24; replace ezv11 := ezv11.symm; subst ezv11; replace ezv4 := ezv4.symm; subst ezv4; simp only [g_X7_readStatement, if_neg zc39, if_neg zc45, if_neg zc51, if_neg zc57, if_pos zc72, if_pos zc450])
        · -- 60
          refine lv_iconst (v := 1) hx hb dX7_readStatement_60 (by decide) ?_
          refine lv_goto (tgt := 65) hx hb dX7_readStatement_61 (by decide) ?_
          refine k_v (rr_v (rest := []) X w mX7_takeSign kw1098 (c_X7_takeSign 1) m4_0 rfl rfl ⟨Nat.le_of_ble_eq_true rfl, Nat.le_of_ble_eq_true rfl⟩ rfl hl.1 rfl (Nat.le_of_ble_eq_true rfl) dX7_readStatement_65 ⟨Nat.zero_le _, Nat.zero_le _⟩) w (fun H locs w => ?_)
          obtain ⟨zs65_5, ezs65_5⟩ : ∃ y : Gr, y = g_X7_takeSign zs34 1 := ⟨_, rfl⟩; rw [← ezs65_5] at w
          have hp : PA zs65_5 := by rw [ezs65_5]; first | exact takeSign_PA hp (fun q => absurd rfl q) | exact takeSign_PA hp (fun _ => hlt (by rw [zc39]; decide)) | exact takeSign_PA hp (fun _ => hlt (by rw [zc45]; decide)) | exact takeSign_PA hp (fun _ => hlt (by rw [zc51]; decide)) | exact takeSign_PA hp (fun _ => hlt (by rw [zc57]; decide))
          refine lv_aload_n hx hb dX7_readStatement_68 rfl (lv_at hl 2 rfl) ?_
          refine gf7_274 X w dX7_readStatement_69 ?_
          refine lv_if_ne (tgt := 132) hx hb dX7_readStatement_72 (by decide) (fun zc72 => ?_) (fun zc72 => ?_)
          · -- 132
            refine lv_aload_n hx hb dX7_readStatement_132 rfl (lv_at hl 2 rfl) ?_
            refine gf7_274 X w dX7_readStatement_133 ?_
            refine lv_if_ne (tgt := 255) hx hb dX7_readStatement_136 (by decide) (fun _ => ?_) (fun zc136 => absurd zc136 zc72)
            refine lv_aload_n hx hb dX7_readStatement_255 rfl (lv_at hl 2 rfl) ?_
            refine gf7_274 X w dX7_readStatement_256 ?_
            refine lv_if_ne (tgt := 328) hx hb dX7_readStatement_259 (by decide) (fun _ => ?_) (fun zc259 => absurd zc259 zc72)
            refine lv_aload_n hx hb dX7_readStatement_328 rfl (lv_at hl 2 rfl) ?_
            refine gf7_274 X w dX7_readStatement_329 ?_
            refine lv_if_ne (tgt := 443) hx hb dX7_readStatement_332 (by decide) (fun _ => ?_) (fun zc332 => absurd zc332 zc72)
            refine lv_aload_n hx hb dX7_readStatement_443 rfl (lv_at hl 2 rfl) ?_
            refine lv_aload_n hx hb dX7_readStatement_444 rfl (lv_at hl 2 rfl) ?_
            change W _ _ _ _ _ _ _ _ _ _ _ _ _ _ _ (F0 m 445 ls _)
            refine k_i (rr_v (rest := [.ref (aa G 4 0)]) X w mX7_here kw1094 (c_X7_here (by assumption)) m4_0 rfl rfl ⟨Nat.le_of_ble_eq_true rfl, Nat.le_of_ble_eq_true rfl⟩ rfl hl.1 rfl (Nat.le_of_ble_eq_true rfl) dX7_readStatement_445 ⟨Nat.zero_le _, Nat.zero_le _⟩) w (fun H locs w => ?_)
            refine lv_bipush (v := 59) hx hb dX7_readStatement_448 (by decide) ?_
            refine lv_icmp_ne (tgt := 457) hx hb dX7_readStatement_450 (by decide) (fun zc450 => ?_) (fun zc450 => ?_)
            · -- 457
              refine lv_iconst (v := 0) hx hb dX7_readStatement_457 (by decide) ?_
              refine k_v (rr_v (rest := []) X w mX7_takeSign kw1098 (c_X7_takeSign 0) m4_0 rfl rfl ⟨Nat.le_of_ble_eq_true rfl, Nat.le_of_ble_eq_true rfl⟩ rfl hl.1 rfl (Nat.le_of_ble_eq_true rfl) dX7_readStatement_458 ⟨Nat.zero_le _, Nat.zero_le _⟩) w (fun H locs w => ?_)
              obtain ⟨zs458_43, ezs458_43⟩ : ∃ y : Gr, y = g_X7_takeSign zs65_5 0 := ⟨_, rfl⟩; rw [← ezs458_43] at w
              have hp : PA zs458_43 := by rw [ezs458_43]; first | exact takeSign_PA hp (fun q => absurd rfl q) | exact takeSign_PA hp (fun _ => here_c zc450 (by decide))
              refine lv_aload_n hx hb dX7_readStatement_461 rfl (lv_at hl 2 rfl) ?_
              refine lv_dup hx hb dX7_readStatement_462 rfl ?_
              refine gf7_292 X w dX7_readStatement_463 ?_
              refine lv_iconst (v := 1) hx hb dX7_readStatement_466 (by decide) ?_
              refine lv_iadd hx hb dX7_readStatement_467 ?_
              refine pf7_292 X w dX7_readStatement_468 (fun zs468_43 H locs ezs468_43 w => ?_)
              have hp : PA zs468_43 := by rw [ezs468_43]; exact hp
              exact t_v X w hr hlk dX7_readStatement_471 (by replace ezs468_43 := ezs468_43.symm; subst ezs468_43; replace ezs458_43 := ezs458_43.symm; subst ezs458_43; replace ezs65_5 := ezs65_5.symm; subst ezs65_5; replace ezs34 := ezs34.symm; subst ezs34; replace ezs24 := ezs24.symm; subst ezs24; replace ezv11 := ezv11.symm; subst ezv11; replace ezv4 := ezv4.symm; subst ezv4; simp only [g_X7_readStatement, if_neg zc39, if_neg zc45, if_neg zc51, if_pos zc57, if_neg zc72, if_neg zc450])
            · -- 453
              refine lv_iconst (v := 1) hx hb dX7_readStatement_453 (by decide) ?_
              refine lv_goto (tgt := 458) hx hb dX7_readStatement_454 (by decide) ?_
              refine k_v (rr_v (rest := []) X w mX7_takeSign kw1098 (c_X7_takeSign 1) m4_0 rfl rfl ⟨Nat.le_of_ble_eq_true rfl, Nat.le_of_ble_eq_true rfl⟩ rfl hl.1 rfl (Nat.le_of_ble_eq_true rfl) dX7_readStatement_458 ⟨Nat.zero_le _, Nat.zero_le _⟩) w (fun H locs w => ?_)
              obtain ⟨zs458_44, ezs458_44⟩ : ∃ y : Gr, y = g_X7_takeSign zs65_5 1 := ⟨_, rfl⟩; rw [← ezs458_44] at w
              have hp : PA zs458_44 := by rw [ezs458_44]; first | exact takeSign_PA hp (fun q => absurd rfl q) | exact takeSign_PA hp (fun _ => here_c zc450 (by decide))
              refine lv_aload_n hx hb dX7_readStatement_461 rfl (lv_at hl 2 rfl) ?_
              refine lv_dup hx hb dX7_readStatement_462 rfl ?_
              refine gf7_292 X w dX7_readStatement_463 ?_
              refine lv_iconst (v := 1) hx hb dX7_readStatement_466 (by decide) ?_
              refine lv_iadd hx hb dX7_readStatement_467 ?_
              refine pf7_292 X w dX7_readStatement_468 (fun zs468_44 H locs ezs468_44 w => ?_)
              have hp : PA zs468_44 := by rw [ezs468_44]; exact hp
              exact t_v X w hr hlk dX7_readStatement_471 (by replace ezs468_44 := ezs468_44.symm; subst ezs468_44; replace ezs458_44 := ezs458_44.symm; subst ezs458_44; replace ezs65_5 := ezs65_5.symm; subst ezs65_5; replace ezs34 := ezs34.symm; subst ezs34; replace ezs24 := ezs24.symm; subst ezs24; replace ezv11 := ezv11.symm; subst ezv11; replace ezv4 := ezv4.symm; subst ezv4; simp only [g_X7_readStatement, if_neg zc39, if_neg zc45, if_neg zc51, if_pos zc57, if_neg zc72, if_pos zc450])
          · -- 75
            refine lv_iload_n hx hb dX7_readStatement_75 rfl (lv_at hl 1 rfl) ?_
            refine lv_bipush (v := 99) hx hb dX7_readStatement_76 (by decide) ?_
            refine lv_icmp_ne (tgt := 132) hx hb dX7_readStatement_78 (by decide) (fun _ => ?_) (fun zc78 => absurd zc78 zc39)
            refine lv_aload_n hx hb dX7_readStatement_132 rfl (lv_at hl 2 rfl) ?_
            refine gf7_274 X w dX7_readStatement_133 ?_
            refine lv_if_ne (tgt := 255) hx hb dX7_readStatement_136 (by decide) (fun zc136 => absurd zc72 zc136) (fun _ => ?_)
            refine lv_iload_n hx hb dX7_readStatement_139 rfl (lv_at hl 1 rfl) ?_
            refine lv_bipush (v := 119) hx hb dX7_readStatement_140 (by decide) ?_
            refine lv_icmp_ne (tgt := 255) hx hb dX7_readStatement_142 (by decide) (fun _ => ?_) (fun zc142 => absurd zc142 zc45)
            refine lv_aload_n hx hb dX7_readStatement_255 rfl (lv_at hl 2 rfl) ?_
            refine gf7_274 X w dX7_readStatement_256 ?_
            change W _ _ _ _ _ _ _ _ _ _ _ _ _ _ _ (F0 m 259 ls _)
            refine lv_if_ne (tgt := 328) hx hb dX7_readStatement_259 (by decide) (fun zc259 => absurd zc72 zc259) (fun _ => ?_)
            refine lv_iload_n hx hb dX7_readStatement_262 rfl (lv_at hl 1 rfl) ?_
            refine lv_bipush (v := 114) hx hb dX7_readStatement_263 (by decide) ?_
            refine lv_icmp_ne (tgt := 328) hx hb dX7_readStatement_265 (by decide) (fun _ => ?_) (fun zc265 => absurd zc265 zc51)
            refine lv_aload_n hx hb dX7_readStatement_328 rfl (lv_at hl 2 rfl) ?_
            refine gf7_274 X w dX7_readStatement_329 ?_
            refine lv_if_ne (tgt := 443) hx hb dX7_readStatement_332 (by decide) (fun zc332 => absurd zc72 zc332) (fun _ => ?_)
            refine lv_iload_n hx hb dX7_readStatement_335 rfl (lv_at hl 1 rfl) ?_
            refine lv_bipush (v := 109) hx hb dX7_readStatement_336 (by decide) ?_
            refine lv_icmp_ne (tgt := 443) hx hb dX7_readStatement_338 (by decide) (fun zc338 => absurd zc57 zc338) (fun _ => ?_)
            refine lv_aload_n hx hb dX7_readStatement_341 rfl (lv_at hl 2 rfl) ?_
            refine gf7_99 X w dX7_readStatement_342 ?_
            change W _ _ _ _ _ _ _ _ _ _ _ _ _ _ _ (F0 m 345 ls _)
            refine lv_iload_n hx hb dX7_readStatement_345 rfl (lv_at hl 0 rfl) ?_
            refine lv_aload_n hx hb dX7_readStatement_346 rfl (lv_at hl 2 rfl) ?_
            refine lv_bipush (v := 115) hx hb dX7_readStatement_347 (by decide) ?_
            refine lv_bipush (v := 110) hx hb dX7_readStatement_349 (by decide) ?_
            refine k_i (rr_v (rest := [.int zv11, .ref (aa G 4 49)]) X w mX7_readOf kw1112 (c_X7_readOf 115 110 (by assumption)) m4_0 rfl rfl ⟨Nat.le_of_ble_eq_true rfl, Nat.le_of_ble_eq_true rfl⟩ rfl hl.1 rfl (Nat.le_of_ble_eq_true rfl) dX7_readStatement_351 ⟨Nat.zero_le _, Nat.zero_le _⟩) w (fun H locs w => ?_)
            obtain ⟨zs351, ezs351⟩ : ∃ y : Gr, y = g_X7_readOf zs65_5 115 110 := ⟨_, rfl⟩; rw [← ezs351] at w
            have hp : PA zs351 := by rw [ezs351]; exact readOf_PA hp (by decide) (by decide)
            refine iS (f := 49) (n := 250) X w m4_49 rfl (rg.v (n5r ezv11 hst) (by decide) (by decide)) dX7_readStatement_354 (fun zs354 H locs ezs354 w => ?_)
            have hp : PA zs354 := by rw [ezs354]; exact hp
            refine lv_aload_n hx hb dX7_readStatement_355 rfl (lv_at hl 2 rfl) ?_
            refine gf7_99 X w dX7_readStatement_356 ?_
            refine lv_iload_n hx hb dX7_readStatement_359 rfl (lv_at hl 0 rfl) ?_
            refine lv_iconst (v := 1) hx hb dX7_readStatement_360 (by decide) ?_
            refine lv_iadd hx hb dX7_readStatement_361 ?_
            refine lv_iconst (v := 1) hx hb dX7_readStatement_362 (by decide) ?_
            change W _ _ _ _ _ _ _ _ _ _ _ _ _ _ _ (F0 m 363 ls _)
            refine iS (f := 49) (n := 250) X w m4_49 rfl (n5s (n5r ezv11 hst) 1 (by decide)) dX7_readStatement_363 (fun zs363 H locs ezs363 w => ?_)
            have hp : PA zs363 := by rw [ezs363]; exact hp
            obtain ⟨zl364, ezl364⟩ : ∃ y : Nat × Int32 × Gr, y = (l_X7_readStatement_364 zv4 zv11 zs363) := ⟨_, rfl⟩
            refine lp_X7_readStatement_364 X zv4 zv11 (n5r ezv11 hst) zl364 (fun hz443 hp H locs ls w hl => ?_) (nn (28 + 1)) 0 zs363 (Nat.zero_le _) (by rw [nn_eq]; exact Nat.lt_succ_of_le (Nat.sub_le _ _)) ezl364.symm hp (by rw [ezs363, up0, if_pos rfl]; rfl) _ _ _ w (lv_sub hl [2, 1, 0] rfl)
            · -- leaves at 443
              refine lv_aload_n hx hb dX7_readStatement_443 rfl (lv_at hl 0 rfl) ?_
              refine lv_aload_n hx hb dX7_readStatement_444 rfl (lv_at hl 0 rfl) ?_
              refine k_i (rr_v (rest := [.ref (aa G 4 0)]) X w mX7_here kw1094 (c_X7_here (by assumption)) m4_0 rfl rfl ⟨Nat.le_of_ble_eq_true rfl, Nat.le_of_ble_eq_true rfl⟩ rfl hl.1 rfl (Nat.le_of_ble_eq_true rfl) dX7_readStatement_445 ⟨Nat.zero_le _, Nat.zero_le _⟩) w (fun H locs w => ?_)
              refine lv_bipush (v := 59) hx hb dX7_readStatement_448 (by decide) ?_
              refine lv_icmp_ne (tgt := 457) hx hb dX7_readStatement_450 (by decide) (fun zc450 => ?_) (fun zc450 => ?_)
              · -- 457
                refine lv_iconst (v := 0) hx hb dX7_readStatement_457 (by decide) ?_
                refine k_v (rr_v (rest := []) X w mX7_takeSign kw1098 (c_X7_takeSign 0) m4_0 rfl rfl ⟨Nat.le_of_ble_eq_true rfl, Nat.le_of_ble_eq_true rfl⟩ rfl hl.1 rfl (Nat.le_of_ble_eq_true rfl) dX7_readStatement_458 ⟨Nat.zero_le _, Nat.zero_le _⟩) w (fun H locs w => ?_)
                obtain ⟨zs458_45, ezs458_45⟩ : ∃ y : Gr, y = g_X7_takeSign zl364.2.2 0 := ⟨_, rfl⟩; rw [← ezs458_45] at w
                have hp : PA zs458_45 := by rw [ezs458_45]; first | exact takeSign_PA hp (fun q => absurd rfl q) | exact takeSign_PA hp (fun _ => here_c zc450 (by decide))
                refine lv_aload_n hx hb dX7_readStatement_461 rfl (lv_at hl 0 rfl) ?_
                refine lv_dup hx hb dX7_readStatement_462 rfl ?_
                refine gf7_292 X w dX7_readStatement_463 ?_
                refine lv_iconst (v := 1) hx hb dX7_readStatement_466 (by decide) ?_
                refine lv_iadd hx hb dX7_readStatement_467 ?_
                refine pf7_292 X w dX7_readStatement_468 (fun zs468_45 H locs ezs468_45 w => ?_)
                have hp : PA zs468_45 := by rw [ezs468_45]; exact hp
                exact t_v X w hr hlk dX7_readStatement_471 (by replace ezs468_45 := ezs468_45.symm; subst ezs468_45; replace ezs458_45 := ezs458_45.symm; subst ezs458_45; replace ezl364 := ezl364.symm; subst ezl364; replace ezs363 := ezs363.symm; subst ezs363; replace ezs354 := ezs354.symm; subst ezs354; replace ezs351 := ezs351.symm; subst ezs351; replace ezs65_5 := ezs65_5.symm; subst ezs65_5; replace ezs34 := ezs34.symm; subst ezs34; replace ezs24 := ezs24.symm; subst ezs24; replace ezv11 := ezv11.symm; subst ezv11; replace ezv4 := ezv4.symm; subst ezv4; simp only [g_X7_readStatement, if_neg zc39, if_neg zc45, if_neg zc51, if_pos zc57, if_pos zc72, if_neg zc450])
              · -- 453
                refine lv_iconst (v := 1) hx hb dX7_readStatement_453 (by decide) ?_
                refine lv_goto (tgt := 458) hx hb dX7_readStatement_454 (by decide) ?_
                refine k_v (rr_v (rest := []) X w mX7_takeSign kw1098 (c_X7_takeSign 1) m4_0 rfl rfl ⟨Nat.le_of_ble_eq_true rfl, Nat.le_of_ble_eq_true rfl⟩ rfl hl.1 rfl (Nat.le_of_ble_eq_true rfl) dX7_readStatement_458 ⟨Nat.zero_le _, Nat.zero_le _⟩) w (fun H locs w => ?_)
                obtain ⟨zs458_46, ezs458_46⟩ : ∃ y : Gr, y = g_X7_takeSign zl364.2.2 1 := ⟨_, rfl⟩; rw [← ezs458_46] at w
                have hp : PA zs458_46 := by rw [ezs458_46]; first | exact takeSign_PA hp (fun q => absurd rfl q) | exact takeSign_PA hp (fun _ => here_c zc450 (by decide))
                refine lv_aload_n hx hb dX7_readStatement_461 rfl (lv_at hl 0 rfl) ?_
                refine lv_dup hx hb dX7_readStatement_462 rfl ?_
                refine gf7_292 X w dX7_readStatement_463 ?_
                refine lv_iconst (v := 1) hx hb dX7_readStatement_466 (by decide) ?_
                refine lv_iadd hx hb dX7_readStatement_467 ?_
                refine pf7_292 X w dX7_readStatement_468 (fun zs468_46 H locs ezs468_46 w => ?_)
                have hp : PA zs468_46 := by rw [ezs468_46]; exact hp
                exact t_v X w hr hlk dX7_readStatement_471 (by replace ezs468_46 := ezs468_46.symm; subst ezs468_46; replace ezs458_46 := ezs458_46.symm; subst ezs458_46; replace ezl364 := ezl364.symm; subst ezl364; replace ezs363 := ezs363.symm; subst ezs363; replace ezs354 := ezs354.symm; subst ezs354; replace ezs351 := ezs351.symm; subst ezs351; replace ezs65_5 := ezs65_5.symm; subst ezs65_5; replace ezs34 := ezs34.symm; subst ezs34; replace ezs24 := ezs24.symm; subst ezs24; replace ezv11 := ezv11.symm; subst ezv11; replace ezv4 := ezv4.symm; subst ezv4; simp only [g_X7_readStatement, if_neg zc39, if_neg zc45, if_neg zc51, if_pos zc57, if_pos zc72, if_pos zc450])
