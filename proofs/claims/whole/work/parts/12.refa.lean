theorem toI0 : (0 : Int64) = (0 : Int32).toInt64 := by decide
theorem WFm.cell {B : Nat} {w : Gr} {x : Int32} (h : WFm B w) (c : ¬ f_X7_isCell w x = 0) : vp_in x 8 := by
  have c' : ¬ f_X7_in x.toInt64 (0 : Int32).toInt64 ((w 0 0 - 1).toInt64) = 0 := c
  obtain ⟨a, b⟩ := in_ii.mp c'
  obtain ⟨j, _, h2, e⟩ := h.1
  rw [e] at b
  by_cases hj : j = 0
  · subst hj
    have q : x ≤ -1 := b
    have a1 := Int32.le_iff_toInt_le.mp a
    have b1 := Int32.le_iff_toInt_le.mp q
    have z0 : (0 : Int32).toInt = 0 := by decide
    have z1 : (-1 : Int32).toInt = -1 := by decide
    omega
  · have q : x ≤ nI (j - 1) := by rw [show (1 : Int32) = nI 1 from rfl, pk_sub (by omega)] at b; exact b
    have a1 := Int32.le_iff_toInt_le.mp a
    have b1 := Int32.le_iff_toInt_le.mp q
    rw [nI_toInt (by omega)] at b1
    have z0 : (0 : Int32).toInt = 0 := by decide
    exact vp_in_iff.mpr (by omega)
theorem in_upto {x y : Int32} {n : Nat} (hy : rg y 0 n) (hn : n < 2 ^ 31) (c : ¬ f_X7_in x.toInt64 0 ((y - 1).toInt64) = 0) : vp_in x n := by
  have c' : ¬ f_X7_in x.toInt64 (0 : Int32).toInt64 ((y - 1).toInt64) = 0 := c
  obtain ⟨a, b⟩ := in_ii.mp c'
  obtain ⟨j, _, h2, e⟩ := hy
  rw [e] at b
  have a1 := Int32.le_iff_toInt_le.mp a
  have z0 : (0 : Int32).toInt = 0 := by decide
  by_cases hj : j = 0
  · subst hj
    have q : x ≤ -1 := b
    have b1 := Int32.le_iff_toInt_le.mp q
    have z1 : (-1 : Int32).toInt = -1 := by decide
    omega
  · have q : x ≤ nI (j - 1) := by rw [show (1 : Int32) = nI 1 from rfl, pk_sub (by omega)] at b; exact b
    have b1 := Int32.le_iff_toInt_le.mp q
    rw [nI_toInt (by omega)] at b1
    exact vp_in_iff.mpr (by omega)
theorem stuff_v {x : Int32} (c : ¬ f_X7_isStuff x = 0) : vp_in x 2 := by
  have c' : ¬ f_X7_in x.toInt64 (0 : Int32).toInt64 (1 : Int32).toInt64 = 0 := c
  obtain ⟨a, b⟩ := in_ii.mp c'
  have a1 := Int32.le_iff_toInt_le.mp a
  have b1 := Int32.le_iff_toInt_le.mp b
  have z0 : (0 : Int32).toInt = 0 := by decide
  have z1 : (1 : Int32).toInt = 1 := by decide
  exact vp_in_iff.mpr (by omega)
theorem WFm.nv {B : Nat} {w : Gr} (h : WFm B w) (c : ¬ w 0 0 = 8) : vp_in (w 0 0) 8 := (rg.ne (hi := 7) h.1 c).v (by decide) (by decide)
theorem WFm.wv {B : Nat} {w : Gr} (h : WFm B w) (c : ¬ w 0 8 = 24) : vp_in (w 0 8) 24 := (rg.ne (hi := 23) h.2.1 c).v (by decide) (by decide)
theorem WFm.rv {B : Nat} {w : Gr} (h : WFm B w) (c : ¬ w 0 15 = 8) : vp_in (w 0 15) 8 := (rg.ne (hi := 7) h.2.2.1 c).v (by decide) (by decide)
theorem WFm.ov {B : Nat} {w : Gr} (h : WFm B w) (c : ¬ w 0 32 = 28) : vp_in (w 0 32) 28 := (rg.ne (hi := 27) h.2.2.2.2.2.2.2.2.2.2 c).v (by decide) (by decide)
theorem WFm.drop {B : Nat} {w : Gr} {x : Int32} (h : WFm B w) (hx : rg x 0 8) : WFm B (up w 0 25 x) := ⟨h.1, h.2.1, h.2.2.1, h.2.2.2.1, h.2.2.2.2.1, hx, h.2.2.2.2.2.2⟩
theorem clamp_le {x y : Int32} {n : Nat} (hy : y.toNatClampNeg = n) (h0 : ¬ y < 0) (c : x ≤ y) : x.toNatClampNeg ≤ n := by
  have hx := clampI x
  have hyy := clampI y
  have c1 := Int32.le_iff_toInt_le.mp c
  have := ge0 h0
  by_cases g : x.toInt < 0
  · rw [if_pos g] at hx; omega
  · rw [if_neg g] at hx; rw [if_neg (by omega)] at hyy; omega
theorem wt_200 {ρ : Gr} {x : Int32} (c : 0 ≤ f_X7_wrongTides ρ x) : x.toNatClampNeg ≤ 200 := by
  unfold f_X7_wrongTides at c
  by_cases h1 : 1 ≤ x
  · rw [if_pos h1] at c
    by_cases h2 : x ≤ 200
    · exact clamp_le (y := 200) (by decide) (by decide) h2
    · rw [if_neg h2] at c; exact absurd c (by decide)
  · rw [if_neg h1] at c; exact absurd c (by decide)
theorem wt_in {ρ : Gr} {x : Int32} (c : ¬ 0 ≤ f_X7_wrongTides ρ x) : vp_in (-(f_X7_wrongTides ρ x)) 7 := by
  unfold f_X7_wrongTides at c ⊢
  by_cases h1 : 1 ≤ x
  · rw [if_pos h1] at c ⊢
    by_cases h2 : x ≤ 200
    · rw [if_pos h2] at c ⊢
      by_cases h3 : ρ 0 0 = 0
      · rw [if_pos h3]; exact vin_lit (by decide +kernel)
      · rw [if_neg h3] at c; exact absurd (by decide) c
    · rw [if_neg h2]; exact vin_lit (by decide +kernel)
  · rw [if_neg h1]; exact vin_lit (by decide +kernel)
theorem settledAfter_Sv {ρ : Gr} (h : ρ 0 34 = -1) (x y : Int32) : Sv ρ (g_X7_settledAfter ρ x y) := by
  refine Sv.of ?_
  have k : Tt (up (g_X7_save ρ) 0 34 y) (l_X7_settledAfter_11 x y (up (g_X7_save ρ) 0 34 y)) := itn_P (f := b_X7_settledAfter_11 x y) (fun v : Gr => Tt _ v) (fun k v h => h.trans (passTide_Tt _)) _ _ Tt.rf
  refine ⟨fun f h0 h6 h7 h35 => ?_, fun j h21 hex => ?_⟩
  · rw [up_ne h0, k.1 f h0 h6 h7 h35, up_ne h0]
  · by_cases e : j = 34
    · subst e; rw [up0, if_pos rfl, save_s ρ 34 (by decide), h]
    · rw [up0, if_neg e, k.2 j h21 hex, up0, if_neg e]
theorem lc20' {k : Nat} (hk : k ≤ 20) (c : ¬ (1000 : Int32) ≤ nI (50 * k)) : k < 20 := by
  have h2 : ¬ 1000 ≤ 50 * k := fun q => c ((nI_leI (a := 1000) (by decide) (by omega)).mpr q)
  omega
noncomputable def f_X7_cell (ρ : Gr) (x1 : Int32) (x2 : Int32) : Int32 :=
  if x1 < 1 then
    let zs12 : Gr := g_X7_refuse ρ (-4)
    f_X7_refuse ρ (-4)
  else
    if 0 ≤ x2 then
      if 99 < x1 then
        let zs40 : Gr := g_X7_refuse ρ (-6)
        f_X7_refuse ρ (-6)
      else
        if 99 < x2 then
          let zs40_2 : Gr := g_X7_refuse ρ (-6)
          f_X7_refuse ρ (-6)
        else
          if (ρ 0 0) = 8 then
            let zs40_3 : Gr := g_X7_refuse ρ (-6)
            f_X7_refuse ρ (-6)
          else
            let zs47 : Gr := g_X7_addCell ρ x1 x2
            (zs47 0 0) - 1
    else
      let zs12_2 : Gr := g_X7_refuse ρ (-4)
      f_X7_refuse ρ (-4)
noncomputable def g_X7_cell (ρ : Gr) (x1 : Int32) (x2 : Int32) : Gr :=
  if x1 < 1 then
    let zs12 : Gr := g_X7_refuse ρ (-4)
    zs12
  else
    if 0 ≤ x2 then
      if 99 < x1 then
        let zs40 : Gr := g_X7_refuse ρ (-6)
        zs40
      else
        if 99 < x2 then
          let zs40_2 : Gr := g_X7_refuse ρ (-6)
          zs40_2
        else
          if (ρ 0 0) = 8 then
            let zs40_3 : Gr := g_X7_refuse ρ (-6)
            zs40_3
          else
            let zs47 : Gr := g_X7_addCell ρ x1 x2
            zs47
    else
      let zs12_2 : Gr := g_X7_refuse ρ (-4)
      zs12_2
set_option maxRecDepth 100000 in
set_option maxHeartbeats 4000000 in
theorem c_X7_cell {l : Launch} {G : GG} {σ : St} {ρ : Gr}  (x1 : Int32) (x2 : Int32) (B : Nat) (hB : B < 2 ^ 30) (hm : WFm B ρ) : MM l G yX7_cell cX7_cell 3 1 23 (some .int) [.ref (aa G 4 0), .int x1, .int x2] (setG σ 4 ρ) (Qi G (f_X7_cell ρ x1 x2) (setG σ 4 (g_X7_cell ρ x1 x2))) := by
  refine MM.of (by decide) (Nat.le_of_ble_eq_true rfl) ?_
  intro p e s m below meth c ls X hr hlk w hl
  have hx := X.1.1
  have hb := X.1.2.1
  have hl : lv_has ls 3 [(0, .ref (aa G 4 0)), (1, .int x1), (2, .int x2)] := hl
  refine lv_iload_n hx hb dX7_cell_0 rfl (lv_at hl 1 rfl) ?_
  refine lv_iconst (v := 1) hx hb dX7_cell_1 (by decide) ?_
  refine lv_icmp_lt (tgt := 9) hx hb dX7_cell_2 (by decide) (fun zc2 => ?_) (fun zc2 => ?_)
  · -- 9
    refine lv_aload_n hx hb dX7_cell_9 rfl (lv_at hl 0 rfl) ?_
    refine lv_bipush (v := (-4)) hx hb dX7_cell_10 (by decide) ?_
    refine k_i (rr_v (rest := []) X w mX7_refuse kw872 (c_X7_refuse (-4) (vin_lit (by decide +kernel))) m4_0 rfl rfl ⟨Nat.le_of_ble_eq_true rfl, Nat.le_of_ble_eq_true rfl⟩ rfl hl.1 rfl (Nat.le_of_ble_eq_true rfl) dX7_cell_12 ⟨Nat.zero_le _, Nat.zero_le _⟩) w (fun H locs w => ?_)
    obtain ⟨zs12, ezs12⟩ : ∃ y : Gr, y = g_X7_refuse ρ (-4) := ⟨_, rfl⟩; rw [← ezs12] at w
    exact t_i X w hr hlk dX7_cell_15 (by replace ezs12 := ezs12.symm; subst ezs12; simp only [f_X7_cell, if_pos zc2]) (by replace ezs12 := ezs12.symm; subst ezs12; simp only [g_X7_cell, if_pos zc2])
  · -- 5
    refine lv_iload_n hx hb dX7_cell_5 rfl (lv_at hl 2 rfl) ?_
    refine lv_if_ge (tgt := 16) hx hb dX7_cell_6 (by decide) (fun zc6 => ?_) (fun zc6 => ?_)
    · -- 16
      refine lv_iload_n hx hb dX7_cell_16 rfl (lv_at hl 1 rfl) ?_
      refine lv_bipush (v := 99) hx hb dX7_cell_17 (by decide) ?_
      refine lv_icmp_gt (tgt := 37) hx hb dX7_cell_19 (by decide) (fun zc19 => ?_) (fun zc19 => ?_)
      · -- 37
        refine lv_aload_n hx hb dX7_cell_37 rfl (lv_at hl 0 rfl) ?_
        refine lv_bipush (v := (-6)) hx hb dX7_cell_38 (by decide) ?_
        refine k_i (rr_v (rest := []) X w mX7_refuse kw872 (c_X7_refuse (-6) (vin_lit (by decide +kernel))) m4_0 rfl rfl ⟨Nat.le_of_ble_eq_true rfl, Nat.le_of_ble_eq_true rfl⟩ rfl hl.1 rfl (Nat.le_of_ble_eq_true rfl) dX7_cell_40 ⟨Nat.zero_le _, Nat.zero_le _⟩) w (fun H locs w => ?_)
        obtain ⟨zs40, ezs40⟩ : ∃ y : Gr, y = g_X7_refuse ρ (-6) := ⟨_, rfl⟩; rw [← ezs40] at w
        exact t_i X w hr hlk dX7_cell_43 (by replace ezs40 := ezs40.symm; subst ezs40; simp only [f_X7_cell, if_neg zc2, if_pos zc6, if_pos zc19]) (by replace ezs40 := ezs40.symm; subst ezs40; simp only [g_X7_cell, if_neg zc2, if_pos zc6, if_pos zc19])
      · -- 22
        refine lv_iload_n hx hb dX7_cell_22 rfl (lv_at hl 2 rfl) ?_
        refine lv_bipush (v := 99) hx hb dX7_cell_23 (by decide) ?_
        refine lv_icmp_gt (tgt := 37) hx hb dX7_cell_25 (by decide) (fun zc25 => ?_) (fun zc25 => ?_)
        · -- 37
          refine lv_aload_n hx hb dX7_cell_37 rfl (lv_at hl 0 rfl) ?_
          refine lv_bipush (v := (-6)) hx hb dX7_cell_38 (by decide) ?_
          refine k_i (rr_v (rest := []) X w mX7_refuse kw872 (c_X7_refuse (-6) (vin_lit (by decide +kernel))) m4_0 rfl rfl ⟨Nat.le_of_ble_eq_true rfl, Nat.le_of_ble_eq_true rfl⟩ rfl hl.1 rfl (Nat.le_of_ble_eq_true rfl) dX7_cell_40 ⟨Nat.zero_le _, Nat.zero_le _⟩) w (fun H locs w => ?_)
          obtain ⟨zs40_2, ezs40_2⟩ : ∃ y : Gr, y = g_X7_refuse ρ (-6) := ⟨_, rfl⟩; rw [← ezs40_2] at w
          exact t_i X w hr hlk dX7_cell_43 (by replace ezs40_2 := ezs40_2.symm; subst ezs40_2; simp only [f_X7_cell, if_neg zc2, if_pos zc6, if_neg zc19, if_pos zc25]) (by replace ezs40_2 := ezs40_2.symm; subst ezs40_2; simp only [g_X7_cell, if_neg zc2, if_pos zc6, if_neg zc19, if_pos zc25])
        · -- 28
          refine lv_aload_n hx hb dX7_cell_28 rfl (lv_at hl 0 rfl) ?_
          refine gf7_111 X w dX7_cell_29 ?_
          refine lv_bipush (v := 8) hx hb dX7_cell_32 (by decide) ?_
          refine lv_icmp_ne (tgt := 44) hx hb dX7_cell_34 (by decide) (fun zc34 => ?_) (fun zc34 => ?_)
          · -- 44
            refine lv_aload_n hx hb dX7_cell_44 rfl (lv_at hl 0 rfl) ?_
            refine lv_iload_n hx hb dX7_cell_45 rfl (lv_at hl 1 rfl) ?_
            refine lv_iload_n hx hb dX7_cell_46 rfl (lv_at hl 2 rfl) ?_
            refine k_v (rr_v (rest := []) X w mX7_addCell kw876 (c_X7_addCell x1 x2 (hm.nv zc34)) m4_0 rfl rfl ⟨Nat.le_of_ble_eq_true rfl, Nat.le_of_ble_eq_true rfl⟩ rfl hl.1 rfl (Nat.le_of_ble_eq_true rfl) dX7_cell_47 ⟨Nat.zero_le _, Nat.zero_le _⟩) w (fun H locs w => ?_)
            obtain ⟨zs47, ezs47⟩ : ∃ y : Gr, y = g_X7_addCell ρ x1 x2 := ⟨_, rfl⟩; rw [← ezs47] at w
            refine lv_aload_n hx hb dX7_cell_50 rfl (lv_at hl 0 rfl) ?_
            refine gf7_111 X w dX7_cell_51 ?_
            refine lv_iconst (v := 1) hx hb dX7_cell_54 (by decide) ?_
            refine lv_isub hx hb dX7_cell_55 ?_
            exact t_i X w hr hlk dX7_cell_56 (by replace ezs47 := ezs47.symm; subst ezs47; simp only [f_X7_cell, if_neg zc2, if_pos zc6, if_neg zc19, if_neg zc25, if_neg zc34]) (by replace ezs47 := ezs47.symm; subst ezs47; simp only [g_X7_cell, if_neg zc2, if_pos zc6, if_neg zc19, if_neg zc25, if_neg zc34])
          · -- 37
            refine lv_aload_n hx hb dX7_cell_37 rfl (lv_at hl 0 rfl) ?_
            refine lv_bipush (v := (-6)) hx hb dX7_cell_38 (by decide) ?_
            refine k_i (rr_v (rest := []) X w mX7_refuse kw872 (c_X7_refuse (-6) (vin_lit (by decide +kernel))) m4_0 rfl rfl ⟨Nat.le_of_ble_eq_true rfl, Nat.le_of_ble_eq_true rfl⟩ rfl hl.1 rfl (Nat.le_of_ble_eq_true rfl) dX7_cell_40 ⟨Nat.zero_le _, Nat.zero_le _⟩) w (fun H locs w => ?_)
            obtain ⟨zs40_3, ezs40_3⟩ : ∃ y : Gr, y = g_X7_refuse ρ (-6) := ⟨_, rfl⟩; rw [← ezs40_3] at w
            exact t_i X w hr hlk dX7_cell_43 (by replace ezs40_3 := ezs40_3.symm; subst ezs40_3; simp only [f_X7_cell, if_neg zc2, if_pos zc6, if_neg zc19, if_neg zc25, if_pos zc34]) (by replace ezs40_3 := ezs40_3.symm; subst ezs40_3; simp only [g_X7_cell, if_neg zc2, if_pos zc6, if_neg zc19, if_neg zc25, if_pos zc34])
    · -- 9
      refine lv_aload_n hx hb dX7_cell_9 rfl (lv_at hl 0 rfl) ?_
      refine lv_bipush (v := (-4)) hx hb dX7_cell_10 (by decide) ?_
      refine k_i (rr_v (rest := []) X w mX7_refuse kw872 (c_X7_refuse (-4) (vin_lit (by decide +kernel))) m4_0 rfl rfl ⟨Nat.le_of_ble_eq_true rfl, Nat.le_of_ble_eq_true rfl⟩ rfl hl.1 rfl (Nat.le_of_ble_eq_true rfl) dX7_cell_12 ⟨Nat.zero_le _, Nat.zero_le _⟩) w (fun H locs w => ?_)
      obtain ⟨zs12_2, ezs12_2⟩ : ∃ y : Gr, y = g_X7_refuse ρ (-4) := ⟨_, rfl⟩; rw [← ezs12_2] at w
      exact t_i X w hr hlk dX7_cell_15 (by replace ezs12_2 := ezs12_2.symm; subst ezs12_2; simp only [f_X7_cell, if_neg zc2, if_neg zc6]) (by replace ezs12_2 := ezs12_2.symm; subst ezs12_2; simp only [g_X7_cell, if_neg zc2, if_neg zc6])

noncomputable def f_X7_set (ρ : Gr) (x1 : Int32) (x2 : Int32) (x3 : Int32) : Int32 :=
  if (f_X7_isCell ρ x1) = 0 then
    let zs10 : Gr := g_X7_refuse ρ (-1)
    f_X7_refuse ρ (-1)
  else
    if (f_X7_in x2.toInt64 0 3) = 0 then
      let zs29 : Gr := g_X7_refuse ρ (-2)
      f_X7_refuse ρ (-2)
    else
      if 0 ≤ x3 then
        if 2 ≤ x2 then
          if x3 ≤ 99 then
            if x2 = 0 then
              let zv114_4 : Int32 := ρ 3 x1.toNatClampNeg
              let zs135_4 : Gr := up ρ 3 x1.toNatClampNeg x3
              let zs156_4 : Gr := up zs135_4 4 x1.toNatClampNeg (zs135_4 4 x1.toNatClampNeg)
              let zs177_4 : Gr := up zs156_4 5 x1.toNatClampNeg (zs156_4 5 x1.toNatClampNeg)
              let zs198_5 : Gr := up zs177_4 2 x1.toNatClampNeg (zs177_4 2 x1.toNatClampNeg)
              zv114_4
            else
              if x2 = 1 then
                let zv114_3 : Int32 := ρ 4 x1.toNatClampNeg
                let zs135_3 : Gr := up ρ 3 x1.toNatClampNeg (ρ 3 x1.toNatClampNeg)
                let zs156_3 : Gr := up zs135_3 4 x1.toNatClampNeg x3
                let zs177_3 : Gr := up zs156_3 5 x1.toNatClampNeg (zs156_3 5 x1.toNatClampNeg)
                let zs198_4 : Gr := up zs177_3 2 x1.toNatClampNeg (zs177_3 2 x1.toNatClampNeg)
                zv114_3
              else
                if x2 = 2 then
                  let zv114_2 : Int32 := ρ 5 x1.toNatClampNeg
                  let zs135_2 : Gr := up ρ 3 x1.toNatClampNeg (ρ 3 x1.toNatClampNeg)
                  let zs156_2 : Gr := up zs135_2 4 x1.toNatClampNeg (zs135_2 4 x1.toNatClampNeg)
                  let zs177_2 : Gr := up zs156_2 5 x1.toNatClampNeg x3
                  let zs198_3 : Gr := up zs177_2 2 x1.toNatClampNeg (zs177_2 2 x1.toNatClampNeg)
                  zv114_2
                else
                  let zv114 : Int32 := ρ 2 x1.toNatClampNeg
                  let zs135 : Gr := up ρ 3 x1.toNatClampNeg (ρ 3 x1.toNatClampNeg)
                  let zs156 : Gr := up zs135 4 x1.toNatClampNeg (zs135 4 x1.toNatClampNeg)
                  let zs177 : Gr := up zs156 5 x1.toNatClampNeg (zs156 5 x1.toNatClampNeg)
                  if x2 = 3 then
                    let zs198_2 : Gr := up zs177 2 x1.toNatClampNeg x3
                    zv114
                  else
                    let zs198 : Gr := up zs177 2 x1.toNatClampNeg (zs177 2 x1.toNatClampNeg)
                    zv114
          else
            let zs63 : Gr := g_X7_refuse ρ (-6)
            f_X7_refuse ρ (-6)
        else
          if x3 ≤ 100 then
            if x2 = 0 then
              let zv114_8 : Int32 := ρ 3 x1.toNatClampNeg
              let zs135_8 : Gr := up ρ 3 x1.toNatClampNeg x3
              let zs156_8 : Gr := up zs135_8 4 x1.toNatClampNeg (zs135_8 4 x1.toNatClampNeg)
              let zs177_8 : Gr := up zs156_8 5 x1.toNatClampNeg (zs156_8 5 x1.toNatClampNeg)
              let zs198_10 : Gr := up zs177_8 2 x1.toNatClampNeg (zs177_8 2 x1.toNatClampNeg)
              zv114_8
            else
              if x2 = 1 then
                let zv114_7 : Int32 := ρ 4 x1.toNatClampNeg
                let zs135_7 : Gr := up ρ 3 x1.toNatClampNeg (ρ 3 x1.toNatClampNeg)
                let zs156_7 : Gr := up zs135_7 4 x1.toNatClampNeg x3
                let zs177_7 : Gr := up zs156_7 5 x1.toNatClampNeg (zs156_7 5 x1.toNatClampNeg)
                let zs198_9 : Gr := up zs177_7 2 x1.toNatClampNeg (zs177_7 2 x1.toNatClampNeg)
                zv114_7
              else
                if x2 = 2 then
                  let zv114_6 : Int32 := ρ 5 x1.toNatClampNeg
                  let zs135_6 : Gr := up ρ 3 x1.toNatClampNeg (ρ 3 x1.toNatClampNeg)
                  let zs156_6 : Gr := up zs135_6 4 x1.toNatClampNeg (zs135_6 4 x1.toNatClampNeg)
                  let zs177_6 : Gr := up zs156_6 5 x1.toNatClampNeg x3
                  let zs198_8 : Gr := up zs177_6 2 x1.toNatClampNeg (zs177_6 2 x1.toNatClampNeg)
                  zv114_6
                else
                  let zv114_5 : Int32 := ρ 2 x1.toNatClampNeg
                  let zs135_5 : Gr := up ρ 3 x1.toNatClampNeg (ρ 3 x1.toNatClampNeg)
                  let zs156_5 : Gr := up zs135_5 4 x1.toNatClampNeg (zs135_5 4 x1.toNatClampNeg)
                  let zs177_5 : Gr := up zs156_5 5 x1.toNatClampNeg (zs156_5 5 x1.toNatClampNeg)
                  if x2 = 3 then
                    let zs198_7 : Gr := up zs177_5 2 x1.toNatClampNeg x3
                    zv114_5
                  else
                    let zs198_6 : Gr := up zs177_5 2 x1.toNatClampNeg (zs177_5 2 x1.toNatClampNeg)
                    zv114_5
          else
            let zs63_2 : Gr := g_X7_refuse ρ (-6)
            f_X7_refuse ρ (-6)
      else
        let zs40 : Gr := g_X7_refuse ρ (-4)
        f_X7_refuse ρ (-4)
noncomputable def g_X7_set (ρ : Gr) (x1 : Int32) (x2 : Int32) (x3 : Int32) : Gr :=
  if (f_X7_isCell ρ x1) = 0 then
    let zs10 : Gr := g_X7_refuse ρ (-1)
    zs10
  else
    if (f_X7_in x2.toInt64 0 3) = 0 then
      let zs29 : Gr := g_X7_refuse ρ (-2)
      zs29
    else
      if 0 ≤ x3 then
        if 2 ≤ x2 then
          if x3 ≤ 99 then
            if x2 = 0 then
              let zv114_4 : Int32 := ρ 3 x1.toNatClampNeg
              let zs135_4 : Gr := up ρ 3 x1.toNatClampNeg x3
              let zs156_4 : Gr := up zs135_4 4 x1.toNatClampNeg (zs135_4 4 x1.toNatClampNeg)
              let zs177_4 : Gr := up zs156_4 5 x1.toNatClampNeg (zs156_4 5 x1.toNatClampNeg)
              let zs198_5 : Gr := up zs177_4 2 x1.toNatClampNeg (zs177_4 2 x1.toNatClampNeg)
              zs198_5
            else
              if x2 = 1 then
                let zv114_3 : Int32 := ρ 4 x1.toNatClampNeg
                let zs135_3 : Gr := up ρ 3 x1.toNatClampNeg (ρ 3 x1.toNatClampNeg)
                let zs156_3 : Gr := up zs135_3 4 x1.toNatClampNeg x3
                let zs177_3 : Gr := up zs156_3 5 x1.toNatClampNeg (zs156_3 5 x1.toNatClampNeg)
                let zs198_4 : Gr := up zs177_3 2 x1.toNatClampNeg (zs177_3 2 x1.toNatClampNeg)
                zs198_4
              else
                if x2 = 2 then
                  let zv114_2 : Int32 := ρ 5 x1.toNatClampNeg
                  let zs135_2 : Gr := up ρ 3 x1.toNatClampNeg (ρ 3 x1.toNatClampNeg)
                  let zs156_2 : Gr := up zs135_2 4 x1.toNatClampNeg (zs135_2 4 x1.toNatClampNeg)
                  let zs177_2 : Gr := up zs156_2 5 x1.toNatClampNeg x3
                  let zs198_3 : Gr := up zs177_2 2 x1.toNatClampNeg (zs177_2 2 x1.toNatClampNeg)
                  zs198_3
                else
                  let zv114 : Int32 := ρ 2 x1.toNatClampNeg
                  let zs135 : Gr := up ρ 3 x1.toNatClampNeg (ρ 3 x1.toNatClampNeg)
                  let zs156 : Gr := up zs135 4 x1.toNatClampNeg (zs135 4 x1.toNatClampNeg)
                  let zs177 : Gr := up zs156 5 x1.toNatClampNeg (zs156 5 x1.toNatClampNeg)
                  if x2 = 3 then
                    let zs198_2 : Gr := up zs177 2 x1.toNatClampNeg x3
                    zs198_2
                  else
                    let zs198 : Gr := up zs177 2 x1.toNatClampNeg (zs177 2 x1.toNatClampNeg)
                    zs198
          else
            let zs63 : Gr := g_X7_refuse ρ (-6)
            zs63
        else
          if x3 ≤ 100 then
            if x2 = 0 then
              let zv114_8 : Int32 := ρ 3 x1.toNatClampNeg
              let zs135_8 : Gr := up ρ 3 x1.toNatClampNeg x3
              let zs156_8 : Gr := up zs135_8 4 x1.toNatClampNeg (zs135_8 4 x1.toNatClampNeg)
              let zs177_8 : Gr := up zs156_8 5 x1.toNatClampNeg (zs156_8 5 x1.toNatClampNeg)
              let zs198_10 : Gr := up zs177_8 2 x1.toNatClampNeg (zs177_8 2 x1.toNatClampNeg)
              zs198_10
            else
              if x2 = 1 then
                let zv114_7 : Int32 := ρ 4 x1.toNatClampNeg
                let zs135_7 : Gr := up ρ 3 x1.toNatClampNeg (ρ 3 x1.toNatClampNeg)
                let zs156_7 : Gr := up zs135_7 4 x1.toNatClampNeg x3
                let zs177_7 : Gr := up zs156_7 5 x1.toNatClampNeg (zs156_7 5 x1.toNatClampNeg)
                let zs198_9 : Gr := up zs177_7 2 x1.toNatClampNeg (zs177_7 2 x1.toNatClampNeg)
                zs198_9
              else
                if x2 = 2 then
                  let zv114_6 : Int32 := ρ 5 x1.toNatClampNeg
                  let zs135_6 : Gr := up ρ 3 x1.toNatClampNeg (ρ 3 x1.toNatClampNeg)
                  let zs156_6 : Gr := up zs135_6 4 x1.toNatClampNeg (zs135_6 4 x1.toNatClampNeg)
                  let zs177_6 : Gr := up zs156_6 5 x1.toNatClampNeg x3
                  let zs198_8 : Gr := up zs177_6 2 x1.toNatClampNeg (zs177_6 2 x1.toNatClampNeg)
                  zs198_8
                else
                  let zv114_5 : Int32 := ρ 2 x1.toNatClampNeg
                  let zs135_5 : Gr := up ρ 3 x1.toNatClampNeg (ρ 3 x1.toNatClampNeg)
                  let zs156_5 : Gr := up zs135_5 4 x1.toNatClampNeg (zs135_5 4 x1.toNatClampNeg)
                  let zs177_5 : Gr := up zs156_5 5 x1.toNatClampNeg (zs156_5 5 x1.toNatClampNeg)
                  if x2 = 3 then
                    let zs198_7 : Gr := up zs177_5 2 x1.toNatClampNeg x3
                    zs198_7
                  else
                    let zs198_6 : Gr := up zs177_5 2 x1.toNatClampNeg (zs177_5 2 x1.toNatClampNeg)
                    zs198_6
          else
            let zs63_2 : Gr := g_X7_refuse ρ (-6)
            zs63_2
      else
        let zs40 : Gr := g_X7_refuse ρ (-4)
        zs40
set_option maxRecDepth 100000 in
set_option maxHeartbeats 4000000 in
theorem c_X7_set {l : Launch} {G : GG} {σ : St} {ρ : Gr}  (x1 : Int32) (x2 : Int32) (x3 : Int32) (B : Nat) (hB : B < 2 ^ 30) (hm : WFm B ρ) : MM l G yX7_set cX7_set 5 2 46 (some .int) [.ref (aa G 4 0), .int x1, .int x2, .int x3] (setG σ 4 ρ) (Qi G (f_X7_set ρ x1 x2 x3) (setG σ 4 (g_X7_set ρ x1 x2 x3))) := by
  refine MM.of (by decide) (Nat.le_of_ble_eq_true rfl) ?_
  intro p e s m below meth c ls X hr hlk w hl
  have hx := X.1.1
  have hb := X.1.2.1
  have hl : lv_has ls 5 [(0, .ref (aa G 4 0)), (1, .int x1), (2, .int x2), (3, .int x3)] := hl
  refine lv_aload_n hx hb dX7_set_0 rfl (lv_at hl 0 rfl) ?_
  refine lv_iload_n hx hb dX7_set_1 rfl (lv_at hl 1 rfl) ?_
  refine k_i (rr_v (rest := []) X w mX7_isCell kw884 (c_X7_isCell x1) m4_0 rfl rfl ⟨Nat.le_of_ble_eq_true rfl, Nat.le_of_ble_eq_true rfl⟩ rfl hl.1 rfl (Nat.le_of_ble_eq_true rfl) dX7_set_2 ⟨Nat.zero_le _, Nat.zero_le _⟩) w (fun H locs w => ?_)
  refine lv_if_ne (tgt := 14) hx hb dX7_set_5 (by decide) (fun zc5 => ?_) (fun zc5 => ?_)
  · -- 14
    refine lv_iload_n hx hb dX7_set_14 rfl (lv_at hl 2 rfl) ?_
    refine lv_i2l hx hb dX7_set_15 rfl ?_
    refine lv_lconst (v := 0) hx hb dX7_set_16 (by decide) ?_
    refine lv_ldc2 hx hb X.1.2.2.2.1 (X.1.2.2.2.2 _ kw891) dX7_set_17 ?_
    refine k_i (rr_s (rest := []) X w mX7_in kw888 (c_X7_in x2.toInt64 0 3) ⟨Nat.le_of_ble_eq_true rfl, Nat.le_of_ble_eq_true rfl⟩ rfl hl.1 rfl (Nat.le_of_ble_eq_true rfl) dX7_set_20 ⟨Nat.zero_le _, Nat.zero_le _⟩) w (fun H locs w => ?_)
    refine lv_if_ne (tgt := 33) hx hb dX7_set_23 (by decide) (fun zc23 => ?_) (fun zc23 => ?_)
    · -- 33
      refine lv_iload_n hx hb dX7_set_33 rfl (lv_at hl 3 rfl) ?_
      refine lv_if_ge (tgt := 44) hx hb dX7_set_34 (by decide) (fun zc34 => ?_) (fun zc34 => ?_)
      · -- 44
        refine lv_iload_n hx hb dX7_set_44 rfl (lv_at hl 3 rfl) ?_
        refine lv_iload_n hx hb dX7_set_45 rfl (lv_at hl 2 rfl) ?_
        refine lv_iconst (v := 2) hx hb dX7_set_46 (by decide) ?_
        refine lv_icmp_ge (tgt := 55) hx hb dX7_set_47 (by decide) (fun zc47 => ?_) (fun zc47 => ?_)
        · -- 55
          refine lv_bipush (v := 99) hx hb dX7_set_55 (by decide) ?_
          refine lv_icmp_le (tgt := 67) hx hb dX7_set_57 (by decide) (fun zc57 => ?_) (fun zc57 => ?_)
          · -- 67
            refine lv_iload_n hx hb dX7_set_67 rfl (lv_at hl 2 rfl) ?_
            refine lv_if_ne (tgt := 80) hx hb dX7_set_68 (by decide) (fun zc68 => ?_) (fun zc68 => ?_)
            · -- 80
              refine lv_iload_n hx hb dX7_set_80 rfl (lv_at hl 2 rfl) ?_
              refine lv_iconst (v := 1) hx hb dX7_set_81 (by decide) ?_
              refine lv_icmp_ne (tgt := 94) hx hb dX7_set_82 (by decide) (fun zc82 => ?_) (fun zc82 => ?_)
              · -- 94
                refine lv_iload_n hx hb dX7_set_94 rfl (lv_at hl 2 rfl) ?_
                refine lv_iconst (v := 2) hx hb dX7_set_95 (by decide) ?_
                refine lv_icmp_ne (tgt := 108) hx hb dX7_set_96 (by decide) (fun zc96 => ?_) (fun zc96 => ?_)
                · -- 108
                  refine lv_aload_n hx hb dX7_set_108 rfl (lv_at hl 0 rfl) ?_
                  refine gf7_13 X w dX7_set_109 ?_
                  refine lv_iload_n hx hb dX7_set_112 rfl (lv_at hl 1 rfl) ?_
                  refine ia (f := 2) (n := 8) X w m4_2 rfl (hm.cell zc5) dX7_set_113 ?_
                  refine lv_topi (fun zv114 ezv114 => ?_)
                  refine lv_istore (lv' := [(4, .int zv114), (0, .ref (aa G 4 0)), (1, .int x1), (2, .int x2), (3, .int x3)]) hx hb dX7_set_114 hl (by decide) rfl (fun ls hl => ?_)
                  refine lv_aload_n hx hb dX7_set_116 rfl (lv_at hl 1 rfl) ?_
                  refine gf7_16 X w dX7_set_117 ?_
                  refine lv_iload_n hx hb dX7_set_120 rfl (lv_at hl 2 rfl) ?_
                  refine lv_iload_n hx hb dX7_set_121 rfl (lv_at hl 3 rfl) ?_
                  refine lv_if_ne (tgt := 129) hx hb dX7_set_122 (by decide) (fun _ => ?_) (fun zc122 => absurd zc122 zc68)
                  refine lv_aload_n hx hb dX7_set_129 rfl (lv_at hl 1 rfl) ?_
                  change W _ _ _ _ _ _ _ _ _ _ _ _ _ _ _ (F0 m 130 ls _)
                  refine gf7_16 X w dX7_set_130 ?_
                  refine lv_iload_n hx hb dX7_set_133 rfl (lv_at hl 2 rfl) ?_
                  refine ia (f := 3) (n := 8) X w m4_3 rfl (hm.cell zc5) dX7_set_134 ?_
                  refine iS (f := 3) (n := 8) X w m4_3 rfl (hm.cell zc5) dX7_set_135 (fun zs135 H locs ezs135 w => ?_)
                  refine lv_aload_n hx hb dX7_set_136 rfl (lv_at hl 1 rfl) ?_
                  refine gf7_19 X w dX7_set_137 ?_
                  refine lv_iload_n hx hb dX7_set_140 rfl (lv_at hl 2 rfl) ?_
                  refine lv_iload_n hx hb dX7_set_141 rfl (lv_at hl 3 rfl) ?_
                  refine lv_iconst (v := 1) hx hb dX7_set_142 (by decide) ?_
                  refine lv_icmp_ne (tgt := 150) hx hb dX7_set_143 (by decide) (fun _ => ?_) (fun zc143 => absurd zc143 zc82)
                  refine lv_aload_n hx hb dX7_set_150 rfl (lv_at hl 1 rfl) ?_
                  refine gf7_19 X w dX7_set_151 ?_
                  change W _ _ _ _ _ _ _ _ _ _ _ _ _ _ _ (F0 m 154 ls _)
                  refine lv_iload_n hx hb dX7_set_154 rfl (lv_at hl 2 rfl) ?_
                  refine ia (f := 4) (n := 8) X w m4_4 rfl (hm.cell zc5) dX7_set_155 ?_
                  refine iS (f := 4) (n := 8) X w m4_4 rfl (hm.cell zc5) dX7_set_156 (fun zs156 H locs ezs156 w => ?_)
                  refine lv_aload_n hx hb dX7_set_157 rfl (lv_at hl 1 rfl) ?_
                  refine gf7_22 X w dX7_set_158 ?_
                  refine lv_iload_n hx hb dX7_set_161 rfl (lv_at hl 2 rfl) ?_
                  refine lv_iload_n hx hb dX7_set_162 rfl (lv_at hl 3 rfl) ?_
                  refine lv_iconst (v := 2) hx hb dX7_set_163 (by decide) ?_
                  refine lv_icmp_ne (tgt := 171) hx hb dX7_set_164 (by decide) (fun _ => ?_) (fun zc164 => absurd zc164 zc96)
                  refine lv_aload_n hx hb dX7_set_171 rfl (lv_at hl 1 rfl) ?_
                  refine gf7_22 X w dX7_set_172 ?_
                  refine lv_iload_n hx hb dX7_set_175 rfl (lv_at hl 2 rfl) ?_
                  change W _ _ _ _ _ _ _ _ _ _ _ _ _ _ _ (F0 m 176 ls _)
                  refine ia (f := 5) (n := 8) X w m4_5 rfl (hm.cell zc5) dX7_set_176 ?_
                  refine iS (f := 5) (n := 8) X w m4_5 rfl (hm.cell zc5) dX7_set_177 (fun zs177 H locs ezs177 w => ?_)
                  refine lv_aload_n hx hb dX7_set_178 rfl (lv_at hl 1 rfl) ?_
                  refine gf7_13 X w dX7_set_179 ?_
                  refine lv_iload_n hx hb dX7_set_182 rfl (lv_at hl 2 rfl) ?_
                  refine lv_iload_n hx hb dX7_set_183 rfl (lv_at hl 3 rfl) ?_
                  refine lv_iconst (v := 3) hx hb dX7_set_184 (by decide) ?_
                  refine lv_icmp_ne (tgt := 192) hx hb dX7_set_185 (by decide) (fun zc185 => ?_) (fun zc185 => ?_)
                  · -- 192
                    refine lv_aload_n hx hb dX7_set_192 rfl (lv_at hl 1 rfl) ?_
                    refine gf7_13 X w dX7_set_193 ?_
                    refine lv_iload_n hx hb dX7_set_196 rfl (lv_at hl 2 rfl) ?_
                    refine ia (f := 2) (n := 8) X w m4_2 rfl (hm.cell zc5) dX7_set_197 ?_
                    refine iS (f := 2) (n := 8) X w m4_2 rfl (hm.cell zc5) dX7_set_198 (fun zs198 H locs ezs198 w => ?_)
                    refine lv_iload hx hb dX7_set_199 (lv_at hl 0 rfl) ?_
                    exact t_i X w hr hlk dX7_set_201 (by replace ezs198 := ezs198.symm; subst ezs198; replace ezs177 := ezs177.symm; subst ezs177; replace ezs156 := ezs156.symm; subst ezs156; replace ezs135 := ezs135.symm; subst ezs135; replace ezv114 := ezv114.symm; subst ezv114; simp only [f_X7_set, if_neg zc5, if_neg zc23, if_pos zc34, if_pos zc47, if_pos zc57, if_neg zc68, if_neg zc82, if_neg zc96, if_neg zc185]) (by replace ezs198 := ezs198.symm; subst ezs198; replace ezs177 := ezs177.symm; subst ezs177; replace ezs156 := ezs156.symm; subst ezs156; replace ezs135 := ezs135.symm; subst ezs135; replace ezv114 := ezv114.symm; subst ezv114; simp only [g_X7_set, if_neg zc5, if_neg zc23, if_pos zc34, if_pos zc47, if_pos zc57, if_neg zc68, if_neg zc82, if_neg zc96, if_neg zc185])
                  · -- 188
                    refine lv_iload_n hx hb dX7_set_188 rfl (lv_at hl 4 rfl) ?_
                    refine lv_goto (tgt := 198) hx hb dX7_set_189 (by decide) ?_
                    refine iS (f := 2) (n := 8) X w m4_2 rfl (hm.cell zc5) dX7_set_198 (fun zs198_2 H locs ezs198_2 w => ?_)
                    refine lv_iload hx hb dX7_set_199 (lv_at hl 0 rfl) ?_
                    exact t_i X w hr hlk dX7_set_201 (by replace ezs198_2 := ezs198_2.symm; subst ezs198_2; replace ezs177 := ezs177.symm; subst ezs177; replace ezs156 := ezs156.symm; subst ezs156; replace ezs135 := ezs135.symm; subst ezs135; replace ezv114 := ezv114.symm; subst ezv114; simp only [f_X7_set, if_neg zc5, if_neg zc23, if_pos zc34, if_pos zc47, if_pos zc57, if_neg zc68, if_neg zc82, if_neg zc96, if_pos zc185]) (by replace ezs198_2 := ezs198_2.symm; subst ezs198_2; replace ezs177 := ezs177.symm; subst ezs177; replace ezs156 := ezs156.symm; subst ezs156; replace ezs135 := ezs135.symm; subst ezs135; replace ezv114 := ezv114.symm; subst ezv114; simp only [g_X7_set, if_neg zc5, if_neg zc23, if_pos zc34, if_pos zc47, if_pos zc57, if_neg zc68, if_neg zc82, if_neg zc96, if_pos zc185])
                · -- 99
                  refine lv_aload_n hx hb dX7_set_99 rfl (lv_at hl 0 rfl) ?_
                  refine gf7_22 X w dX7_set_100 ?_
                  refine lv_iload_n hx hb dX7_set_103 rfl (lv_at hl 1 rfl) ?_
                  refine ia (f := 5) (n := 8) X w m4_5 rfl (hm.cell zc5) dX7_set_104 ?_
                  refine lv_goto (tgt := 114) hx hb dX7_set_105 (by decide) ?_
                  refine lv_topi (fun zv114_2 ezv114_2 => ?_)
                  refine lv_istore (lv' := [(4, .int zv114_2), (0, .ref (aa G 4 0)), (1, .int x1), (2, .int x2), (3, .int x3)]) hx hb dX7_set_114 hl (by decide) rfl (fun ls hl => ?_)
                  refine lv_aload_n hx hb dX7_set_116 rfl (lv_at hl 1 rfl) ?_
                  refine gf7_16 X w dX7_set_117 ?_
                  refine lv_iload_n hx hb dX7_set_120 rfl (lv_at hl 2 rfl) ?_
                  refine lv_iload_n hx hb dX7_set_121 rfl (lv_at hl 3 rfl) ?_
                  refine lv_if_ne (tgt := 129) hx hb dX7_set_122 (by decide) (fun _ => ?_) (fun zc122 => absurd zc122 zc68)
                  change W _ _ _ _ _ _ _ _ _ _ _ _ _ _ _ (F0 m 129 ls _)
                  refine lv_aload_n hx hb dX7_set_129 rfl (lv_at hl 1 rfl) ?_
                  refine gf7_16 X w dX7_set_130 ?_
                  refine lv_iload_n hx hb dX7_set_133 rfl (lv_at hl 2 rfl) ?_
                  refine ia (f := 3) (n := 8) X w m4_3 rfl (hm.cell zc5) dX7_set_134 ?_
                  refine iS (f := 3) (n := 8) X w m4_3 rfl (hm.cell zc5) dX7_set_135 (fun zs135_2 H locs ezs135_2 w => ?_)
                  refine lv_aload_n hx hb dX7_set_136 rfl (lv_at hl 1 rfl) ?_
                  refine gf7_19 X w dX7_set_137 ?_
                  refine lv_iload_n hx hb dX7_set_140 rfl (lv_at hl 2 rfl) ?_
                  refine lv_iload_n hx hb dX7_set_141 rfl (lv_at hl 3 rfl) ?_
                  refine lv_iconst (v := 1) hx hb dX7_set_142 (by decide) ?_
                  refine lv_icmp_ne (tgt := 150) hx hb dX7_set_143 (by decide) (fun _ => ?_) (fun zc143 => absurd zc143 zc82)
                  refine lv_aload_n hx hb dX7_set_150 rfl (lv_at hl 1 rfl) ?_
                  change W _ _ _ _ _ _ _ _ _ _ _ _ _ _ _ (F0 m 151 ls _)
                  refine gf7_19 X w dX7_set_151 ?_
                  refine lv_iload_n hx hb dX7_set_154 rfl (lv_at hl 2 rfl) ?_
                  refine ia (f := 4) (n := 8) X w m4_4 rfl (hm.cell zc5) dX7_set_155 ?_
                  refine iS (f := 4) (n := 8) X w m4_4 rfl (hm.cell zc5) dX7_set_156 (fun zs156_2 H locs ezs156_2 w => ?_)
                  refine lv_aload_n hx hb dX7_set_157 rfl (lv_at hl 1 rfl) ?_
                  refine gf7_22 X w dX7_set_158 ?_
                  refine lv_iload_n hx hb dX7_set_161 rfl (lv_at hl 2 rfl) ?_
                  refine lv_iload_n hx hb dX7_set_162 rfl (lv_at hl 3 rfl) ?_
                  refine lv_iconst (v := 2) hx hb dX7_set_163 (by decide) ?_
                  refine lv_icmp_ne (tgt := 171) hx hb dX7_set_164 (by decide) (fun zc164 => absurd zc96 zc164) (fun _ => ?_)
                  refine lv_iload_n hx hb dX7_set_167 rfl (lv_at hl 4 rfl) ?_
                  refine lv_goto (tgt := 177) hx hb dX7_set_168 (by decide) ?_
                  change W _ _ _ _ _ _ _ _ _ _ _ _ _ _ _ (F0 m 177 ls _)
                  refine iS (f := 5) (n := 8) X w m4_5 rfl (hm.cell zc5) dX7_set_177 (fun zs177_2 H locs ezs177_2 w => ?_)
                  refine lv_aload_n hx hb dX7_set_178 rfl (lv_at hl 1 rfl) ?_
                  refine gf7_13 X w dX7_set_179 ?_
                  refine lv_iload_n hx hb dX7_set_182 rfl (lv_at hl 2 rfl) ?_
                  refine lv_iload_n hx hb dX7_set_183 rfl (lv_at hl 3 rfl) ?_
                  refine lv_iconst (v := 3) hx hb dX7_set_184 (by decide) ?_
                  refine lv_icmp_ne (tgt := 192) hx hb dX7_set_185 (by decide) (fun _ => ?_) (fun zc185 => absurd zc185 (by rw [zc96]; decide))
                  refine lv_aload_n hx hb dX7_set_192 rfl (lv_at hl 1 rfl) ?_
                  refine gf7_13 X w dX7_set_193 ?_
                  refine lv_iload_n hx hb dX7_set_196 rfl (lv_at hl 2 rfl) ?_
                  refine ia (f := 2) (n := 8) X w m4_2 rfl (hm.cell zc5) dX7_set_197 ?_
                  refine iS (f := 2) (n := 8) X w m4_2 rfl (hm.cell zc5) dX7_set_198 (fun zs198_3 H locs ezs198_3 w => ?_)
                  change W _ _ _ _ _ _ _ _ _ _ _ _ _ _ _ (F0 m 199 ls _)
                  refine lv_iload hx hb dX7_set_199 (lv_at hl 0 rfl) ?_
                  exact t_i X w hr hlk dX7_set_201 (by replace ezs198_3 := ezs198_3.symm; subst ezs198_3; replace ezs177_2 := ezs177_2.symm; subst ezs177_2; replace ezs156_2 := ezs156_2.symm; subst ezs156_2; replace ezs135_2 := ezs135_2.symm; subst ezs135_2; replace ezv114_2 := ezv114_2.symm; subst ezv114_2; simp only [f_X7_set, if_neg zc5, if_neg zc23, if_pos zc34, if_pos zc47, if_pos zc57, if_neg zc68, if_neg zc82, if_pos zc96]) (by replace ezs198_3 := ezs198_3.symm; subst ezs198_3; replace ezs177_2 := ezs177_2.symm; subst ezs177_2; replace ezs156_2 := ezs156_2.symm; subst ezs156_2; replace ezs135_2 := ezs135_2.symm; subst ezs135_2; replace ezv114_2 := ezv114_2.symm; subst ezv114_2; simp only [g_X7_set, if_neg zc5, if_neg zc23, if_pos zc34, if_pos zc47, if_pos zc57, if_neg zc68, if_neg zc82, if_pos zc96])
              · -- 85
                refine lv_aload_n hx hb dX7_set_85 rfl (lv_at hl 0 rfl) ?_
                refine gf7_19 X w dX7_set_86 ?_
                refine lv_iload_n hx hb dX7_set_89 rfl (lv_at hl 1 rfl) ?_
                refine ia (f := 4) (n := 8) X w m4_4 rfl (hm.cell zc5) dX7_set_90 ?_
                refine lv_goto (tgt := 114) hx hb dX7_set_91 (by decide) ?_
                refine lv_topi (fun zv114_3 ezv114_3 => ?_)
                refine lv_istore (lv' := [(4, .int zv114_3), (0, .ref (aa G 4 0)), (1, .int x1), (2, .int x2), (3, .int x3)]) hx hb dX7_set_114 hl (by decide) rfl (fun ls hl => ?_)
                refine lv_aload_n hx hb dX7_set_116 rfl (lv_at hl 1 rfl) ?_
                refine gf7_16 X w dX7_set_117 ?_
                refine lv_iload_n hx hb dX7_set_120 rfl (lv_at hl 2 rfl) ?_
                refine lv_iload_n hx hb dX7_set_121 rfl (lv_at hl 3 rfl) ?_
                refine lv_if_ne (tgt := 129) hx hb dX7_set_122 (by decide) (fun _ => ?_) (fun zc122 => absurd zc122 zc68)
                change W _ _ _ _ _ _ _ _ _ _ _ _ _ _ _ (F0 m 129 ls _)
                refine lv_aload_n hx hb dX7_set_129 rfl (lv_at hl 1 rfl) ?_
                refine gf7_16 X w dX7_set_130 ?_
                refine lv_iload_n hx hb dX7_set_133 rfl (lv_at hl 2 rfl) ?_
                refine ia (f := 3) (n := 8) X w m4_3 rfl (hm.cell zc5) dX7_set_134 ?_
                refine iS (f := 3) (n := 8) X w m4_3 rfl (hm.cell zc5) dX7_set_135 (fun zs135_3 H locs ezs135_3 w => ?_)
                refine lv_aload_n hx hb dX7_set_136 rfl (lv_at hl 1 rfl) ?_
                refine gf7_19 X w dX7_set_137 ?_
                refine lv_iload_n hx hb dX7_set_140 rfl (lv_at hl 2 rfl) ?_
                refine lv_iload_n hx hb dX7_set_141 rfl (lv_at hl 3 rfl) ?_
                refine lv_iconst (v := 1) hx hb dX7_set_142 (by decide) ?_
                refine lv_icmp_ne (tgt := 150) hx hb dX7_set_143 (by decide) (fun zc143 => absurd zc82 zc143) (fun _ => ?_)
                refine lv_iload_n hx hb dX7_set_146 rfl (lv_at hl 4 rfl) ?_
                change W _ _ _ _ _ _ _ _ _ _ _ _ _ _ _ (F0 m 147 ls _)
                refine lv_goto (tgt := 156) hx hb dX7_set_147 (by decide) ?_
                refine iS (f := 4) (n := 8) X w m4_4 rfl (hm.cell zc5) dX7_set_156 (fun zs156_3 H locs ezs156_3 w => ?_)
                refine lv_aload_n hx hb dX7_set_157 rfl (lv_at hl 1 rfl) ?_
                refine gf7_22 X w dX7_set_158 ?_
                refine lv_iload_n hx hb dX7_set_161 rfl (lv_at hl 2 rfl) ?_
                refine lv_iload_n hx hb dX7_set_162 rfl (lv_at hl 3 rfl) ?_
                refine lv_iconst (v := 2) hx hb dX7_set_163 (by decide) ?_
                refine lv_icmp_ne (tgt := 171) hx hb dX7_set_164 (by decide) (fun _ => ?_) (fun zc164 => absurd zc164 (by rw [zc82]; decide))
                refine lv_aload_n hx hb dX7_set_171 rfl (lv_at hl 1 rfl) ?_
                refine gf7_22 X w dX7_set_172 ?_
                refine lv_iload_n hx hb dX7_set_175 rfl (lv_at hl 2 rfl) ?_
                refine ia (f := 5) (n := 8) X w m4_5 rfl (hm.cell zc5) dX7_set_176 ?_
                change W _ _ _ _ _ _ _ _ _ _ _ _ _ _ _ (F0 m 177 ls _)
                refine iS (f := 5) (n := 8) X w m4_5 rfl (hm.cell zc5) dX7_set_177 (fun zs177_3 H locs ezs177_3 w => ?_)
                refine lv_aload_n hx hb dX7_set_178 rfl (lv_at hl 1 rfl) ?_
                refine gf7_13 X w dX7_set_179 ?_
                refine lv_iload_n hx hb dX7_set_182 rfl (lv_at hl 2 rfl) ?_
                refine lv_iload_n hx hb dX7_set_183 rfl (lv_at hl 3 rfl) ?_
                refine lv_iconst (v := 3) hx hb dX7_set_184 (by decide) ?_
                refine lv_icmp_ne (tgt := 192) hx hb dX7_set_185 (by decide) (fun _ => ?_) (fun zc185 => absurd zc185 (by rw [zc82]; decide))
                refine lv_aload_n hx hb dX7_set_192 rfl (lv_at hl 1 rfl) ?_
                refine gf7_13 X w dX7_set_193 ?_
                refine lv_iload_n hx hb dX7_set_196 rfl (lv_at hl 2 rfl) ?_
                refine ia (f := 2) (n := 8) X w m4_2 rfl (hm.cell zc5) dX7_set_197 ?_
                refine iS (f := 2) (n := 8) X w m4_2 rfl (hm.cell zc5) dX7_set_198 (fun zs198_4 H locs ezs198_4 w => ?_)
                change W _ _ _ _ _ _ _ _ _ _ _ _ _ _ _ (F0 m 199 ls _)
                refine lv_iload hx hb dX7_set_199 (lv_at hl 0 rfl) ?_
                exact t_i X w hr hlk dX7_set_201 (by replace ezs198_4 := ezs198_4.symm; subst ezs198_4; replace ezs177_3 := ezs177_3.symm; subst ezs177_3; replace ezs156_3 := ezs156_3.symm; subst ezs156_3; replace ezs135_3 := ezs135_3.symm; subst ezs135_3; replace ezv114_3 := ezv114_3.symm; subst ezv114_3; simp only [f_X7_set, if_neg zc5, if_neg zc23, if_pos zc34, if_pos zc47, if_pos zc57, if_neg zc68, if_pos zc82]) (by replace ezs198_4 := ezs198_4.symm; subst ezs198_4; replace ezs177_3 := ezs177_3.symm; subst ezs177_3; replace ezs156_3 := ezs156_3.symm; subst ezs156_3; replace ezs135_3 := ezs135_3.symm; subst ezs135_3; replace ezv114_3 := ezv114_3.symm; subst ezv114_3; simp only [g_X7_set, if_neg zc5, if_neg zc23, if_pos zc34, if_pos zc47, if_pos zc57, if_neg zc68, if_pos zc82])
            · -- 71
              refine lv_aload_n hx hb dX7_set_71 rfl (lv_at hl 0 rfl) ?_
              refine gf7_16 X w dX7_set_72 ?_
              refine lv_iload_n hx hb dX7_set_75 rfl (lv_at hl 1 rfl) ?_
              refine ia (f := 3) (n := 8) X w m4_3 rfl (hm.cell zc5) dX7_set_76 ?_
              refine lv_goto (tgt := 114) hx hb dX7_set_77 (by decide) ?_
              refine lv_topi (fun zv114_4 ezv114_4 => ?_)
              refine lv_istore (lv' := [(4, .int zv114_4), (0, .ref (aa G 4 0)), (1, .int x1), (2, .int x2), (3, .int x3)]) hx hb dX7_set_114 hl (by decide) rfl (fun ls hl => ?_)
              refine lv_aload_n hx hb dX7_set_116 rfl (lv_at hl 1 rfl) ?_
              refine gf7_16 X w dX7_set_117 ?_
              refine lv_iload_n hx hb dX7_set_120 rfl (lv_at hl 2 rfl) ?_
              refine lv_iload_n hx hb dX7_set_121 rfl (lv_at hl 3 rfl) ?_
              refine lv_if_ne (tgt := 129) hx hb dX7_set_122 (by decide) (fun zc122 => absurd zc68 zc122) (fun _ => ?_)
              change W _ _ _ _ _ _ _ _ _ _ _ _ _ _ _ (F0 m 125 ls _)
              refine lv_iload_n hx hb dX7_set_125 rfl (lv_at hl 4 rfl) ?_
              refine lv_goto (tgt := 135) hx hb dX7_set_126 (by decide) ?_
              refine iS (f := 3) (n := 8) X w m4_3 rfl (hm.cell zc5) dX7_set_135 (fun zs135_4 H locs ezs135_4 w => ?_)
              refine lv_aload_n hx hb dX7_set_136 rfl (lv_at hl 1 rfl) ?_
              refine gf7_19 X w dX7_set_137 ?_
              refine lv_iload_n hx hb dX7_set_140 rfl (lv_at hl 2 rfl) ?_
              refine lv_iload_n hx hb dX7_set_141 rfl (lv_at hl 3 rfl) ?_
              refine lv_iconst (v := 1) hx hb dX7_set_142 (by decide) ?_
              refine lv_icmp_ne (tgt := 150) hx hb dX7_set_143 (by decide) (fun _ => ?_) (fun zc143 => absurd zc143 (by rw [zc68]; decide))
              refine lv_aload_n hx hb dX7_set_150 rfl (lv_at hl 1 rfl) ?_
              refine gf7_19 X w dX7_set_151 ?_
              refine lv_iload_n hx hb dX7_set_154 rfl (lv_at hl 2 rfl) ?_
              change W _ _ _ _ _ _ _ _ _ _ _ _ _ _ _ (F0 m 155 ls _)
              refine ia (f := 4) (n := 8) X w m4_4 rfl (hm.cell zc5) dX7_set_155 ?_
              refine iS (f := 4) (n := 8) X w m4_4 rfl (hm.cell zc5) dX7_set_156 (fun zs156_4 H locs ezs156_4 w => ?_)
              refine lv_aload_n hx hb dX7_set_157 rfl (lv_at hl 1 rfl) ?_
              refine gf7_22 X w dX7_set_158 ?_
              refine lv_iload_n hx hb dX7_set_161 rfl (lv_at hl 2 rfl) ?_
              refine lv_iload_n hx hb dX7_set_162 rfl (lv_at hl 3 rfl) ?_
              refine lv_iconst (v := 2) hx hb dX7_set_163 (by decide) ?_
              refine lv_icmp_ne (tgt := 171) hx hb dX7_set_164 (by decide) (fun _ => ?_) (fun zc164 => absurd zc164 (by rw [zc68]; decide))
              refine lv_aload_n hx hb dX7_set_171 rfl (lv_at hl 1 rfl) ?_
              refine gf7_22 X w dX7_set_172 ?_
              refine lv_iload_n hx hb dX7_set_175 rfl (lv_at hl 2 rfl) ?_
              refine ia (f := 5) (n := 8) X w m4_5 rfl (hm.cell zc5) dX7_set_176 ?_
              change W _ _ _ _ _ _ _ _ _ _ _ _ _ _ _ (F0 m 177 ls _)
              refine iS (f := 5) (n := 8) X w m4_5 rfl (hm.cell zc5) dX7_set_177 (fun zs177_4 H locs ezs177_4 w => ?_)
              refine lv_aload_n hx hb dX7_set_178 rfl (lv_at hl 1 rfl) ?_
              refine gf7_13 X w dX7_set_179 ?_
              refine lv_iload_n hx hb dX7_set_182 rfl (lv_at hl 2 rfl) ?_
              refine lv_iload_n hx hb dX7_set_183 rfl (lv_at hl 3 rfl) ?_
              refine lv_iconst (v := 3) hx hb dX7_set_184 (by decide) ?_
              refine lv_icmp_ne (tgt := 192) hx hb dX7_set_185 (by decide) (fun _ => ?_) (fun zc185 => absurd zc185 (by rw [zc68]; decide))
              refine lv_aload_n hx hb dX7_set_192 rfl (lv_at hl 1 rfl) ?_
              refine gf7_13 X w dX7_set_193 ?_
              refine lv_iload_n hx hb dX7_set_196 rfl (lv_at hl 2 rfl) ?_
              refine ia (f := 2) (n := 8) X w m4_2 rfl (hm.cell zc5) dX7_set_197 ?_
              refine iS (f := 2) (n := 8) X w m4_2 rfl (hm.cell zc5) dX7_set_198 (fun zs198_5 H locs ezs198_5 w => ?_)
              change W _ _ _ _ _ _ _ _ _ _ _ _ _ _ _ (F0 m 199 ls _)
              refine lv_iload hx hb dX7_set_199 (lv_at hl 0 rfl) ?_
              exact t_i X w hr hlk dX7_set_201 (by replace ezs198_5 := ezs198_5.symm; subst ezs198_5; replace ezs177_4 := ezs177_4.symm; subst ezs177_4; replace ezs156_4 := ezs156_4.symm; subst ezs156_4; replace ezs135_4 := ezs135_4.symm; subst ezs135_4; replace ezv114_4 := ezv114_4.symm; subst ezv114_4; simp only [f_X7_set, if_neg zc5, if_neg zc23, if_pos zc34, if_pos zc47, if_pos zc57, if_pos zc68]) (by replace ezs198_5 := ezs198_5.symm; subst ezs198_5; replace ezs177_4 := ezs177_4.symm; subst ezs177_4; replace ezs156_4 := ezs156_4.symm; subst ezs156_4; replace ezs135_4 := ezs135_4.symm; subst ezs135_4; replace ezv114_4 := ezv114_4.symm; subst ezv114_4; simp only [g_X7_set, if_neg zc5, if_neg zc23, if_pos zc34, if_pos zc47, if_pos zc57, if_pos zc68])
          · -- 60
            refine lv_aload_n hx hb dX7_set_60 rfl (lv_at hl 0 rfl) ?_
            refine lv_bipush (v := (-6)) hx hb dX7_set_61 (by decide) ?_
            refine k_i (rr_v (rest := []) X w mX7_refuse kw872 (c_X7_refuse (-6) (vin_lit (by decide +kernel))) m4_0 rfl rfl ⟨Nat.le_of_ble_eq_true rfl, Nat.le_of_ble_eq_true rfl⟩ rfl hl.1 rfl (Nat.le_of_ble_eq_true rfl) dX7_set_63 ⟨Nat.zero_le _, Nat.zero_le _⟩) w (fun H locs w => ?_)
            obtain ⟨zs63, ezs63⟩ : ∃ y : Gr, y = g_X7_refuse ρ (-6) := ⟨_, rfl⟩; rw [← ezs63] at w
            exact t_i X w hr hlk dX7_set_66 (by replace ezs63 := ezs63.symm; subst ezs63; simp only [f_X7_set, if_neg zc5, if_neg zc23, if_pos zc34, if_pos zc47, if_neg zc57]) (by replace ezs63 := ezs63.symm; subst ezs63; simp only [g_X7_set, if_neg zc5, if_neg zc23, if_pos zc34, if_pos zc47, if_neg zc57])
        · -- 50
          refine lv_bipush (v := 100) hx hb dX7_set_50 (by decide) ?_
          refine lv_goto (tgt := 57) hx hb dX7_set_52 (by decide) ?_
          refine lv_icmp_le (tgt := 67) hx hb dX7_set_57 (by decide) (fun zc57 => ?_) (fun zc57 => ?_)
          · -- 67
            refine lv_iload_n hx hb dX7_set_67 rfl (lv_at hl 2 rfl) ?_
            refine lv_if_ne (tgt := 80) hx hb dX7_set_68 (by decide) (fun zc68 => ?_) (fun zc68 => ?_)
            · -- 80
              refine lv_iload_n hx hb dX7_set_80 rfl (lv_at hl 2 rfl) ?_
              refine lv_iconst (v := 1) hx hb dX7_set_81 (by decide) ?_
              refine lv_icmp_ne (tgt := 94) hx hb dX7_set_82 (by decide) (fun zc82 => ?_) (fun zc82 => ?_)
              · -- 94
                refine lv_iload_n hx hb dX7_set_94 rfl (lv_at hl 2 rfl) ?_
                refine lv_iconst (v := 2) hx hb dX7_set_95 (by decide) ?_
                refine lv_icmp_ne (tgt := 108) hx hb dX7_set_96 (by decide) (fun zc96 => ?_) (fun zc96 => ?_)
                · -- 108
                  refine lv_aload_n hx hb dX7_set_108 rfl (lv_at hl 0 rfl) ?_
                  refine gf7_13 X w dX7_set_109 ?_
                  refine lv_iload_n hx hb dX7_set_112 rfl (lv_at hl 1 rfl) ?_
                  refine ia (f := 2) (n := 8) X w m4_2 rfl (hm.cell zc5) dX7_set_113 ?_
                  refine lv_topi (fun zv114_5 ezv114_5 => ?_)
                  refine lv_istore (lv' := [(4, .int zv114_5), (0, .ref (aa G 4 0)), (1, .int x1), (2, .int x2), (3, .int x3)]) hx hb dX7_set_114 hl (by decide) rfl (fun ls hl => ?_)
                  refine lv_aload_n hx hb dX7_set_116 rfl (lv_at hl 1 rfl) ?_
                  refine gf7_16 X w dX7_set_117 ?_
                  refine lv_iload_n hx hb dX7_set_120 rfl (lv_at hl 2 rfl) ?_
                  refine lv_iload_n hx hb dX7_set_121 rfl (lv_at hl 3 rfl) ?_
                  refine lv_if_ne (tgt := 129) hx hb dX7_set_122 (by decide) (fun _ => ?_) (fun zc122 => absurd zc122 zc68)
                  refine lv_aload_n hx hb dX7_set_129 rfl (lv_at hl 1 rfl) ?_
                  change W _ _ _ _ _ _ _ _ _ _ _ _ _ _ _ (F0 m 130 ls _)
                  refine gf7_16 X w dX7_set_130 ?_
                  refine lv_iload_n hx hb dX7_set_133 rfl (lv_at hl 2 rfl) ?_
                  refine ia (f := 3) (n := 8) X w m4_3 rfl (hm.cell zc5) dX7_set_134 ?_
                  refine iS (f := 3) (n := 8) X w m4_3 rfl (hm.cell zc5) dX7_set_135 (fun zs135_5 H locs ezs135_5 w => ?_)
                  refine lv_aload_n hx hb dX7_set_136 rfl (lv_at hl 1 rfl) ?_
                  refine gf7_19 X w dX7_set_137 ?_
                  refine lv_iload_n hx hb dX7_set_140 rfl (lv_at hl 2 rfl) ?_
                  refine lv_iload_n hx hb dX7_set_141 rfl (lv_at hl 3 rfl) ?_
                  refine lv_iconst (v := 1) hx hb dX7_set_142 (by decide) ?_
                  refine lv_icmp_ne (tgt := 150) hx hb dX7_set_143 (by decide) (fun _ => ?_) (fun zc143 => absurd zc143 zc82)
                  refine lv_aload_n hx hb dX7_set_150 rfl (lv_at hl 1 rfl) ?_
                  refine gf7_19 X w dX7_set_151 ?_
                  change W _ _ _ _ _ _ _ _ _ _ _ _ _ _ _ (F0 m 154 ls _)
                  refine lv_iload_n hx hb dX7_set_154 rfl (lv_at hl 2 rfl) ?_
                  refine ia (f := 4) (n := 8) X w m4_4 rfl (hm.cell zc5) dX7_set_155 ?_
                  refine iS (f := 4) (n := 8) X w m4_4 rfl (hm.cell zc5) dX7_set_156 (fun zs156_5 H locs ezs156_5 w => ?_)
                  refine lv_aload_n hx hb dX7_set_157 rfl (lv_at hl 1 rfl) ?_
                  refine gf7_22 X w dX7_set_158 ?_
                  refine lv_iload_n hx hb dX7_set_161 rfl (lv_at hl 2 rfl) ?_
                  refine lv_iload_n hx hb dX7_set_162 rfl (lv_at hl 3 rfl) ?_
                  refine lv_iconst (v := 2) hx hb dX7_set_163 (by decide) ?_
                  refine lv_icmp_ne (tgt := 171) hx hb dX7_set_164 (by decide) (fun _ => ?_) (fun zc164 => absurd zc164 zc96)
                  refine lv_aload_n hx hb dX7_set_171 rfl (lv_at hl 1 rfl) ?_
                  refine gf7_22 X w dX7_set_172 ?_
                  refine lv_iload_n hx hb dX7_set_175 rfl (lv_at hl 2 rfl) ?_
                  change W _ _ _ _ _ _ _ _ _ _ _ _ _ _ _ (F0 m 176 ls _)
                  refine ia (f := 5) (n := 8) X w m4_5 rfl (hm.cell zc5) dX7_set_176 ?_
                  refine iS (f := 5) (n := 8) X w m4_5 rfl (hm.cell zc5) dX7_set_177 (fun zs177_5 H locs ezs177_5 w => ?_)
                  refine lv_aload_n hx hb dX7_set_178 rfl (lv_at hl 1 rfl) ?_
                  refine gf7_13 X w dX7_set_179 ?_
                  refine lv_iload_n hx hb dX7_set_182 rfl (lv_at hl 2 rfl) ?_
                  refine lv_iload_n hx hb dX7_set_183 rfl (lv_at hl 3 rfl) ?_
                  refine lv_iconst (v := 3) hx hb dX7_set_184 (by decide) ?_
                  refine lv_icmp_ne (tgt := 192) hx hb dX7_set_185 (by decide) (fun zc185 => ?_) (fun zc185 => ?_)
                  · -- 192
                    refine lv_aload_n hx hb dX7_set_192 rfl (lv_at hl 1 rfl) ?_
                    refine gf7_13 X w dX7_set_193 ?_
                    refine lv_iload_n hx hb dX7_set_196 rfl (lv_at hl 2 rfl) ?_
                    refine ia (f := 2) (n := 8) X w m4_2 rfl (hm.cell zc5) dX7_set_197 ?_
                    refine iS (f := 2) (n := 8) X w m4_2 rfl (hm.cell zc5) dX7_set_198 (fun zs198_6 H locs ezs198_6 w => ?_)
                    refine lv_iload hx hb dX7_set_199 (lv_at hl 0 rfl) ?_
                    exact t_i X w hr hlk dX7_set_201 (by replace ezs198_6 := ezs198_6.symm; subst ezs198_6; replace ezs177_5 := ezs177_5.symm; subst ezs177_5; replace ezs156_5 := ezs156_5.symm; subst ezs156_5; replace ezs135_5 := ezs135_5.symm; subst ezs135_5; replace ezv114_5 := ezv114_5.symm; subst ezv114_5; simp only [f_X7_set, if_neg zc5, if_neg zc23, if_pos zc34, if_neg zc47, if_pos zc57, if_neg zc68, if_neg zc82, if_neg zc96, if_neg zc185]) (by replace ezs198_6 := ezs198_6.symm; subst ezs198_6; replace ezs177_5 := ezs177_5.symm; subst ezs177_5; replace ezs156_5 := ezs156_5.symm; subst ezs156_5; replace ezs135_5 := ezs135_5.symm; subst ezs135_5; replace ezv114_5 := ezv114_5.symm; subst ezv114_5; simp only [g_X7_set, if_neg zc5, if_neg zc23, if_pos zc34, if_neg zc47, if_pos zc57, if_neg zc68, if_neg zc82, if_neg zc96, if_neg zc185])
                  · -- 188
                    refine lv_iload_n hx hb dX7_set_188 rfl (lv_at hl 4 rfl) ?_
                    refine lv_goto (tgt := 198) hx hb dX7_set_189 (by decide) ?_
                    refine iS (f := 2) (n := 8) X w m4_2 rfl (hm.cell zc5) dX7_set_198 (fun zs198_7 H locs ezs198_7 w => ?_)
                    refine lv_iload hx hb dX7_set_199 (lv_at hl 0 rfl) ?_
                    exact t_i X w hr hlk dX7_set_201 (by replace ezs198_7 := ezs198_7.symm; subst ezs198_7; replace ezs177_5 := ezs177_5.symm; subst ezs177_5; replace ezs156_5 := ezs156_5.symm; subst ezs156_5; replace ezs135_5 := ezs135_5.symm; subst ezs135_5; replace ezv114_5 := ezv114_5.symm; subst ezv114_5; simp only [f_X7_set, if_neg zc5, if_neg zc23, if_pos zc34, if_neg zc47, if_pos zc57, if_neg zc68, if_neg zc82, if_neg zc96, if_pos zc185]) (by replace ezs198_7 := ezs198_7.symm; subst ezs198_7; replace ezs177_5 := ezs177_5.symm; subst ezs177_5; replace ezs156_5 := ezs156_5.symm; subst ezs156_5; replace ezs135_5 := ezs135_5.symm; subst ezs135_5; replace ezv114_5 := ezv114_5.symm; subst ezv114_5; simp only [g_X7_set, if_neg zc5, if_neg zc23, if_pos zc34, if_neg zc47, if_pos zc57, if_neg zc68, if_neg zc82, if_neg zc96, if_pos zc185])
                · -- 99
                  refine lv_aload_n hx hb dX7_set_99 rfl (lv_at hl 0 rfl) ?_
                  refine gf7_22 X w dX7_set_100 ?_
                  refine lv_iload_n hx hb dX7_set_103 rfl (lv_at hl 1 rfl) ?_
                  refine ia (f := 5) (n := 8) X w m4_5 rfl (hm.cell zc5) dX7_set_104 ?_
                  refine lv_goto (tgt := 114) hx hb dX7_set_105 (by decide) ?_
                  refine lv_topi (fun zv114_6 ezv114_6 => ?_)
                  refine lv_istore (lv' := [(4, .int zv114_6), (0, .ref (aa G 4 0)), (1, .int x1), (2, .int x2), (3, .int x3)]) hx hb dX7_set_114 hl (by decide) rfl (fun ls hl => ?_)
                  refine lv_aload_n hx hb dX7_set_116 rfl (lv_at hl 1 rfl) ?_
                  refine gf7_16 X w dX7_set_117 ?_
                  refine lv_iload_n hx hb dX7_set_120 rfl (lv_at hl 2 rfl) ?_
                  refine lv_iload_n hx hb dX7_set_121 rfl (lv_at hl 3 rfl) ?_
                  refine lv_if_ne (tgt := 129) hx hb dX7_set_122 (by decide) (fun _ => ?_) (fun zc122 => absurd zc122 zc68)
                  change W _ _ _ _ _ _ _ _ _ _ _ _ _ _ _ (F0 m 129 ls _)
                  refine lv_aload_n hx hb dX7_set_129 rfl (lv_at hl 1 rfl) ?_
                  refine gf7_16 X w dX7_set_130 ?_
                  refine lv_iload_n hx hb dX7_set_133 rfl (lv_at hl 2 rfl) ?_
                  refine ia (f := 3) (n := 8) X w m4_3 rfl (hm.cell zc5) dX7_set_134 ?_
                  refine iS (f := 3) (n := 8) X w m4_3 rfl (hm.cell zc5) dX7_set_135 (fun zs135_6 H locs ezs135_6 w => ?_)
                  refine lv_aload_n hx hb dX7_set_136 rfl (lv_at hl 1 rfl) ?_
                  refine gf7_19 X w dX7_set_137 ?_
                  refine lv_iload_n hx hb dX7_set_140 rfl (lv_at hl 2 rfl) ?_
                  refine lv_iload_n hx hb dX7_set_141 rfl (lv_at hl 3 rfl) ?_
                  refine lv_iconst (v := 1) hx hb dX7_set_142 (by decide) ?_
                  refine lv_icmp_ne (tgt := 150) hx hb dX7_set_143 (by decide) (fun _ => ?_) (fun zc143 => absurd zc143 zc82)
                  refine lv_aload_n hx hb dX7_set_150 rfl (lv_at hl 1 rfl) ?_
                  change W _ _ _ _ _ _ _ _ _ _ _ _ _ _ _ (F0 m 151 ls _)
                  refine gf7_19 X w dX7_set_151 ?_
                  refine lv_iload_n hx hb dX7_set_154 rfl (lv_at hl 2 rfl) ?_
                  refine ia (f := 4) (n := 8) X w m4_4 rfl (hm.cell zc5) dX7_set_155 ?_
                  refine iS (f := 4) (n := 8) X w m4_4 rfl (hm.cell zc5) dX7_set_156 (fun zs156_6 H locs ezs156_6 w => ?_)
                  refine lv_aload_n hx hb dX7_set_157 rfl (lv_at hl 1 rfl) ?_
                  refine gf7_22 X w dX7_set_158 ?_
                  refine lv_iload_n hx hb dX7_set_161 rfl (lv_at hl 2 rfl) ?_
                  refine lv_iload_n hx hb dX7_set_162 rfl (lv_at hl 3 rfl) ?_
                  refine lv_iconst (v := 2) hx hb dX7_set_163 (by decide) ?_
                  refine lv_icmp_ne (tgt := 171) hx hb dX7_set_164 (by decide) (fun zc164 => absurd zc96 zc164) (fun _ => ?_)
                  refine lv_iload_n hx hb dX7_set_167 rfl (lv_at hl 4 rfl) ?_
                  refine lv_goto (tgt := 177) hx hb dX7_set_168 (by decide) ?_
                  change W _ _ _ _ _ _ _ _ _ _ _ _ _ _ _ (F0 m 177 ls _)
                  refine iS (f := 5) (n := 8) X w m4_5 rfl (hm.cell zc5) dX7_set_177 (fun zs177_6 H locs ezs177_6 w => ?_)
                  refine lv_aload_n hx hb dX7_set_178 rfl (lv_at hl 1 rfl) ?_
                  refine gf7_13 X w dX7_set_179 ?_
                  refine lv_iload_n hx hb dX7_set_182 rfl (lv_at hl 2 rfl) ?_
                  refine lv_iload_n hx hb dX7_set_183 rfl (lv_at hl 3 rfl) ?_
                  refine lv_iconst (v := 3) hx hb dX7_set_184 (by decide) ?_
                  refine lv_icmp_ne (tgt := 192) hx hb dX7_set_185 (by decide) (fun _ => ?_) (fun zc185 => absurd zc185 (by rw [zc96]; decide))
                  refine lv_aload_n hx hb dX7_set_192 rfl (lv_at hl 1 rfl) ?_
                  refine gf7_13 X w dX7_set_193 ?_
                  refine lv_iload_n hx hb dX7_set_196 rfl (lv_at hl 2 rfl) ?_
                  refine ia (f := 2) (n := 8) X w m4_2 rfl (hm.cell zc5) dX7_set_197 ?_
                  refine iS (f := 2) (n := 8) X w m4_2 rfl (hm.cell zc5) dX7_set_198 (fun zs198_8 H locs ezs198_8 w => ?_)
                  change W _ _ _ _ _ _ _ _ _ _ _ _ _ _ _ (F0 m 199 ls _)
                  refine lv_iload hx hb dX7_set_199 (lv_at hl 0 rfl) ?_
                  exact t_i X w hr hlk dX7_set_201 (by replace ezs198_8 := ezs198_8.symm; subst ezs198_8; replace ezs177_6 := ezs177_6.symm; subst ezs177_6; replace ezs156_6 := ezs156_6.symm; subst ezs156_6; replace ezs135_6 := ezs135_6.symm; subst ezs135_6; replace ezv114_6 := ezv114_6.symm; subst ezv114_6; simp only [f_X7_set, if_neg zc5, if_neg zc23, if_pos zc34, if_neg zc47, if_pos zc57, if_neg zc68, if_neg zc82, if_pos zc96]) (by replace ezs198_8 := ezs198_8.symm; subst ezs198_8; replace ezs177_6 := ezs177_6.symm; subst ezs177_6; replace ezs156_6 := ezs156_6.symm; subst ezs156_6; replace ezs135_6 := ezs135_6.symm; subst ezs135_6; replace ezv114_6 := ezv114_6.symm; subst ezv114_6; simp only [g_X7_set, if_neg zc5, if_neg zc23, if_pos zc34, if_neg zc47, if_pos zc57, if_neg zc68, if_neg zc82, if_pos zc96])
              · -- 85
                refine lv_aload_n hx hb dX7_set_85 rfl (lv_at hl 0 rfl) ?_
                refine gf7_19 X w dX7_set_86 ?_
                refine lv_iload_n hx hb dX7_set_89 rfl (lv_at hl 1 rfl) ?_
                refine ia (f := 4) (n := 8) X w m4_4 rfl (hm.cell zc5) dX7_set_90 ?_
                refine lv_goto (tgt := 114) hx hb dX7_set_91 (by decide) ?_
                refine lv_topi (fun zv114_7 ezv114_7 => ?_)
                refine lv_istore (lv' := [(4, .int zv114_7), (0, .ref (aa G 4 0)), (1, .int x1), (2, .int x2), (3, .int x3)]) hx hb dX7_set_114 hl (by decide) rfl (fun ls hl => ?_)
                refine lv_aload_n hx hb dX7_set_116 rfl (lv_at hl 1 rfl) ?_
                refine gf7_16 X w dX7_set_117 ?_
                refine lv_iload_n hx hb dX7_set_120 rfl (lv_at hl 2 rfl) ?_
                refine lv_iload_n hx hb dX7_set_121 rfl (lv_at hl 3 rfl) ?_
                refine lv_if_ne (tgt := 129) hx hb dX7_set_122 (by decide) (fun _ => ?_) (fun zc122 => absurd zc122 zc68)
                change W _ _ _ _ _ _ _ _ _ _ _ _ _ _ _ (F0 m 129 ls _)
                refine lv_aload_n hx hb dX7_set_129 rfl (lv_at hl 1 rfl) ?_
                refine gf7_16 X w dX7_set_130 ?_
                refine lv_iload_n hx hb dX7_set_133 rfl (lv_at hl 2 rfl) ?_
                refine ia (f := 3) (n := 8) X w m4_3 rfl (hm.cell zc5) dX7_set_134 ?_
                refine iS (f := 3) (n := 8) X w m4_3 rfl (hm.cell zc5) dX7_set_135 (fun zs135_7 H locs ezs135_7 w => ?_)
                refine lv_aload_n hx hb dX7_set_136 rfl (lv_at hl 1 rfl) ?_
                refine gf7_19 X w dX7_set_137 ?_
                refine lv_iload_n hx hb dX7_set_140 rfl (lv_at hl 2 rfl) ?_
                refine lv_iload_n hx hb dX7_set_141 rfl (lv_at hl 3 rfl) ?_
                refine lv_iconst (v := 1) hx hb dX7_set_142 (by decide) ?_
                refine lv_icmp_ne (tgt := 150) hx hb dX7_set_143 (by decide) (fun zc143 => absurd zc82 zc143) (fun _ => ?_)
                refine lv_iload_n hx hb dX7_set_146 rfl (lv_at hl 4 rfl) ?_
                change W _ _ _ _ _ _ _ _ _ _ _ _ _ _ _ (F0 m 147 ls _)
                refine lv_goto (tgt := 156) hx hb dX7_set_147 (by decide) ?_
                refine iS (f := 4) (n := 8) X w m4_4 rfl (hm.cell zc5) dX7_set_156 (fun zs156_7 H locs ezs156_7 w => ?_)
                refine lv_aload_n hx hb dX7_set_157 rfl (lv_at hl 1 rfl) ?_
                refine gf7_22 X w dX7_set_158 ?_
                refine lv_iload_n hx hb dX7_set_161 rfl (lv_at hl 2 rfl) ?_
                refine lv_iload_n hx hb dX7_set_162 rfl (lv_at hl 3 rfl) ?_
                refine lv_iconst (v := 2) hx hb dX7_set_163 (by decide) ?_
                refine lv_icmp_ne (tgt := 171) hx hb dX7_set_164 (by decide) (fun _ => ?_) (fun zc164 => absurd zc164 (by rw [zc82]; decide))
                refine lv_aload_n hx hb dX7_set_171 rfl (lv_at hl 1 rfl) ?_
                refine gf7_22 X w dX7_set_172 ?_
                refine lv_iload_n hx hb dX7_set_175 rfl (lv_at hl 2 rfl) ?_
                refine ia (f := 5) (n := 8) X w m4_5 rfl (hm.cell zc5) dX7_set_176 ?_
                change W _ _ _ _ _ _ _ _ _ _ _ _ _ _ _ (F0 m 177 ls _)
                refine iS (f := 5) (n := 8) X w m4_5 rfl (hm.cell zc5) dX7_set_177 (fun zs177_7 H locs ezs177_7 w => ?_)
                refine lv_aload_n hx hb dX7_set_178 rfl (lv_at hl 1 rfl) ?_
                refine gf7_13 X w dX7_set_179 ?_
                refine lv_iload_n hx hb dX7_set_182 rfl (lv_at hl 2 rfl) ?_
                refine lv_iload_n hx hb dX7_set_183 rfl (lv_at hl 3 rfl) ?_
                refine lv_iconst (v := 3) hx hb dX7_set_184 (by decide) ?_
                refine lv_icmp_ne (tgt := 192) hx hb dX7_set_185 (by decide) (fun _ => ?_) (fun zc185 => absurd zc185 (by rw [zc82]; decide))
                refine lv_aload_n hx hb dX7_set_192 rfl (lv_at hl 1 rfl) ?_
                refine gf7_13 X w dX7_set_193 ?_
                refine lv_iload_n hx hb dX7_set_196 rfl (lv_at hl 2 rfl) ?_
                refine ia (f := 2) (n := 8) X w m4_2 rfl (hm.cell zc5) dX7_set_197 ?_
                refine iS (f := 2) (n := 8) X w m4_2 rfl (hm.cell zc5) dX7_set_198 (fun zs198_9 H locs ezs198_9 w => ?_)
                change W _ _ _ _ _ _ _ _ _ _ _ _ _ _ _ (F0 m 199 ls _)
                refine lv_iload hx hb dX7_set_199 (lv_at hl 0 rfl) ?_
                exact t_i X w hr hlk dX7_set_201 (by replace ezs198_9 := ezs198_9.symm; subst ezs198_9; replace ezs177_7 := ezs177_7.symm; subst ezs177_7; replace ezs156_7 := ezs156_7.symm; subst ezs156_7; replace ezs135_7 := ezs135_7.symm; subst ezs135_7; replace ezv114_7 := ezv114_7.symm; subst ezv114_7; simp only [f_X7_set, if_neg zc5, if_neg zc23, if_pos zc34, if_neg zc47, if_pos zc57, if_neg zc68, if_pos zc82]) (by replace ezs198_9 := ezs198_9.symm; subst ezs198_9; replace ezs177_7 := ezs177_7.symm; subst ezs177_7; replace ezs156_7 := ezs156_7.symm; subst ezs156_7; replace ezs135_7 := ezs135_7.symm; subst ezs135_7; replace ezv114_7 := ezv114_7.symm; subst ezv114_7; simp only [g_X7_set, if_neg zc5, if_neg zc23, if_pos zc34, if_neg zc47, if_pos zc57, if_neg zc68, if_pos zc82])
            · -- 71
              refine lv_aload_n hx hb dX7_set_71 rfl (lv_at hl 0 rfl) ?_
              refine gf7_16 X w dX7_set_72 ?_
              refine lv_iload_n hx hb dX7_set_75 rfl (lv_at hl 1 rfl) ?_
              refine ia (f := 3) (n := 8) X w m4_3 rfl (hm.cell zc5) dX7_set_76 ?_
              refine lv_goto (tgt := 114) hx hb dX7_set_77 (by decide) ?_
              refine lv_topi (fun zv114_8 ezv114_8 => ?_)
              refine lv_istore (lv' := [(4, .int zv114_8), (0, .ref (aa G 4 0)), (1, .int x1), (2, .int x2), (3, .int x3)]) hx hb dX7_set_114 hl (by decide) rfl (fun ls hl => ?_)
              refine lv_aload_n hx hb dX7_set_116 rfl (lv_at hl 1 rfl) ?_
              refine gf7_16 X w dX7_set_117 ?_
              refine lv_iload_n hx hb dX7_set_120 rfl (lv_at hl 2 rfl) ?_
              refine lv_iload_n hx hb dX7_set_121 rfl (lv_at hl 3 rfl) ?_
              refine lv_if_ne (tgt := 129) hx hb dX7_set_122 (by decide) (fun zc122 => absurd zc68 zc122) (fun _ => ?_)
              change W _ _ _ _ _ _ _ _ _ _ _ _ _ _ _ (F0 m 125 ls _)
              refine lv_iload_n hx hb dX7_set_125 rfl (lv_at hl 4 rfl) ?_
              refine lv_goto (tgt := 135) hx hb dX7_set_126 (by decide) ?_
              refine iS (f := 3) (n := 8) X w m4_3 rfl (hm.cell zc5) dX7_set_135 (fun zs135_8 H locs ezs135_8 w => ?_)
              refine lv_aload_n hx hb dX7_set_136 rfl (lv_at hl 1 rfl) ?_
              refine gf7_19 X w dX7_set_137 ?_
              refine lv_iload_n hx hb dX7_set_140 rfl (lv_at hl 2 rfl) ?_
              refine lv_iload_n hx hb dX7_set_141 rfl (lv_at hl 3 rfl) ?_
              refine lv_iconst (v := 1) hx hb dX7_set_142 (by decide) ?_
              refine lv_icmp_ne (tgt := 150) hx hb dX7_set_143 (by decide) (fun _ => ?_) (fun zc143 => absurd zc143 (by rw [zc68]; decide))
              refine lv_aload_n hx hb dX7_set_150 rfl (lv_at hl 1 rfl) ?_
              refine gf7_19 X w dX7_set_151 ?_
              refine lv_iload_n hx hb dX7_set_154 rfl (lv_at hl 2 rfl) ?_
              change W _ _ _ _ _ _ _ _ _ _ _ _ _ _ _ (F0 m 155 ls _)
              refine ia (f := 4) (n := 8) X w m4_4 rfl (hm.cell zc5) dX7_set_155 ?_
              refine iS (f := 4) (n := 8) X w m4_4 rfl (hm.cell zc5) dX7_set_156 (fun zs156_8 H locs ezs156_8 w => ?_)
              refine lv_aload_n hx hb dX7_set_157 rfl (lv_at hl 1 rfl) ?_
              refine gf7_22 X w dX7_set_158 ?_
              refine lv_iload_n hx hb dX7_set_161 rfl (lv_at hl 2 rfl) ?_
              refine lv_iload_n hx hb dX7_set_162 rfl (lv_at hl 3 rfl) ?_
              refine lv_iconst (v := 2) hx hb dX7_set_163 (by decide) ?_
              refine lv_icmp_ne (tgt := 171) hx hb dX7_set_164 (by decide) (fun _ => ?_) (fun zc164 => absurd zc164 (by rw [zc68]; decide))
              refine lv_aload_n hx hb dX7_set_171 rfl (lv_at hl 1 rfl) ?_
              refine gf7_22 X w dX7_set_172 ?_
              refine lv_iload_n hx hb dX7_set_175 rfl (lv_at hl 2 rfl) ?_
              refine ia (f := 5) (n := 8) X w m4_5 rfl (hm.cell zc5) dX7_set_176 ?_
              change W _ _ _ _ _ _ _ _ _ _ _ _ _ _ _ (F0 m 177 ls _)
              refine iS (f := 5) (n := 8) X w m4_5 rfl (hm.cell zc5) dX7_set_177 (fun zs177_8 H locs ezs177_8 w => ?_)
              refine lv_aload_n hx hb dX7_set_178 rfl (lv_at hl 1 rfl) ?_
              refine gf7_13 X w dX7_set_179 ?_
              refine lv_iload_n hx hb dX7_set_182 rfl (lv_at hl 2 rfl) ?_
              refine lv_iload_n hx hb dX7_set_183 rfl (lv_at hl 3 rfl) ?_
              refine lv_iconst (v := 3) hx hb dX7_set_184 (by decide) ?_
              refine lv_icmp_ne (tgt := 192) hx hb dX7_set_185 (by decide) (fun _ => ?_) (fun zc185 => absurd zc185 (by rw [zc68]; decide))
              refine lv_aload_n hx hb dX7_set_192 rfl (lv_at hl 1 rfl) ?_
              refine gf7_13 X w dX7_set_193 ?_
              refine lv_iload_n hx hb dX7_set_196 rfl (lv_at hl 2 rfl) ?_
              refine ia (f := 2) (n := 8) X w m4_2 rfl (hm.cell zc5) dX7_set_197 ?_
              refine iS (f := 2) (n := 8) X w m4_2 rfl (hm.cell zc5) dX7_set_198 (fun zs198_10 H locs ezs198_10 w => ?_)
              change W _ _ _ _ _ _ _ _ _ _ _ _ _ _ _ (F0 m 199 ls _)
              refine lv_iload hx hb dX7_set_199 (lv_at hl 0 rfl) ?_
              exact t_i X w hr hlk dX7_set_201 (by replace ezs198_10 := ezs198_10.symm; subst ezs198_10; replace ezs177_8 := ezs177_8.symm; subst ezs177_8; replace ezs156_8 := ezs156_8.symm; subst ezs156_8; replace ezs135_8 := ezs135_8.symm; subst ezs135_8; replace ezv114_8 := ezv114_8.symm; subst ezv114_8; simp only [f_X7_set, if_neg zc5, if_neg zc23, if_pos zc34, if_neg zc47, if_pos zc57, if_pos zc68]) (by replace ezs198_10 := ezs198_10.symm; subst ezs198_10; replace ezs177_8 := ezs177_8.symm; subst ezs177_8; replace ezs156_8 := ezs156_8.symm; subst ezs156_8; replace ezs135_8 := ezs135_8.symm; subst ezs135_8; replace ezv114_8 := ezv114_8.symm; subst ezv114_8; simp only [g_X7_set, if_neg zc5, if_neg zc23, if_pos zc34, if_neg zc47, if_pos zc57, if_pos zc68])
          · -- 60
            refine lv_aload_n hx hb dX7_set_60 rfl (lv_at hl 0 rfl) ?_
            refine lv_bipush (v := (-6)) hx hb dX7_set_61 (by decide) ?_
            refine k_i (rr_v (rest := []) X w mX7_refuse kw872 (c_X7_refuse (-6) (vin_lit (by decide +kernel))) m4_0 rfl rfl ⟨Nat.le_of_ble_eq_true rfl, Nat.le_of_ble_eq_true rfl⟩ rfl hl.1 rfl (Nat.le_of_ble_eq_true rfl) dX7_set_63 ⟨Nat.zero_le _, Nat.zero_le _⟩) w (fun H locs w => ?_)
            obtain ⟨zs63_2, ezs63_2⟩ : ∃ y : Gr, y = g_X7_refuse ρ (-6) := ⟨_, rfl⟩; rw [← ezs63_2] at w
            exact t_i X w hr hlk dX7_set_66 (by replace ezs63_2 := ezs63_2.symm; subst ezs63_2; simp only [f_X7_set, if_neg zc5, if_neg zc23, if_pos zc34, if_neg zc47, if_neg zc57]) (by replace ezs63_2 := ezs63_2.symm; subst ezs63_2; simp only [g_X7_set, if_neg zc5, if_neg zc23, if_pos zc34, if_neg zc47, if_neg zc57])
      · -- 37
        refine lv_aload_n hx hb dX7_set_37 rfl (lv_at hl 0 rfl) ?_
        refine lv_bipush (v := (-4)) hx hb dX7_set_38 (by decide) ?_
        refine k_i (rr_v (rest := []) X w mX7_refuse kw872 (c_X7_refuse (-4) (vin_lit (by decide +kernel))) m4_0 rfl rfl ⟨Nat.le_of_ble_eq_true rfl, Nat.le_of_ble_eq_true rfl⟩ rfl hl.1 rfl (Nat.le_of_ble_eq_true rfl) dX7_set_40 ⟨Nat.zero_le _, Nat.zero_le _⟩) w (fun H locs w => ?_)
        obtain ⟨zs40, ezs40⟩ : ∃ y : Gr, y = g_X7_refuse ρ (-4) := ⟨_, rfl⟩; rw [← ezs40] at w
        exact t_i X w hr hlk dX7_set_43 (by replace ezs40 := ezs40.symm; subst ezs40; simp only [f_X7_set, if_neg zc5, if_neg zc23, if_neg zc34]) (by replace ezs40 := ezs40.symm; subst ezs40; simp only [g_X7_set, if_neg zc5, if_neg zc23, if_neg zc34])
    · -- 26
      refine lv_aload_n hx hb dX7_set_26 rfl (lv_at hl 0 rfl) ?_
      refine lv_bipush (v := (-2)) hx hb dX7_set_27 (by decide) ?_
      refine k_i (rr_v (rest := []) X w mX7_refuse kw872 (c_X7_refuse (-2) (vin_lit (by decide +kernel))) m4_0 rfl rfl ⟨Nat.le_of_ble_eq_true rfl, Nat.le_of_ble_eq_true rfl⟩ rfl hl.1 rfl (Nat.le_of_ble_eq_true rfl) dX7_set_29 ⟨Nat.zero_le _, Nat.zero_le _⟩) w (fun H locs w => ?_)
      obtain ⟨zs29, ezs29⟩ : ∃ y : Gr, y = g_X7_refuse ρ (-2) := ⟨_, rfl⟩; rw [← ezs29] at w
      exact t_i X w hr hlk dX7_set_32 (by replace ezs29 := ezs29.symm; subst ezs29; simp only [f_X7_set, if_neg zc5, if_pos zc23]) (by replace ezs29 := ezs29.symm; subst ezs29; simp only [g_X7_set, if_neg zc5, if_pos zc23])
  · -- 8
    refine lv_aload_n hx hb dX7_set_8 rfl (lv_at hl 0 rfl) ?_
    refine lv_iconst (v := (-1)) hx hb dX7_set_9 (by decide) ?_
    refine k_i (rr_v (rest := []) X w mX7_refuse kw872 (c_X7_refuse (-1) (vin_lit (by decide +kernel))) m4_0 rfl rfl ⟨Nat.le_of_ble_eq_true rfl, Nat.le_of_ble_eq_true rfl⟩ rfl hl.1 rfl (Nat.le_of_ble_eq_true rfl) dX7_set_10 ⟨Nat.zero_le _, Nat.zero_le _⟩) w (fun H locs w => ?_)
    obtain ⟨zs10, ezs10⟩ : ∃ y : Gr, y = g_X7_refuse ρ (-1) := ⟨_, rfl⟩; rw [← ezs10] at w
    exact t_i X w hr hlk dX7_set_13 (by replace ezs10 := ezs10.symm; subst ezs10; simp only [f_X7_set, if_pos zc5]) (by replace ezs10 := ezs10.symm; subst ezs10; simp only [g_X7_set, if_pos zc5])

noncomputable def f_X7_way (ρ : Gr) (x1 : Int32) (x2 : Int32) (x3 : Int32) (x4 : Int32) : Int32 :=
  if (f_X7_areEnds ρ x1 x2) = 0 then
    let zs33 : Gr := g_X7_refuse ρ (-1)
    f_X7_refuse ρ (-1)
  else
    if x3 = 0 then
      if 1 ≤ x4 then
        if 100 < x4 then
          let zs69 : Gr := g_X7_refuse ρ (-6)
          f_X7_refuse ρ (-6)
        else
          if (ρ 0 8) = 24 then
            let zs69_2 : Gr := g_X7_refuse ρ (-6)
            f_X7_refuse ρ (-6)
          else
            if ((f_X7_partsFrom ρ x1 (x3 / 100) ((x3 / 10) - (x3 / 10) / 10 * 10)) + x4) ≤ 100 then
              let zs120 : Gr := g_X7_addWay ρ x1 x2 (x3 / 100) ((x3 / 10) - (x3 / 10) / 10 * 10) x4
              (zs120 0 8) - 1
            else
              let zs100 : Gr := g_X7_refuse ρ (-3)
              f_X7_refuse ρ (-3)
      else
        let zs46 : Gr := g_X7_refuse ρ (-4)
        f_X7_refuse ρ (-4)
    else
      if x3 = 10 then
        if 1 ≤ x4 then
          if 100 < x4 then
            let zs69_3 : Gr := g_X7_refuse ρ (-6)
            f_X7_refuse ρ (-6)
          else
            if (ρ 0 8) = 24 then
              let zs69_4 : Gr := g_X7_refuse ρ (-6)
              f_X7_refuse ρ (-6)
            else
              if ((f_X7_partsFrom ρ x1 (x3 / 100) ((x3 / 10) - (x3 / 10) / 10 * 10)) + x4) ≤ 100 then
                let zs120_2 : Gr := g_X7_addWay ρ x1 x2 (x3 / 100) ((x3 / 10) - (x3 / 10) / 10 * 10) x4
                (zs120_2 0 8) - 1
              else
                let zs100_2 : Gr := g_X7_refuse ρ (-3)
                f_X7_refuse ρ (-3)
        else
          let zs46_2 : Gr := g_X7_refuse ρ (-4)
          f_X7_refuse ρ (-4)
      else
        if x3 = 100 then
          if 1 ≤ x4 then
            if 100 < x4 then
              let zs69_5 : Gr := g_X7_refuse ρ (-6)
              f_X7_refuse ρ (-6)
            else
              if (ρ 0 8) = 24 then
                let zs69_6 : Gr := g_X7_refuse ρ (-6)
                f_X7_refuse ρ (-6)
              else
                if ((f_X7_partsFrom ρ x1 (x3 / 100) ((x3 / 10) - (x3 / 10) / 10 * 10)) + x4) ≤ 100 then
                  let zs120_3 : Gr := g_X7_addWay ρ x1 x2 (x3 / 100) ((x3 / 10) - (x3 / 10) / 10 * 10) x4
                  (zs120_3 0 8) - 1
                else
                  let zs100_3 : Gr := g_X7_refuse ρ (-3)
                  f_X7_refuse ρ (-3)
          else
            let zs46_3 : Gr := g_X7_refuse ρ (-4)
            f_X7_refuse ρ (-4)
        else
          if x3 = 110 then
            if 1 ≤ x4 then
              if 100 < x4 then
                let zs69_7 : Gr := g_X7_refuse ρ (-6)
                f_X7_refuse ρ (-6)
              else
                if (ρ 0 8) = 24 then
                  let zs69_8 : Gr := g_X7_refuse ρ (-6)
                  f_X7_refuse ρ (-6)
                else
                  if ((f_X7_partsFrom ρ x1 (x3 / 100) ((x3 / 10) - (x3 / 10) / 10 * 10)) + x4) ≤ 100 then
                    let zs120_4 : Gr := g_X7_addWay ρ x1 x2 (x3 / 100) ((x3 / 10) - (x3 / 10) / 10 * 10) x4
                    (zs120_4 0 8) - 1
                  else
                    let zs100_4 : Gr := g_X7_refuse ρ (-3)
                    f_X7_refuse ρ (-3)
            else
              let zs46_4 : Gr := g_X7_refuse ρ (-4)
              f_X7_refuse ρ (-4)
          else
            let zs33_2 : Gr := g_X7_refuse ρ (-1)
            f_X7_refuse ρ (-1)
noncomputable def g_X7_way (ρ : Gr) (x1 : Int32) (x2 : Int32) (x3 : Int32) (x4 : Int32) : Gr :=
  if (f_X7_areEnds ρ x1 x2) = 0 then
    let zs33 : Gr := g_X7_refuse ρ (-1)
    zs33
  else
    if x3 = 0 then
      if 1 ≤ x4 then
        if 100 < x4 then
          let zs69 : Gr := g_X7_refuse ρ (-6)
          zs69
        else
          if (ρ 0 8) = 24 then
            let zs69_2 : Gr := g_X7_refuse ρ (-6)
            zs69_2
          else
            if ((f_X7_partsFrom ρ x1 (x3 / 100) ((x3 / 10) - (x3 / 10) / 10 * 10)) + x4) ≤ 100 then
              let zs120 : Gr := g_X7_addWay ρ x1 x2 (x3 / 100) ((x3 / 10) - (x3 / 10) / 10 * 10) x4
              zs120
            else
              let zs100 : Gr := g_X7_refuse ρ (-3)
              zs100
      else
        let zs46 : Gr := g_X7_refuse ρ (-4)
        zs46
    else
      if x3 = 10 then
        if 1 ≤ x4 then
          if 100 < x4 then
            let zs69_3 : Gr := g_X7_refuse ρ (-6)
            zs69_3
          else
            if (ρ 0 8) = 24 then
              let zs69_4 : Gr := g_X7_refuse ρ (-6)
              zs69_4
            else
              if ((f_X7_partsFrom ρ x1 (x3 / 100) ((x3 / 10) - (x3 / 10) / 10 * 10)) + x4) ≤ 100 then
                let zs120_2 : Gr := g_X7_addWay ρ x1 x2 (x3 / 100) ((x3 / 10) - (x3 / 10) / 10 * 10) x4
                zs120_2
              else
                let zs100_2 : Gr := g_X7_refuse ρ (-3)
                zs100_2
        else
          let zs46_2 : Gr := g_X7_refuse ρ (-4)
          zs46_2
      else
        if x3 = 100 then
          if 1 ≤ x4 then
            if 100 < x4 then
              let zs69_5 : Gr := g_X7_refuse ρ (-6)
              zs69_5
            else
              if (ρ 0 8) = 24 then
                let zs69_6 : Gr := g_X7_refuse ρ (-6)
                zs69_6
              else
                if ((f_X7_partsFrom ρ x1 (x3 / 100) ((x3 / 10) - (x3 / 10) / 10 * 10)) + x4) ≤ 100 then
                  let zs120_3 : Gr := g_X7_addWay ρ x1 x2 (x3 / 100) ((x3 / 10) - (x3 / 10) / 10 * 10) x4
                  zs120_3
                else
                  let zs100_3 : Gr := g_X7_refuse ρ (-3)
                  zs100_3
          else
            let zs46_3 : Gr := g_X7_refuse ρ (-4)
            zs46_3
        else
          if x3 = 110 then
            if 1 ≤ x4 then
              if 100 < x4 then
                let zs69_7 : Gr := g_X7_refuse ρ (-6)
                zs69_7
              else
                if (ρ 0 8) = 24 then
                  let zs69_8 : Gr := g_X7_refuse ρ (-6)
                  zs69_8
                else
                  if ((f_X7_partsFrom ρ x1 (x3 / 100) ((x3 / 10) - (x3 / 10) / 10 * 10)) + x4) ≤ 100 then
                    let zs120_4 : Gr := g_X7_addWay ρ x1 x2 (x3 / 100) ((x3 / 10) - (x3 / 10) / 10 * 10) x4
                    zs120_4
                  else
                    let zs100_4 : Gr := g_X7_refuse ρ (-3)
                    zs100_4
            else
              let zs46_4 : Gr := g_X7_refuse ρ (-4)
              zs46_4
          else
            let zs33_2 : Gr := g_X7_refuse ρ (-1)
            zs33_2
set_option maxRecDepth 100000 in
set_option maxHeartbeats 4000000 in
theorem c_X7_way {l : Launch} {G : GG} {σ : St} {ρ : Gr}  (x1 : Int32) (x2 : Int32) (x3 : Int32) (x4 : Int32) (B : Nat) (hB : B < 2 ^ 30) (hm : WFm B ρ) : MM l G yX7_way cX7_way 5 3 68 (some .int) [.ref (aa G 4 0), .int x1, .int x2, .int x3, .int x4] (setG σ 4 ρ) (Qi G (f_X7_way ρ x1 x2 x3 x4) (setG σ 4 (g_X7_way ρ x1 x2 x3 x4))) := by
  refine MM.of (by decide) (Nat.le_of_ble_eq_true rfl) ?_
  intro p e s m below meth c ls X hr hlk w hl
  have hx := X.1.1
  have hb := X.1.2.1
  have hl : lv_has ls 5 [(0, .ref (aa G 4 0)), (1, .int x1), (2, .int x2), (3, .int x3), (4, .int x4)] := hl
  refine lv_aload_n hx hb dX7_way_0 rfl (lv_at hl 0 rfl) ?_
  refine lv_iload_n hx hb dX7_way_1 rfl (lv_at hl 1 rfl) ?_
  refine lv_iload_n hx hb dX7_way_2 rfl (lv_at hl 2 rfl) ?_
  refine k_i (rr_v (rest := []) X w mX7_areEnds kw896 (c_X7_areEnds x1 x2) m4_0 rfl rfl ⟨Nat.le_of_ble_eq_true rfl, Nat.le_of_ble_eq_true rfl⟩ rfl hl.1 rfl (Nat.le_of_ble_eq_true rfl) dX7_way_3 ⟨Nat.zero_le _, Nat.zero_le _⟩) w (fun H locs w => ?_)
  refine lv_if_eq (tgt := 31) hx hb dX7_way_6 (by decide) (fun zc6 => ?_) (fun zc6 => ?_)
  · -- 31
    refine lv_aload_n hx hb dX7_way_31 rfl (lv_at hl 0 rfl) ?_
    refine lv_iconst (v := (-1)) hx hb dX7_way_32 (by decide) ?_
    refine k_i (rr_v (rest := []) X w mX7_refuse kw872 (c_X7_refuse (-1) (vin_lit (by decide +kernel))) m4_0 rfl rfl ⟨Nat.le_of_ble_eq_true rfl, Nat.le_of_ble_eq_true rfl⟩ rfl hl.1 rfl (Nat.le_of_ble_eq_true rfl) dX7_way_33 ⟨Nat.zero_le _, Nat.zero_le _⟩) w (fun H locs w => ?_)
    obtain ⟨zs33, ezs33⟩ : ∃ y : Gr, y = g_X7_refuse ρ (-1) := ⟨_, rfl⟩; rw [← ezs33] at w
    exact t_i X w hr hlk dX7_way_36 (by replace ezs33 := ezs33.symm; subst ezs33; simp only [f_X7_way, if_pos zc6]) (by replace ezs33 := ezs33.symm; subst ezs33; simp only [g_X7_way, if_pos zc6])
  · -- 9
    refine lv_iload_n hx hb dX7_way_9 rfl (lv_at hl 3 rfl) ?_
    refine lv_if_eq (tgt := 37) hx hb dX7_way_10 (by decide) (fun zc10 => ?_) (fun zc10 => ?_)
    · -- 37
      refine lv_iload hx hb dX7_way_37 (lv_at hl 4 rfl) ?_
      refine lv_iconst (v := 1) hx hb dX7_way_39 (by decide) ?_
      refine lv_icmp_ge (tgt := 50) hx hb dX7_way_40 (by decide) (fun zc40 => ?_) (fun zc40 => ?_)
      · -- 50
        refine lv_iload hx hb dX7_way_50 (lv_at hl 4 rfl) ?_
        refine lv_bipush (v := 100) hx hb dX7_way_52 (by decide) ?_
        refine lv_icmp_gt (tgt := 66) hx hb dX7_way_54 (by decide) (fun zc54 => ?_) (fun zc54 => ?_)
        · -- 66
          refine lv_aload_n hx hb dX7_way_66 rfl (lv_at hl 0 rfl) ?_
          refine lv_bipush (v := (-6)) hx hb dX7_way_67 (by decide) ?_
          refine k_i (rr_v (rest := []) X w mX7_refuse kw872 (c_X7_refuse (-6) (vin_lit (by decide +kernel))) m4_0 rfl rfl ⟨Nat.le_of_ble_eq_true rfl, Nat.le_of_ble_eq_true rfl⟩ rfl hl.1 rfl (Nat.le_of_ble_eq_true rfl) dX7_way_69 ⟨Nat.zero_le _, Nat.zero_le _⟩) w (fun H locs w => ?_)
          obtain ⟨zs69, ezs69⟩ : ∃ y : Gr, y = g_X7_refuse ρ (-6) := ⟨_, rfl⟩; rw [← ezs69] at w
          exact t_i X w hr hlk dX7_way_72 (by replace ezs69 := ezs69.symm; subst ezs69; simp only [f_X7_way, if_neg zc6, if_pos zc10, if_pos zc40, if_pos zc54]) (by replace ezs69 := ezs69.symm; subst ezs69; simp only [g_X7_way, if_neg zc6, if_pos zc10, if_pos zc40, if_pos zc54])
        · -- 57
          refine lv_aload_n hx hb dX7_way_57 rfl (lv_at hl 0 rfl) ?_
          refine gf7_132 X w dX7_way_58 ?_
          refine lv_bipush (v := 24) hx hb dX7_way_61 (by decide) ?_
          refine lv_icmp_ne (tgt := 73) hx hb dX7_way_63 (by decide) (fun zc63 => ?_) (fun zc63 => ?_)
          · -- 73
            refine lv_aload_n hx hb dX7_way_73 rfl (lv_at hl 0 rfl) ?_
            refine lv_iload_n hx hb dX7_way_74 rfl (lv_at hl 1 rfl) ?_
            refine lv_iload_n hx hb dX7_way_75 rfl (lv_at hl 3 rfl) ?_
            refine lv_bipush (v := 100) hx hb dX7_way_76 (by decide) ?_
            refine lv_idiv hx hb dX7_way_78 (by decide) ?_
            refine lv_iload_n hx hb dX7_way_79 rfl (lv_at hl 3 rfl) ?_
            refine lv_bipush (v := 10) hx hb dX7_way_80 (by decide) ?_
            refine lv_idiv hx hb dX7_way_82 (by decide) ?_
            refine lv_bipush (v := 10) hx hb dX7_way_83 (by decide) ?_
            refine lv_irem hx hb dX7_way_85 (by decide) ?_
            refine k_i (rr_v (rest := []) X w mX7_partsFrom kw900 (c_X7_partsFrom x1 (x3 / 100) ((x3 / 10) - (x3 / 10) / 10 * 10) hm.w) m4_0 rfl rfl ⟨Nat.le_of_ble_eq_true rfl, Nat.le_of_ble_eq_true rfl⟩ rfl hl.1 rfl (Nat.le_of_ble_eq_true rfl) dX7_way_86 ⟨Nat.zero_le _, Nat.zero_le _⟩) w (fun H locs w => ?_)
            change W _ _ _ _ _ _ _ _ _ _ _ _ _ _ _ (F0 m 89 ls _)
            refine lv_iload hx hb dX7_way_89 (lv_at hl 4 rfl) ?_
            refine lv_iadd hx hb dX7_way_91 ?_
            refine lv_bipush (v := 100) hx hb dX7_way_92 (by decide) ?_
            refine lv_icmp_le (tgt := 104) hx hb dX7_way_94 (by decide) (fun zc94 => ?_) (fun zc94 => ?_)
            · -- 104
              refine lv_aload_n hx hb dX7_way_104 rfl (lv_at hl 0 rfl) ?_
              refine lv_iload_n hx hb dX7_way_105 rfl (lv_at hl 1 rfl) ?_
              refine lv_iload_n hx hb dX7_way_106 rfl (lv_at hl 2 rfl) ?_
              refine lv_iload_n hx hb dX7_way_107 rfl (lv_at hl 3 rfl) ?_
              refine lv_bipush (v := 100) hx hb dX7_way_108 (by decide) ?_
              refine lv_idiv hx hb dX7_way_110 (by decide) ?_
              refine lv_iload_n hx hb dX7_way_111 rfl (lv_at hl 3 rfl) ?_
              refine lv_bipush (v := 10) hx hb dX7_way_112 (by decide) ?_
              refine lv_idiv hx hb dX7_way_114 (by decide) ?_
              refine lv_bipush (v := 10) hx hb dX7_way_115 (by decide) ?_
              refine lv_irem hx hb dX7_way_117 (by decide) ?_
              change W _ _ _ _ _ _ _ _ _ _ _ _ _ _ _ (F0 m 118 ls _)
              refine lv_iload hx hb dX7_way_118 (lv_at hl 4 rfl) ?_
              refine k_v (rr_v (rest := []) X w mX7_addWay kw904 (c_X7_addWay x1 x2 (x3 / 100) ((x3 / 10) - (x3 / 10) / 10 * 10) x4 (hm.wv zc63)) m4_0 rfl rfl ⟨Nat.le_of_ble_eq_true rfl, Nat.le_of_ble_eq_true rfl⟩ rfl hl.1 rfl (Nat.le_of_ble_eq_true rfl) dX7_way_120 ⟨Nat.zero_le _, Nat.zero_le _⟩) w (fun H locs w => ?_)
              obtain ⟨zs120, ezs120⟩ : ∃ y : Gr, y = g_X7_addWay ρ x1 x2 (x3 / 100) ((x3 / 10) - (x3 / 10) / 10 * 10) x4 := ⟨_, rfl⟩; rw [← ezs120] at w
              refine lv_aload_n hx hb dX7_way_123 rfl (lv_at hl 0 rfl) ?_
              refine gf7_132 X w dX7_way_124 ?_
              refine lv_iconst (v := 1) hx hb dX7_way_127 (by decide) ?_
              refine lv_isub hx hb dX7_way_128 ?_
              exact t_i X w hr hlk dX7_way_129 (by replace ezs120 := ezs120.symm; subst ezs120; simp only [f_X7_way, if_neg zc6, if_pos zc10, if_pos zc40, if_neg zc54, if_neg zc63, if_pos zc94]) (by replace ezs120 := ezs120.symm; subst ezs120; simp only [g_X7_way, if_neg zc6, if_pos zc10, if_pos zc40, if_neg zc54, if_neg zc63, if_pos zc94])
            · -- 97
              refine lv_aload_n hx hb dX7_way_97 rfl (lv_at hl 0 rfl) ?_
              refine lv_bipush (v := (-3)) hx hb dX7_way_98 (by decide) ?_
              refine k_i (rr_v (rest := []) X w mX7_refuse kw872 (c_X7_refuse (-3) (vin_lit (by decide +kernel))) m4_0 rfl rfl ⟨Nat.le_of_ble_eq_true rfl, Nat.le_of_ble_eq_true rfl⟩ rfl hl.1 rfl (Nat.le_of_ble_eq_true rfl) dX7_way_100 ⟨Nat.zero_le _, Nat.zero_le _⟩) w (fun H locs w => ?_)
              obtain ⟨zs100, ezs100⟩ : ∃ y : Gr, y = g_X7_refuse ρ (-3) := ⟨_, rfl⟩; rw [← ezs100] at w
              exact t_i X w hr hlk dX7_way_103 (by replace ezs100 := ezs100.symm; subst ezs100; simp only [f_X7_way, if_neg zc6, if_pos zc10, if_pos zc40, if_neg zc54, if_neg zc63, if_neg zc94]) (by replace ezs100 := ezs100.symm; subst ezs100; simp only [g_X7_way, if_neg zc6, if_pos zc10, if_pos zc40, if_neg zc54, if_neg zc63, if_neg zc94])
          · -- 66
            refine lv_aload_n hx hb dX7_way_66 rfl (lv_at hl 0 rfl) ?_
            refine lv_bipush (v := (-6)) hx hb dX7_way_67 (by decide) ?_
            refine k_i (rr_v (rest := []) X w mX7_refuse kw872 (c_X7_refuse (-6) (vin_lit (by decide +kernel))) m4_0 rfl rfl ⟨Nat.le_of_ble_eq_true rfl, Nat.le_of_ble_eq_true rfl⟩ rfl hl.1 rfl (Nat.le_of_ble_eq_true rfl) dX7_way_69 ⟨Nat.zero_le _, Nat.zero_le _⟩) w (fun H locs w => ?_)
            obtain ⟨zs69_2, ezs69_2⟩ : ∃ y : Gr, y = g_X7_refuse ρ (-6) := ⟨_, rfl⟩; rw [← ezs69_2] at w
            exact t_i X w hr hlk dX7_way_72 (by replace ezs69_2 := ezs69_2.symm; subst ezs69_2; simp only [f_X7_way, if_neg zc6, if_pos zc10, if_pos zc40, if_neg zc54, if_pos zc63]) (by replace ezs69_2 := ezs69_2.symm; subst ezs69_2; simp only [g_X7_way, if_neg zc6, if_pos zc10, if_pos zc40, if_neg zc54, if_pos zc63])
      · -- 43
        refine lv_aload_n hx hb dX7_way_43 rfl (lv_at hl 0 rfl) ?_
        refine lv_bipush (v := (-4)) hx hb dX7_way_44 (by decide) ?_
        refine k_i (rr_v (rest := []) X w mX7_refuse kw872 (c_X7_refuse (-4) (vin_lit (by decide +kernel))) m4_0 rfl rfl ⟨Nat.le_of_ble_eq_true rfl, Nat.le_of_ble_eq_true rfl⟩ rfl hl.1 rfl (Nat.le_of_ble_eq_true rfl) dX7_way_46 ⟨Nat.zero_le _, Nat.zero_le _⟩) w (fun H locs w => ?_)
        obtain ⟨zs46, ezs46⟩ : ∃ y : Gr, y = g_X7_refuse ρ (-4) := ⟨_, rfl⟩; rw [← ezs46] at w
        exact t_i X w hr hlk dX7_way_49 (by replace ezs46 := ezs46.symm; subst ezs46; simp only [f_X7_way, if_neg zc6, if_pos zc10, if_neg zc40]) (by replace ezs46 := ezs46.symm; subst ezs46; simp only [g_X7_way, if_neg zc6, if_pos zc10, if_neg zc40])
    · -- 13
      refine lv_iload_n hx hb dX7_way_13 rfl (lv_at hl 3 rfl) ?_
      refine lv_bipush (v := 10) hx hb dX7_way_14 (by decide) ?_
      refine lv_icmp_eq (tgt := 37) hx hb dX7_way_16 (by decide) (fun zc16 => ?_) (fun zc16 => ?_)
      · -- 37
        refine lv_iload hx hb dX7_way_37 (lv_at hl 4 rfl) ?_
        refine lv_iconst (v := 1) hx hb dX7_way_39 (by decide) ?_
        refine lv_icmp_ge (tgt := 50) hx hb dX7_way_40 (by decide) (fun zc40 => ?_) (fun zc40 => ?_)
        · -- 50
          refine lv_iload hx hb dX7_way_50 (lv_at hl 4 rfl) ?_
          refine lv_bipush (v := 100) hx hb dX7_way_52 (by decide) ?_
          refine lv_icmp_gt (tgt := 66) hx hb dX7_way_54 (by decide) (fun zc54 => ?_) (fun zc54 => ?_)
          · -- 66
            refine lv_aload_n hx hb dX7_way_66 rfl (lv_at hl 0 rfl) ?_
            refine lv_bipush (v := (-6)) hx hb dX7_way_67 (by decide) ?_
            refine k_i (rr_v (rest := []) X w mX7_refuse kw872 (c_X7_refuse (-6) (vin_lit (by decide +kernel))) m4_0 rfl rfl ⟨Nat.le_of_ble_eq_true rfl, Nat.le_of_ble_eq_true rfl⟩ rfl hl.1 rfl (Nat.le_of_ble_eq_true rfl) dX7_way_69 ⟨Nat.zero_le _, Nat.zero_le _⟩) w (fun H locs w => ?_)
            obtain ⟨zs69_3, ezs69_3⟩ : ∃ y : Gr, y = g_X7_refuse ρ (-6) := ⟨_, rfl⟩; rw [← ezs69_3] at w
            exact t_i X w hr hlk dX7_way_72 (by replace ezs69_3 := ezs69_3.symm; subst ezs69_3; simp only [f_X7_way, if_neg zc6, if_neg zc10, if_pos zc16, if_pos zc40, if_pos zc54]) (by replace ezs69_3 := ezs69_3.symm; subst ezs69_3; simp only [g_X7_way, if_neg zc6, if_neg zc10, if_pos zc16, if_pos zc40, if_pos zc54])
          · -- 57
            refine lv_aload_n hx hb dX7_way_57 rfl (lv_at hl 0 rfl) ?_
            refine gf7_132 X w dX7_way_58 ?_
            refine lv_bipush (v := 24) hx hb dX7_way_61 (by decide) ?_
            refine lv_icmp_ne (tgt := 73) hx hb dX7_way_63 (by decide) (fun zc63 => ?_) (fun zc63 => ?_)
            · -- 73
              refine lv_aload_n hx hb dX7_way_73 rfl (lv_at hl 0 rfl) ?_
              refine lv_iload_n hx hb dX7_way_74 rfl (lv_at hl 1 rfl) ?_
              refine lv_iload_n hx hb dX7_way_75 rfl (lv_at hl 3 rfl) ?_
              refine lv_bipush (v := 100) hx hb dX7_way_76 (by decide) ?_
              refine lv_idiv hx hb dX7_way_78 (by decide) ?_
              refine lv_iload_n hx hb dX7_way_79 rfl (lv_at hl 3 rfl) ?_
              refine lv_bipush (v := 10) hx hb dX7_way_80 (by decide) ?_
              refine lv_idiv hx hb dX7_way_82 (by decide) ?_
              refine lv_bipush (v := 10) hx hb dX7_way_83 (by decide) ?_
              refine lv_irem hx hb dX7_way_85 (by decide) ?_
              refine k_i (rr_v (rest := []) X w mX7_partsFrom kw900 (c_X7_partsFrom x1 (x3 / 100) ((x3 / 10) - (x3 / 10) / 10 * 10) hm.w) m4_0 rfl rfl ⟨Nat.le_of_ble_eq_true rfl, Nat.le_of_ble_eq_true rfl⟩ rfl hl.1 rfl (Nat.le_of_ble_eq_true rfl) dX7_way_86 ⟨Nat.zero_le _, Nat.zero_le _⟩) w (fun H locs w => ?_)
              change W _ _ _ _ _ _ _ _ _ _ _ _ _ _ _ (F0 m 89 ls _)
              refine lv_iload hx hb dX7_way_89 (lv_at hl 4 rfl) ?_
              refine lv_iadd hx hb dX7_way_91 ?_
              refine lv_bipush (v := 100) hx hb dX7_way_92 (by decide) ?_
              refine lv_icmp_le (tgt := 104) hx hb dX7_way_94 (by decide) (fun zc94 => ?_) (fun zc94 => ?_)
              · -- 104
                refine lv_aload_n hx hb dX7_way_104 rfl (lv_at hl 0 rfl) ?_
                refine lv_iload_n hx hb dX7_way_105 rfl (lv_at hl 1 rfl) ?_
                refine lv_iload_n hx hb dX7_way_106 rfl (lv_at hl 2 rfl) ?_
                refine lv_iload_n hx hb dX7_way_107 rfl (lv_at hl 3 rfl) ?_
                refine lv_bipush (v := 100) hx hb dX7_way_108 (by decide) ?_
                refine lv_idiv hx hb dX7_way_110 (by decide) ?_
                refine lv_iload_n hx hb dX7_way_111 rfl (lv_at hl 3 rfl) ?_
                refine lv_bipush (v := 10) hx hb dX7_way_112 (by decide) ?_
                refine lv_idiv hx hb dX7_way_114 (by decide) ?_
                refine lv_bipush (v := 10) hx hb dX7_way_115 (by decide) ?_
                refine lv_irem hx hb dX7_way_117 (by decide) ?_
                change W _ _ _ _ _ _ _ _ _ _ _ _ _ _ _ (F0 m 118 ls _)
                refine lv_iload hx hb dX7_way_118 (lv_at hl 4 rfl) ?_
                refine k_v (rr_v (rest := []) X w mX7_addWay kw904 (c_X7_addWay x1 x2 (x3 / 100) ((x3 / 10) - (x3 / 10) / 10 * 10) x4 (hm.wv zc63)) m4_0 rfl rfl ⟨Nat.le_of_ble_eq_true rfl, Nat.le_of_ble_eq_true rfl⟩ rfl hl.1 rfl (Nat.le_of_ble_eq_true rfl) dX7_way_120 ⟨Nat.zero_le _, Nat.zero_le _⟩) w (fun H locs w => ?_)
                obtain ⟨zs120_2, ezs120_2⟩ : ∃ y : Gr, y = g_X7_addWay ρ x1 x2 (x3 / 100) ((x3 / 10) - (x3 / 10) / 10 * 10) x4 := ⟨_, rfl⟩; rw [← ezs120_2] at w
                refine lv_aload_n hx hb dX7_way_123 rfl (lv_at hl 0 rfl) ?_
                refine gf7_132 X w dX7_way_124 ?_
                refine lv_iconst (v := 1) hx hb dX7_way_127 (by decide) ?_
                refine lv_isub hx hb dX7_way_128 ?_
                exact t_i X w hr hlk dX7_way_129 (by replace ezs120_2 := ezs120_2.symm; subst ezs120_2; simp only [f_X7_way, if_neg zc6, if_neg zc10, if_pos zc16, if_pos zc40, if_neg zc54, if_neg zc63, if_pos zc94]) (by replace ezs120_2 := ezs120_2.symm; subst ezs120_2; simp only [g_X7_way, if_neg zc6, if_neg zc10, if_pos zc16, if_pos zc40, if_neg zc54, if_neg zc63, if_pos zc94])
              · -- 97
                refine lv_aload_n hx hb dX7_way_97 rfl (lv_at hl 0 rfl) ?_
                refine lv_bipush (v := (-3)) hx hb dX7_way_98 (by decide) ?_
                refine k_i (rr_v (rest := []) X w mX7_refuse kw872 (c_X7_refuse (-3) (vin_lit (by decide +kernel))) m4_0 rfl rfl ⟨Nat.le_of_ble_eq_true rfl, Nat.le_of_ble_eq_true rfl⟩ rfl hl.1 rfl (Nat.le_of_ble_eq_true rfl) dX7_way_100 ⟨Nat.zero_le _, Nat.zero_le _⟩) w (fun H locs w => ?_)
                obtain ⟨zs100_2, ezs100_2⟩ : ∃ y : Gr, y = g_X7_refuse ρ (-3) := ⟨_, rfl⟩; rw [← ezs100_2] at w
                exact t_i X w hr hlk dX7_way_103 (by replace ezs100_2 := ezs100_2.symm; subst ezs100_2; simp only [f_X7_way, if_neg zc6, if_neg zc10, if_pos zc16, if_pos zc40, if_neg zc54, if_neg zc63, if_neg zc94]) (by replace ezs100_2 := ezs100_2.symm; subst ezs100_2; simp only [g_X7_way, if_neg zc6, if_neg zc10, if_pos zc16, if_pos zc40, if_neg zc54, if_neg zc63, if_neg zc94])
            · -- 66
              refine lv_aload_n hx hb dX7_way_66 rfl (lv_at hl 0 rfl) ?_
              refine lv_bipush (v := (-6)) hx hb dX7_way_67 (by decide) ?_
              refine k_i (rr_v (rest := []) X w mX7_refuse kw872 (c_X7_refuse (-6) (vin_lit (by decide +kernel))) m4_0 rfl rfl ⟨Nat.le_of_ble_eq_true rfl, Nat.le_of_ble_eq_true rfl⟩ rfl hl.1 rfl (Nat.le_of_ble_eq_true rfl) dX7_way_69 ⟨Nat.zero_le _, Nat.zero_le _⟩) w (fun H locs w => ?_)
              obtain ⟨zs69_4, ezs69_4⟩ : ∃ y : Gr, y = g_X7_refuse ρ (-6) := ⟨_, rfl⟩; rw [← ezs69_4] at w
              exact t_i X w hr hlk dX7_way_72 (by replace ezs69_4 := ezs69_4.symm; subst ezs69_4; simp only [f_X7_way, if_neg zc6, if_neg zc10, if_pos zc16, if_pos zc40, if_neg zc54, if_pos zc63]) (by replace ezs69_4 := ezs69_4.symm; subst ezs69_4; simp only [g_X7_way, if_neg zc6, if_neg zc10, if_pos zc16, if_pos zc40, if_neg zc54, if_pos zc63])
        · -- 43
          refine lv_aload_n hx hb dX7_way_43 rfl (lv_at hl 0 rfl) ?_
          refine lv_bipush (v := (-4)) hx hb dX7_way_44 (by decide) ?_
          refine k_i (rr_v (rest := []) X w mX7_refuse kw872 (c_X7_refuse (-4) (vin_lit (by decide +kernel))) m4_0 rfl rfl ⟨Nat.le_of_ble_eq_true rfl, Nat.le_of_ble_eq_true rfl⟩ rfl hl.1 rfl (Nat.le_of_ble_eq_true rfl) dX7_way_46 ⟨Nat.zero_le _, Nat.zero_le _⟩) w (fun H locs w => ?_)
          obtain ⟨zs46_2, ezs46_2⟩ : ∃ y : Gr, y = g_X7_refuse ρ (-4) := ⟨_, rfl⟩; rw [← ezs46_2] at w
          exact t_i X w hr hlk dX7_way_49 (by replace ezs46_2 := ezs46_2.symm; subst ezs46_2; simp only [f_X7_way, if_neg zc6, if_neg zc10, if_pos zc16, if_neg zc40]) (by replace ezs46_2 := ezs46_2.symm; subst ezs46_2; simp only [g_X7_way, if_neg zc6, if_neg zc10, if_pos zc16, if_neg zc40])
      · -- 19
        refine lv_iload_n hx hb dX7_way_19 rfl (lv_at hl 3 rfl) ?_
        refine lv_bipush (v := 100) hx hb dX7_way_20 (by decide) ?_
        refine lv_icmp_eq (tgt := 37) hx hb dX7_way_22 (by decide) (fun zc22 => ?_) (fun zc22 => ?_)
        · -- 37
          refine lv_iload hx hb dX7_way_37 (lv_at hl 4 rfl) ?_
          refine lv_iconst (v := 1) hx hb dX7_way_39 (by decide) ?_
          refine lv_icmp_ge (tgt := 50) hx hb dX7_way_40 (by decide) (fun zc40 => ?_) (fun zc40 => ?_)
          · -- 50
            refine lv_iload hx hb dX7_way_50 (lv_at hl 4 rfl) ?_
            refine lv_bipush (v := 100) hx hb dX7_way_52 (by decide) ?_
            refine lv_icmp_gt (tgt := 66) hx hb dX7_way_54 (by decide) (fun zc54 => ?_) (fun zc54 => ?_)
            · -- 66
              refine lv_aload_n hx hb dX7_way_66 rfl (lv_at hl 0 rfl) ?_
              refine lv_bipush (v := (-6)) hx hb dX7_way_67 (by decide) ?_
              refine k_i (rr_v (rest := []) X w mX7_refuse kw872 (c_X7_refuse (-6) (vin_lit (by decide +kernel))) m4_0 rfl rfl ⟨Nat.le_of_ble_eq_true rfl, Nat.le_of_ble_eq_true rfl⟩ rfl hl.1 rfl (Nat.le_of_ble_eq_true rfl) dX7_way_69 ⟨Nat.zero_le _, Nat.zero_le _⟩) w (fun H locs w => ?_)
              obtain ⟨zs69_5, ezs69_5⟩ : ∃ y : Gr, y = g_X7_refuse ρ (-6) := ⟨_, rfl⟩; rw [← ezs69_5] at w
              exact t_i X w hr hlk dX7_way_72 (by replace ezs69_5 := ezs69_5.symm; subst ezs69_5; simp only [f_X7_way, if_neg zc6, if_neg zc10, if_neg zc16, if_pos zc22, if_pos zc40, if_pos zc54]) (by replace ezs69_5 := ezs69_5.symm; subst ezs69_5; simp only [g_X7_way, if_neg zc6, if_neg zc10, if_neg zc16, if_pos zc22, if_pos zc40, if_pos zc54])
            · -- 57
              refine lv_aload_n hx hb dX7_way_57 rfl (lv_at hl 0 rfl) ?_
              refine gf7_132 X w dX7_way_58 ?_
              refine lv_bipush (v := 24) hx hb dX7_way_61 (by decide) ?_
              refine lv_icmp_ne (tgt := 73) hx hb dX7_way_63 (by decide) (fun zc63 => ?_) (fun zc63 => ?_)
              · -- 73
                refine lv_aload_n hx hb dX7_way_73 rfl (lv_at hl 0 rfl) ?_
                refine lv_iload_n hx hb dX7_way_74 rfl (lv_at hl 1 rfl) ?_
                refine lv_iload_n hx hb dX7_way_75 rfl (lv_at hl 3 rfl) ?_
                refine lv_bipush (v := 100) hx hb dX7_way_76 (by decide) ?_
                refine lv_idiv hx hb dX7_way_78 (by decide) ?_
                refine lv_iload_n hx hb dX7_way_79 rfl (lv_at hl 3 rfl) ?_
                refine lv_bipush (v := 10) hx hb dX7_way_80 (by decide) ?_
                refine lv_idiv hx hb dX7_way_82 (by decide) ?_
                refine lv_bipush (v := 10) hx hb dX7_way_83 (by decide) ?_
                refine lv_irem hx hb dX7_way_85 (by decide) ?_
                refine k_i (rr_v (rest := []) X w mX7_partsFrom kw900 (c_X7_partsFrom x1 (x3 / 100) ((x3 / 10) - (x3 / 10) / 10 * 10) hm.w) m4_0 rfl rfl ⟨Nat.le_of_ble_eq_true rfl, Nat.le_of_ble_eq_true rfl⟩ rfl hl.1 rfl (Nat.le_of_ble_eq_true rfl) dX7_way_86 ⟨Nat.zero_le _, Nat.zero_le _⟩) w (fun H locs w => ?_)
                change W _ _ _ _ _ _ _ _ _ _ _ _ _ _ _ (F0 m 89 ls _)
                refine lv_iload hx hb dX7_way_89 (lv_at hl 4 rfl) ?_
                refine lv_iadd hx hb dX7_way_91 ?_
                refine lv_bipush (v := 100) hx hb dX7_way_92 (by decide) ?_
                refine lv_icmp_le (tgt := 104) hx hb dX7_way_94 (by decide) (fun zc94 => ?_) (fun zc94 => ?_)
                · -- 104
                  refine lv_aload_n hx hb dX7_way_104 rfl (lv_at hl 0 rfl) ?_
                  refine lv_iload_n hx hb dX7_way_105 rfl (lv_at hl 1 rfl) ?_
                  refine lv_iload_n hx hb dX7_way_106 rfl (lv_at hl 2 rfl) ?_
                  refine lv_iload_n hx hb dX7_way_107 rfl (lv_at hl 3 rfl) ?_
                  refine lv_bipush (v := 100) hx hb dX7_way_108 (by decide) ?_
                  refine lv_idiv hx hb dX7_way_110 (by decide) ?_
                  refine lv_iload_n hx hb dX7_way_111 rfl (lv_at hl 3 rfl) ?_
                  refine lv_bipush (v := 10) hx hb dX7_way_112 (by decide) ?_
                  refine lv_idiv hx hb dX7_way_114 (by decide) ?_
                  refine lv_bipush (v := 10) hx hb dX7_way_115 (by decide) ?_
                  refine lv_irem hx hb dX7_way_117 (by decide) ?_
                  change W _ _ _ _ _ _ _ _ _ _ _ _ _ _ _ (F0 m 118 ls _)
                  refine lv_iload hx hb dX7_way_118 (lv_at hl 4 rfl) ?_
                  refine k_v (rr_v (rest := []) X w mX7_addWay kw904 (c_X7_addWay x1 x2 (x3 / 100) ((x3 / 10) - (x3 / 10) / 10 * 10) x4 (hm.wv zc63)) m4_0 rfl rfl ⟨Nat.le_of_ble_eq_true rfl, Nat.le_of_ble_eq_true rfl⟩ rfl hl.1 rfl (Nat.le_of_ble_eq_true rfl) dX7_way_120 ⟨Nat.zero_le _, Nat.zero_le _⟩) w (fun H locs w => ?_)
                  obtain ⟨zs120_3, ezs120_3⟩ : ∃ y : Gr, y = g_X7_addWay ρ x1 x2 (x3 / 100) ((x3 / 10) - (x3 / 10) / 10 * 10) x4 := ⟨_, rfl⟩; rw [← ezs120_3] at w
                  refine lv_aload_n hx hb dX7_way_123 rfl (lv_at hl 0 rfl) ?_
                  refine gf7_132 X w dX7_way_124 ?_
                  refine lv_iconst (v := 1) hx hb dX7_way_127 (by decide) ?_
                  refine lv_isub hx hb dX7_way_128 ?_
                  exact t_i X w hr hlk dX7_way_129 (by replace ezs120_3 := ezs120_3.symm; subst ezs120_3; simp only [f_X7_way, if_neg zc6, if_neg zc10, if_neg zc16, if_pos zc22, if_pos zc40, if_neg zc54, if_neg zc63, if_pos zc94]) (by replace ezs120_3 := ezs120_3.symm; subst ezs120_3; simp only [g_X7_way, if_neg zc6, if_neg zc10, if_neg zc16, if_pos zc22, if_pos zc40, if_neg zc54, if_neg zc63, if_pos zc94])
                · -- 97
                  refine lv_aload_n hx hb dX7_way_97 rfl (lv_at hl 0 rfl) ?_
                  refine lv_bipush (v := (-3)) hx hb dX7_way_98 (by decide) ?_
                  refine k_i (rr_v (rest := []) X w mX7_refuse kw872 (c_X7_refuse (-3) (vin_lit (by decide +kernel))) m4_0 rfl rfl ⟨Nat.le_of_ble_eq_true rfl, Nat.le_of_ble_eq_true rfl⟩ rfl hl.1 rfl (Nat.le_of_ble_eq_true rfl) dX7_way_100 ⟨Nat.zero_le _, Nat.zero_le _⟩) w (fun H locs w => ?_)
                  obtain ⟨zs100_3, ezs100_3⟩ : ∃ y : Gr, y = g_X7_refuse ρ (-3) := ⟨_, rfl⟩; rw [← ezs100_3] at w
                  exact t_i X w hr hlk dX7_way_103 (by replace ezs100_3 := ezs100_3.symm; subst ezs100_3; simp only [f_X7_way, if_neg zc6, if_neg zc10, if_neg zc16, if_pos zc22, if_pos zc40, if_neg zc54, if_neg zc63, if_neg zc94]) (by replace ezs100_3 := ezs100_3.symm; subst ezs100_3; simp only [g_X7_way, if_neg zc6, if_neg zc10, if_neg zc16, if_pos zc22, if_pos zc40, if_neg zc54, if_neg zc63, if_neg zc94])
              · -- 66
                refine lv_aload_n hx hb dX7_way_66 rfl (lv_at hl 0 rfl) ?_
                refine lv_bipush (v := (-6)) hx hb dX7_way_67 (by decide) ?_
                refine k_i (rr_v (rest := []) X w mX7_refuse kw872 (c_X7_refuse (-6) (vin_lit (by decide +kernel))) m4_0 rfl rfl ⟨Nat.le_of_ble_eq_true rfl, Nat.le_of_ble_eq_true rfl⟩ rfl hl.1 rfl (Nat.le_of_ble_eq_true rfl) dX7_way_69 ⟨Nat.zero_le _, Nat.zero_le _⟩) w (fun H locs w => ?_)
                obtain ⟨zs69_6, ezs69_6⟩ : ∃ y : Gr, y = g_X7_refuse ρ (-6) := ⟨_, rfl⟩; rw [← ezs69_6] at w
                exact t_i X w hr hlk dX7_way_72 (by replace ezs69_6 := ezs69_6.symm; subst ezs69_6; simp only [f_X7_way, if_neg zc6, if_neg zc10, if_neg zc16, if_pos zc22, if_pos zc40, if_neg zc54, if_pos zc63]) (by replace ezs69_6 := ezs69_6.symm; subst ezs69_6; simp only [g_X7_way, if_neg zc6, if_neg zc10, if_neg zc16, if_pos zc22, if_pos zc40, if_neg zc54, if_pos zc63])
          · -- 43
            refine lv_aload_n hx hb dX7_way_43 rfl (lv_at hl 0 rfl) ?_
            refine lv_bipush (v := (-4)) hx hb dX7_way_44 (by decide) ?_
            refine k_i (rr_v (rest := []) X w mX7_refuse kw872 (c_X7_refuse (-4) (vin_lit (by decide +kernel))) m4_0 rfl rfl ⟨Nat.le_of_ble_eq_true rfl, Nat.le_of_ble_eq_true rfl⟩ rfl hl.1 rfl (Nat.le_of_ble_eq_true rfl) dX7_way_46 ⟨Nat.zero_le _, Nat.zero_le _⟩) w (fun H locs w => ?_)
            obtain ⟨zs46_3, ezs46_3⟩ : ∃ y : Gr, y = g_X7_refuse ρ (-4) := ⟨_, rfl⟩; rw [← ezs46_3] at w
            exact t_i X w hr hlk dX7_way_49 (by replace ezs46_3 := ezs46_3.symm; subst ezs46_3; simp only [f_X7_way, if_neg zc6, if_neg zc10, if_neg zc16, if_pos zc22, if_neg zc40]) (by replace ezs46_3 := ezs46_3.symm; subst ezs46_3; simp only [g_X7_way, if_neg zc6, if_neg zc10, if_neg zc16, if_pos zc22, if_neg zc40])
        · -- 25
          refine lv_iload_n hx hb dX7_way_25 rfl (lv_at hl 3 rfl) ?_
          refine lv_bipush (v := 110) hx hb dX7_way_26 (by decide) ?_
          refine lv_icmp_eq (tgt := 37) hx hb dX7_way_28 (by decide) (fun zc28 => ?_) (fun zc28 => ?_)
          · -- 37
            refine lv_iload hx hb dX7_way_37 (lv_at hl 4 rfl) ?_
            refine lv_iconst (v := 1) hx hb dX7_way_39 (by decide) ?_
            refine lv_icmp_ge (tgt := 50) hx hb dX7_way_40 (by decide) (fun zc40 => ?_) (fun zc40 => ?_)
            · -- 50
              refine lv_iload hx hb dX7_way_50 (lv_at hl 4 rfl) ?_
              refine lv_bipush (v := 100) hx hb dX7_way_52 (by decide) ?_
              refine lv_icmp_gt (tgt := 66) hx hb dX7_way_54 (by decide) (fun zc54 => ?_) (fun zc54 => ?_)
              · -- 66
                refine lv_aload_n hx hb dX7_way_66 rfl (lv_at hl 0 rfl) ?_
                refine lv_bipush (v := (-6)) hx hb dX7_way_67 (by decide) ?_
                refine k_i (rr_v (rest := []) X w mX7_refuse kw872 (c_X7_refuse (-6) (vin_lit (by decide +kernel))) m4_0 rfl rfl ⟨Nat.le_of_ble_eq_true rfl, Nat.le_of_ble_eq_true rfl⟩ rfl hl.1 rfl (Nat.le_of_ble_eq_true rfl) dX7_way_69 ⟨Nat.zero_le _, Nat.zero_le _⟩) w (fun H locs w => ?_)
                obtain ⟨zs69_7, ezs69_7⟩ : ∃ y : Gr, y = g_X7_refuse ρ (-6) := ⟨_, rfl⟩; rw [← ezs69_7] at w
                exact t_i X w hr hlk dX7_way_72 (by replace ezs69_7 := ezs69_7.symm; subst ezs69_7; simp only [f_X7_way, if_neg zc6, if_neg zc10, if_neg zc16, if_neg zc22, if_pos zc28, if_pos zc40, if_pos zc54]) (by replace ezs69_7 := ezs69_7.symm; subst ezs69_7; simp only [g_X7_way, if_neg zc6, if_neg zc10, if_neg zc16, if_neg zc22, if_pos zc28, if_pos zc40, if_pos zc54])
              · -- 57
                refine lv_aload_n hx hb dX7_way_57 rfl (lv_at hl 0 rfl) ?_
                refine gf7_132 X w dX7_way_58 ?_
                refine lv_bipush (v := 24) hx hb dX7_way_61 (by decide) ?_
                refine lv_icmp_ne (tgt := 73) hx hb dX7_way_63 (by decide) (fun zc63 => ?_) (fun zc63 => ?_)
                · -- 73
                  refine lv_aload_n hx hb dX7_way_73 rfl (lv_at hl 0 rfl) ?_
                  refine lv_iload_n hx hb dX7_way_74 rfl (lv_at hl 1 rfl) ?_
                  refine lv_iload_n hx hb dX7_way_75 rfl (lv_at hl 3 rfl) ?_
                  refine lv_bipush (v := 100) hx hb dX7_way_76 (by decide) ?_
                  refine lv_idiv hx hb dX7_way_78 (by decide) ?_
                  refine lv_iload_n hx hb dX7_way_79 rfl (lv_at hl 3 rfl) ?_
                  refine lv_bipush (v := 10) hx hb dX7_way_80 (by decide) ?_
                  refine lv_idiv hx hb dX7_way_82 (by decide) ?_
                  refine lv_bipush (v := 10) hx hb dX7_way_83 (by decide) ?_
                  refine lv_irem hx hb dX7_way_85 (by decide) ?_
                  refine k_i (rr_v (rest := []) X w mX7_partsFrom kw900 (c_X7_partsFrom x1 (x3 / 100) ((x3 / 10) - (x3 / 10) / 10 * 10) hm.w) m4_0 rfl rfl ⟨Nat.le_of_ble_eq_true rfl, Nat.le_of_ble_eq_true rfl⟩ rfl hl.1 rfl (Nat.le_of_ble_eq_true rfl) dX7_way_86 ⟨Nat.zero_le _, Nat.zero_le _⟩) w (fun H locs w => ?_)
                  change W _ _ _ _ _ _ _ _ _ _ _ _ _ _ _ (F0 m 89 ls _)
                  refine lv_iload hx hb dX7_way_89 (lv_at hl 4 rfl) ?_
                  refine lv_iadd hx hb dX7_way_91 ?_
                  refine lv_bipush (v := 100) hx hb dX7_way_92 (by decide) ?_
                  refine lv_icmp_le (tgt := 104) hx hb dX7_way_94 (by decide) (fun zc94 => ?_) (fun zc94 => ?_)
                  · -- 104
                    refine lv_aload_n hx hb dX7_way_104 rfl (lv_at hl 0 rfl) ?_
                    refine lv_iload_n hx hb dX7_way_105 rfl (lv_at hl 1 rfl) ?_
                    refine lv_iload_n hx hb dX7_way_106 rfl (lv_at hl 2 rfl) ?_
                    refine lv_iload_n hx hb dX7_way_107 rfl (lv_at hl 3 rfl) ?_
                    refine lv_bipush (v := 100) hx hb dX7_way_108 (by decide) ?_
                    refine lv_idiv hx hb dX7_way_110 (by decide) ?_
                    refine lv_iload_n hx hb dX7_way_111 rfl (lv_at hl 3 rfl) ?_
                    refine lv_bipush (v := 10) hx hb dX7_way_112 (by decide) ?_
                    refine lv_idiv hx hb dX7_way_114 (by decide) ?_
                    refine lv_bipush (v := 10) hx hb dX7_way_115 (by decide) ?_
                    refine lv_irem hx hb dX7_way_117 (by decide) ?_
                    change W _ _ _ _ _ _ _ _ _ _ _ _ _ _ _ (F0 m 118 ls _)
                    refine lv_iload hx hb dX7_way_118 (lv_at hl 4 rfl) ?_
                    refine k_v (rr_v (rest := []) X w mX7_addWay kw904 (c_X7_addWay x1 x2 (x3 / 100) ((x3 / 10) - (x3 / 10) / 10 * 10) x4 (hm.wv zc63)) m4_0 rfl rfl ⟨Nat.le_of_ble_eq_true rfl, Nat.le_of_ble_eq_true rfl⟩ rfl hl.1 rfl (Nat.le_of_ble_eq_true rfl) dX7_way_120 ⟨Nat.zero_le _, Nat.zero_le _⟩) w (fun H locs w => ?_)
                    obtain ⟨zs120_4, ezs120_4⟩ : ∃ y : Gr, y = g_X7_addWay ρ x1 x2 (x3 / 100) ((x3 / 10) - (x3 / 10) / 10 * 10) x4 := ⟨_, rfl⟩; rw [← ezs120_4] at w
                    refine lv_aload_n hx hb dX7_way_123 rfl (lv_at hl 0 rfl) ?_
                    refine gf7_132 X w dX7_way_124 ?_
                    refine lv_iconst (v := 1) hx hb dX7_way_127 (by decide) ?_
                    refine lv_isub hx hb dX7_way_128 ?_
                    exact t_i X w hr hlk dX7_way_129 (by replace ezs120_4 := ezs120_4.symm; subst ezs120_4; simp only [f_X7_way, if_neg zc6, if_neg zc10, if_neg zc16, if_neg zc22, if_pos zc28, if_pos zc40, if_neg zc54, if_neg zc63, if_pos zc94]) (by replace ezs120_4 := ezs120_4.symm; subst ezs120_4; simp only [g_X7_way, if_neg zc6, if_neg zc10, if_neg zc16, if_neg zc22, if_pos zc28, if_pos zc40, if_neg zc54, if_neg zc63, if_pos zc94])
                  · -- 97
                    refine lv_aload_n hx hb dX7_way_97 rfl (lv_at hl 0 rfl) ?_
                    refine lv_bipush (v := (-3)) hx hb dX7_way_98 (by decide) ?_
                    refine k_i (rr_v (rest := []) X w mX7_refuse kw872 (c_X7_refuse (-3) (vin_lit (by decide +kernel))) m4_0 rfl rfl ⟨Nat.le_of_ble_eq_true rfl, Nat.le_of_ble_eq_true rfl⟩ rfl hl.1 rfl (Nat.le_of_ble_eq_true rfl) dX7_way_100 ⟨Nat.zero_le _, Nat.zero_le _⟩) w (fun H locs w => ?_)
                    obtain ⟨zs100_4, ezs100_4⟩ : ∃ y : Gr, y = g_X7_refuse ρ (-3) := ⟨_, rfl⟩; rw [← ezs100_4] at w
                    exact t_i X w hr hlk dX7_way_103 (by replace ezs100_4 := ezs100_4.symm; subst ezs100_4; simp only [f_X7_way, if_neg zc6, if_neg zc10, if_neg zc16, if_neg zc22, if_pos zc28, if_pos zc40, if_neg zc54, if_neg zc63, if_neg zc94]) (by replace ezs100_4 := ezs100_4.symm; subst ezs100_4; simp only [g_X7_way, if_neg zc6, if_neg zc10, if_neg zc16, if_neg zc22, if_pos zc28, if_pos zc40, if_neg zc54, if_neg zc63, if_neg zc94])
                · -- 66
                  refine lv_aload_n hx hb dX7_way_66 rfl (lv_at hl 0 rfl) ?_
                  refine lv_bipush (v := (-6)) hx hb dX7_way_67 (by decide) ?_
                  refine k_i (rr_v (rest := []) X w mX7_refuse kw872 (c_X7_refuse (-6) (vin_lit (by decide +kernel))) m4_0 rfl rfl ⟨Nat.le_of_ble_eq_true rfl, Nat.le_of_ble_eq_true rfl⟩ rfl hl.1 rfl (Nat.le_of_ble_eq_true rfl) dX7_way_69 ⟨Nat.zero_le _, Nat.zero_le _⟩) w (fun H locs w => ?_)
                  obtain ⟨zs69_8, ezs69_8⟩ : ∃ y : Gr, y = g_X7_refuse ρ (-6) := ⟨_, rfl⟩; rw [← ezs69_8] at w
                  exact t_i X w hr hlk dX7_way_72 (by replace ezs69_8 := ezs69_8.symm; subst ezs69_8; simp only [f_X7_way, if_neg zc6, if_neg zc10, if_neg zc16, if_neg zc22, if_pos zc28, if_pos zc40, if_neg zc54, if_pos zc63]) (by replace ezs69_8 := ezs69_8.symm; subst ezs69_8; simp only [g_X7_way, if_neg zc6, if_neg zc10, if_neg zc16, if_neg zc22, if_pos zc28, if_pos zc40, if_neg zc54, if_pos zc63])
            · -- 43
              refine lv_aload_n hx hb dX7_way_43 rfl (lv_at hl 0 rfl) ?_
              refine lv_bipush (v := (-4)) hx hb dX7_way_44 (by decide) ?_
              refine k_i (rr_v (rest := []) X w mX7_refuse kw872 (c_X7_refuse (-4) (vin_lit (by decide +kernel))) m4_0 rfl rfl ⟨Nat.le_of_ble_eq_true rfl, Nat.le_of_ble_eq_true rfl⟩ rfl hl.1 rfl (Nat.le_of_ble_eq_true rfl) dX7_way_46 ⟨Nat.zero_le _, Nat.zero_le _⟩) w (fun H locs w => ?_)
              obtain ⟨zs46_4, ezs46_4⟩ : ∃ y : Gr, y = g_X7_refuse ρ (-4) := ⟨_, rfl⟩; rw [← ezs46_4] at w
              exact t_i X w hr hlk dX7_way_49 (by replace ezs46_4 := ezs46_4.symm; subst ezs46_4; simp only [f_X7_way, if_neg zc6, if_neg zc10, if_neg zc16, if_neg zc22, if_pos zc28, if_neg zc40]) (by replace ezs46_4 := ezs46_4.symm; subst ezs46_4; simp only [g_X7_way, if_neg zc6, if_neg zc10, if_neg zc16, if_neg zc22, if_pos zc28, if_neg zc40])
          · -- 31
            refine lv_aload_n hx hb dX7_way_31 rfl (lv_at hl 0 rfl) ?_
            refine lv_iconst (v := (-1)) hx hb dX7_way_32 (by decide) ?_
            refine k_i (rr_v (rest := []) X w mX7_refuse kw872 (c_X7_refuse (-1) (vin_lit (by decide +kernel))) m4_0 rfl rfl ⟨Nat.le_of_ble_eq_true rfl, Nat.le_of_ble_eq_true rfl⟩ rfl hl.1 rfl (Nat.le_of_ble_eq_true rfl) dX7_way_33 ⟨Nat.zero_le _, Nat.zero_le _⟩) w (fun H locs w => ?_)
            obtain ⟨zs33_2, ezs33_2⟩ : ∃ y : Gr, y = g_X7_refuse ρ (-1) := ⟨_, rfl⟩; rw [← ezs33_2] at w
            exact t_i X w hr hlk dX7_way_36 (by replace ezs33_2 := ezs33_2.symm; subst ezs33_2; simp only [f_X7_way, if_neg zc6, if_neg zc10, if_neg zc16, if_neg zc22, if_neg zc28]) (by replace ezs33_2 := ezs33_2.symm; subst ezs33_2; simp only [g_X7_way, if_neg zc6, if_neg zc10, if_neg zc16, if_neg zc22, if_neg zc28])

noncomputable def f_X7_shut (ρ : Gr) (x1 : Int32) (x2 : Int32) : Int32 :=
  if (f_X7_in x1.toInt64 0 (((ρ 0 8) - 1).toInt64)) = 0 then
    let zs18 : Gr := g_X7_refuse ρ (-1)
    f_X7_refuse ρ (-1)
  else
    let zv28 : Int32 := ρ 14 x1.toNatClampNeg
    let zs35 : Gr := up ρ 14 x1.toNatClampNeg x2
    if zv28 = x2 then
      0
    else
      1
noncomputable def g_X7_shut (ρ : Gr) (x1 : Int32) (x2 : Int32) : Gr :=
  if (f_X7_in x1.toInt64 0 (((ρ 0 8) - 1).toInt64)) = 0 then
    let zs18 : Gr := g_X7_refuse ρ (-1)
    zs18
  else
    let zv28 : Int32 := ρ 14 x1.toNatClampNeg
    let zs35 : Gr := up ρ 14 x1.toNatClampNeg x2
    zs35
set_option maxRecDepth 100000 in
set_option maxHeartbeats 4000000 in
theorem c_X7_shut {l : Launch} {G : GG} {σ : St} {ρ : Gr}  (x1 : Int32) (x2 : Int32) (B : Nat) (hB : B < 2 ^ 30) (hm : WFm B ρ) (hb2 : isB x2) : MM l G yX7_shut cX7_shut 4 1 25 (some .int) [.ref (aa G 4 0), .int x1, .int x2] (setG σ 4 ρ) (Qi G (f_X7_shut ρ x1 x2) (setG σ 4 (g_X7_shut ρ x1 x2))) := by
  refine MM.of (by decide) (Nat.le_of_ble_eq_true rfl) ?_
  intro p e s m below meth c ls X hr hlk w hl
  have hx := X.1.1
  have hb := X.1.2.1
  have hl : lv_has ls 4 [(0, .ref (aa G 4 0)), (1, .int x1), (2, .int x2)] := hl
  refine lv_iload_n hx hb dX7_shut_0 rfl (lv_at hl 1 rfl) ?_
  refine lv_i2l hx hb dX7_shut_1 rfl ?_
  refine lv_lconst (v := 0) hx hb dX7_shut_2 (by decide) ?_
  refine lv_aload_n hx hb dX7_shut_3 rfl (lv_at hl 0 rfl) ?_
  refine gf7_132 X w dX7_shut_4 ?_
  refine lv_iconst (v := 1) hx hb dX7_shut_7 (by decide) ?_
  refine lv_isub hx hb dX7_shut_8 ?_
  refine lv_i2l hx hb dX7_shut_9 rfl ?_
  refine k_i (rr_s (rest := []) X w mX7_in kw888 (c_X7_in x1.toInt64 0 (((ρ 0 8) - 1).toInt64)) ⟨Nat.le_of_ble_eq_true rfl, Nat.le_of_ble_eq_true rfl⟩ rfl hl.1 rfl (Nat.le_of_ble_eq_true rfl) dX7_shut_10 ⟨Nat.zero_le _, Nat.zero_le _⟩) w (fun H locs w => ?_)
  refine lv_if_ne (tgt := 22) hx hb dX7_shut_13 (by decide) (fun zc13 => ?_) (fun zc13 => ?_)
  · -- 22
    refine lv_aload_n hx hb dX7_shut_22 rfl (lv_at hl 0 rfl) ?_
    refine gf7_46 X w dX7_shut_23 ?_
    refine lv_iload_n hx hb dX7_shut_26 rfl (lv_at hl 1 rfl) ?_
    refine r_za (f := 14) (n := 24) X w m4_14 rfl (in_upto hm.2.1 (by decide) zc13) dX7_shut_27 ?_
    refine lv_topi (fun zv28 ezv28 => ?_)
    refine lv_istore_n (lv' := [(3, .int zv28), (0, .ref (aa G 4 0)), (1, .int x1), (2, .int x2)]) hx hb dX7_shut_28 rfl hl (by decide) rfl (fun ls hl => ?_)
    refine lv_aload_n hx hb dX7_shut_29 rfl (lv_at hl 1 rfl) ?_
    refine gf7_46 X w dX7_shut_30 ?_
    refine lv_iload_n hx hb dX7_shut_33 rfl (lv_at hl 2 rfl) ?_
    refine lv_iload_n hx hb dX7_shut_34 rfl (lv_at hl 3 rfl) ?_
    refine zS (f := 14) (n := 24) X w m4_14 rfl (in_upto hm.2.1 (by decide) zc13) hb2 dX7_shut_35 (fun zs35 H locs ezs35 w => ?_)
    refine lv_iload_n hx hb dX7_shut_36 rfl (lv_at hl 0 rfl) ?_
    change W _ _ _ _ _ _ _ _ _ _ _ _ _ _ _ (F0 m 37 ls _)
    refine lv_iload_n hx hb dX7_shut_37 rfl (lv_at hl 3 rfl) ?_
    refine lv_icmp_ne (tgt := 45) hx hb dX7_shut_38 (by decide) (fun zc38 => ?_) (fun zc38 => ?_)
    · -- 45
      refine lv_iconst (v := 1) hx hb dX7_shut_45 (by decide) ?_
      exact t_i X w hr hlk dX7_shut_46 (by replace ezs35 := ezs35.symm; subst ezs35; replace ezv28 := ezv28.symm; subst ezv28; simp only [f_X7_shut, if_neg zc13, if_neg zc38]) (by replace ezs35 := ezs35.symm; subst ezs35; replace ezv28 := ezv28.symm; subst ezv28; simp only [g_X7_shut, if_neg zc13, if_neg zc38])
    · -- 41
      refine lv_iconst (v := 0) hx hb dX7_shut_41 (by decide) ?_
      refine lv_goto (tgt := 46) hx hb dX7_shut_42 (by decide) ?_
      exact t_i X w hr hlk dX7_shut_46 (by replace ezs35 := ezs35.symm; subst ezs35; replace ezv28 := ezv28.symm; subst ezv28; simp only [f_X7_shut, if_neg zc13, if_pos zc38]) (by replace ezs35 := ezs35.symm; subst ezs35; replace ezv28 := ezv28.symm; subst ezv28; simp only [g_X7_shut, if_neg zc13, if_pos zc38])
  · -- 16
    refine lv_aload_n hx hb dX7_shut_16 rfl (lv_at hl 0 rfl) ?_
    refine lv_iconst (v := (-1)) hx hb dX7_shut_17 (by decide) ?_
    refine k_i (rr_v (rest := []) X w mX7_refuse kw872 (c_X7_refuse (-1) (vin_lit (by decide +kernel))) m4_0 rfl rfl ⟨Nat.le_of_ble_eq_true rfl, Nat.le_of_ble_eq_true rfl⟩ rfl hl.1 rfl (Nat.le_of_ble_eq_true rfl) dX7_shut_18 ⟨Nat.zero_le _, Nat.zero_le _⟩) w (fun H locs w => ?_)
    obtain ⟨zs18, ezs18⟩ : ∃ y : Gr, y = g_X7_refuse ρ (-1) := ⟨_, rfl⟩; rw [← ezs18] at w
    exact t_i X w hr hlk dX7_shut_21 (by replace ezs18 := ezs18.symm; subst ezs18; simp only [f_X7_shut, if_pos zc13]) (by replace ezs18 := ezs18.symm; subst ezs18; simp only [g_X7_shut, if_pos zc13])

noncomputable def f_X7_river (ρ : Gr) (x1 : Int32) (x2 : Int32) (x3 : Int32) : Int32 :=
  if (f_X7_isCell ρ x1) = 0 then
    let zs17 : Gr := g_X7_refuse ρ (-1)
    f_X7_refuse ρ (-1)
  else
    if (f_X7_isStuff x2) = 0 then
      let zs17_2 : Gr := g_X7_refuse ρ (-1)
      f_X7_refuse ρ (-1)
    else
      if 1 ≤ x3 then
        if 999 < x3 then
          let zs52 : Gr := g_X7_refuse ρ (-6)
          f_X7_refuse ρ (-6)
        else
          if (ρ 0 15) = 8 then
            let zs52_2 : Gr := g_X7_refuse ρ (-6)
            f_X7_refuse ρ (-6)
          else
            let zs60 : Gr := g_X7_addRiver ρ x1 x2 x3
            (zs60 0 15) - 1
      else
        let zs29 : Gr := g_X7_refuse ρ (-4)
        f_X7_refuse ρ (-4)
noncomputable def g_X7_river (ρ : Gr) (x1 : Int32) (x2 : Int32) (x3 : Int32) : Gr :=
  if (f_X7_isCell ρ x1) = 0 then
    let zs17 : Gr := g_X7_refuse ρ (-1)
    zs17
  else
    if (f_X7_isStuff x2) = 0 then
      let zs17_2 : Gr := g_X7_refuse ρ (-1)
      zs17_2
    else
      if 1 ≤ x3 then
        if 999 < x3 then
          let zs52 : Gr := g_X7_refuse ρ (-6)
          zs52
        else
          if (ρ 0 15) = 8 then
            let zs52_2 : Gr := g_X7_refuse ρ (-6)
            zs52_2
          else
            let zs60 : Gr := g_X7_addRiver ρ x1 x2 x3
            zs60
      else
        let zs29 : Gr := g_X7_refuse ρ (-4)
        zs29
set_option maxRecDepth 100000 in
set_option maxHeartbeats 4000000 in
theorem c_X7_river {l : Launch} {G : GG} {σ : St} {ρ : Gr}  (x1 : Int32) (x2 : Int32) (x3 : Int32) (B : Nat) (hB : B < 2 ^ 30) (hm : WFm B ρ) : MM l G yX7_river cX7_river 4 2 46 (some .int) [.ref (aa G 4 0), .int x1, .int x2, .int x3] (setG σ 4 ρ) (Qi G (f_X7_river ρ x1 x2 x3) (setG σ 4 (g_X7_river ρ x1 x2 x3))) := by
  refine MM.of (by decide) (Nat.le_of_ble_eq_true rfl) ?_
  intro p e s m below meth c ls X hr hlk w hl
  have hx := X.1.1
  have hb := X.1.2.1
  have hl : lv_has ls 4 [(0, .ref (aa G 4 0)), (1, .int x1), (2, .int x2), (3, .int x3)] := hl
  refine lv_aload_n hx hb dX7_river_0 rfl (lv_at hl 0 rfl) ?_
  refine lv_iload_n hx hb dX7_river_1 rfl (lv_at hl 1 rfl) ?_
  refine k_i (rr_v (rest := []) X w mX7_isCell kw884 (c_X7_isCell x1) m4_0 rfl rfl ⟨Nat.le_of_ble_eq_true rfl, Nat.le_of_ble_eq_true rfl⟩ rfl hl.1 rfl (Nat.le_of_ble_eq_true rfl) dX7_river_2 ⟨Nat.zero_le _, Nat.zero_le _⟩) w (fun H locs w => ?_)
  refine lv_if_eq (tgt := 15) hx hb dX7_river_5 (by decide) (fun zc5 => ?_) (fun zc5 => ?_)
  · -- 15
    refine lv_aload_n hx hb dX7_river_15 rfl (lv_at hl 0 rfl) ?_
    refine lv_iconst (v := (-1)) hx hb dX7_river_16 (by decide) ?_
    refine k_i (rr_v (rest := []) X w mX7_refuse kw872 (c_X7_refuse (-1) (vin_lit (by decide +kernel))) m4_0 rfl rfl ⟨Nat.le_of_ble_eq_true rfl, Nat.le_of_ble_eq_true rfl⟩ rfl hl.1 rfl (Nat.le_of_ble_eq_true rfl) dX7_river_17 ⟨Nat.zero_le _, Nat.zero_le _⟩) w (fun H locs w => ?_)
    obtain ⟨zs17, ezs17⟩ : ∃ y : Gr, y = g_X7_refuse ρ (-1) := ⟨_, rfl⟩; rw [← ezs17] at w
    exact t_i X w hr hlk dX7_river_20 (by replace ezs17 := ezs17.symm; subst ezs17; simp only [f_X7_river, if_pos zc5]) (by replace ezs17 := ezs17.symm; subst ezs17; simp only [g_X7_river, if_pos zc5])
  · -- 8
    refine lv_iload_n hx hb dX7_river_8 rfl (lv_at hl 2 rfl) ?_
    refine k_i (rr_s (rest := []) X w mX7_isStuff kw916 (c_X7_isStuff x2) ⟨Nat.le_of_ble_eq_true rfl, Nat.le_of_ble_eq_true rfl⟩ rfl hl.1 rfl (Nat.le_of_ble_eq_true rfl) dX7_river_9 ⟨Nat.zero_le _, Nat.zero_le _⟩) w (fun H locs w => ?_)
    refine lv_if_ne (tgt := 21) hx hb dX7_river_12 (by decide) (fun zc12 => ?_) (fun zc12 => ?_)
    · -- 21
      refine lv_iload_n hx hb dX7_river_21 rfl (lv_at hl 3 rfl) ?_
      refine lv_iconst (v := 1) hx hb dX7_river_22 (by decide) ?_
      refine lv_icmp_ge (tgt := 33) hx hb dX7_river_23 (by decide) (fun zc23 => ?_) (fun zc23 => ?_)
      · -- 33
        refine lv_iload_n hx hb dX7_river_33 rfl (lv_at hl 3 rfl) ?_
        refine lv_sipush (v := 999) hx hb dX7_river_34 (by decide) ?_
        refine lv_icmp_gt (tgt := 49) hx hb dX7_river_37 (by decide) (fun zc37 => ?_) (fun zc37 => ?_)
        · -- 49
          refine lv_aload_n hx hb dX7_river_49 rfl (lv_at hl 0 rfl) ?_
          refine lv_bipush (v := (-6)) hx hb dX7_river_50 (by decide) ?_
          refine k_i (rr_v (rest := []) X w mX7_refuse kw872 (c_X7_refuse (-6) (vin_lit (by decide +kernel))) m4_0 rfl rfl ⟨Nat.le_of_ble_eq_true rfl, Nat.le_of_ble_eq_true rfl⟩ rfl hl.1 rfl (Nat.le_of_ble_eq_true rfl) dX7_river_52 ⟨Nat.zero_le _, Nat.zero_le _⟩) w (fun H locs w => ?_)
          obtain ⟨zs52, ezs52⟩ : ∃ y : Gr, y = g_X7_refuse ρ (-6) := ⟨_, rfl⟩; rw [← ezs52] at w
          exact t_i X w hr hlk dX7_river_55 (by replace ezs52 := ezs52.symm; subst ezs52; simp only [f_X7_river, if_neg zc5, if_neg zc12, if_pos zc23, if_pos zc37]) (by replace ezs52 := ezs52.symm; subst ezs52; simp only [g_X7_river, if_neg zc5, if_neg zc12, if_pos zc23, if_pos zc37])
        · -- 40
          refine lv_aload_n hx hb dX7_river_40 rfl (lv_at hl 0 rfl) ?_
          refine gf7_147 X w dX7_river_41 ?_
          refine lv_bipush (v := 8) hx hb dX7_river_44 (by decide) ?_
          refine lv_icmp_ne (tgt := 56) hx hb dX7_river_46 (by decide) (fun zc46 => ?_) (fun zc46 => ?_)
          · -- 56
            refine lv_aload_n hx hb dX7_river_56 rfl (lv_at hl 0 rfl) ?_
            refine lv_iload_n hx hb dX7_river_57 rfl (lv_at hl 1 rfl) ?_
            refine lv_iload_n hx hb dX7_river_58 rfl (lv_at hl 2 rfl) ?_
            refine lv_iload_n hx hb dX7_river_59 rfl (lv_at hl 3 rfl) ?_
            refine k_v (rr_v (rest := []) X w mX7_addRiver kw919 (c_X7_addRiver x1 x2 x3 (hm.rv zc46)) m4_0 rfl rfl ⟨Nat.le_of_ble_eq_true rfl, Nat.le_of_ble_eq_true rfl⟩ rfl hl.1 rfl (Nat.le_of_ble_eq_true rfl) dX7_river_60 ⟨Nat.zero_le _, Nat.zero_le _⟩) w (fun H locs w => ?_)
            obtain ⟨zs60, ezs60⟩ : ∃ y : Gr, y = g_X7_addRiver ρ x1 x2 x3 := ⟨_, rfl⟩; rw [← ezs60] at w
            refine lv_aload_n hx hb dX7_river_63 rfl (lv_at hl 0 rfl) ?_
            refine gf7_147 X w dX7_river_64 ?_
            refine lv_iconst (v := 1) hx hb dX7_river_67 (by decide) ?_
            refine lv_isub hx hb dX7_river_68 ?_
            exact t_i X w hr hlk dX7_river_69 (by replace ezs60 := ezs60.symm; subst ezs60; simp only [f_X7_river, if_neg zc5, if_neg zc12, if_pos zc23, if_neg zc37, if_neg zc46]) (by replace ezs60 := ezs60.symm; subst ezs60; simp only [g_X7_river, if_neg zc5, if_neg zc12, if_pos zc23, if_neg zc37, if_neg zc46])
          · -- 49
            refine lv_aload_n hx hb dX7_river_49 rfl (lv_at hl 0 rfl) ?_
            refine lv_bipush (v := (-6)) hx hb dX7_river_50 (by decide) ?_
            refine k_i (rr_v (rest := []) X w mX7_refuse kw872 (c_X7_refuse (-6) (vin_lit (by decide +kernel))) m4_0 rfl rfl ⟨Nat.le_of_ble_eq_true rfl, Nat.le_of_ble_eq_true rfl⟩ rfl hl.1 rfl (Nat.le_of_ble_eq_true rfl) dX7_river_52 ⟨Nat.zero_le _, Nat.zero_le _⟩) w (fun H locs w => ?_)
            obtain ⟨zs52_2, ezs52_2⟩ : ∃ y : Gr, y = g_X7_refuse ρ (-6) := ⟨_, rfl⟩; rw [← ezs52_2] at w
            exact t_i X w hr hlk dX7_river_55 (by replace ezs52_2 := ezs52_2.symm; subst ezs52_2; simp only [f_X7_river, if_neg zc5, if_neg zc12, if_pos zc23, if_neg zc37, if_pos zc46]) (by replace ezs52_2 := ezs52_2.symm; subst ezs52_2; simp only [g_X7_river, if_neg zc5, if_neg zc12, if_pos zc23, if_neg zc37, if_pos zc46])
      · -- 26
        refine lv_aload_n hx hb dX7_river_26 rfl (lv_at hl 0 rfl) ?_
        refine lv_bipush (v := (-4)) hx hb dX7_river_27 (by decide) ?_
        refine k_i (rr_v (rest := []) X w mX7_refuse kw872 (c_X7_refuse (-4) (vin_lit (by decide +kernel))) m4_0 rfl rfl ⟨Nat.le_of_ble_eq_true rfl, Nat.le_of_ble_eq_true rfl⟩ rfl hl.1 rfl (Nat.le_of_ble_eq_true rfl) dX7_river_29 ⟨Nat.zero_le _, Nat.zero_le _⟩) w (fun H locs w => ?_)
        obtain ⟨zs29, ezs29⟩ : ∃ y : Gr, y = g_X7_refuse ρ (-4) := ⟨_, rfl⟩; rw [← ezs29] at w
        exact t_i X w hr hlk dX7_river_32 (by replace ezs29 := ezs29.symm; subst ezs29; simp only [f_X7_river, if_neg zc5, if_neg zc12, if_neg zc23]) (by replace ezs29 := ezs29.symm; subst ezs29; simp only [g_X7_river, if_neg zc5, if_neg zc12, if_neg zc23])
    · -- 15
      refine lv_aload_n hx hb dX7_river_15 rfl (lv_at hl 0 rfl) ?_
      refine lv_iconst (v := (-1)) hx hb dX7_river_16 (by decide) ?_
      refine k_i (rr_v (rest := []) X w mX7_refuse kw872 (c_X7_refuse (-1) (vin_lit (by decide +kernel))) m4_0 rfl rfl ⟨Nat.le_of_ble_eq_true rfl, Nat.le_of_ble_eq_true rfl⟩ rfl hl.1 rfl (Nat.le_of_ble_eq_true rfl) dX7_river_17 ⟨Nat.zero_le _, Nat.zero_le _⟩) w (fun H locs w => ?_)
      obtain ⟨zs17_2, ezs17_2⟩ : ∃ y : Gr, y = g_X7_refuse ρ (-1) := ⟨_, rfl⟩; rw [← ezs17_2] at w
      exact t_i X w hr hlk dX7_river_20 (by replace ezs17_2 := ezs17_2.symm; subst ezs17_2; simp only [f_X7_river, if_neg zc5, if_pos zc12]) (by replace ezs17_2 := ezs17_2.symm; subst ezs17_2; simp only [g_X7_river, if_neg zc5, if_pos zc12])

noncomputable def b_X7_moon_38 (y1 : Int32) (y2 : Int32) (y3 : Int32) (k : Nat) (v : Gr) : Gr :=
  let zs56 : Gr := up v 19 (nI k).toNatClampNeg ((y2 >>> ((nI k) &&& 31)) &&& 1)
  zs56
noncomputable def l_X7_moon_38 (y1 : Int32) (y2 : Int32) (y3 : Int32) (v0 : Gr) : Gr := itn (b_X7_moon_38 y1 y2 y3) y1.toNatClampNeg v0
noncomputable def f_X7_moon (ρ : Gr) (x1 : Int32) (x2 : Int32) : Int32 :=
  if 1 ≤ x1 then
    if x1 ≤ 28 then
      let zv29 : Int32 := ρ 0 20
      let zs32 : Gr := up ρ 0 20 x1
      let zl38 : Gr := (l_X7_moon_38 x1 x2 zv29 zs32)
      zv29
    else
      let zs21 : Gr := g_X7_refuse ρ (-6)
      f_X7_refuse ρ (-6)
  else
    let zs8 : Gr := g_X7_refuse ρ (-4)
    f_X7_refuse ρ (-4)
noncomputable def g_X7_moon (ρ : Gr) (x1 : Int32) (x2 : Int32) : Gr :=
  if 1 ≤ x1 then
    if x1 ≤ 28 then
      let zv29 : Int32 := ρ 0 20
      let zs32 : Gr := up ρ 0 20 x1
      let zl38 : Gr := (l_X7_moon_38 x1 x2 zv29 zs32)
      zl38
    else
      let zs21 : Gr := g_X7_refuse ρ (-6)
      zs21
  else
    let zs8 : Gr := g_X7_refuse ρ (-4)
    zs8
set_option maxRecDepth 100000 in
set_option maxHeartbeats 4000000 in
theorem lp_X7_moon_38 {l : Launch} {G : GG} {p : Program} {e : Env} {s : State} {m : MethodId} {args : Array Value} {below : List Frame} {meth : Method} {c : Code} {Q : State → Prop} {σ : St} (X : Cx p m c cX7_moon 5 s args RX7 G) (y1 : Int32) (y2 : Int32) (y3 : Int32) (v0 : Gr) (h28 : y1.toNatClampNeg ≤ 28)
    (kk : ∀ (H : Heap) (locs : List Loc) (ls : Array Slot), Wh G s σ 4 (l_X7_moon_38 y1 y2 y3 v0) H locs → lv_has ls 5 [(0, .ref (aa G 4 0)), (1, .int y1), (2, .int y2), (3, .int y3), (4, .int (nI (y1.toNatClampNeg)))] → W p l e (rmv 1 21) s m args below meth c H locs 0 0 Q (F0 m 63 ls [])) :
    ∀ (n k : Nat) (v : Gr), k ≤ y1.toNatClampNeg → y1.toNatClampNeg - k < n → v = itn (b_X7_moon_38 y1 y2 y3) k v0 → ∀ (H : Heap) (locs : List Loc) (ls : Array Slot), Wh G s σ 4 v H locs → lv_has ls 5 [(0, .ref (aa G 4 0)), (1, .int y1), (2, .int y2), (3, .int y3), (4, .int (nI k))] → W p l e (rmv 1 21) s m args below meth c H locs 0 0 Q (F0 m 38 ls []) := by
  have hx := X.1.1
  have hb := X.1.2.1
  intro n
  induction n with
  | zero => intro k v _ h; omega
  | succ n ih =>
    intro k v hkN hn ev H locs ls w hl
    refine lv_iload hx hb dX7_moon_38 (lv_at hl 4 rfl) ?_
    refine lv_iload_n hx hb dX7_moon_40 rfl (lv_at hl 1 rfl) ?_
    refine lv_icmp_ge (tgt := 63) hx hb dX7_moon_41 (by decide) (fun zc41 => ?_) (fun zc41 => ?_)
    · -- 63
      have hkE : k = y1.toNatClampNeg := lp_eq hkN zc41
      have ev2 : l_X7_moon_38 y1 y2 y3 v0 = v := by unfold l_X7_moon_38; rw [← hkE]; exact ev.symm
      rw [ev2] at kk
      rw [hkE] at hl
      exact kk _ _ _ w (lv_sub hl [0, 1, 2, 3, 4] rfl)
    · -- 44
      have hk : k < y1.toNatClampNeg := lp_lt hkN zc41
      refine lv_aload_n hx hb dX7_moon_44 rfl (lv_at hl 0 rfl) ?_
      refine gf7_59 X w dX7_moon_45 ?_
      refine lv_iload hx hb dX7_moon_48 (lv_at hl 4 rfl) ?_
      refine lv_iload_n hx hb dX7_moon_50 rfl (lv_at hl 2 rfl) ?_
      refine lv_iload hx hb dX7_moon_51 (lv_at hl 4 rfl) ?_
      refine lv_ishr hx hb dX7_moon_53 ?_
      refine lv_iconst (v := 1) hx hb dX7_moon_54 (by decide) ?_
      refine lv_iand hx hb dX7_moon_55 ?_
      refine iS (f := 19) (n := 28) X w m4_19 rfl (vp_in_nI (by omega) (by decide)) dX7_moon_56 (fun zs56 H locs ezs56 w => ?_)
      refine lv_iinc (v := nI (k + 1)) (lv' := [(4, .int (nI (k + 1))), (0, .ref (aa G 4 0)), (1, .int y1), (2, .int y2), (3, .int y3)]) hx hb dX7_moon_57 hl (k := 4) rfl (nI_1 _) (by decide) rfl (fun ls hl => ?_)
      refine lv_goto (tgt := 38) hx hb dX7_moon_60 (by decide) ?_
      exact ih (k + 1) zs56 (by omega) (by omega) (by replace ezs56 := ezs56.symm; subst ezs56; simp only [itn, ← ev, b_X7_moon_38])  _ _ _ w (lv_sub hl [1, 2, 3, 4, 0] rfl)
set_option maxRecDepth 100000 in
set_option maxHeartbeats 4000000 in
theorem c_X7_moon {l : Launch} {G : GG} {σ : St} {ρ : Gr}  (x1 : Int32) (x2 : Int32) (B : Nat) (hB : B < 2 ^ 30) (hm : WFm B ρ) : MM l G yX7_moon cX7_moon 5 1 21 (some .int) [.ref (aa G 4 0), .int x1, .int x2] (setG σ 4 ρ) (Qi G (f_X7_moon ρ x1 x2) (setG σ 4 (g_X7_moon ρ x1 x2))) := by
  refine MM.of (by decide) (Nat.le_of_ble_eq_true rfl) ?_
  intro p e s m below meth c ls X hr hlk w hl
  have hx := X.1.1
  have hb := X.1.2.1
  have hl : lv_has ls 5 [(0, .ref (aa G 4 0)), (1, .int x1), (2, .int x2)] := hl
  refine lv_iload_n hx hb dX7_moon_0 rfl (lv_at hl 1 rfl) ?_
  refine lv_iconst (v := 1) hx hb dX7_moon_1 (by decide) ?_
  refine lv_icmp_ge (tgt := 12) hx hb dX7_moon_2 (by decide) (fun zc2 => ?_) (fun zc2 => ?_)
  · -- 12
    refine lv_iload_n hx hb dX7_moon_12 rfl (lv_at hl 1 rfl) ?_
    refine lv_bipush (v := 28) hx hb dX7_moon_13 (by decide) ?_
    refine lv_icmp_le (tgt := 25) hx hb dX7_moon_15 (by decide) (fun zc15 => ?_) (fun zc15 => ?_)
    · -- 25
      refine lv_aload_n hx hb dX7_moon_25 rfl (lv_at hl 0 rfl) ?_
      refine gf7_62 X w dX7_moon_26 ?_
      refine lv_topi (fun zv29 ezv29 => ?_)
      refine lv_istore_n (lv' := [(3, .int zv29), (0, .ref (aa G 4 0)), (1, .int x1), (2, .int x2)]) hx hb dX7_moon_29 rfl hl (by decide) rfl (fun ls hl => ?_)
      refine lv_aload_n hx hb dX7_moon_30 rfl (lv_at hl 1 rfl) ?_
      refine lv_iload_n hx hb dX7_moon_31 rfl (lv_at hl 2 rfl) ?_
      refine pf7_62 X w dX7_moon_32 (fun zs32 H locs ezs32 w => ?_)
      refine lv_iconst (v := 0) hx hb dX7_moon_35 (by decide) ?_
      refine lv_istore (lv' := [(4, .int 0), (3, .int zv29), (0, .ref (aa G 4 0)), (1, .int x1), (2, .int x2)]) hx hb dX7_moon_36 hl (by decide) rfl (fun ls hl => ?_)
      refine lp_X7_moon_38 X x1 x2 zv29 zs32 (clamp_le (y := 28) (by decide) (by decide) zc15) (fun H locs ls w hl => ?_) (x1.toNatClampNeg + 1) 0 _ (Nat.zero_le _) (Nat.lt_succ_of_le (Nat.sub_le _ _)) rfl  _ _ _ w (lv_sub hl [2, 3, 4, 1, 0] rfl)
      obtain ⟨zl38, ezl38⟩ : ∃ y : Gr, y = (l_X7_moon_38 x1 x2 zv29 zs32) := ⟨_, rfl⟩
      rw [← ezl38] at w
      refine lv_iload_n hx hb dX7_moon_63 rfl (lv_at hl 3 rfl) ?_
      exact t_i X w hr hlk dX7_moon_64 (by replace ezl38 := ezl38.symm; subst ezl38; replace ezs32 := ezs32.symm; subst ezs32; replace ezv29 := ezv29.symm; subst ezv29; simp only [f_X7_moon, if_pos zc2, if_pos zc15]) (by replace ezl38 := ezl38.symm; subst ezl38; replace ezs32 := ezs32.symm; subst ezs32; replace ezv29 := ezv29.symm; subst ezv29; simp only [g_X7_moon, if_pos zc2, if_pos zc15])
    · -- 18
      refine lv_aload_n hx hb dX7_moon_18 rfl (lv_at hl 0 rfl) ?_
      refine lv_bipush (v := (-6)) hx hb dX7_moon_19 (by decide) ?_
      refine k_i (rr_v (rest := []) X w mX7_refuse kw872 (c_X7_refuse (-6) (vin_lit (by decide +kernel))) m4_0 rfl rfl ⟨Nat.le_of_ble_eq_true rfl, Nat.le_of_ble_eq_true rfl⟩ rfl hl.1 rfl (Nat.le_of_ble_eq_true rfl) dX7_moon_21 ⟨Nat.zero_le _, Nat.zero_le _⟩) w (fun H locs w => ?_)
      obtain ⟨zs21, ezs21⟩ : ∃ y : Gr, y = g_X7_refuse ρ (-6) := ⟨_, rfl⟩; rw [← ezs21] at w
      exact t_i X w hr hlk dX7_moon_24 (by replace ezs21 := ezs21.symm; subst ezs21; simp only [f_X7_moon, if_pos zc2, if_neg zc15]) (by replace ezs21 := ezs21.symm; subst ezs21; simp only [g_X7_moon, if_pos zc2, if_neg zc15])
  · -- 5
    refine lv_aload_n hx hb dX7_moon_5 rfl (lv_at hl 0 rfl) ?_
    refine lv_bipush (v := (-4)) hx hb dX7_moon_6 (by decide) ?_
    refine k_i (rr_v (rest := []) X w mX7_refuse kw872 (c_X7_refuse (-4) (vin_lit (by decide +kernel))) m4_0 rfl rfl ⟨Nat.le_of_ble_eq_true rfl, Nat.le_of_ble_eq_true rfl⟩ rfl hl.1 rfl (Nat.le_of_ble_eq_true rfl) dX7_moon_8 ⟨Nat.zero_le _, Nat.zero_le _⟩) w (fun H locs w => ?_)
    obtain ⟨zs8, ezs8⟩ : ∃ y : Gr, y = g_X7_refuse ρ (-4) := ⟨_, rfl⟩; rw [← ezs8] at w
    exact t_i X w hr hlk dX7_moon_11 (by replace ezs8 := ezs8.symm; subst ezs8; simp only [f_X7_moon, if_neg zc2]) (by replace ezs8 := ezs8.symm; subst ezs8; simp only [g_X7_moon, if_neg zc2])

noncomputable def f_X7_put (ρ : Gr) (x1 : Int32) (x2 : Int32) (x3 : Int32) (x4 : Int32) : Int32 :=
  if (f_X7_isCell ρ x1) = 0 then
    let zs17 : Gr := g_X7_refuse ρ (-1)
    f_X7_refuse ρ (-1)
  else
    if (f_X7_isStuff x2) = 0 then
      let zs17_2 : Gr := g_X7_refuse ρ (-1)
      f_X7_refuse ρ (-1)
    else
      if (-9999) ≤ x4 then
        let zv41 : Int32 := (2 * x1) + x2
        if x3 = 0 then
          let zv67 : Int32 := (ρ 7 zv41.toNatClampNeg) + x4
          if 9999 < x4 then
            let zs87 : Gr := g_X7_refuse ρ (-6)
            f_X7_refuse ρ (-6)
          else
            if zv67 ≤ 1000000 then
              if 0 ≤ zv67 then
                let zs126 : Gr := up ρ 6 zv41.toNatClampNeg (ρ 6 zv41.toNatClampNeg)
                let zs149 : Gr := up zs126 7 zv41.toNatClampNeg zv67
                zv67
              else
                let zs126_2 : Gr := up ρ 6 zv41.toNatClampNeg (ρ 6 zv41.toNatClampNeg)
                let zs149_2 : Gr := up zs126_2 7 zv41.toNatClampNeg 0
                0
            else
              let zs87_2 : Gr := g_X7_refuse ρ (-6)
              f_X7_refuse ρ (-6)
        else
          let zv67_2 : Int32 := (ρ 6 zv41.toNatClampNeg) + x4
          if 9999 < x4 then
            let zs87_3 : Gr := g_X7_refuse ρ (-6)
            f_X7_refuse ρ (-6)
          else
            if zv67_2 ≤ 1000000 then
              if 0 ≤ zv67_2 then
                let zs126_3 : Gr := up ρ 6 zv41.toNatClampNeg zv67_2
                let zs149_3 : Gr := up zs126_3 7 zv41.toNatClampNeg (zs126_3 7 zv41.toNatClampNeg)
                zv67_2
              else
                let zs126_4 : Gr := up ρ 6 zv41.toNatClampNeg 0
                let zs149_4 : Gr := up zs126_4 7 zv41.toNatClampNeg (zs126_4 7 zv41.toNatClampNeg)
                0
            else
              let zs87_4 : Gr := g_X7_refuse ρ (-6)
              f_X7_refuse ρ (-6)
      else
        let zs32 : Gr := g_X7_refuse ρ (-4)
        f_X7_refuse ρ (-4)
noncomputable def g_X7_put (ρ : Gr) (x1 : Int32) (x2 : Int32) (x3 : Int32) (x4 : Int32) : Gr :=
  if (f_X7_isCell ρ x1) = 0 then
    let zs17 : Gr := g_X7_refuse ρ (-1)
    zs17
  else
    if (f_X7_isStuff x2) = 0 then
      let zs17_2 : Gr := g_X7_refuse ρ (-1)
      zs17_2
    else
      if (-9999) ≤ x4 then
        let zv41 : Int32 := (2 * x1) + x2
        if x3 = 0 then
          let zv67 : Int32 := (ρ 7 zv41.toNatClampNeg) + x4
          if 9999 < x4 then
            let zs87 : Gr := g_X7_refuse ρ (-6)
            zs87
          else
            if zv67 ≤ 1000000 then
              if 0 ≤ zv67 then
                let zs126 : Gr := up ρ 6 zv41.toNatClampNeg (ρ 6 zv41.toNatClampNeg)
                let zs149 : Gr := up zs126 7 zv41.toNatClampNeg zv67
                zs149
              else
                let zs126_2 : Gr := up ρ 6 zv41.toNatClampNeg (ρ 6 zv41.toNatClampNeg)
                let zs149_2 : Gr := up zs126_2 7 zv41.toNatClampNeg 0
                zs149_2
            else
              let zs87_2 : Gr := g_X7_refuse ρ (-6)
              zs87_2
        else
          let zv67_2 : Int32 := (ρ 6 zv41.toNatClampNeg) + x4
          if 9999 < x4 then
            let zs87_3 : Gr := g_X7_refuse ρ (-6)
            zs87_3
          else
            if zv67_2 ≤ 1000000 then
              if 0 ≤ zv67_2 then
                let zs126_3 : Gr := up ρ 6 zv41.toNatClampNeg zv67_2
                let zs149_3 : Gr := up zs126_3 7 zv41.toNatClampNeg (zs126_3 7 zv41.toNatClampNeg)
                zs149_3
              else
                let zs126_4 : Gr := up ρ 6 zv41.toNatClampNeg 0
                let zs149_4 : Gr := up zs126_4 7 zv41.toNatClampNeg (zs126_4 7 zv41.toNatClampNeg)
                zs149_4
            else
              let zs87_4 : Gr := g_X7_refuse ρ (-6)
              zs87_4
      else
        let zs32 : Gr := g_X7_refuse ρ (-4)
        zs32
set_option maxRecDepth 100000 in
set_option maxHeartbeats 4000000 in
theorem c_X7_put {l : Launch} {G : GG} {σ : St} {ρ : Gr}  (x1 : Int32) (x2 : Int32) (x3 : Int32) (x4 : Int32) (B : Nat) (hB : B < 2 ^ 30) (hm : WFm B ρ) : MM l G yX7_put cX7_put 7 2 46 (some .int) [.ref (aa G 4 0), .int x1, .int x2, .int x3, .int x4] (setG σ 4 ρ) (Qi G (f_X7_put ρ x1 x2 x3 x4) (setG σ 4 (g_X7_put ρ x1 x2 x3 x4))) := by
  refine MM.of (by decide) (Nat.le_of_ble_eq_true rfl) ?_
  intro p e s m below meth c ls X hr hlk w hl
  have hx := X.1.1
  have hb := X.1.2.1
  have hl : lv_has ls 7 [(0, .ref (aa G 4 0)), (1, .int x1), (2, .int x2), (3, .int x3), (4, .int x4)] := hl
  refine lv_aload_n hx hb dX7_put_0 rfl (lv_at hl 0 rfl) ?_
  refine lv_iload_n hx hb dX7_put_1 rfl (lv_at hl 1 rfl) ?_
  refine k_i (rr_v (rest := []) X w mX7_isCell kw884 (c_X7_isCell x1) m4_0 rfl rfl ⟨Nat.le_of_ble_eq_true rfl, Nat.le_of_ble_eq_true rfl⟩ rfl hl.1 rfl (Nat.le_of_ble_eq_true rfl) dX7_put_2 ⟨Nat.zero_le _, Nat.zero_le _⟩) w (fun H locs w => ?_)
  refine lv_if_eq (tgt := 15) hx hb dX7_put_5 (by decide) (fun zc5 => ?_) (fun zc5 => ?_)
  · -- 15
    refine lv_aload_n hx hb dX7_put_15 rfl (lv_at hl 0 rfl) ?_
    refine lv_iconst (v := (-1)) hx hb dX7_put_16 (by decide) ?_
    refine k_i (rr_v (rest := []) X w mX7_refuse kw872 (c_X7_refuse (-1) (vin_lit (by decide +kernel))) m4_0 rfl rfl ⟨Nat.le_of_ble_eq_true rfl, Nat.le_of_ble_eq_true rfl⟩ rfl hl.1 rfl (Nat.le_of_ble_eq_true rfl) dX7_put_17 ⟨Nat.zero_le _, Nat.zero_le _⟩) w (fun H locs w => ?_)
    obtain ⟨zs17, ezs17⟩ : ∃ y : Gr, y = g_X7_refuse ρ (-1) := ⟨_, rfl⟩; rw [← ezs17] at w
    exact t_i X w hr hlk dX7_put_20 (by replace ezs17 := ezs17.symm; subst ezs17; simp only [f_X7_put, if_pos zc5]) (by replace ezs17 := ezs17.symm; subst ezs17; simp only [g_X7_put, if_pos zc5])
  · -- 8
    refine lv_iload_n hx hb dX7_put_8 rfl (lv_at hl 2 rfl) ?_
    refine k_i (rr_s (rest := []) X w mX7_isStuff kw916 (c_X7_isStuff x2) ⟨Nat.le_of_ble_eq_true rfl, Nat.le_of_ble_eq_true rfl⟩ rfl hl.1 rfl (Nat.le_of_ble_eq_true rfl) dX7_put_9 ⟨Nat.zero_le _, Nat.zero_le _⟩) w (fun H locs w => ?_)
    refine lv_if_ne (tgt := 21) hx hb dX7_put_12 (by decide) (fun zc12 => ?_) (fun zc12 => ?_)
    · -- 21
      refine lv_iload hx hb dX7_put_21 (lv_at hl 4 rfl) ?_
      refine lv_sipush (v := (-9999)) hx hb dX7_put_23 (by decide) ?_
      refine lv_icmp_ge (tgt := 36) hx hb dX7_put_26 (by decide) (fun zc26 => ?_) (fun zc26 => ?_)
      · -- 36
        refine lv_iconst (v := 2) hx hb dX7_put_36 (by decide) ?_
        refine lv_iload_n hx hb dX7_put_37 rfl (lv_at hl 1 rfl) ?_
        refine lv_imul hx hb dX7_put_38 ?_
        refine lv_iload_n hx hb dX7_put_39 rfl (lv_at hl 2 rfl) ?_
        refine lv_iadd hx hb dX7_put_40 ?_
        refine lv_topi (fun zv41 ezv41 => ?_)
        refine lv_istore (lv' := [(5, .int zv41), (0, .ref (aa G 4 0)), (1, .int x1), (2, .int x2), (3, .int x3), (4, .int x4)]) hx hb dX7_put_41 hl (by decide) rfl (fun ls hl => ?_)
        refine lv_iload_n hx hb dX7_put_43 rfl (lv_at hl 4 rfl) ?_
        refine lv_if_eq (tgt := 57) hx hb dX7_put_44 (by decide) (fun zc44 => ?_) (fun zc44 => ?_)
        · -- 57
          refine lv_aload_n hx hb dX7_put_57 rfl (lv_at hl 1 rfl) ?_
          refine gf7_28 X w dX7_put_58 ?_
          refine lv_iload hx hb dX7_put_61 (lv_at hl 0 rfl) ?_
          refine ia (f := 7) (n := 16) X w m4_7 rfl (by rw [ezv41]; exact (ix2s (hm.cell zc5) (stuff_v zc12))) dX7_put_63 ?_
          refine lv_iload hx hb dX7_put_64 (lv_at hl 5 rfl) ?_
          refine lv_iadd hx hb dX7_put_66 ?_
          refine lv_topi (fun zv67 ezv67 => ?_)
          refine lv_istore (lv' := [(6, .int zv67), (5, .int zv41), (0, .ref (aa G 4 0)), (1, .int x1), (2, .int x2), (3, .int x3), (4, .int x4)]) hx hb dX7_put_67 hl (by decide) rfl (fun ls hl => ?_)
          refine lv_iload hx hb dX7_put_69 (lv_at hl 6 rfl) ?_
          refine lv_sipush (v := 9999) hx hb dX7_put_71 (by decide) ?_
          refine lv_icmp_gt (tgt := 84) hx hb dX7_put_74 (by decide) (fun zc74 => ?_) (fun zc74 => ?_)
          · -- 84
            refine lv_aload_n hx hb dX7_put_84 rfl (lv_at hl 2 rfl) ?_
            refine lv_bipush (v := (-6)) hx hb dX7_put_85 (by decide) ?_
            refine k_i (rr_v (rest := []) X w mX7_refuse kw872 (c_X7_refuse (-6) (vin_lit (by decide +kernel))) m4_0 rfl rfl ⟨Nat.le_of_ble_eq_true rfl, Nat.le_of_ble_eq_true rfl⟩ rfl hl.1 rfl (Nat.le_of_ble_eq_true rfl) dX7_put_87 ⟨Nat.zero_le _, Nat.zero_le _⟩) w (fun H locs w => ?_)
            obtain ⟨zs87, ezs87⟩ : ∃ y : Gr, y = g_X7_refuse ρ (-6) := ⟨_, rfl⟩; rw [← ezs87] at w
            exact t_i X w hr hlk dX7_put_90 (by replace ezs87 := ezs87.symm; subst ezs87; replace ezv67 := ezv67.symm; subst ezv67; replace ezv41 := ezv41.symm; subst ezv41; simp only [f_X7_put, if_neg zc5, if_neg zc12, if_pos zc26, if_pos zc44, if_pos zc74]) (by replace ezs87 := ezs87.symm; subst ezs87; replace ezv67 := ezv67.symm; subst ezv67; replace ezv41 := ezv41.symm; subst ezv41; simp only [g_X7_put, if_neg zc5, if_neg zc12, if_pos zc26, if_pos zc44, if_pos zc74])
          · -- 77
            refine lv_iload hx hb dX7_put_77 (lv_at hl 0 rfl) ?_
            refine lv_ldc hx hb X.1.2.2.2.1 (X.1.2.2.2.2 _ kw931) dX7_put_79 ?_
            refine lv_icmp_le (tgt := 91) hx hb dX7_put_81 (by decide) (fun zc81 => ?_) (fun zc81 => ?_)
            · -- 91
              refine lv_iload hx hb dX7_put_91 (lv_at hl 0 rfl) ?_
              refine lv_if_ge (tgt := 100) hx hb dX7_put_93 (by decide) (fun zc93 => ?_) (fun zc93 => ?_)
              · -- 100
                refine lv_iload hx hb dX7_put_100 (lv_at hl 0 rfl) ?_
                refine lv_istore (lv' := [(6, .int zv67), (5, .int zv41), (0, .ref (aa G 4 0)), (1, .int x1), (2, .int x2), (3, .int x3), (4, .int x4)]) hx hb dX7_put_102 hl (by decide) rfl (fun ls hl => ?_)
                refine lv_aload_n hx hb dX7_put_104 rfl (lv_at hl 2 rfl) ?_
                refine gf7_25 X w dX7_put_105 ?_
                refine lv_iload hx hb dX7_put_108 (lv_at hl 1 rfl) ?_
                refine lv_iload_n hx hb dX7_put_110 rfl (lv_at hl 5 rfl) ?_
                refine lv_if_eq (tgt := 119) hx hb dX7_put_111 (by decide) (fun _ => ?_) (fun zc111 => absurd zc44 zc111)
                refine lv_aload_n hx hb dX7_put_119 rfl (lv_at hl 2 rfl) ?_
                refine gf7_25 X w dX7_put_120 ?_
                refine lv_iload hx hb dX7_put_123 (lv_at hl 1 rfl) ?_
                refine ia (f := 6) (n := 16) X w m4_6 rfl (by rw [ezv41]; exact (ix2s (hm.cell zc5) (stuff_v zc12))) dX7_put_125 ?_
                change W _ _ _ _ _ _ _ _ _ _ _ _ _ _ _ (F0 m 126 ls _)
                refine iS (f := 6) (n := 16) X w m4_6 rfl (by rw [ezv41]; exact (ix2s (hm.cell zc5) (stuff_v zc12))) dX7_put_126 (fun zs126 H locs ezs126 w => ?_)
                refine lv_aload_n hx hb dX7_put_127 rfl (lv_at hl 2 rfl) ?_
                refine gf7_28 X w dX7_put_128 ?_
                refine lv_iload hx hb dX7_put_131 (lv_at hl 1 rfl) ?_
                refine lv_iload_n hx hb dX7_put_133 rfl (lv_at hl 5 rfl) ?_
                refine lv_if_eq (tgt := 147) hx hb dX7_put_134 (by decide) (fun _ => ?_) (fun zc134 => absurd zc44 zc134)
                refine lv_iload hx hb dX7_put_147 (lv_at hl 0 rfl) ?_
                refine iS (f := 7) (n := 16) X w m4_7 rfl (by rw [ezv41]; exact (ix2s (hm.cell zc5) (stuff_v zc12))) dX7_put_149 (fun zs149 H locs ezs149 w => ?_)
                refine lv_iload hx hb dX7_put_150 (lv_at hl 0 rfl) ?_
                exact t_i X w hr hlk dX7_put_152 (by replace ezs149 := ezs149.symm; subst ezs149; replace ezs126 := ezs126.symm; subst ezs126; replace ezv67 := ezv67.symm; subst ezv67; replace ezv41 := ezv41.symm; subst ezv41; simp only [f_X7_put, if_neg zc5, if_neg zc12, if_pos zc26, if_pos zc44, if_neg zc74, if_pos zc81, if_pos zc93]) (by replace ezs149 := ezs149.symm; subst ezs149; replace ezs126 := ezs126.symm; subst ezs126; replace ezv67 := ezv67.symm; subst ezv67; replace ezv41 := ezv41.symm; subst ezv41; simp only [g_X7_put, if_neg zc5, if_neg zc12, if_pos zc26, if_pos zc44, if_neg zc74, if_pos zc81, if_pos zc93])
              · -- 96
                refine lv_iconst (v := 0) hx hb dX7_put_96 (by decide) ?_
                refine lv_goto (tgt := 102) hx hb dX7_put_97 (by decide) ?_
                refine lv_istore (lv' := [(6, .int 0), (5, .int zv41), (0, .ref (aa G 4 0)), (1, .int x1), (2, .int x2), (3, .int x3), (4, .int x4)]) hx hb dX7_put_102 hl (by decide) rfl (fun ls hl => ?_)
                refine lv_aload_n hx hb dX7_put_104 rfl (lv_at hl 2 rfl) ?_
                refine gf7_25 X w dX7_put_105 ?_
                refine lv_iload hx hb dX7_put_108 (lv_at hl 1 rfl) ?_
                refine lv_iload_n hx hb dX7_put_110 rfl (lv_at hl 5 rfl) ?_
                refine lv_if_eq (tgt := 119) hx hb dX7_put_111 (by decide) (fun _ => ?_) (fun zc111 => absurd zc44 zc111)
                refine lv_aload_n hx hb dX7_put_119 rfl (lv_at hl 2 rfl) ?_
                refine gf7_25 X w dX7_put_120 ?_
                refine lv_iload hx hb dX7_put_123 (lv_at hl 1 rfl) ?_
                change W _ _ _ _ _ _ _ _ _ _ _ _ _ _ _ (F0 m 125 ls _)
                refine ia (f := 6) (n := 16) X w m4_6 rfl (by rw [ezv41]; exact (ix2s (hm.cell zc5) (stuff_v zc12))) dX7_put_125 ?_
                refine iS (f := 6) (n := 16) X w m4_6 rfl (by rw [ezv41]; exact (ix2s (hm.cell zc5) (stuff_v zc12))) dX7_put_126 (fun zs126_2 H locs ezs126_2 w => ?_)
                refine lv_aload_n hx hb dX7_put_127 rfl (lv_at hl 2 rfl) ?_
                refine gf7_28 X w dX7_put_128 ?_
                refine lv_iload hx hb dX7_put_131 (lv_at hl 1 rfl) ?_
                refine lv_iload_n hx hb dX7_put_133 rfl (lv_at hl 5 rfl) ?_
                refine lv_if_eq (tgt := 147) hx hb dX7_put_134 (by decide) (fun _ => ?_) (fun zc134 => absurd zc44 zc134)
                refine lv_iload hx hb dX7_put_147 (lv_at hl 0 rfl) ?_
                refine iS (f := 7) (n := 16) X w m4_7 rfl (by rw [ezv41]; exact (ix2s (hm.cell zc5) (stuff_v zc12))) dX7_put_149 (fun zs149_2 H locs ezs149_2 w => ?_)
                refine lv_iload hx hb dX7_put_150 (lv_at hl 0 rfl) ?_
                exact t_i X w hr hlk dX7_put_152 (by replace ezs149_2 := ezs149_2.symm; subst ezs149_2; replace ezs126_2 := ezs126_2.symm; subst ezs126_2; replace ezv67 := ezv67.symm; subst ezv67; replace ezv41 := ezv41.symm; subst ezv41; simp only [f_X7_put, if_neg zc5, if_neg zc12, if_pos zc26, if_pos zc44, if_neg zc74, if_pos zc81, if_neg zc93]) (by replace ezs149_2 := ezs149_2.symm; subst ezs149_2; replace ezs126_2 := ezs126_2.symm; subst ezs126_2; replace ezv67 := ezv67.symm; subst ezv67; replace ezv41 := ezv41.symm; subst ezv41; simp only [g_X7_put, if_neg zc5, if_neg zc12, if_pos zc26, if_pos zc44, if_neg zc74, if_pos zc81, if_neg zc93])
            · -- 84
              refine lv_aload_n hx hb dX7_put_84 rfl (lv_at hl 2 rfl) ?_
              refine lv_bipush (v := (-6)) hx hb dX7_put_85 (by decide) ?_
              refine k_i (rr_v (rest := []) X w mX7_refuse kw872 (c_X7_refuse (-6) (vin_lit (by decide +kernel))) m4_0 rfl rfl ⟨Nat.le_of_ble_eq_true rfl, Nat.le_of_ble_eq_true rfl⟩ rfl hl.1 rfl (Nat.le_of_ble_eq_true rfl) dX7_put_87 ⟨Nat.zero_le _, Nat.zero_le _⟩) w (fun H locs w => ?_)
              obtain ⟨zs87_2, ezs87_2⟩ : ∃ y : Gr, y = g_X7_refuse ρ (-6) := ⟨_, rfl⟩; rw [← ezs87_2] at w
              exact t_i X w hr hlk dX7_put_90 (by replace ezs87_2 := ezs87_2.symm; subst ezs87_2; replace ezv67 := ezv67.symm; subst ezv67; replace ezv41 := ezv41.symm; subst ezv41; simp only [f_X7_put, if_neg zc5, if_neg zc12, if_pos zc26, if_pos zc44, if_neg zc74, if_neg zc81]) (by replace ezs87_2 := ezs87_2.symm; subst ezs87_2; replace ezv67 := ezv67.symm; subst ezv67; replace ezv41 := ezv41.symm; subst ezv41; simp only [g_X7_put, if_neg zc5, if_neg zc12, if_pos zc26, if_pos zc44, if_neg zc74, if_neg zc81])
        · -- 47
          refine lv_aload_n hx hb dX7_put_47 rfl (lv_at hl 1 rfl) ?_
          refine gf7_25 X w dX7_put_48 ?_
          refine lv_iload hx hb dX7_put_51 (lv_at hl 0 rfl) ?_
          refine ia (f := 6) (n := 16) X w m4_6 rfl (by rw [ezv41]; exact (ix2s (hm.cell zc5) (stuff_v zc12))) dX7_put_53 ?_
          refine lv_goto (tgt := 64) hx hb dX7_put_54 (by decide) ?_
          refine lv_iload hx hb dX7_put_64 (lv_at hl 5 rfl) ?_
          refine lv_iadd hx hb dX7_put_66 ?_
          refine lv_topi (fun zv67_2 ezv67_2 => ?_)
          refine lv_istore (lv' := [(6, .int zv67_2), (5, .int zv41), (0, .ref (aa G 4 0)), (1, .int x1), (2, .int x2), (3, .int x3), (4, .int x4)]) hx hb dX7_put_67 hl (by decide) rfl (fun ls hl => ?_)
          refine lv_iload hx hb dX7_put_69 (lv_at hl 6 rfl) ?_
          refine lv_sipush (v := 9999) hx hb dX7_put_71 (by decide) ?_
          refine lv_icmp_gt (tgt := 84) hx hb dX7_put_74 (by decide) (fun zc74 => ?_) (fun zc74 => ?_)
          · -- 84
            refine lv_aload_n hx hb dX7_put_84 rfl (lv_at hl 2 rfl) ?_
            refine lv_bipush (v := (-6)) hx hb dX7_put_85 (by decide) ?_
            refine k_i (rr_v (rest := []) X w mX7_refuse kw872 (c_X7_refuse (-6) (vin_lit (by decide +kernel))) m4_0 rfl rfl ⟨Nat.le_of_ble_eq_true rfl, Nat.le_of_ble_eq_true rfl⟩ rfl hl.1 rfl (Nat.le_of_ble_eq_true rfl) dX7_put_87 ⟨Nat.zero_le _, Nat.zero_le _⟩) w (fun H locs w => ?_)
            obtain ⟨zs87_3, ezs87_3⟩ : ∃ y : Gr, y = g_X7_refuse ρ (-6) := ⟨_, rfl⟩; rw [← ezs87_3] at w
            exact t_i X w hr hlk dX7_put_90 (by replace ezs87_3 := ezs87_3.symm; subst ezs87_3; replace ezv67_2 := ezv67_2.symm; subst ezv67_2; replace ezv41 := ezv41.symm; subst ezv41; simp only [f_X7_put, if_neg zc5, if_neg zc12, if_pos zc26, if_neg zc44, if_pos zc74]) (by replace ezs87_3 := ezs87_3.symm; subst ezs87_3; replace ezv67_2 := ezv67_2.symm; subst ezv67_2; replace ezv41 := ezv41.symm; subst ezv41; simp only [g_X7_put, if_neg zc5, if_neg zc12, if_pos zc26, if_neg zc44, if_pos zc74])
          · -- 77
            refine lv_iload hx hb dX7_put_77 (lv_at hl 0 rfl) ?_
            refine lv_ldc hx hb X.1.2.2.2.1 (X.1.2.2.2.2 _ kw931) dX7_put_79 ?_
            refine lv_icmp_le (tgt := 91) hx hb dX7_put_81 (by decide) (fun zc81 => ?_) (fun zc81 => ?_)
            · -- 91
              refine lv_iload hx hb dX7_put_91 (lv_at hl 0 rfl) ?_
              refine lv_if_ge (tgt := 100) hx hb dX7_put_93 (by decide) (fun zc93 => ?_) (fun zc93 => ?_)
              · -- 100
                refine lv_iload hx hb dX7_put_100 (lv_at hl 0 rfl) ?_
                refine lv_istore (lv' := [(6, .int zv67_2), (5, .int zv41), (0, .ref (aa G 4 0)), (1, .int x1), (2, .int x2), (3, .int x3), (4, .int x4)]) hx hb dX7_put_102 hl (by decide) rfl (fun ls hl => ?_)
                refine lv_aload_n hx hb dX7_put_104 rfl (lv_at hl 2 rfl) ?_
                refine gf7_25 X w dX7_put_105 ?_
                refine lv_iload hx hb dX7_put_108 (lv_at hl 1 rfl) ?_
                refine lv_iload_n hx hb dX7_put_110 rfl (lv_at hl 5 rfl) ?_
                refine lv_if_eq (tgt := 119) hx hb dX7_put_111 (by decide) (fun zc111 => absurd zc111 zc44) (fun _ => ?_)
                refine lv_iload hx hb dX7_put_114 (lv_at hl 0 rfl) ?_
                refine lv_goto (tgt := 126) hx hb dX7_put_116 (by decide) ?_
                refine iS (f := 6) (n := 16) X w m4_6 rfl (by rw [ezv41]; exact (ix2s (hm.cell zc5) (stuff_v zc12))) dX7_put_126 (fun zs126_3 H locs ezs126_3 w => ?_)
                refine lv_aload_n hx hb dX7_put_127 rfl (lv_at hl 2 rfl) ?_
                change W _ _ _ _ _ _ _ _ _ _ _ _ _ _ _ (F0 m 128 ls _)
                refine gf7_28 X w dX7_put_128 ?_
                refine lv_iload hx hb dX7_put_131 (lv_at hl 1 rfl) ?_
                refine lv_iload_n hx hb dX7_put_133 rfl (lv_at hl 5 rfl) ?_
                refine lv_if_eq (tgt := 147) hx hb dX7_put_134 (by decide) (fun zc134 => absurd zc134 zc44) (fun _ => ?_)
                refine lv_aload_n hx hb dX7_put_137 rfl (lv_at hl 2 rfl) ?_
                refine gf7_28 X w dX7_put_138 ?_
                refine lv_iload hx hb dX7_put_141 (lv_at hl 1 rfl) ?_
                refine ia (f := 7) (n := 16) X w m4_7 rfl (by rw [ezv41]; exact (ix2s (hm.cell zc5) (stuff_v zc12))) dX7_put_143 ?_
                refine lv_goto (tgt := 149) hx hb dX7_put_144 (by decide) ?_
                refine iS (f := 7) (n := 16) X w m4_7 rfl (by rw [ezv41]; exact (ix2s (hm.cell zc5) (stuff_v zc12))) dX7_put_149 (fun zs149_3 H locs ezs149_3 w => ?_)
                refine lv_iload hx hb dX7_put_150 (lv_at hl 0 rfl) ?_
                exact t_i X w hr hlk dX7_put_152 (by replace ezs149_3 := ezs149_3.symm; subst ezs149_3; replace ezs126_3 := ezs126_3.symm; subst ezs126_3; replace ezv67_2 := ezv67_2.symm; subst ezv67_2; replace ezv41 := ezv41.symm; subst ezv41; simp only [f_X7_put, if_neg zc5, if_neg zc12, if_pos zc26, if_neg zc44, if_neg zc74, if_pos zc81, if_pos zc93]) (by replace ezs149_3 := ezs149_3.symm; subst ezs149_3; replace ezs126_3 := ezs126_3.symm; subst ezs126_3; replace ezv67_2 := ezv67_2.symm; subst ezv67_2; replace ezv41 := ezv41.symm; subst ezv41; simp only [g_X7_put, if_neg zc5, if_neg zc12, if_pos zc26, if_neg zc44, if_neg zc74, if_pos zc81, if_pos zc93])
              · -- 96
                refine lv_iconst (v := 0) hx hb dX7_put_96 (by decide) ?_
                refine lv_goto (tgt := 102) hx hb dX7_put_97 (by decide) ?_
                refine lv_istore (lv' := [(6, .int 0), (5, .int zv41), (0, .ref (aa G 4 0)), (1, .int x1), (2, .int x2), (3, .int x3), (4, .int x4)]) hx hb dX7_put_102 hl (by decide) rfl (fun ls hl => ?_)
                refine lv_aload_n hx hb dX7_put_104 rfl (lv_at hl 2 rfl) ?_
                refine gf7_25 X w dX7_put_105 ?_
                refine lv_iload hx hb dX7_put_108 (lv_at hl 1 rfl) ?_
                refine lv_iload_n hx hb dX7_put_110 rfl (lv_at hl 5 rfl) ?_
                refine lv_if_eq (tgt := 119) hx hb dX7_put_111 (by decide) (fun zc111 => absurd zc111 zc44) (fun _ => ?_)
                refine lv_iload hx hb dX7_put_114 (lv_at hl 0 rfl) ?_
                refine lv_goto (tgt := 126) hx hb dX7_put_116 (by decide) ?_
                refine iS (f := 6) (n := 16) X w m4_6 rfl (by rw [ezv41]; exact (ix2s (hm.cell zc5) (stuff_v zc12))) dX7_put_126 (fun zs126_4 H locs ezs126_4 w => ?_)
                change W _ _ _ _ _ _ _ _ _ _ _ _ _ _ _ (F0 m 127 ls _)
                refine lv_aload_n hx hb dX7_put_127 rfl (lv_at hl 2 rfl) ?_
                refine gf7_28 X w dX7_put_128 ?_
                refine lv_iload hx hb dX7_put_131 (lv_at hl 1 rfl) ?_
                refine lv_iload_n hx hb dX7_put_133 rfl (lv_at hl 5 rfl) ?_
                refine lv_if_eq (tgt := 147) hx hb dX7_put_134 (by decide) (fun zc134 => absurd zc134 zc44) (fun _ => ?_)
                refine lv_aload_n hx hb dX7_put_137 rfl (lv_at hl 2 rfl) ?_
                refine gf7_28 X w dX7_put_138 ?_
                refine lv_iload hx hb dX7_put_141 (lv_at hl 1 rfl) ?_
                refine ia (f := 7) (n := 16) X w m4_7 rfl (by rw [ezv41]; exact (ix2s (hm.cell zc5) (stuff_v zc12))) dX7_put_143 ?_
                refine lv_goto (tgt := 149) hx hb dX7_put_144 (by decide) ?_
                refine iS (f := 7) (n := 16) X w m4_7 rfl (by rw [ezv41]; exact (ix2s (hm.cell zc5) (stuff_v zc12))) dX7_put_149 (fun zs149_4 H locs ezs149_4 w => ?_)
                refine lv_iload hx hb dX7_put_150 (lv_at hl 0 rfl) ?_
                change W _ _ _ _ _ _ _ _ _ _ _ _ _ _ _ (F0 m 152 ls _)
                exact t_i X w hr hlk dX7_put_152 (by replace ezs149_4 := ezs149_4.symm; subst ezs149_4; replace ezs126_4 := ezs126_4.symm; subst ezs126_4; replace ezv67_2 := ezv67_2.symm; subst ezv67_2; replace ezv41 := ezv41.symm; subst ezv41; simp only [f_X7_put, if_neg zc5, if_neg zc12, if_pos zc26, if_neg zc44, if_neg zc74, if_pos zc81, if_neg zc93]) (by replace ezs149_4 := ezs149_4.symm; subst ezs149_4; replace ezs126_4 := ezs126_4.symm; subst ezs126_4; replace ezv67_2 := ezv67_2.symm; subst ezv67_2; replace ezv41 := ezv41.symm; subst ezv41; simp only [g_X7_put, if_neg zc5, if_neg zc12, if_pos zc26, if_neg zc44, if_neg zc74, if_pos zc81, if_neg zc93])
            · -- 84
              refine lv_aload_n hx hb dX7_put_84 rfl (lv_at hl 2 rfl) ?_
              refine lv_bipush (v := (-6)) hx hb dX7_put_85 (by decide) ?_
              refine k_i (rr_v (rest := []) X w mX7_refuse kw872 (c_X7_refuse (-6) (vin_lit (by decide +kernel))) m4_0 rfl rfl ⟨Nat.le_of_ble_eq_true rfl, Nat.le_of_ble_eq_true rfl⟩ rfl hl.1 rfl (Nat.le_of_ble_eq_true rfl) dX7_put_87 ⟨Nat.zero_le _, Nat.zero_le _⟩) w (fun H locs w => ?_)
              obtain ⟨zs87_4, ezs87_4⟩ : ∃ y : Gr, y = g_X7_refuse ρ (-6) := ⟨_, rfl⟩; rw [← ezs87_4] at w
              exact t_i X w hr hlk dX7_put_90 (by replace ezs87_4 := ezs87_4.symm; subst ezs87_4; replace ezv67_2 := ezv67_2.symm; subst ezv67_2; replace ezv41 := ezv41.symm; subst ezv41; simp only [f_X7_put, if_neg zc5, if_neg zc12, if_pos zc26, if_neg zc44, if_neg zc74, if_neg zc81]) (by replace ezs87_4 := ezs87_4.symm; subst ezs87_4; replace ezv67_2 := ezv67_2.symm; subst ezv67_2; replace ezv41 := ezv41.symm; subst ezv41; simp only [g_X7_put, if_neg zc5, if_neg zc12, if_pos zc26, if_neg zc44, if_neg zc74, if_neg zc81])
      · -- 29
        refine lv_aload_n hx hb dX7_put_29 rfl (lv_at hl 0 rfl) ?_
        refine lv_bipush (v := (-4)) hx hb dX7_put_30 (by decide) ?_
        refine k_i (rr_v (rest := []) X w mX7_refuse kw872 (c_X7_refuse (-4) (vin_lit (by decide +kernel))) m4_0 rfl rfl ⟨Nat.le_of_ble_eq_true rfl, Nat.le_of_ble_eq_true rfl⟩ rfl hl.1 rfl (Nat.le_of_ble_eq_true rfl) dX7_put_32 ⟨Nat.zero_le _, Nat.zero_le _⟩) w (fun H locs w => ?_)
        obtain ⟨zs32, ezs32⟩ : ∃ y : Gr, y = g_X7_refuse ρ (-4) := ⟨_, rfl⟩; rw [← ezs32] at w
        exact t_i X w hr hlk dX7_put_35 (by replace ezs32 := ezs32.symm; subst ezs32; simp only [f_X7_put, if_neg zc5, if_neg zc12, if_neg zc26]) (by replace ezs32 := ezs32.symm; subst ezs32; simp only [g_X7_put, if_neg zc5, if_neg zc12, if_neg zc26])
    · -- 15
      refine lv_aload_n hx hb dX7_put_15 rfl (lv_at hl 0 rfl) ?_
      refine lv_iconst (v := (-1)) hx hb dX7_put_16 (by decide) ?_
      refine k_i (rr_v (rest := []) X w mX7_refuse kw872 (c_X7_refuse (-1) (vin_lit (by decide +kernel))) m4_0 rfl rfl ⟨Nat.le_of_ble_eq_true rfl, Nat.le_of_ble_eq_true rfl⟩ rfl hl.1 rfl (Nat.le_of_ble_eq_true rfl) dX7_put_17 ⟨Nat.zero_le _, Nat.zero_le _⟩) w (fun H locs w => ?_)
      obtain ⟨zs17_2, ezs17_2⟩ : ∃ y : Gr, y = g_X7_refuse ρ (-1) := ⟨_, rfl⟩; rw [← ezs17_2] at w
      exact t_i X w hr hlk dX7_put_20 (by replace ezs17_2 := ezs17_2.symm; subst ezs17_2; simp only [f_X7_put, if_neg zc5, if_pos zc12]) (by replace ezs17_2 := ezs17_2.symm; subst ezs17_2; simp only [g_X7_put, if_neg zc5, if_pos zc12])

noncomputable def f_X7_tons (ρ : Gr) (x1 : Int32) (x2 : Int32) (x3 : Int32) : Int32 :=
  if (f_X7_isCell ρ x1) = 0 then
    let zs17 : Gr := g_X7_refuse ρ (-1)
    f_X7_refuse ρ (-1)
  else
    if (f_X7_isStuff x2) = 0 then
      let zs17_2 : Gr := g_X7_refuse ρ (-1)
      f_X7_refuse ρ (-1)
    else
      if x3 = 0 then
        ρ 7 ((2 * x1) + x2).toNatClampNeg
      else
        ρ 6 ((2 * x1) + x2).toNatClampNeg
noncomputable def g_X7_tons (ρ : Gr) (x1 : Int32) (x2 : Int32) (x3 : Int32) : Gr :=
  if (f_X7_isCell ρ x1) = 0 then
    let zs17 : Gr := g_X7_refuse ρ (-1)
    zs17
  else
    if (f_X7_isStuff x2) = 0 then
      let zs17_2 : Gr := g_X7_refuse ρ (-1)
      zs17_2
    else
      ρ
set_option maxRecDepth 100000 in
set_option maxHeartbeats 4000000 in
theorem c_X7_tons {l : Launch} {G : GG} {σ : St} {ρ : Gr}  (x1 : Int32) (x2 : Int32) (x3 : Int32) (B : Nat) (hB : B < 2 ^ 30) (hm : WFm B ρ) : MM l G yX7_tons cX7_tons 4 2 46 (some .int) [.ref (aa G 4 0), .int x1, .int x2, .int x3] (setG σ 4 ρ) (Qi G (f_X7_tons ρ x1 x2 x3) (setG σ 4 (g_X7_tons ρ x1 x2 x3))) := by
  refine MM.of (by decide) (Nat.le_of_ble_eq_true rfl) ?_
  intro p e s m below meth c ls X hr hlk w hl
  have hx := X.1.1
  have hb := X.1.2.1
  have hl : lv_has ls 4 [(0, .ref (aa G 4 0)), (1, .int x1), (2, .int x2), (3, .int x3)] := hl
  refine lv_aload_n hx hb dX7_tons_0 rfl (lv_at hl 0 rfl) ?_
  refine lv_iload_n hx hb dX7_tons_1 rfl (lv_at hl 1 rfl) ?_
  refine k_i (rr_v (rest := []) X w mX7_isCell kw884 (c_X7_isCell x1) m4_0 rfl rfl ⟨Nat.le_of_ble_eq_true rfl, Nat.le_of_ble_eq_true rfl⟩ rfl hl.1 rfl (Nat.le_of_ble_eq_true rfl) dX7_tons_2 ⟨Nat.zero_le _, Nat.zero_le _⟩) w (fun H locs w => ?_)
  refine lv_if_eq (tgt := 15) hx hb dX7_tons_5 (by decide) (fun zc5 => ?_) (fun zc5 => ?_)
  · -- 15
    refine lv_aload_n hx hb dX7_tons_15 rfl (lv_at hl 0 rfl) ?_
    refine lv_iconst (v := (-1)) hx hb dX7_tons_16 (by decide) ?_
    refine k_i (rr_v (rest := []) X w mX7_refuse kw872 (c_X7_refuse (-1) (vin_lit (by decide +kernel))) m4_0 rfl rfl ⟨Nat.le_of_ble_eq_true rfl, Nat.le_of_ble_eq_true rfl⟩ rfl hl.1 rfl (Nat.le_of_ble_eq_true rfl) dX7_tons_17 ⟨Nat.zero_le _, Nat.zero_le _⟩) w (fun H locs w => ?_)
    obtain ⟨zs17, ezs17⟩ : ∃ y : Gr, y = g_X7_refuse ρ (-1) := ⟨_, rfl⟩; rw [← ezs17] at w
    refine lv_goto (tgt := 50) hx hb dX7_tons_20 (by decide) ?_
    exact t_i X w hr hlk dX7_tons_50 (by replace ezs17 := ezs17.symm; subst ezs17; simp only [f_X7_tons, if_pos zc5]) (by replace ezs17 := ezs17.symm; subst ezs17; simp only [g_X7_tons, if_pos zc5])
  · -- 8
    refine lv_iload_n hx hb dX7_tons_8 rfl (lv_at hl 2 rfl) ?_
    refine k_i (rr_s (rest := []) X w mX7_isStuff kw916 (c_X7_isStuff x2) ⟨Nat.le_of_ble_eq_true rfl, Nat.le_of_ble_eq_true rfl⟩ rfl hl.1 rfl (Nat.le_of_ble_eq_true rfl) dX7_tons_9 ⟨Nat.zero_le _, Nat.zero_le _⟩) w (fun H locs w => ?_)
    refine lv_if_ne (tgt := 23) hx hb dX7_tons_12 (by decide) (fun zc12 => ?_) (fun zc12 => ?_)
    · -- 23
      refine lv_iload_n hx hb dX7_tons_23 rfl (lv_at hl 3 rfl) ?_
      refine lv_if_eq (tgt := 40) hx hb dX7_tons_24 (by decide) (fun zc24 => ?_) (fun zc24 => ?_)
      · -- 40
        refine lv_aload_n hx hb dX7_tons_40 rfl (lv_at hl 0 rfl) ?_
        refine gf7_28 X w dX7_tons_41 ?_
        refine lv_iconst (v := 2) hx hb dX7_tons_44 (by decide) ?_
        refine lv_iload_n hx hb dX7_tons_45 rfl (lv_at hl 1 rfl) ?_
        refine lv_imul hx hb dX7_tons_46 ?_
        refine lv_iload_n hx hb dX7_tons_47 rfl (lv_at hl 2 rfl) ?_
        refine lv_iadd hx hb dX7_tons_48 ?_
        refine ia (f := 7) (n := 16) X w m4_7 rfl (ix2s (hm.cell zc5) (stuff_v zc12)) dX7_tons_49 ?_
        exact t_i X w hr hlk dX7_tons_50 (by simp only [f_X7_tons, if_neg zc5, if_neg zc12, if_pos zc24]) (by simp only [g_X7_tons, if_neg zc5, if_neg zc12, if_pos zc24])
      · -- 27
        refine lv_aload_n hx hb dX7_tons_27 rfl (lv_at hl 0 rfl) ?_
        refine gf7_25 X w dX7_tons_28 ?_
        refine lv_iconst (v := 2) hx hb dX7_tons_31 (by decide) ?_
        refine lv_iload_n hx hb dX7_tons_32 rfl (lv_at hl 1 rfl) ?_
        refine lv_imul hx hb dX7_tons_33 ?_
        refine lv_iload_n hx hb dX7_tons_34 rfl (lv_at hl 2 rfl) ?_
        refine lv_iadd hx hb dX7_tons_35 ?_
        refine ia (f := 6) (n := 16) X w m4_6 rfl (ix2s (hm.cell zc5) (stuff_v zc12)) dX7_tons_36 ?_
        refine lv_goto (tgt := 50) hx hb dX7_tons_37 (by decide) ?_
        exact t_i X w hr hlk dX7_tons_50 (by simp only [f_X7_tons, if_neg zc5, if_neg zc12, if_neg zc24]) (by simp only [g_X7_tons, if_neg zc5, if_neg zc12, if_neg zc24])
    · -- 15
      refine lv_aload_n hx hb dX7_tons_15 rfl (lv_at hl 0 rfl) ?_
      refine lv_iconst (v := (-1)) hx hb dX7_tons_16 (by decide) ?_
      refine k_i (rr_v (rest := []) X w mX7_refuse kw872 (c_X7_refuse (-1) (vin_lit (by decide +kernel))) m4_0 rfl rfl ⟨Nat.le_of_ble_eq_true rfl, Nat.le_of_ble_eq_true rfl⟩ rfl hl.1 rfl (Nat.le_of_ble_eq_true rfl) dX7_tons_17 ⟨Nat.zero_le _, Nat.zero_le _⟩) w (fun H locs w => ?_)
      obtain ⟨zs17_2, ezs17_2⟩ : ∃ y : Gr, y = g_X7_refuse ρ (-1) := ⟨_, rfl⟩; rw [← ezs17_2] at w
      refine lv_goto (tgt := 50) hx hb dX7_tons_20 (by decide) ?_
      exact t_i X w hr hlk dX7_tons_50 (by replace ezs17_2 := ezs17_2.symm; subst ezs17_2; simp only [f_X7_tons, if_neg zc5, if_pos zc12]) (by replace ezs17_2 := ezs17_2.symm; subst ezs17_2; simp only [g_X7_tons, if_neg zc5, if_pos zc12])

noncomputable def f_X7_depth (ρ : Gr) (x1 : Int32) : Int32 :=
  if (f_X7_isCell ρ x1) = 0 then
    let zs18 : Gr := g_X7_refuse ρ (-1)
    f_X7_refuse ρ (-1)
  else
    f_X7_depthOf ρ x1
noncomputable def g_X7_depth (ρ : Gr) (x1 : Int32) : Gr :=
  if (f_X7_isCell ρ x1) = 0 then
    let zs18 : Gr := g_X7_refuse ρ (-1)
    zs18
  else
    ρ
set_option maxRecDepth 100000 in
set_option maxHeartbeats 4000000 in
theorem c_X7_depth {l : Launch} {G : GG} {σ : St} {ρ : Gr}  (x1 : Int32) (B : Nat) (hB : B < 2 ^ 30) (hm : WFm B ρ) : MM l G yX7_depth cX7_depth 2 2 46 (some .int) [.ref (aa G 4 0), .int x1] (setG σ 4 ρ) (Qi G (f_X7_depth ρ x1) (setG σ 4 (g_X7_depth ρ x1))) := by
  refine MM.of (by decide) (Nat.le_of_ble_eq_true rfl) ?_
  intro p e s m below meth c ls X hr hlk w hl
  have hx := X.1.1
  have hb := X.1.2.1
  have hl : lv_has ls 2 [(0, .ref (aa G 4 0)), (1, .int x1)] := hl
  refine lv_aload_n hx hb dX7_depth_0 rfl (lv_at hl 0 rfl) ?_
  refine lv_iload_n hx hb dX7_depth_1 rfl (lv_at hl 1 rfl) ?_
  refine k_i (rr_v (rest := []) X w mX7_isCell kw884 (c_X7_isCell x1) m4_0 rfl rfl ⟨Nat.le_of_ble_eq_true rfl, Nat.le_of_ble_eq_true rfl⟩ rfl hl.1 rfl (Nat.le_of_ble_eq_true rfl) dX7_depth_2 ⟨Nat.zero_le _, Nat.zero_le _⟩) w (fun H locs w => ?_)
  refine lv_if_eq (tgt := 16) hx hb dX7_depth_5 (by decide) (fun zc5 => ?_) (fun zc5 => ?_)
  · -- 16
    refine lv_aload_n hx hb dX7_depth_16 rfl (lv_at hl 0 rfl) ?_
    refine lv_iconst (v := (-1)) hx hb dX7_depth_17 (by decide) ?_
    refine k_i (rr_v (rest := []) X w mX7_refuse kw872 (c_X7_refuse (-1) (vin_lit (by decide +kernel))) m4_0 rfl rfl ⟨Nat.le_of_ble_eq_true rfl, Nat.le_of_ble_eq_true rfl⟩ rfl hl.1 rfl (Nat.le_of_ble_eq_true rfl) dX7_depth_18 ⟨Nat.zero_le _, Nat.zero_le _⟩) w (fun H locs w => ?_)
    obtain ⟨zs18, ezs18⟩ : ∃ y : Gr, y = g_X7_refuse ρ (-1) := ⟨_, rfl⟩; rw [← ezs18] at w
    exact t_i X w hr hlk dX7_depth_21 (by replace ezs18 := ezs18.symm; subst ezs18; simp only [f_X7_depth, if_pos zc5]) (by replace ezs18 := ezs18.symm; subst ezs18; simp only [g_X7_depth, if_pos zc5])
  · -- 8
    refine lv_aload_n hx hb dX7_depth_8 rfl (lv_at hl 0 rfl) ?_
    refine lv_iload_n hx hb dX7_depth_9 rfl (lv_at hl 1 rfl) ?_
    refine k_i (rr_v (rest := []) X w mX7_depthOf kw940 (c_X7_depthOf x1 (hm.cell zc5)) m4_0 rfl rfl ⟨Nat.le_of_ble_eq_true rfl, Nat.le_of_ble_eq_true rfl⟩ rfl hl.1 rfl (Nat.le_of_ble_eq_true rfl) dX7_depth_10 ⟨Nat.zero_le _, Nat.zero_le _⟩) w (fun H locs w => ?_)
    refine lv_goto (tgt := 21) hx hb dX7_depth_13 (by decide) ?_
    exact t_i X w hr hlk dX7_depth_21 (by simp only [f_X7_depth, if_neg zc5]) (by simp only [g_X7_depth, if_neg zc5])

noncomputable def f_X7_lacks (ρ : Gr) (x1 : Int32) : Int32 :=
  if (f_X7_isCell ρ x1) = 0 then
    let zs20 : Gr := g_X7_refuse ρ (-1)
    (-1000000000) + (f_X7_refuse ρ (-1))
  else
    f_X7_lacksOf ρ x1
noncomputable def g_X7_lacks (ρ : Gr) (x1 : Int32) : Gr :=
  if (f_X7_isCell ρ x1) = 0 then
    let zs20 : Gr := g_X7_refuse ρ (-1)
    zs20
  else
    ρ
set_option maxRecDepth 100000 in
set_option maxHeartbeats 4000000 in
theorem c_X7_lacks {l : Launch} {G : GG} {σ : St} {ρ : Gr}  (x1 : Int32) (B : Nat) (hB : B < 2 ^ 30) (hm : WFm B ρ) : MM l G yX7_lacks cX7_lacks 2 3 64 (some .int) [.ref (aa G 4 0), .int x1] (setG σ 4 ρ) (Qi G (f_X7_lacks ρ x1) (setG σ 4 (g_X7_lacks ρ x1))) := by
  refine MM.of (by decide) (Nat.le_of_ble_eq_true rfl) ?_
  intro p e s m below meth c ls X hr hlk w hl
  have hx := X.1.1
  have hb := X.1.2.1
  have hl : lv_has ls 2 [(0, .ref (aa G 4 0)), (1, .int x1)] := hl
  refine lv_aload_n hx hb dX7_lacks_0 rfl (lv_at hl 0 rfl) ?_
  refine lv_iload_n hx hb dX7_lacks_1 rfl (lv_at hl 1 rfl) ?_
  refine k_i (rr_v (rest := []) X w mX7_isCell kw884 (c_X7_isCell x1) m4_0 rfl rfl ⟨Nat.le_of_ble_eq_true rfl, Nat.le_of_ble_eq_true rfl⟩ rfl hl.1 rfl (Nat.le_of_ble_eq_true rfl) dX7_lacks_2 ⟨Nat.zero_le _, Nat.zero_le _⟩) w (fun H locs w => ?_)
  refine lv_if_eq (tgt := 16) hx hb dX7_lacks_5 (by decide) (fun zc5 => ?_) (fun zc5 => ?_)
  · -- 16
    refine lv_ldc hx hb X.1.2.2.2.1 (X.1.2.2.2.2 _ kw956) dX7_lacks_16 ?_
    refine lv_aload_n hx hb dX7_lacks_18 rfl (lv_at hl 0 rfl) ?_
    refine lv_iconst (v := (-1)) hx hb dX7_lacks_19 (by decide) ?_
    refine k_i (rr_v (rest := [.int (-1000000000)]) X w mX7_refuse kw872 (c_X7_refuse (-1) (vin_lit (by decide +kernel))) m4_0 rfl rfl ⟨Nat.le_of_ble_eq_true rfl, Nat.le_of_ble_eq_true rfl⟩ rfl hl.1 rfl (Nat.le_of_ble_eq_true rfl) dX7_lacks_20 ⟨Nat.zero_le _, Nat.zero_le _⟩) w (fun H locs w => ?_)
    obtain ⟨zs20, ezs20⟩ : ∃ y : Gr, y = g_X7_refuse ρ (-1) := ⟨_, rfl⟩; rw [← ezs20] at w
    refine lv_iadd hx hb dX7_lacks_23 ?_
    exact t_i X w hr hlk dX7_lacks_24 (by replace ezs20 := ezs20.symm; subst ezs20; simp only [f_X7_lacks, if_pos zc5]) (by replace ezs20 := ezs20.symm; subst ezs20; simp only [g_X7_lacks, if_pos zc5])
  · -- 8
    refine lv_aload_n hx hb dX7_lacks_8 rfl (lv_at hl 0 rfl) ?_
    refine lv_iload_n hx hb dX7_lacks_9 rfl (lv_at hl 1 rfl) ?_
    refine k_i (rr_v (rest := []) X w mX7_lacksOf kw952 (c_X7_lacksOf x1 (hm.cell zc5)) m4_0 rfl rfl ⟨Nat.le_of_ble_eq_true rfl, Nat.le_of_ble_eq_true rfl⟩ rfl hl.1 rfl (Nat.le_of_ble_eq_true rfl) dX7_lacks_10 ⟨Nat.zero_le _, Nat.zero_le _⟩) w (fun H locs w => ?_)
    refine lv_goto (tgt := 24) hx hb dX7_lacks_13 (by decide) ?_
    exact t_i X w hr hlk dX7_lacks_24 (by simp only [f_X7_lacks, if_neg zc5]) (by simp only [g_X7_lacks, if_neg zc5])

noncomputable def f_X7_dredger (ρ : Gr) (x1 : Int32) (x2 : Int32) : Int32 :=
  if (f_X7_in x1.toInt64 0 4) = 0 then
    let zs15 : Gr := g_X7_refuse ρ (-2)
    f_X7_refuse ρ (-2)
  else
    if x1 = 1 then
      if x2 = 8 then
        let zv158_6 : Int32 := ρ 0 25
        let zs172_6 : Gr := up ρ 0 24 (ρ 0 24)
        let zs189_6 : Gr := up zs172_6 0 25 x2
        let zs206_6 : Gr := up zs189_6 0 26 (zs189_6 0 26)
        let zs223_6 : Gr := up zs206_6 0 27 (zs206_6 0 27)
        let zs240_6 : Gr := up zs223_6 0 28 (zs223_6 0 28)
        zv158_6
      else
        if (f_X7_isCell ρ x2) = 0 then
          let zs53_2 : Gr := g_X7_refuse ρ (-1)
          f_X7_refuse ρ (-1)
        else
          if 0 ≤ x2 then
            let zv158_7 : Int32 := ρ 0 25
            let zs172_7 : Gr := up ρ 0 24 (ρ 0 24)
            let zs189_7 : Gr := up zs172_7 0 25 x2
            let zs206_7 : Gr := up zs189_7 0 26 (zs189_7 0 26)
            let zs223_7 : Gr := up zs206_7 0 27 (zs206_7 0 27)
            let zs240_7 : Gr := up zs223_7 0 28 (zs223_7 0 28)
            zv158_7
          else
            let zs64_3 : Gr := g_X7_refuse ρ (-4)
            f_X7_refuse ρ (-4)
    else
      if x1 = 3 then
        if (f_X7_isCell ρ x2) = 0 then
          let zs53 : Gr := g_X7_refuse ρ (-1)
          f_X7_refuse ρ (-1)
        else
          if 0 ≤ x2 then
            let zv158_5 : Int32 := ρ 0 27
            let zs172_5 : Gr := up ρ 0 24 (ρ 0 24)
            let zs189_5 : Gr := up zs172_5 0 25 (zs172_5 0 25)
            let zs206_5 : Gr := up zs189_5 0 26 (zs189_5 0 26)
            let zs223_5 : Gr := up zs206_5 0 27 x2
            let zs240_5 : Gr := up zs223_5 0 28 (zs223_5 0 28)
            zv158_5
          else
            let zs64_2 : Gr := g_X7_refuse ρ (-4)
            f_X7_refuse ρ (-4)
      else
        if 0 ≤ x2 then
          if x1 = 0 then
            if 999 < x2 then
              let zs103_3 : Gr := g_X7_refuse ρ (-6)
              f_X7_refuse ρ (-6)
            else
              let zv158_4 : Int32 := ρ 0 24
              let zs172_4 : Gr := up ρ 0 24 x2
              let zs189_4 : Gr := up zs172_4 0 25 (zs172_4 0 25)
              let zs206_4 : Gr := up zs189_4 0 26 (zs189_4 0 26)
              let zs223_4 : Gr := up zs206_4 0 27 (zs206_4 0 27)
              let zs240_4 : Gr := up zs223_4 0 28 (zs223_4 0 28)
              zv158_4
          else
            if x1 = 2 then
              if 4 < x2 then
                let zs103_2 : Gr := g_X7_refuse ρ (-6)
                f_X7_refuse ρ (-6)
              else
                let zv158_3 : Int32 := ρ 0 26
                let zs172_3 : Gr := up ρ 0 24 (ρ 0 24)
                let zs189_3 : Gr := up zs172_3 0 25 (zs172_3 0 25)
                let zs206_3 : Gr := up zs189_3 0 26 x2
                let zs223_3 : Gr := up zs206_3 0 27 (zs206_3 0 27)
                let zs240_3 : Gr := up zs223_3 0 28 (zs223_3 0 28)
                zv158_3
            else
              if x1 = 4 then
                if x2 ≤ 99 then
                  let zv158_2 : Int32 := ρ 0 28
                  let zs172_2 : Gr := up ρ 0 24 (ρ 0 24)
                  let zs189_2 : Gr := up zs172_2 0 25 (zs172_2 0 25)
                  let zs206_2 : Gr := up zs189_2 0 26 (zs189_2 0 26)
                  let zs223_2 : Gr := up zs206_2 0 27 (zs206_2 0 27)
                  let zs240_2 : Gr := up zs223_2 0 28 x2
                  zv158_2
                else
                  let zs103 : Gr := g_X7_refuse ρ (-6)
                  f_X7_refuse ρ (-6)
              else
                let zv158 : Int32 := ρ 0 28
                let zs172 : Gr := up ρ 0 24 (ρ 0 24)
                let zs189 : Gr := up zs172 0 25 (zs172 0 25)
                let zs206 : Gr := up zs189 0 26 (zs189 0 26)
                let zs223 : Gr := up zs206 0 27 (zs206 0 27)
                let zs240 : Gr := up zs223 0 28 (zs223 0 28)
                zv158
        else
          let zs64 : Gr := g_X7_refuse ρ (-4)
          f_X7_refuse ρ (-4)
noncomputable def g_X7_dredger (ρ : Gr) (x1 : Int32) (x2 : Int32) : Gr :=
  if (f_X7_in x1.toInt64 0 4) = 0 then
    let zs15 : Gr := g_X7_refuse ρ (-2)
    zs15
  else
    if x1 = 1 then
      if x2 = 8 then
        let zv158_6 : Int32 := ρ 0 25
        let zs172_6 : Gr := up ρ 0 24 (ρ 0 24)
        let zs189_6 : Gr := up zs172_6 0 25 x2
        let zs206_6 : Gr := up zs189_6 0 26 (zs189_6 0 26)
        let zs223_6 : Gr := up zs206_6 0 27 (zs206_6 0 27)
        let zs240_6 : Gr := up zs223_6 0 28 (zs223_6 0 28)
        zs240_6
      else
        if (f_X7_isCell ρ x2) = 0 then
          let zs53_2 : Gr := g_X7_refuse ρ (-1)
          zs53_2
        else
          if 0 ≤ x2 then
            let zv158_7 : Int32 := ρ 0 25
            let zs172_7 : Gr := up ρ 0 24 (ρ 0 24)
            let zs189_7 : Gr := up zs172_7 0 25 x2
            let zs206_7 : Gr := up zs189_7 0 26 (zs189_7 0 26)
            let zs223_7 : Gr := up zs206_7 0 27 (zs206_7 0 27)
            let zs240_7 : Gr := up zs223_7 0 28 (zs223_7 0 28)
            zs240_7
          else
            let zs64_3 : Gr := g_X7_refuse ρ (-4)
            zs64_3
    else
      if x1 = 3 then
        if (f_X7_isCell ρ x2) = 0 then
          let zs53 : Gr := g_X7_refuse ρ (-1)
          zs53
        else
          if 0 ≤ x2 then
            let zv158_5 : Int32 := ρ 0 27
            let zs172_5 : Gr := up ρ 0 24 (ρ 0 24)
            let zs189_5 : Gr := up zs172_5 0 25 (zs172_5 0 25)
            let zs206_5 : Gr := up zs189_5 0 26 (zs189_5 0 26)
            let zs223_5 : Gr := up zs206_5 0 27 x2
            let zs240_5 : Gr := up zs223_5 0 28 (zs223_5 0 28)
            zs240_5
          else
            let zs64_2 : Gr := g_X7_refuse ρ (-4)
            zs64_2
      else
        if 0 ≤ x2 then
          if x1 = 0 then
            if 999 < x2 then
              let zs103_3 : Gr := g_X7_refuse ρ (-6)
              zs103_3
            else
              let zv158_4 : Int32 := ρ 0 24
              let zs172_4 : Gr := up ρ 0 24 x2
              let zs189_4 : Gr := up zs172_4 0 25 (zs172_4 0 25)
              let zs206_4 : Gr := up zs189_4 0 26 (zs189_4 0 26)
              let zs223_4 : Gr := up zs206_4 0 27 (zs206_4 0 27)
              let zs240_4 : Gr := up zs223_4 0 28 (zs223_4 0 28)
              zs240_4
          else
            if x1 = 2 then
              if 4 < x2 then
                let zs103_2 : Gr := g_X7_refuse ρ (-6)
                zs103_2
              else
                let zv158_3 : Int32 := ρ 0 26
                let zs172_3 : Gr := up ρ 0 24 (ρ 0 24)
                let zs189_3 : Gr := up zs172_3 0 25 (zs172_3 0 25)
                let zs206_3 : Gr := up zs189_3 0 26 x2
                let zs223_3 : Gr := up zs206_3 0 27 (zs206_3 0 27)
                let zs240_3 : Gr := up zs223_3 0 28 (zs223_3 0 28)
                zs240_3
            else
              if x1 = 4 then
                if x2 ≤ 99 then
                  let zv158_2 : Int32 := ρ 0 28
                  let zs172_2 : Gr := up ρ 0 24 (ρ 0 24)
                  let zs189_2 : Gr := up zs172_2 0 25 (zs172_2 0 25)
                  let zs206_2 : Gr := up zs189_2 0 26 (zs189_2 0 26)
                  let zs223_2 : Gr := up zs206_2 0 27 (zs206_2 0 27)
                  let zs240_2 : Gr := up zs223_2 0 28 x2
                  zs240_2
                else
                  let zs103 : Gr := g_X7_refuse ρ (-6)
                  zs103
              else
                let zv158 : Int32 := ρ 0 28
                let zs172 : Gr := up ρ 0 24 (ρ 0 24)
                let zs189 : Gr := up zs172 0 25 (zs172 0 25)
                let zs206 : Gr := up zs189 0 26 (zs189 0 26)
                let zs223 : Gr := up zs206 0 27 (zs206 0 27)
                let zs240 : Gr := up zs223 0 28 (zs223 0 28)
                zs240
        else
          let zs64 : Gr := g_X7_refuse ρ (-4)
          zs64
set_option maxRecDepth 100000 in
set_option maxHeartbeats 4000000 in
theorem c_X7_dredger {l : Launch} {G : GG} {σ : St} {ρ : Gr}  (x1 : Int32) (x2 : Int32) (B : Nat) (hB : B < 2 ^ 30) (hm : WFm B ρ) : MM l G yX7_dredger cX7_dredger 4 2 46 (some .int) [.ref (aa G 4 0), .int x1, .int x2] (setG σ 4 ρ) (Qi G (f_X7_dredger ρ x1 x2) (setG σ 4 (g_X7_dredger ρ x1 x2))) := by
  refine MM.of (by decide) (Nat.le_of_ble_eq_true rfl) ?_
  intro p e s m below meth c ls X hr hlk w hl
  have hx := X.1.1
  have hb := X.1.2.1
  have hl : lv_has ls 4 [(0, .ref (aa G 4 0)), (1, .int x1), (2, .int x2)] := hl
  refine lv_iload_n hx hb dX7_dredger_0 rfl (lv_at hl 1 rfl) ?_
  refine lv_i2l hx hb dX7_dredger_1 rfl ?_
  refine lv_lconst (v := 0) hx hb dX7_dredger_2 (by decide) ?_
  refine lv_ldc2 hx hb X.1.2.2.2.1 (X.1.2.2.2.2 _ kw961) dX7_dredger_3 ?_
  refine k_i (rr_s (rest := []) X w mX7_in kw888 (c_X7_in x1.toInt64 0 4) ⟨Nat.le_of_ble_eq_true rfl, Nat.le_of_ble_eq_true rfl⟩ rfl hl.1 rfl (Nat.le_of_ble_eq_true rfl) dX7_dredger_6 ⟨Nat.zero_le _, Nat.zero_le _⟩) w (fun H locs w => ?_)
  refine lv_if_ne (tgt := 19) hx hb dX7_dredger_9 (by decide) (fun zc9 => ?_) (fun zc9 => ?_)
  · -- 19
    refine lv_iload_n hx hb dX7_dredger_19 rfl (lv_at hl 1 rfl) ?_
    refine lv_iconst (v := 1) hx hb dX7_dredger_20 (by decide) ?_
    refine lv_icmp_ne (tgt := 38) hx hb dX7_dredger_21 (by decide) (fun zc21 => ?_) (fun zc21 => ?_)
    · -- 38
      refine lv_iload_n hx hb dX7_dredger_38 rfl (lv_at hl 1 rfl) ?_
      refine lv_iconst (v := 3) hx hb dX7_dredger_39 (by decide) ?_
      refine lv_icmp_ne (tgt := 57) hx hb dX7_dredger_40 (by decide) (fun zc40 => ?_) (fun zc40 => ?_)
      · -- 57
        refine lv_iload_n hx hb dX7_dredger_57 rfl (lv_at hl 2 rfl) ?_
        refine lv_if_ge (tgt := 68) hx hb dX7_dredger_58 (by decide) (fun zc58 => ?_) (fun zc58 => ?_)
        · -- 68
          refine lv_iload_n hx hb dX7_dredger_68 rfl (lv_at hl 1 rfl) ?_
          refine lv_if_ne (tgt := 79) hx hb dX7_dredger_69 (by decide) (fun zc69 => ?_) (fun zc69 => ?_)
          · -- 79
            refine lv_iload_n hx hb dX7_dredger_79 rfl (lv_at hl 1 rfl) ?_
            refine lv_iconst (v := 2) hx hb dX7_dredger_80 (by decide) ?_
            refine lv_icmp_ne (tgt := 89) hx hb dX7_dredger_81 (by decide) (fun zc81 => ?_) (fun zc81 => ?_)
            · -- 89
              refine lv_iload_n hx hb dX7_dredger_89 rfl (lv_at hl 1 rfl) ?_
              refine lv_iconst (v := 4) hx hb dX7_dredger_90 (by decide) ?_
              refine lv_icmp_ne (tgt := 107) hx hb dX7_dredger_91 (by decide) (fun zc91 => ?_) (fun zc91 => ?_)
              · -- 107
                refine lv_iload_n hx hb dX7_dredger_107 rfl (lv_at hl 1 rfl) ?_
                refine lv_if_ne (tgt := 118) hx hb dX7_dredger_108 (by decide) (fun _ => ?_) (fun zc108 => absurd zc108 zc69)
                refine lv_iload_n hx hb dX7_dredger_118 rfl (lv_at hl 1 rfl) ?_
                refine lv_iconst (v := 1) hx hb dX7_dredger_119 (by decide) ?_
                refine lv_icmp_ne (tgt := 130) hx hb dX7_dredger_120 (by decide) (fun _ => ?_) (fun zc120 => absurd zc120 zc21)
                refine lv_iload_n hx hb dX7_dredger_130 rfl (lv_at hl 1 rfl) ?_
                refine lv_iconst (v := 2) hx hb dX7_dredger_131 (by decide) ?_
                refine lv_icmp_ne (tgt := 142) hx hb dX7_dredger_132 (by decide) (fun _ => ?_) (fun zc132 => absurd zc132 zc81)
                refine lv_iload_n hx hb dX7_dredger_142 rfl (lv_at hl 1 rfl) ?_
                refine lv_iconst (v := 3) hx hb dX7_dredger_143 (by decide) ?_
                refine lv_icmp_ne (tgt := 154) hx hb dX7_dredger_144 (by decide) (fun _ => ?_) (fun zc144 => absurd zc144 zc40)
                change W _ _ _ _ _ _ _ _ _ _ _ _ _ _ _ (F0 m 154 ls _)
                refine lv_aload_n hx hb dX7_dredger_154 rfl (lv_at hl 0 rfl) ?_
                refine gf7_69 X w dX7_dredger_155 ?_
                refine lv_topi (fun zv158 ezv158 => ?_)
                refine lv_istore_n (lv' := [(3, .int zv158), (0, .ref (aa G 4 0)), (1, .int x1), (2, .int x2)]) hx hb dX7_dredger_158 rfl hl (by decide) rfl (fun ls hl => ?_)
                refine lv_aload_n hx hb dX7_dredger_159 rfl (lv_at hl 1 rfl) ?_
                refine lv_iload_n hx hb dX7_dredger_160 rfl (lv_at hl 2 rfl) ?_
                refine lv_if_ne (tgt := 168) hx hb dX7_dredger_161 (by decide) (fun _ => ?_) (fun zc161 => absurd zc161 zc69)
                refine lv_aload_n hx hb dX7_dredger_168 rfl (lv_at hl 1 rfl) ?_
                refine gf7_170 X w dX7_dredger_169 ?_
                refine pf7_170 X w dX7_dredger_172 (fun zs172 H locs ezs172 w => ?_)
                refine lv_aload_n hx hb dX7_dredger_175 rfl (lv_at hl 1 rfl) ?_
                refine lv_iload_n hx hb dX7_dredger_176 rfl (lv_at hl 2 rfl) ?_
                refine lv_iconst (v := 1) hx hb dX7_dredger_177 (by decide) ?_
                change W _ _ _ _ _ _ _ _ _ _ _ _ _ _ _ (F0 m 178 ls _)
                refine lv_icmp_ne (tgt := 185) hx hb dX7_dredger_178 (by decide) (fun _ => ?_) (fun zc178 => absurd zc178 zc21)
                refine lv_aload_n hx hb dX7_dredger_185 rfl (lv_at hl 1 rfl) ?_
                refine gf7_66 X w dX7_dredger_186 ?_
                refine pf7_66 X w dX7_dredger_189 (fun zs189 H locs ezs189 w => ?_)
                refine lv_aload_n hx hb dX7_dredger_192 rfl (lv_at hl 1 rfl) ?_
                refine lv_iload_n hx hb dX7_dredger_193 rfl (lv_at hl 2 rfl) ?_
                refine lv_iconst (v := 2) hx hb dX7_dredger_194 (by decide) ?_
                refine lv_icmp_ne (tgt := 202) hx hb dX7_dredger_195 (by decide) (fun _ => ?_) (fun zc195 => absurd zc195 zc81)
                refine lv_aload_n hx hb dX7_dredger_202 rfl (lv_at hl 1 rfl) ?_
                refine gf7_173 X w dX7_dredger_203 ?_
                refine pf7_173 X w dX7_dredger_206 (fun zs206 H locs ezs206 w => ?_)
                refine lv_aload_n hx hb dX7_dredger_209 rfl (lv_at hl 1 rfl) ?_
                change W _ _ _ _ _ _ _ _ _ _ _ _ _ _ _ (F0 m 210 ls _)
                refine lv_iload_n hx hb dX7_dredger_210 rfl (lv_at hl 2 rfl) ?_
                refine lv_iconst (v := 3) hx hb dX7_dredger_211 (by decide) ?_
                refine lv_icmp_ne (tgt := 219) hx hb dX7_dredger_212 (by decide) (fun _ => ?_) (fun zc212 => absurd zc212 zc40)
                refine lv_aload_n hx hb dX7_dredger_219 rfl (lv_at hl 1 rfl) ?_
                refine gf7_176 X w dX7_dredger_220 ?_
                refine pf7_176 X w dX7_dredger_223 (fun zs223 H locs ezs223 w => ?_)
                refine lv_aload_n hx hb dX7_dredger_226 rfl (lv_at hl 1 rfl) ?_
                refine lv_iload_n hx hb dX7_dredger_227 rfl (lv_at hl 2 rfl) ?_
                refine lv_iconst (v := 4) hx hb dX7_dredger_228 (by decide) ?_
                refine lv_icmp_ne (tgt := 236) hx hb dX7_dredger_229 (by decide) (fun _ => ?_) (fun zc229 => absurd zc229 zc91)
                refine lv_aload_n hx hb dX7_dredger_236 rfl (lv_at hl 1 rfl) ?_
                refine gf7_69 X w dX7_dredger_237 ?_
                change W _ _ _ _ _ _ _ _ _ _ _ _ _ _ _ (F0 m 240 ls _)
                refine pf7_69 X w dX7_dredger_240 (fun zs240 H locs ezs240 w => ?_)
                refine lv_iload_n hx hb dX7_dredger_243 rfl (lv_at hl 0 rfl) ?_
                exact t_i X w hr hlk dX7_dredger_244 (by replace ezs240 := ezs240.symm; subst ezs240; replace ezs223 := ezs223.symm; subst ezs223; replace ezs206 := ezs206.symm; subst ezs206; replace ezs189 := ezs189.symm; subst ezs189; replace ezs172 := ezs172.symm; subst ezs172; replace ezv158 := ezv158.symm; subst ezv158; simp only [f_X7_dredger, if_neg zc9, if_neg zc21, if_neg zc40, if_pos zc58, if_neg zc69, if_neg zc81, if_neg zc91]) (by replace ezs240 := ezs240.symm; subst ezs240; replace ezs223 := ezs223.symm; subst ezs223; replace ezs206 := ezs206.symm; subst ezs206; replace ezs189 := ezs189.symm; subst ezs189; replace ezs172 := ezs172.symm; subst ezs172; replace ezv158 := ezv158.symm; subst ezv158; simp only [g_X7_dredger, if_neg zc9, if_neg zc21, if_neg zc40, if_pos zc58, if_neg zc69, if_neg zc81, if_neg zc91])
              · -- 94
                refine lv_iload_n hx hb dX7_dredger_94 rfl (lv_at hl 2 rfl) ?_
                refine lv_bipush (v := 99) hx hb dX7_dredger_95 (by decide) ?_
                refine lv_icmp_le (tgt := 107) hx hb dX7_dredger_97 (by decide) (fun zc97 => ?_) (fun zc97 => ?_)
                · -- 107
                  refine lv_iload_n hx hb dX7_dredger_107 rfl (lv_at hl 1 rfl) ?_
                  refine lv_if_ne (tgt := 118) hx hb dX7_dredger_108 (by decide) (fun _ => ?_) (fun zc108 => absurd zc108 zc69)
                  refine lv_iload_n hx hb dX7_dredger_118 rfl (lv_at hl 1 rfl) ?_
                  refine lv_iconst (v := 1) hx hb dX7_dredger_119 (by decide) ?_
                  refine lv_icmp_ne (tgt := 130) hx hb dX7_dredger_120 (by decide) (fun _ => ?_) (fun zc120 => absurd zc120 zc21)
                  refine lv_iload_n hx hb dX7_dredger_130 rfl (lv_at hl 1 rfl) ?_
                  refine lv_iconst (v := 2) hx hb dX7_dredger_131 (by decide) ?_
                  refine lv_icmp_ne (tgt := 142) hx hb dX7_dredger_132 (by decide) (fun _ => ?_) (fun zc132 => absurd zc132 zc81)
                  refine lv_iload_n hx hb dX7_dredger_142 rfl (lv_at hl 1 rfl) ?_
                  refine lv_iconst (v := 3) hx hb dX7_dredger_143 (by decide) ?_
                  refine lv_icmp_ne (tgt := 154) hx hb dX7_dredger_144 (by decide) (fun _ => ?_) (fun zc144 => absurd zc144 zc40)
                  change W _ _ _ _ _ _ _ _ _ _ _ _ _ _ _ (F0 m 154 ls _)
                  refine lv_aload_n hx hb dX7_dredger_154 rfl (lv_at hl 0 rfl) ?_
                  refine gf7_69 X w dX7_dredger_155 ?_
                  refine lv_topi (fun zv158_2 ezv158_2 => ?_)
                  refine lv_istore_n (lv' := [(3, .int zv158_2), (0, .ref (aa G 4 0)), (1, .int x1), (2, .int x2)]) hx hb dX7_dredger_158 rfl hl (by decide) rfl (fun ls hl => ?_)
                  refine lv_aload_n hx hb dX7_dredger_159 rfl (lv_at hl 1 rfl) ?_
                  refine lv_iload_n hx hb dX7_dredger_160 rfl (lv_at hl 2 rfl) ?_
                  refine lv_if_ne (tgt := 168) hx hb dX7_dredger_161 (by decide) (fun _ => ?_) (fun zc161 => absurd zc161 zc69)
                  refine lv_aload_n hx hb dX7_dredger_168 rfl (lv_at hl 1 rfl) ?_
                  refine gf7_170 X w dX7_dredger_169 ?_
                  refine pf7_170 X w dX7_dredger_172 (fun zs172_2 H locs ezs172_2 w => ?_)
                  refine lv_aload_n hx hb dX7_dredger_175 rfl (lv_at hl 1 rfl) ?_
                  refine lv_iload_n hx hb dX7_dredger_176 rfl (lv_at hl 2 rfl) ?_
                  refine lv_iconst (v := 1) hx hb dX7_dredger_177 (by decide) ?_
                  change W _ _ _ _ _ _ _ _ _ _ _ _ _ _ _ (F0 m 178 ls _)
                  refine lv_icmp_ne (tgt := 185) hx hb dX7_dredger_178 (by decide) (fun _ => ?_) (fun zc178 => absurd zc178 zc21)
                  refine lv_aload_n hx hb dX7_dredger_185 rfl (lv_at hl 1 rfl) ?_
                  refine gf7_66 X w dX7_dredger_186 ?_
                  refine pf7_66 X w dX7_dredger_189 (fun zs189_2 H locs ezs189_2 w => ?_)
                  refine lv_aload_n hx hb dX7_dredger_192 rfl (lv_at hl 1 rfl) ?_
                  refine lv_iload_n hx hb dX7_dredger_193 rfl (lv_at hl 2 rfl) ?_
                  refine lv_iconst (v := 2) hx hb dX7_dredger_194 (by decide) ?_
                  refine lv_icmp_ne (tgt := 202) hx hb dX7_dredger_195 (by decide) (fun _ => ?_) (fun zc195 => absurd zc195 zc81)
                  refine lv_aload_n hx hb dX7_dredger_202 rfl (lv_at hl 1 rfl) ?_
                  refine gf7_173 X w dX7_dredger_203 ?_
                  refine pf7_173 X w dX7_dredger_206 (fun zs206_2 H locs ezs206_2 w => ?_)
                  refine lv_aload_n hx hb dX7_dredger_209 rfl (lv_at hl 1 rfl) ?_
                  change W _ _ _ _ _ _ _ _ _ _ _ _ _ _ _ (F0 m 210 ls _)
                  refine lv_iload_n hx hb dX7_dredger_210 rfl (lv_at hl 2 rfl) ?_
                  refine lv_iconst (v := 3) hx hb dX7_dredger_211 (by decide) ?_
                  refine lv_icmp_ne (tgt := 219) hx hb dX7_dredger_212 (by decide) (fun _ => ?_) (fun zc212 => absurd zc212 zc40)
                  refine lv_aload_n hx hb dX7_dredger_219 rfl (lv_at hl 1 rfl) ?_
                  refine gf7_176 X w dX7_dredger_220 ?_
                  refine pf7_176 X w dX7_dredger_223 (fun zs223_2 H locs ezs223_2 w => ?_)
                  refine lv_aload_n hx hb dX7_dredger_226 rfl (lv_at hl 1 rfl) ?_
                  refine lv_iload_n hx hb dX7_dredger_227 rfl (lv_at hl 2 rfl) ?_
                  refine lv_iconst (v := 4) hx hb dX7_dredger_228 (by decide) ?_
                  refine lv_icmp_ne (tgt := 236) hx hb dX7_dredger_229 (by decide) (fun zc229 => absurd zc91 zc229) (fun _ => ?_)
                  refine lv_iload_n hx hb dX7_dredger_232 rfl (lv_at hl 3 rfl) ?_
                  refine lv_goto (tgt := 240) hx hb dX7_dredger_233 (by decide) ?_
                  change W _ _ _ _ _ _ _ _ _ _ _ _ _ _ _ (F0 m 240 ls _)
                  refine pf7_69 X w dX7_dredger_240 (fun zs240_2 H locs ezs240_2 w => ?_)
                  refine lv_iload_n hx hb dX7_dredger_243 rfl (lv_at hl 0 rfl) ?_
                  exact t_i X w hr hlk dX7_dredger_244 (by replace ezs240_2 := ezs240_2.symm; subst ezs240_2; replace ezs223_2 := ezs223_2.symm; subst ezs223_2; replace ezs206_2 := ezs206_2.symm; subst ezs206_2; replace ezs189_2 := ezs189_2.symm; subst ezs189_2; replace ezs172_2 := ezs172_2.symm; subst ezs172_2; replace ezv158_2 := ezv158_2.symm; subst ezv158_2; simp only [f_X7_dredger, if_neg zc9, if_neg zc21, if_neg zc40, if_pos zc58, if_neg zc69, if_neg zc81, if_pos zc91, if_pos zc97]) (by replace ezs240_2 := ezs240_2.symm; subst ezs240_2; replace ezs223_2 := ezs223_2.symm; subst ezs223_2; replace ezs206_2 := ezs206_2.symm; subst ezs206_2; replace ezs189_2 := ezs189_2.symm; subst ezs189_2; replace ezs172_2 := ezs172_2.symm; subst ezs172_2; replace ezv158_2 := ezv158_2.symm; subst ezv158_2; simp only [g_X7_dredger, if_neg zc9, if_neg zc21, if_neg zc40, if_pos zc58, if_neg zc69, if_neg zc81, if_pos zc91, if_pos zc97])
                · -- 100
                  refine lv_aload_n hx hb dX7_dredger_100 rfl (lv_at hl 0 rfl) ?_
                  refine lv_bipush (v := (-6)) hx hb dX7_dredger_101 (by decide) ?_
                  refine k_i (rr_v (rest := []) X w mX7_refuse kw872 (c_X7_refuse (-6) (vin_lit (by decide +kernel))) m4_0 rfl rfl ⟨Nat.le_of_ble_eq_true rfl, Nat.le_of_ble_eq_true rfl⟩ rfl hl.1 rfl (Nat.le_of_ble_eq_true rfl) dX7_dredger_103 ⟨Nat.zero_le _, Nat.zero_le _⟩) w (fun H locs w => ?_)
                  obtain ⟨zs103, ezs103⟩ : ∃ y : Gr, y = g_X7_refuse ρ (-6) := ⟨_, rfl⟩; rw [← ezs103] at w
                  exact t_i X w hr hlk dX7_dredger_106 (by replace ezs103 := ezs103.symm; subst ezs103; simp only [f_X7_dredger, if_neg zc9, if_neg zc21, if_neg zc40, if_pos zc58, if_neg zc69, if_neg zc81, if_pos zc91, if_neg zc97]) (by replace ezs103 := ezs103.symm; subst ezs103; simp only [g_X7_dredger, if_neg zc9, if_neg zc21, if_neg zc40, if_pos zc58, if_neg zc69, if_neg zc81, if_pos zc91, if_neg zc97])
            · -- 84
              refine lv_iload_n hx hb dX7_dredger_84 rfl (lv_at hl 2 rfl) ?_
              refine lv_iconst (v := 4) hx hb dX7_dredger_85 (by decide) ?_
              refine lv_icmp_gt (tgt := 100) hx hb dX7_dredger_86 (by decide) (fun zc86 => ?_) (fun zc86 => ?_)
              · -- 100
                refine lv_aload_n hx hb dX7_dredger_100 rfl (lv_at hl 0 rfl) ?_
                refine lv_bipush (v := (-6)) hx hb dX7_dredger_101 (by decide) ?_
                refine k_i (rr_v (rest := []) X w mX7_refuse kw872 (c_X7_refuse (-6) (vin_lit (by decide +kernel))) m4_0 rfl rfl ⟨Nat.le_of_ble_eq_true rfl, Nat.le_of_ble_eq_true rfl⟩ rfl hl.1 rfl (Nat.le_of_ble_eq_true rfl) dX7_dredger_103 ⟨Nat.zero_le _, Nat.zero_le _⟩) w (fun H locs w => ?_)
                obtain ⟨zs103_2, ezs103_2⟩ : ∃ y : Gr, y = g_X7_refuse ρ (-6) := ⟨_, rfl⟩; rw [← ezs103_2] at w
                exact t_i X w hr hlk dX7_dredger_106 (by replace ezs103_2 := ezs103_2.symm; subst ezs103_2; simp only [f_X7_dredger, if_neg zc9, if_neg zc21, if_neg zc40, if_pos zc58, if_neg zc69, if_pos zc81, if_pos zc86]) (by replace ezs103_2 := ezs103_2.symm; subst ezs103_2; simp only [g_X7_dredger, if_neg zc9, if_neg zc21, if_neg zc40, if_pos zc58, if_neg zc69, if_pos zc81, if_pos zc86])
              · -- 89
                refine lv_iload_n hx hb dX7_dredger_89 rfl (lv_at hl 1 rfl) ?_
                refine lv_iconst (v := 4) hx hb dX7_dredger_90 (by decide) ?_
                refine lv_icmp_ne (tgt := 107) hx hb dX7_dredger_91 (by decide) (fun _ => ?_) (fun zc91 => absurd zc91 (by rw [zc81]; decide))
                refine lv_iload_n hx hb dX7_dredger_107 rfl (lv_at hl 1 rfl) ?_
                refine lv_if_ne (tgt := 118) hx hb dX7_dredger_108 (by decide) (fun _ => ?_) (fun zc108 => absurd zc108 zc69)
                refine lv_iload_n hx hb dX7_dredger_118 rfl (lv_at hl 1 rfl) ?_
                refine lv_iconst (v := 1) hx hb dX7_dredger_119 (by decide) ?_
                refine lv_icmp_ne (tgt := 130) hx hb dX7_dredger_120 (by decide) (fun _ => ?_) (fun zc120 => absurd zc120 zc21)
                refine lv_iload_n hx hb dX7_dredger_130 rfl (lv_at hl 1 rfl) ?_
                refine lv_iconst (v := 2) hx hb dX7_dredger_131 (by decide) ?_
                refine lv_icmp_ne (tgt := 142) hx hb dX7_dredger_132 (by decide) (fun zc132 => absurd zc81 zc132) (fun _ => ?_)
                change W _ _ _ _ _ _ _ _ _ _ _ _ _ _ _ (F0 m 135 ls _)
                refine lv_aload_n hx hb dX7_dredger_135 rfl (lv_at hl 0 rfl) ?_
                refine gf7_173 X w dX7_dredger_136 ?_
                refine lv_goto (tgt := 158) hx hb dX7_dredger_139 (by decide) ?_
                refine lv_topi (fun zv158_3 ezv158_3 => ?_)
                refine lv_istore_n (lv' := [(3, .int zv158_3), (0, .ref (aa G 4 0)), (1, .int x1), (2, .int x2)]) hx hb dX7_dredger_158 rfl hl (by decide) rfl (fun ls hl => ?_)
                refine lv_aload_n hx hb dX7_dredger_159 rfl (lv_at hl 1 rfl) ?_
                refine lv_iload_n hx hb dX7_dredger_160 rfl (lv_at hl 2 rfl) ?_
                refine lv_if_ne (tgt := 168) hx hb dX7_dredger_161 (by decide) (fun _ => ?_) (fun zc161 => absurd zc161 zc69)
                refine lv_aload_n hx hb dX7_dredger_168 rfl (lv_at hl 1 rfl) ?_
                refine gf7_170 X w dX7_dredger_169 ?_
                refine pf7_170 X w dX7_dredger_172 (fun zs172_3 H locs ezs172_3 w => ?_)
                refine lv_aload_n hx hb dX7_dredger_175 rfl (lv_at hl 1 rfl) ?_
                refine lv_iload_n hx hb dX7_dredger_176 rfl (lv_at hl 2 rfl) ?_
                change W _ _ _ _ _ _ _ _ _ _ _ _ _ _ _ (F0 m 177 ls _)
                refine lv_iconst (v := 1) hx hb dX7_dredger_177 (by decide) ?_
                refine lv_icmp_ne (tgt := 185) hx hb dX7_dredger_178 (by decide) (fun _ => ?_) (fun zc178 => absurd zc178 zc21)
                refine lv_aload_n hx hb dX7_dredger_185 rfl (lv_at hl 1 rfl) ?_
                refine gf7_66 X w dX7_dredger_186 ?_
                refine pf7_66 X w dX7_dredger_189 (fun zs189_3 H locs ezs189_3 w => ?_)
                refine lv_aload_n hx hb dX7_dredger_192 rfl (lv_at hl 1 rfl) ?_
                refine lv_iload_n hx hb dX7_dredger_193 rfl (lv_at hl 2 rfl) ?_
                refine lv_iconst (v := 2) hx hb dX7_dredger_194 (by decide) ?_
                refine lv_icmp_ne (tgt := 202) hx hb dX7_dredger_195 (by decide) (fun zc195 => absurd zc81 zc195) (fun _ => ?_)
                refine lv_iload_n hx hb dX7_dredger_198 rfl (lv_at hl 3 rfl) ?_
                refine lv_goto (tgt := 206) hx hb dX7_dredger_199 (by decide) ?_
                refine pf7_173 X w dX7_dredger_206 (fun zs206_3 H locs ezs206_3 w => ?_)
                change W _ _ _ _ _ _ _ _ _ _ _ _ _ _ _ (F0 m 209 ls _)
                refine lv_aload_n hx hb dX7_dredger_209 rfl (lv_at hl 1 rfl) ?_
                refine lv_iload_n hx hb dX7_dredger_210 rfl (lv_at hl 2 rfl) ?_
                refine lv_iconst (v := 3) hx hb dX7_dredger_211 (by decide) ?_
                refine lv_icmp_ne (tgt := 219) hx hb dX7_dredger_212 (by decide) (fun _ => ?_) (fun zc212 => absurd zc212 zc40)
                refine lv_aload_n hx hb dX7_dredger_219 rfl (lv_at hl 1 rfl) ?_
                refine gf7_176 X w dX7_dredger_220 ?_
                refine pf7_176 X w dX7_dredger_223 (fun zs223_3 H locs ezs223_3 w => ?_)
                refine lv_aload_n hx hb dX7_dredger_226 rfl (lv_at hl 1 rfl) ?_
                refine lv_iload_n hx hb dX7_dredger_227 rfl (lv_at hl 2 rfl) ?_
                refine lv_iconst (v := 4) hx hb dX7_dredger_228 (by decide) ?_
                refine lv_icmp_ne (tgt := 236) hx hb dX7_dredger_229 (by decide) (fun _ => ?_) (fun zc229 => absurd zc229 (by rw [zc81]; decide))
                refine lv_aload_n hx hb dX7_dredger_236 rfl (lv_at hl 1 rfl) ?_
                change W _ _ _ _ _ _ _ _ _ _ _ _ _ _ _ (F0 m 237 ls _)
                refine gf7_69 X w dX7_dredger_237 ?_
                refine pf7_69 X w dX7_dredger_240 (fun zs240_3 H locs ezs240_3 w => ?_)
                refine lv_iload_n hx hb dX7_dredger_243 rfl (lv_at hl 0 rfl) ?_
                exact t_i X w hr hlk dX7_dredger_244 (by replace ezs240_3 := ezs240_3.symm; subst ezs240_3; replace ezs223_3 := ezs223_3.symm; subst ezs223_3; replace ezs206_3 := ezs206_3.symm; subst ezs206_3; replace ezs189_3 := ezs189_3.symm; subst ezs189_3; replace ezs172_3 := ezs172_3.symm; subst ezs172_3; replace ezv158_3 := ezv158_3.symm; subst ezv158_3; simp only [f_X7_dredger, if_neg zc9, if_neg zc21, if_neg zc40, if_pos zc58, if_neg zc69, if_pos zc81, if_neg zc86]) (by replace ezs240_3 := ezs240_3.symm; subst ezs240_3; replace ezs223_3 := ezs223_3.symm; subst ezs223_3; replace ezs206_3 := ezs206_3.symm; subst ezs206_3; replace ezs189_3 := ezs189_3.symm; subst ezs189_3; replace ezs172_3 := ezs172_3.symm; subst ezs172_3; replace ezv158_3 := ezv158_3.symm; subst ezv158_3; simp only [g_X7_dredger, if_neg zc9, if_neg zc21, if_neg zc40, if_pos zc58, if_neg zc69, if_pos zc81, if_neg zc86])
          · -- 72
            refine lv_iload_n hx hb dX7_dredger_72 rfl (lv_at hl 2 rfl) ?_
            refine lv_sipush (v := 999) hx hb dX7_dredger_73 (by decide) ?_
            refine lv_icmp_gt (tgt := 100) hx hb dX7_dredger_76 (by decide) (fun zc76 => ?_) (fun zc76 => ?_)
            · -- 100
              refine lv_aload_n hx hb dX7_dredger_100 rfl (lv_at hl 0 rfl) ?_
              refine lv_bipush (v := (-6)) hx hb dX7_dredger_101 (by decide) ?_
              refine k_i (rr_v (rest := []) X w mX7_refuse kw872 (c_X7_refuse (-6) (vin_lit (by decide +kernel))) m4_0 rfl rfl ⟨Nat.le_of_ble_eq_true rfl, Nat.le_of_ble_eq_true rfl⟩ rfl hl.1 rfl (Nat.le_of_ble_eq_true rfl) dX7_dredger_103 ⟨Nat.zero_le _, Nat.zero_le _⟩) w (fun H locs w => ?_)
              obtain ⟨zs103_3, ezs103_3⟩ : ∃ y : Gr, y = g_X7_refuse ρ (-6) := ⟨_, rfl⟩; rw [← ezs103_3] at w
              exact t_i X w hr hlk dX7_dredger_106 (by replace ezs103_3 := ezs103_3.symm; subst ezs103_3; simp only [f_X7_dredger, if_neg zc9, if_neg zc21, if_neg zc40, if_pos zc58, if_pos zc69, if_pos zc76]) (by replace ezs103_3 := ezs103_3.symm; subst ezs103_3; simp only [g_X7_dredger, if_neg zc9, if_neg zc21, if_neg zc40, if_pos zc58, if_pos zc69, if_pos zc76])
            · -- 79
              refine lv_iload_n hx hb dX7_dredger_79 rfl (lv_at hl 1 rfl) ?_
              refine lv_iconst (v := 2) hx hb dX7_dredger_80 (by decide) ?_
              refine lv_icmp_ne (tgt := 89) hx hb dX7_dredger_81 (by decide) (fun _ => ?_) (fun zc81 => absurd zc81 (by rw [zc69]; decide))
              refine lv_iload_n hx hb dX7_dredger_89 rfl (lv_at hl 1 rfl) ?_
              refine lv_iconst (v := 4) hx hb dX7_dredger_90 (by decide) ?_
              refine lv_icmp_ne (tgt := 107) hx hb dX7_dredger_91 (by decide) (fun _ => ?_) (fun zc91 => absurd zc91 (by rw [zc69]; decide))
              refine lv_iload_n hx hb dX7_dredger_107 rfl (lv_at hl 1 rfl) ?_
              refine lv_if_ne (tgt := 118) hx hb dX7_dredger_108 (by decide) (fun zc108 => absurd zc69 zc108) (fun _ => ?_)
              refine lv_aload_n hx hb dX7_dredger_111 rfl (lv_at hl 0 rfl) ?_
              refine gf7_170 X w dX7_dredger_112 ?_
              refine lv_goto (tgt := 158) hx hb dX7_dredger_115 (by decide) ?_
              change W _ _ _ _ _ _ _ _ _ _ _ _ _ _ _ (F0 m 158 ls _)
              refine lv_topi (fun zv158_4 ezv158_4 => ?_)
              refine lv_istore_n (lv' := [(3, .int zv158_4), (0, .ref (aa G 4 0)), (1, .int x1), (2, .int x2)]) hx hb dX7_dredger_158 rfl hl (by decide) rfl (fun ls hl => ?_)
              refine lv_aload_n hx hb dX7_dredger_159 rfl (lv_at hl 1 rfl) ?_
              refine lv_iload_n hx hb dX7_dredger_160 rfl (lv_at hl 2 rfl) ?_
              refine lv_if_ne (tgt := 168) hx hb dX7_dredger_161 (by decide) (fun zc161 => absurd zc69 zc161) (fun _ => ?_)
              refine lv_iload_n hx hb dX7_dredger_164 rfl (lv_at hl 3 rfl) ?_
              refine lv_goto (tgt := 172) hx hb dX7_dredger_165 (by decide) ?_
              refine pf7_170 X w dX7_dredger_172 (fun zs172_4 H locs ezs172_4 w => ?_)
              refine lv_aload_n hx hb dX7_dredger_175 rfl (lv_at hl 1 rfl) ?_
              refine lv_iload_n hx hb dX7_dredger_176 rfl (lv_at hl 2 rfl) ?_
              refine lv_iconst (v := 1) hx hb dX7_dredger_177 (by decide) ?_
              refine lv_icmp_ne (tgt := 185) hx hb dX7_dredger_178 (by decide) (fun _ => ?_) (fun zc178 => absurd zc178 zc21)
              refine lv_aload_n hx hb dX7_dredger_185 rfl (lv_at hl 1 rfl) ?_
              change W _ _ _ _ _ _ _ _ _ _ _ _ _ _ _ (F0 m 186 ls _)
              refine gf7_66 X w dX7_dredger_186 ?_
              refine pf7_66 X w dX7_dredger_189 (fun zs189_4 H locs ezs189_4 w => ?_)
              refine lv_aload_n hx hb dX7_dredger_192 rfl (lv_at hl 1 rfl) ?_
              refine lv_iload_n hx hb dX7_dredger_193 rfl (lv_at hl 2 rfl) ?_
              refine lv_iconst (v := 2) hx hb dX7_dredger_194 (by decide) ?_
              refine lv_icmp_ne (tgt := 202) hx hb dX7_dredger_195 (by decide) (fun _ => ?_) (fun zc195 => absurd zc195 (by rw [zc69]; decide))
              refine lv_aload_n hx hb dX7_dredger_202 rfl (lv_at hl 1 rfl) ?_
              refine gf7_173 X w dX7_dredger_203 ?_
              refine pf7_173 X w dX7_dredger_206 (fun zs206_4 H locs ezs206_4 w => ?_)
              refine lv_aload_n hx hb dX7_dredger_209 rfl (lv_at hl 1 rfl) ?_
              refine lv_iload_n hx hb dX7_dredger_210 rfl (lv_at hl 2 rfl) ?_
              refine lv_iconst (v := 3) hx hb dX7_dredger_211 (by decide) ?_
              change W _ _ _ _ _ _ _ _ _ _ _ _ _ _ _ (F0 m 212 ls _)
              refine lv_icmp_ne (tgt := 219) hx hb dX7_dredger_212 (by decide) (fun _ => ?_) (fun zc212 => absurd zc212 zc40)
              refine lv_aload_n hx hb dX7_dredger_219 rfl (lv_at hl 1 rfl) ?_
              refine gf7_176 X w dX7_dredger_220 ?_
              refine pf7_176 X w dX7_dredger_223 (fun zs223_4 H locs ezs223_4 w => ?_)
              refine lv_aload_n hx hb dX7_dredger_226 rfl (lv_at hl 1 rfl) ?_
              refine lv_iload_n hx hb dX7_dredger_227 rfl (lv_at hl 2 rfl) ?_
              refine lv_iconst (v := 4) hx hb dX7_dredger_228 (by decide) ?_
              refine lv_icmp_ne (tgt := 236) hx hb dX7_dredger_229 (by decide) (fun _ => ?_) (fun zc229 => absurd zc229 (by rw [zc69]; decide))
              refine lv_aload_n hx hb dX7_dredger_236 rfl (lv_at hl 1 rfl) ?_
              refine gf7_69 X w dX7_dredger_237 ?_
              refine pf7_69 X w dX7_dredger_240 (fun zs240_4 H locs ezs240_4 w => ?_)
              refine lv_iload_n hx hb dX7_dredger_243 rfl (lv_at hl 0 rfl) ?_
              change W _ _ _ _ _ _ _ _ _ _ _ _ _ _ _ (F0 m 244 ls _)
              exact t_i X w hr hlk dX7_dredger_244 (by replace ezs240_4 := ezs240_4.symm; subst ezs240_4; replace ezs223_4 := ezs223_4.symm; subst ezs223_4; replace ezs206_4 := ezs206_4.symm; subst ezs206_4; replace ezs189_4 := ezs189_4.symm; subst ezs189_4; replace ezs172_4 := ezs172_4.symm; subst ezs172_4; replace ezv158_4 := ezv158_4.symm; subst ezv158_4; simp only [f_X7_dredger, if_neg zc9, if_neg zc21, if_neg zc40, if_pos zc58, if_pos zc69, if_neg zc76]) (by replace ezs240_4 := ezs240_4.symm; subst ezs240_4; replace ezs223_4 := ezs223_4.symm; subst ezs223_4; replace ezs206_4 := ezs206_4.symm; subst ezs206_4; replace ezs189_4 := ezs189_4.symm; subst ezs189_4; replace ezs172_4 := ezs172_4.symm; subst ezs172_4; replace ezv158_4 := ezv158_4.symm; subst ezv158_4; simp only [g_X7_dredger, if_neg zc9, if_neg zc21, if_neg zc40, if_pos zc58, if_pos zc69, if_neg zc76])
        · -- 61
          refine lv_aload_n hx hb dX7_dredger_61 rfl (lv_at hl 0 rfl) ?_
          refine lv_bipush (v := (-4)) hx hb dX7_dredger_62 (by decide) ?_
          refine k_i (rr_v (rest := []) X w mX7_refuse kw872 (c_X7_refuse (-4) (vin_lit (by decide +kernel))) m4_0 rfl rfl ⟨Nat.le_of_ble_eq_true rfl, Nat.le_of_ble_eq_true rfl⟩ rfl hl.1 rfl (Nat.le_of_ble_eq_true rfl) dX7_dredger_64 ⟨Nat.zero_le _, Nat.zero_le _⟩) w (fun H locs w => ?_)
          obtain ⟨zs64, ezs64⟩ : ∃ y : Gr, y = g_X7_refuse ρ (-4) := ⟨_, rfl⟩; rw [← ezs64] at w
          exact t_i X w hr hlk dX7_dredger_67 (by replace ezs64 := ezs64.symm; subst ezs64; simp only [f_X7_dredger, if_neg zc9, if_neg zc21, if_neg zc40, if_neg zc58]) (by replace ezs64 := ezs64.symm; subst ezs64; simp only [g_X7_dredger, if_neg zc9, if_neg zc21, if_neg zc40, if_neg zc58])
      · -- 43
        refine lv_aload_n hx hb dX7_dredger_43 rfl (lv_at hl 0 rfl) ?_
        refine lv_iload_n hx hb dX7_dredger_44 rfl (lv_at hl 2 rfl) ?_
        refine k_i (rr_v (rest := []) X w mX7_isCell kw884 (c_X7_isCell x2) m4_0 rfl rfl ⟨Nat.le_of_ble_eq_true rfl, Nat.le_of_ble_eq_true rfl⟩ rfl hl.1 rfl (Nat.le_of_ble_eq_true rfl) dX7_dredger_45 ⟨Nat.zero_le _, Nat.zero_le _⟩) w (fun H locs w => ?_)
        refine lv_if_ne (tgt := 57) hx hb dX7_dredger_48 (by decide) (fun zc48 => ?_) (fun zc48 => ?_)
        · -- 57
          refine lv_iload_n hx hb dX7_dredger_57 rfl (lv_at hl 2 rfl) ?_
          refine lv_if_ge (tgt := 68) hx hb dX7_dredger_58 (by decide) (fun zc58 => ?_) (fun zc58 => ?_)
          · -- 68
            refine lv_iload_n hx hb dX7_dredger_68 rfl (lv_at hl 1 rfl) ?_
            refine lv_if_ne (tgt := 79) hx hb dX7_dredger_69 (by decide) (fun _ => ?_) (fun zc69 => absurd zc69 (by rw [zc40]; decide))
            refine lv_iload_n hx hb dX7_dredger_79 rfl (lv_at hl 1 rfl) ?_
            refine lv_iconst (v := 2) hx hb dX7_dredger_80 (by decide) ?_
            refine lv_icmp_ne (tgt := 89) hx hb dX7_dredger_81 (by decide) (fun _ => ?_) (fun zc81 => absurd zc81 (by rw [zc40]; decide))
            refine lv_iload_n hx hb dX7_dredger_89 rfl (lv_at hl 1 rfl) ?_
            refine lv_iconst (v := 4) hx hb dX7_dredger_90 (by decide) ?_
            refine lv_icmp_ne (tgt := 107) hx hb dX7_dredger_91 (by decide) (fun _ => ?_) (fun zc91 => absurd zc91 (by rw [zc40]; decide))
            refine lv_iload_n hx hb dX7_dredger_107 rfl (lv_at hl 1 rfl) ?_
            refine lv_if_ne (tgt := 118) hx hb dX7_dredger_108 (by decide) (fun _ => ?_) (fun zc108 => absurd zc108 (by rw [zc40]; decide))
            refine lv_iload_n hx hb dX7_dredger_118 rfl (lv_at hl 1 rfl) ?_
            change W _ _ _ _ _ _ _ _ _ _ _ _ _ _ _ (F0 m 119 ls _)
            refine lv_iconst (v := 1) hx hb dX7_dredger_119 (by decide) ?_
            refine lv_icmp_ne (tgt := 130) hx hb dX7_dredger_120 (by decide) (fun _ => ?_) (fun zc120 => absurd zc120 zc21)
            refine lv_iload_n hx hb dX7_dredger_130 rfl (lv_at hl 1 rfl) ?_
            refine lv_iconst (v := 2) hx hb dX7_dredger_131 (by decide) ?_
            refine lv_icmp_ne (tgt := 142) hx hb dX7_dredger_132 (by decide) (fun _ => ?_) (fun zc132 => absurd zc132 (by rw [zc40]; decide))
            refine lv_iload_n hx hb dX7_dredger_142 rfl (lv_at hl 1 rfl) ?_
            refine lv_iconst (v := 3) hx hb dX7_dredger_143 (by decide) ?_
            refine lv_icmp_ne (tgt := 154) hx hb dX7_dredger_144 (by decide) (fun zc144 => absurd zc40 zc144) (fun _ => ?_)
            refine lv_aload_n hx hb dX7_dredger_147 rfl (lv_at hl 0 rfl) ?_
            refine gf7_176 X w dX7_dredger_148 ?_
            refine lv_goto (tgt := 158) hx hb dX7_dredger_151 (by decide) ?_
            refine lv_topi (fun zv158_5 ezv158_5 => ?_)
            refine lv_istore_n (lv' := [(3, .int zv158_5), (0, .ref (aa G 4 0)), (1, .int x1), (2, .int x2)]) hx hb dX7_dredger_158 rfl hl (by decide) rfl (fun ls hl => ?_)
            change W _ _ _ _ _ _ _ _ _ _ _ _ _ _ _ (F0 m 159 ls _)
            refine lv_aload_n hx hb dX7_dredger_159 rfl (lv_at hl 1 rfl) ?_
            refine lv_iload_n hx hb dX7_dredger_160 rfl (lv_at hl 2 rfl) ?_
            refine lv_if_ne (tgt := 168) hx hb dX7_dredger_161 (by decide) (fun _ => ?_) (fun zc161 => absurd zc161 (by rw [zc40]; decide))
            refine lv_aload_n hx hb dX7_dredger_168 rfl (lv_at hl 1 rfl) ?_
            refine gf7_170 X w dX7_dredger_169 ?_
            refine pf7_170 X w dX7_dredger_172 (fun zs172_5 H locs ezs172_5 w => ?_)
            refine lv_aload_n hx hb dX7_dredger_175 rfl (lv_at hl 1 rfl) ?_
            refine lv_iload_n hx hb dX7_dredger_176 rfl (lv_at hl 2 rfl) ?_
            refine lv_iconst (v := 1) hx hb dX7_dredger_177 (by decide) ?_
            refine lv_icmp_ne (tgt := 185) hx hb dX7_dredger_178 (by decide) (fun _ => ?_) (fun zc178 => absurd zc178 zc21)
            refine lv_aload_n hx hb dX7_dredger_185 rfl (lv_at hl 1 rfl) ?_
            refine gf7_66 X w dX7_dredger_186 ?_
            change W _ _ _ _ _ _ _ _ _ _ _ _ _ _ _ (F0 m 189 ls _)
            refine pf7_66 X w dX7_dredger_189 (fun zs189_5 H locs ezs189_5 w => ?_)
            refine lv_aload_n hx hb dX7_dredger_192 rfl (lv_at hl 1 rfl) ?_
            refine lv_iload_n hx hb dX7_dredger_193 rfl (lv_at hl 2 rfl) ?_
            refine lv_iconst (v := 2) hx hb dX7_dredger_194 (by decide) ?_
            refine lv_icmp_ne (tgt := 202) hx hb dX7_dredger_195 (by decide) (fun _ => ?_) (fun zc195 => absurd zc195 (by rw [zc40]; decide))
            refine lv_aload_n hx hb dX7_dredger_202 rfl (lv_at hl 1 rfl) ?_
            refine gf7_173 X w dX7_dredger_203 ?_
            refine pf7_173 X w dX7_dredger_206 (fun zs206_5 H locs ezs206_5 w => ?_)
            refine lv_aload_n hx hb dX7_dredger_209 rfl (lv_at hl 1 rfl) ?_
            refine lv_iload_n hx hb dX7_dredger_210 rfl (lv_at hl 2 rfl) ?_
            refine lv_iconst (v := 3) hx hb dX7_dredger_211 (by decide) ?_
            refine lv_icmp_ne (tgt := 219) hx hb dX7_dredger_212 (by decide) (fun zc212 => absurd zc40 zc212) (fun _ => ?_)
            change W _ _ _ _ _ _ _ _ _ _ _ _ _ _ _ (F0 m 215 ls _)
            refine lv_iload_n hx hb dX7_dredger_215 rfl (lv_at hl 3 rfl) ?_
            refine lv_goto (tgt := 223) hx hb dX7_dredger_216 (by decide) ?_
            refine pf7_176 X w dX7_dredger_223 (fun zs223_5 H locs ezs223_5 w => ?_)
            refine lv_aload_n hx hb dX7_dredger_226 rfl (lv_at hl 1 rfl) ?_
            refine lv_iload_n hx hb dX7_dredger_227 rfl (lv_at hl 2 rfl) ?_
            refine lv_iconst (v := 4) hx hb dX7_dredger_228 (by decide) ?_
            refine lv_icmp_ne (tgt := 236) hx hb dX7_dredger_229 (by decide) (fun _ => ?_) (fun zc229 => absurd zc229 (by rw [zc40]; decide))
            refine lv_aload_n hx hb dX7_dredger_236 rfl (lv_at hl 1 rfl) ?_
            refine gf7_69 X w dX7_dredger_237 ?_
            refine pf7_69 X w dX7_dredger_240 (fun zs240_5 H locs ezs240_5 w => ?_)
            refine lv_iload_n hx hb dX7_dredger_243 rfl (lv_at hl 0 rfl) ?_
            exact t_i X w hr hlk dX7_dredger_244 (by replace ezs240_5 := ezs240_5.symm; subst ezs240_5; replace ezs223_5 := ezs223_5.symm; subst ezs223_5; replace ezs206_5 := ezs206_5.symm; subst ezs206_5; replace ezs189_5 := ezs189_5.symm; subst ezs189_5; replace ezs172_5 := ezs172_5.symm; subst ezs172_5; replace ezv158_5 := ezv158_5.symm; subst ezv158_5; simp only [f_X7_dredger, if_neg zc9, if_neg zc21, if_pos zc40, if_neg zc48, if_pos zc58]) (by replace ezs240_5 := ezs240_5.symm; subst ezs240_5; replace ezs223_5 := ezs223_5.symm; subst ezs223_5; replace ezs206_5 := ezs206_5.symm; subst ezs206_5; replace ezs189_5 := ezs189_5.symm; subst ezs189_5; replace ezs172_5 := ezs172_5.symm; subst ezs172_5; replace ezv158_5 := ezv158_5.symm; subst ezv158_5; simp only [g_X7_dredger, if_neg zc9, if_neg zc21, if_pos zc40, if_neg zc48, if_pos zc58])
          · -- 61
            refine lv_aload_n hx hb dX7_dredger_61 rfl (lv_at hl 0 rfl) ?_
            refine lv_bipush (v := (-4)) hx hb dX7_dredger_62 (by decide) ?_
            refine k_i (rr_v (rest := []) X w mX7_refuse kw872 (c_X7_refuse (-4) (vin_lit (by decide +kernel))) m4_0 rfl rfl ⟨Nat.le_of_ble_eq_true rfl, Nat.le_of_ble_eq_true rfl⟩ rfl hl.1 rfl (Nat.le_of_ble_eq_true rfl) dX7_dredger_64 ⟨Nat.zero_le _, Nat.zero_le _⟩) w (fun H locs w => ?_)
            obtain ⟨zs64_2, ezs64_2⟩ : ∃ y : Gr, y = g_X7_refuse ρ (-4) := ⟨_, rfl⟩; rw [← ezs64_2] at w
            exact t_i X w hr hlk dX7_dredger_67 (by replace ezs64_2 := ezs64_2.symm; subst ezs64_2; simp only [f_X7_dredger, if_neg zc9, if_neg zc21, if_pos zc40, if_neg zc48, if_neg zc58]) (by replace ezs64_2 := ezs64_2.symm; subst ezs64_2; simp only [g_X7_dredger, if_neg zc9, if_neg zc21, if_pos zc40, if_neg zc48, if_neg zc58])
        · -- 51
          refine lv_aload_n hx hb dX7_dredger_51 rfl (lv_at hl 0 rfl) ?_
          refine lv_iconst (v := (-1)) hx hb dX7_dredger_52 (by decide) ?_
          refine k_i (rr_v (rest := []) X w mX7_refuse kw872 (c_X7_refuse (-1) (vin_lit (by decide +kernel))) m4_0 rfl rfl ⟨Nat.le_of_ble_eq_true rfl, Nat.le_of_ble_eq_true rfl⟩ rfl hl.1 rfl (Nat.le_of_ble_eq_true rfl) dX7_dredger_53 ⟨Nat.zero_le _, Nat.zero_le _⟩) w (fun H locs w => ?_)
          obtain ⟨zs53, ezs53⟩ : ∃ y : Gr, y = g_X7_refuse ρ (-1) := ⟨_, rfl⟩; rw [← ezs53] at w
          exact t_i X w hr hlk dX7_dredger_56 (by replace ezs53 := ezs53.symm; subst ezs53; simp only [f_X7_dredger, if_neg zc9, if_neg zc21, if_pos zc40, if_pos zc48]) (by replace ezs53 := ezs53.symm; subst ezs53; simp only [g_X7_dredger, if_neg zc9, if_neg zc21, if_pos zc40, if_pos zc48])
    · -- 24
      refine lv_iload_n hx hb dX7_dredger_24 rfl (lv_at hl 2 rfl) ?_
      refine lv_bipush (v := 8) hx hb dX7_dredger_25 (by decide) ?_
      refine lv_icmp_eq (tgt := 38) hx hb dX7_dredger_27 (by decide) (fun zc27 => ?_) (fun zc27 => ?_)
      · -- 38
        refine lv_iload_n hx hb dX7_dredger_38 rfl (lv_at hl 1 rfl) ?_
        refine lv_iconst (v := 3) hx hb dX7_dredger_39 (by decide) ?_
        refine lv_icmp_ne (tgt := 57) hx hb dX7_dredger_40 (by decide) (fun _ => ?_) (fun zc40 => absurd zc40 (by rw [zc21]; decide))
        refine lv_iload_n hx hb dX7_dredger_57 rfl (lv_at hl 2 rfl) ?_
        refine lv_if_ge (tgt := 68) hx hb dX7_dredger_58 (by decide) (fun _ => ?_) (fun zc58 => absurd (by rw [zc27]; decide) zc58)
        refine lv_iload_n hx hb dX7_dredger_68 rfl (lv_at hl 1 rfl) ?_
        refine lv_if_ne (tgt := 79) hx hb dX7_dredger_69 (by decide) (fun _ => ?_) (fun zc69 => absurd zc69 (by rw [zc21]; decide))
        refine lv_iload_n hx hb dX7_dredger_79 rfl (lv_at hl 1 rfl) ?_
        refine lv_iconst (v := 2) hx hb dX7_dredger_80 (by decide) ?_
        refine lv_icmp_ne (tgt := 89) hx hb dX7_dredger_81 (by decide) (fun _ => ?_) (fun zc81 => absurd zc81 (by rw [zc21]; decide))
        refine lv_iload_n hx hb dX7_dredger_89 rfl (lv_at hl 1 rfl) ?_
        change W _ _ _ _ _ _ _ _ _ _ _ _ _ _ _ (F0 m 90 ls _)
        refine lv_iconst (v := 4) hx hb dX7_dredger_90 (by decide) ?_
        refine lv_icmp_ne (tgt := 107) hx hb dX7_dredger_91 (by decide) (fun _ => ?_) (fun zc91 => absurd zc91 (by rw [zc21]; decide))
        refine lv_iload_n hx hb dX7_dredger_107 rfl (lv_at hl 1 rfl) ?_
        refine lv_if_ne (tgt := 118) hx hb dX7_dredger_108 (by decide) (fun _ => ?_) (fun zc108 => absurd zc108 (by rw [zc21]; decide))
        refine lv_iload_n hx hb dX7_dredger_118 rfl (lv_at hl 1 rfl) ?_
        refine lv_iconst (v := 1) hx hb dX7_dredger_119 (by decide) ?_
        refine lv_icmp_ne (tgt := 130) hx hb dX7_dredger_120 (by decide) (fun zc120 => absurd zc21 zc120) (fun _ => ?_)
        refine lv_aload_n hx hb dX7_dredger_123 rfl (lv_at hl 0 rfl) ?_
        refine gf7_66 X w dX7_dredger_124 ?_
        refine lv_goto (tgt := 158) hx hb dX7_dredger_127 (by decide) ?_
        refine lv_topi (fun zv158_6 ezv158_6 => ?_)
        refine lv_istore_n (lv' := [(3, .int zv158_6), (0, .ref (aa G 4 0)), (1, .int x1), (2, .int x2)]) hx hb dX7_dredger_158 rfl hl (by decide) rfl (fun ls hl => ?_)
        refine lv_aload_n hx hb dX7_dredger_159 rfl (lv_at hl 1 rfl) ?_
        change W _ _ _ _ _ _ _ _ _ _ _ _ _ _ _ (F0 m 160 ls _)
        refine lv_iload_n hx hb dX7_dredger_160 rfl (lv_at hl 2 rfl) ?_
        refine lv_if_ne (tgt := 168) hx hb dX7_dredger_161 (by decide) (fun _ => ?_) (fun zc161 => absurd zc161 (by rw [zc21]; decide))
        refine lv_aload_n hx hb dX7_dredger_168 rfl (lv_at hl 1 rfl) ?_
        refine gf7_170 X w dX7_dredger_169 ?_
        refine pf7_170 X w dX7_dredger_172 (fun zs172_6 H locs ezs172_6 w => ?_)
        refine lv_aload_n hx hb dX7_dredger_175 rfl (lv_at hl 1 rfl) ?_
        refine lv_iload_n hx hb dX7_dredger_176 rfl (lv_at hl 2 rfl) ?_
        refine lv_iconst (v := 1) hx hb dX7_dredger_177 (by decide) ?_
        refine lv_icmp_ne (tgt := 185) hx hb dX7_dredger_178 (by decide) (fun zc178 => absurd zc21 zc178) (fun _ => ?_)
        refine lv_iload_n hx hb dX7_dredger_181 rfl (lv_at hl 3 rfl) ?_
        refine lv_goto (tgt := 189) hx hb dX7_dredger_182 (by decide) ?_
        refine pf7_66 X w dX7_dredger_189 (fun zs189_6 H locs ezs189_6 w => ?_)
        change W _ _ _ _ _ _ _ _ _ _ _ _ _ _ _ (F0 m 192 ls _)
        refine lv_aload_n hx hb dX7_dredger_192 rfl (lv_at hl 1 rfl) ?_
        refine lv_iload_n hx hb dX7_dredger_193 rfl (lv_at hl 2 rfl) ?_
        refine lv_iconst (v := 2) hx hb dX7_dredger_194 (by decide) ?_
        refine lv_icmp_ne (tgt := 202) hx hb dX7_dredger_195 (by decide) (fun _ => ?_) (fun zc195 => absurd zc195 (by rw [zc21]; decide))
        refine lv_aload_n hx hb dX7_dredger_202 rfl (lv_at hl 1 rfl) ?_
        refine gf7_173 X w dX7_dredger_203 ?_
        refine pf7_173 X w dX7_dredger_206 (fun zs206_6 H locs ezs206_6 w => ?_)
        refine lv_aload_n hx hb dX7_dredger_209 rfl (lv_at hl 1 rfl) ?_
        refine lv_iload_n hx hb dX7_dredger_210 rfl (lv_at hl 2 rfl) ?_
        refine lv_iconst (v := 3) hx hb dX7_dredger_211 (by decide) ?_
        refine lv_icmp_ne (tgt := 219) hx hb dX7_dredger_212 (by decide) (fun _ => ?_) (fun zc212 => absurd zc212 (by rw [zc21]; decide))
        refine lv_aload_n hx hb dX7_dredger_219 rfl (lv_at hl 1 rfl) ?_
        change W _ _ _ _ _ _ _ _ _ _ _ _ _ _ _ (F0 m 220 ls _)
        refine gf7_176 X w dX7_dredger_220 ?_
        refine pf7_176 X w dX7_dredger_223 (fun zs223_6 H locs ezs223_6 w => ?_)
        refine lv_aload_n hx hb dX7_dredger_226 rfl (lv_at hl 1 rfl) ?_
        refine lv_iload_n hx hb dX7_dredger_227 rfl (lv_at hl 2 rfl) ?_
        refine lv_iconst (v := 4) hx hb dX7_dredger_228 (by decide) ?_
        refine lv_icmp_ne (tgt := 236) hx hb dX7_dredger_229 (by decide) (fun _ => ?_) (fun zc229 => absurd zc229 (by rw [zc21]; decide))
        refine lv_aload_n hx hb dX7_dredger_236 rfl (lv_at hl 1 rfl) ?_
        refine gf7_69 X w dX7_dredger_237 ?_
        refine pf7_69 X w dX7_dredger_240 (fun zs240_6 H locs ezs240_6 w => ?_)
        refine lv_iload_n hx hb dX7_dredger_243 rfl (lv_at hl 0 rfl) ?_
        exact t_i X w hr hlk dX7_dredger_244 (by replace ezs240_6 := ezs240_6.symm; subst ezs240_6; replace ezs223_6 := ezs223_6.symm; subst ezs223_6; replace ezs206_6 := ezs206_6.symm; subst ezs206_6; replace ezs189_6 := ezs189_6.symm; subst ezs189_6; replace ezs172_6 := ezs172_6.symm; subst ezs172_6; replace ezv158_6 := ezv158_6.symm; subst ezv158_6; simp only [f_X7_dredger, if_neg zc9, if_pos zc21, if_pos zc27]) (by replace ezs240_6 := ezs240_6.symm; subst ezs240_6; replace ezs223_6 := ezs223_6.symm; subst ezs223_6; replace ezs206_6 := ezs206_6.symm; subst ezs206_6; replace ezs189_6 := ezs189_6.symm; subst ezs189_6; replace ezs172_6 := ezs172_6.symm; subst ezs172_6; replace ezv158_6 := ezv158_6.symm; subst ezv158_6; simp only [g_X7_dredger, if_neg zc9, if_pos zc21, if_pos zc27])
      · -- 30
        refine lv_aload_n hx hb dX7_dredger_30 rfl (lv_at hl 0 rfl) ?_
        refine lv_iload_n hx hb dX7_dredger_31 rfl (lv_at hl 2 rfl) ?_
        refine k_i (rr_v (rest := []) X w mX7_isCell kw884 (c_X7_isCell x2) m4_0 rfl rfl ⟨Nat.le_of_ble_eq_true rfl, Nat.le_of_ble_eq_true rfl⟩ rfl hl.1 rfl (Nat.le_of_ble_eq_true rfl) dX7_dredger_32 ⟨Nat.zero_le _, Nat.zero_le _⟩) w (fun H locs w => ?_)
        refine lv_if_eq (tgt := 51) hx hb dX7_dredger_35 (by decide) (fun zc35 => ?_) (fun zc35 => ?_)
        · -- 51
          refine lv_aload_n hx hb dX7_dredger_51 rfl (lv_at hl 0 rfl) ?_
          refine lv_iconst (v := (-1)) hx hb dX7_dredger_52 (by decide) ?_
          refine k_i (rr_v (rest := []) X w mX7_refuse kw872 (c_X7_refuse (-1) (vin_lit (by decide +kernel))) m4_0 rfl rfl ⟨Nat.le_of_ble_eq_true rfl, Nat.le_of_ble_eq_true rfl⟩ rfl hl.1 rfl (Nat.le_of_ble_eq_true rfl) dX7_dredger_53 ⟨Nat.zero_le _, Nat.zero_le _⟩) w (fun H locs w => ?_)
          obtain ⟨zs53_2, ezs53_2⟩ : ∃ y : Gr, y = g_X7_refuse ρ (-1) := ⟨_, rfl⟩; rw [← ezs53_2] at w
          exact t_i X w hr hlk dX7_dredger_56 (by replace ezs53_2 := ezs53_2.symm; subst ezs53_2; simp only [f_X7_dredger, if_neg zc9, if_pos zc21, if_neg zc27, if_pos zc35]) (by replace ezs53_2 := ezs53_2.symm; subst ezs53_2; simp only [g_X7_dredger, if_neg zc9, if_pos zc21, if_neg zc27, if_pos zc35])
        · -- 38
          refine lv_iload_n hx hb dX7_dredger_38 rfl (lv_at hl 1 rfl) ?_
          refine lv_iconst (v := 3) hx hb dX7_dredger_39 (by decide) ?_
          refine lv_icmp_ne (tgt := 57) hx hb dX7_dredger_40 (by decide) (fun _ => ?_) (fun zc40 => absurd zc40 (by rw [zc21]; decide))
          refine lv_iload_n hx hb dX7_dredger_57 rfl (lv_at hl 2 rfl) ?_
          refine lv_if_ge (tgt := 68) hx hb dX7_dredger_58 (by decide) (fun zc58 => ?_) (fun zc58 => ?_)
          · -- 68
            refine lv_iload_n hx hb dX7_dredger_68 rfl (lv_at hl 1 rfl) ?_
            refine lv_if_ne (tgt := 79) hx hb dX7_dredger_69 (by decide) (fun _ => ?_) (fun zc69 => absurd zc69 (by rw [zc21]; decide))
            refine lv_iload_n hx hb dX7_dredger_79 rfl (lv_at hl 1 rfl) ?_
            refine lv_iconst (v := 2) hx hb dX7_dredger_80 (by decide) ?_
            refine lv_icmp_ne (tgt := 89) hx hb dX7_dredger_81 (by decide) (fun _ => ?_) (fun zc81 => absurd zc81 (by rw [zc21]; decide))
            refine lv_iload_n hx hb dX7_dredger_89 rfl (lv_at hl 1 rfl) ?_
            refine lv_iconst (v := 4) hx hb dX7_dredger_90 (by decide) ?_
            refine lv_icmp_ne (tgt := 107) hx hb dX7_dredger_91 (by decide) (fun _ => ?_) (fun zc91 => absurd zc91 (by rw [zc21]; decide))
            refine lv_iload_n hx hb dX7_dredger_107 rfl (lv_at hl 1 rfl) ?_
            refine lv_if_ne (tgt := 118) hx hb dX7_dredger_108 (by decide) (fun _ => ?_) (fun zc108 => absurd zc108 (by rw [zc21]; decide))
            refine lv_iload_n hx hb dX7_dredger_118 rfl (lv_at hl 1 rfl) ?_
            change W _ _ _ _ _ _ _ _ _ _ _ _ _ _ _ (F0 m 119 ls _)
            refine lv_iconst (v := 1) hx hb dX7_dredger_119 (by decide) ?_
            refine lv_icmp_ne (tgt := 130) hx hb dX7_dredger_120 (by decide) (fun zc120 => absurd zc21 zc120) (fun _ => ?_)
            refine lv_aload_n hx hb dX7_dredger_123 rfl (lv_at hl 0 rfl) ?_
            refine gf7_66 X w dX7_dredger_124 ?_
            refine lv_goto (tgt := 158) hx hb dX7_dredger_127 (by decide) ?_
            refine lv_topi (fun zv158_7 ezv158_7 => ?_)
            refine lv_istore_n (lv' := [(3, .int zv158_7), (0, .ref (aa G 4 0)), (1, .int x1), (2, .int x2)]) hx hb dX7_dredger_158 rfl hl (by decide) rfl (fun ls hl => ?_)
            refine lv_aload_n hx hb dX7_dredger_159 rfl (lv_at hl 1 rfl) ?_
            refine lv_iload_n hx hb dX7_dredger_160 rfl (lv_at hl 2 rfl) ?_
            refine lv_if_ne (tgt := 168) hx hb dX7_dredger_161 (by decide) (fun _ => ?_) (fun zc161 => absurd zc161 (by rw [zc21]; decide))
            refine lv_aload_n hx hb dX7_dredger_168 rfl (lv_at hl 1 rfl) ?_
            refine gf7_170 X w dX7_dredger_169 ?_
            refine pf7_170 X w dX7_dredger_172 (fun zs172_7 H locs ezs172_7 w => ?_)
            change W _ _ _ _ _ _ _ _ _ _ _ _ _ _ _ (F0 m 175 ls _)
            refine lv_aload_n hx hb dX7_dredger_175 rfl (lv_at hl 1 rfl) ?_
            refine lv_iload_n hx hb dX7_dredger_176 rfl (lv_at hl 2 rfl) ?_
            refine lv_iconst (v := 1) hx hb dX7_dredger_177 (by decide) ?_
            refine lv_icmp_ne (tgt := 185) hx hb dX7_dredger_178 (by decide) (fun zc178 => absurd zc21 zc178) (fun _ => ?_)
            refine lv_iload_n hx hb dX7_dredger_181 rfl (lv_at hl 3 rfl) ?_
            refine lv_goto (tgt := 189) hx hb dX7_dredger_182 (by decide) ?_
            refine pf7_66 X w dX7_dredger_189 (fun zs189_7 H locs ezs189_7 w => ?_)
            refine lv_aload_n hx hb dX7_dredger_192 rfl (lv_at hl 1 rfl) ?_
            refine lv_iload_n hx hb dX7_dredger_193 rfl (lv_at hl 2 rfl) ?_
            refine lv_iconst (v := 2) hx hb dX7_dredger_194 (by decide) ?_
            refine lv_icmp_ne (tgt := 202) hx hb dX7_dredger_195 (by decide) (fun _ => ?_) (fun zc195 => absurd zc195 (by rw [zc21]; decide))
            refine lv_aload_n hx hb dX7_dredger_202 rfl (lv_at hl 1 rfl) ?_
            change W _ _ _ _ _ _ _ _ _ _ _ _ _ _ _ (F0 m 203 ls _)
            refine gf7_173 X w dX7_dredger_203 ?_
            refine pf7_173 X w dX7_dredger_206 (fun zs206_7 H locs ezs206_7 w => ?_)
            refine lv_aload_n hx hb dX7_dredger_209 rfl (lv_at hl 1 rfl) ?_
            refine lv_iload_n hx hb dX7_dredger_210 rfl (lv_at hl 2 rfl) ?_
            refine lv_iconst (v := 3) hx hb dX7_dredger_211 (by decide) ?_
            refine lv_icmp_ne (tgt := 219) hx hb dX7_dredger_212 (by decide) (fun _ => ?_) (fun zc212 => absurd zc212 (by rw [zc21]; decide))
            refine lv_aload_n hx hb dX7_dredger_219 rfl (lv_at hl 1 rfl) ?_
            refine gf7_176 X w dX7_dredger_220 ?_
            refine pf7_176 X w dX7_dredger_223 (fun zs223_7 H locs ezs223_7 w => ?_)
            refine lv_aload_n hx hb dX7_dredger_226 rfl (lv_at hl 1 rfl) ?_
            refine lv_iload_n hx hb dX7_dredger_227 rfl (lv_at hl 2 rfl) ?_
            refine lv_iconst (v := 4) hx hb dX7_dredger_228 (by decide) ?_
            change W _ _ _ _ _ _ _ _ _ _ _ _ _ _ _ (F0 m 229 ls _)
            refine lv_icmp_ne (tgt := 236) hx hb dX7_dredger_229 (by decide) (fun _ => ?_) (fun zc229 => absurd zc229 (by rw [zc21]; decide))
            refine lv_aload_n hx hb dX7_dredger_236 rfl (lv_at hl 1 rfl) ?_
            refine gf7_69 X w dX7_dredger_237 ?_
            refine pf7_69 X w dX7_dredger_240 (fun zs240_7 H locs ezs240_7 w => ?_)
            refine lv_iload_n hx hb dX7_dredger_243 rfl (lv_at hl 0 rfl) ?_
            exact t_i X w hr hlk dX7_dredger_244 (by replace ezs240_7 := ezs240_7.symm; subst ezs240_7; replace ezs223_7 := ezs223_7.symm; subst ezs223_7; replace ezs206_7 := ezs206_7.symm; subst ezs206_7; replace ezs189_7 := ezs189_7.symm; subst ezs189_7; replace ezs172_7 := ezs172_7.symm; subst ezs172_7; replace ezv158_7 := ezv158_7.symm; subst ezv158_7; simp only [f_X7_dredger, if_neg zc9, if_pos zc21, if_neg zc27, if_neg zc35, if_pos zc58]) (by replace ezs240_7 := ezs240_7.symm; subst ezs240_7; replace ezs223_7 := ezs223_7.symm; subst ezs223_7; replace ezs206_7 := ezs206_7.symm; subst ezs206_7; replace ezs189_7 := ezs189_7.symm; subst ezs189_7; replace ezs172_7 := ezs172_7.symm; subst ezs172_7; replace ezv158_7 := ezv158_7.symm; subst ezv158_7; simp only [g_X7_dredger, if_neg zc9, if_pos zc21, if_neg zc27, if_neg zc35, if_pos zc58])
          · -- 61
            refine lv_aload_n hx hb dX7_dredger_61 rfl (lv_at hl 0 rfl) ?_
            refine lv_bipush (v := (-4)) hx hb dX7_dredger_62 (by decide) ?_
            refine k_i (rr_v (rest := []) X w mX7_refuse kw872 (c_X7_refuse (-4) (vin_lit (by decide +kernel))) m4_0 rfl rfl ⟨Nat.le_of_ble_eq_true rfl, Nat.le_of_ble_eq_true rfl⟩ rfl hl.1 rfl (Nat.le_of_ble_eq_true rfl) dX7_dredger_64 ⟨Nat.zero_le _, Nat.zero_le _⟩) w (fun H locs w => ?_)
            obtain ⟨zs64_3, ezs64_3⟩ : ∃ y : Gr, y = g_X7_refuse ρ (-4) := ⟨_, rfl⟩; rw [← ezs64_3] at w
            exact t_i X w hr hlk dX7_dredger_67 (by replace ezs64_3 := ezs64_3.symm; subst ezs64_3; simp only [f_X7_dredger, if_neg zc9, if_pos zc21, if_neg zc27, if_neg zc35, if_neg zc58]) (by replace ezs64_3 := ezs64_3.symm; subst ezs64_3; simp only [g_X7_dredger, if_neg zc9, if_pos zc21, if_neg zc27, if_neg zc35, if_neg zc58])
  · -- 12
    refine lv_aload_n hx hb dX7_dredger_12 rfl (lv_at hl 0 rfl) ?_
    refine lv_bipush (v := (-2)) hx hb dX7_dredger_13 (by decide) ?_
    refine k_i (rr_v (rest := []) X w mX7_refuse kw872 (c_X7_refuse (-2) (vin_lit (by decide +kernel))) m4_0 rfl rfl ⟨Nat.le_of_ble_eq_true rfl, Nat.le_of_ble_eq_true rfl⟩ rfl hl.1 rfl (Nat.le_of_ble_eq_true rfl) dX7_dredger_15 ⟨Nat.zero_le _, Nat.zero_le _⟩) w (fun H locs w => ?_)
    obtain ⟨zs15, ezs15⟩ : ∃ y : Gr, y = g_X7_refuse ρ (-2) := ⟨_, rfl⟩; rw [← ezs15] at w
    exact t_i X w hr hlk dX7_dredger_18 (by replace ezs15 := ezs15.symm; subst ezs15; simp only [f_X7_dredger, if_pos zc9]) (by replace ezs15 := ezs15.symm; subst ezs15; simp only [g_X7_dredger, if_pos zc9])

noncomputable def f_X7_takes (ρ : Gr)  : Int32 :=
  if (ρ 0 0) = 0 then
    let zs10 : Gr := g_X7_refuse ρ (-3)
    f_X7_refuse ρ (-3)
  else
    f_X7_chosen ρ (f_X7_kindAt ρ (ρ 0 21))
noncomputable def g_X7_takes (ρ : Gr)  : Gr :=
  if (ρ 0 0) = 0 then
    let zs10 : Gr := g_X7_refuse ρ (-3)
    zs10
  else
    ρ
set_option maxRecDepth 100000 in
set_option maxHeartbeats 4000000 in
theorem c_X7_takes {l : Launch} {G : GG} {σ : St} {ρ : Gr}  (B : Nat) (hB : B < 2 ^ 30) (hm : WFm B ρ) : MM l G yX7_takes cX7_takes 1 5 109 (some .int) [.ref (aa G 4 0)] (setG σ 4 ρ) (Qi G (f_X7_takes ρ) (setG σ 4 (g_X7_takes ρ))) := by
  refine MM.of (by decide) (Nat.le_of_ble_eq_true rfl) ?_
  intro p e s m below meth c ls X hr hlk w hl
  have hx := X.1.1
  have hb := X.1.2.1
  have hl : lv_has ls 1 [(0, .ref (aa G 4 0))] := hl
  refine lv_aload_n hx hb dX7_takes_0 rfl (lv_at hl 0 rfl) ?_
  refine gf7_111 X w dX7_takes_1 ?_
  refine lv_if_ne (tgt := 16) hx hb dX7_takes_4 (by decide) (fun zc4 => ?_) (fun zc4 => ?_)
  · -- 16
    refine lv_aload_n hx hb dX7_takes_16 rfl (lv_at hl 0 rfl) ?_
    refine lv_aload_n hx hb dX7_takes_17 rfl (lv_at hl 0 rfl) ?_
    refine lv_aload_n hx hb dX7_takes_18 rfl (lv_at hl 0 rfl) ?_
    refine gf7_186 X w dX7_takes_19 ?_
    refine k_i (rr_v (rest := [.ref (aa G 4 0)]) X w mX7_kindAt kw966 (c_X7_kindAt (ρ 0 21) hm.m (hm.t (by omega))) m4_0 rfl rfl ⟨Nat.le_of_ble_eq_true rfl, Nat.le_of_ble_eq_true rfl⟩ rfl hl.1 rfl (Nat.le_of_ble_eq_true rfl) dX7_takes_22 ⟨Nat.zero_le _, Nat.zero_le _⟩) w (fun H locs w => ?_)
    refine k_i (rr_v (rest := []) X w mX7_chosen kw970 (c_X7_chosen (f_X7_kindAt ρ (ρ 0 21)) hm.n) m4_0 rfl rfl ⟨Nat.le_of_ble_eq_true rfl, Nat.le_of_ble_eq_true rfl⟩ rfl hl.1 rfl (Nat.le_of_ble_eq_true rfl) dX7_takes_25 ⟨Nat.zero_le _, Nat.zero_le _⟩) w (fun H locs w => ?_)
    exact t_i X w hr hlk dX7_takes_28 (by simp only [f_X7_takes, if_neg zc4]) (by simp only [g_X7_takes, if_neg zc4])
  · -- 7
    refine lv_aload_n hx hb dX7_takes_7 rfl (lv_at hl 0 rfl) ?_
    refine lv_bipush (v := (-3)) hx hb dX7_takes_8 (by decide) ?_
    refine k_i (rr_v (rest := []) X w mX7_refuse kw872 (c_X7_refuse (-3) (vin_lit (by decide +kernel))) m4_0 rfl rfl ⟨Nat.le_of_ble_eq_true rfl, Nat.le_of_ble_eq_true rfl⟩ rfl hl.1 rfl (Nat.le_of_ble_eq_true rfl) dX7_takes_10 ⟨Nat.zero_le _, Nat.zero_le _⟩) w (fun H locs w => ?_)
    obtain ⟨zs10, ezs10⟩ : ∃ y : Gr, y = g_X7_refuse ρ (-3) := ⟨_, rfl⟩; rw [← ezs10] at w
    refine lv_goto (tgt := 28) hx hb dX7_takes_13 (by decide) ?_
    exact t_i X w hr hlk dX7_takes_28 (by replace ezs10 := ezs10.symm; subst ezs10; simp only [f_X7_takes, if_pos zc4]) (by replace ezs10 := ezs10.symm; subst ezs10; simp only [g_X7_takes, if_pos zc4])

noncomputable def b_X7_go_20 (y1 : Int32) (k : Nat) (v : Gr) : Gr :=
  let zs26 : Gr := g_X7_passTide v
  zs26
noncomputable def l_X7_go_20 (y1 : Int32) (v0 : Gr) : Gr := itn (b_X7_go_20 y1) y1.toNatClampNeg v0
noncomputable def f_X7_go (ρ : Gr) (x1 : Int32) : Int32 :=
  if 0 ≤ (f_X7_wrongTides ρ x1) then
    let zl20 : Gr := (l_X7_go_20 x1 ρ)
    zl20 0 21
  else
    let zs14 : Gr := g_X7_refuse ρ (f_X7_wrongTides ρ x1)
    f_X7_refuse ρ (f_X7_wrongTides ρ x1)
noncomputable def g_X7_go (ρ : Gr) (x1 : Int32) : Gr :=
  if 0 ≤ (f_X7_wrongTides ρ x1) then
    let zl20 : Gr := (l_X7_go_20 x1 ρ)
    zl20
  else
    let zs14 : Gr := g_X7_refuse ρ (f_X7_wrongTides ρ x1)
    zs14
set_option maxRecDepth 100000 in
set_option maxHeartbeats 4000000 in
theorem lp_X7_go_20 {l : Launch} {G : GG} {p : Program} {e : Env} {s : State} {m : MethodId} {args : Array Value} {below : List Frame} {meth : Method} {c : Code} {Q : State → Prop} {σ : St} (X : Cx p m c cX7_go 3 s args RX7 G) (y1 : Int32) (v0 : Gr) (B : Nat) (hB : B < 2 ^ 30) (hN : y1.toNatClampNeg ≤ 200)
    (kk : ∀ (H : Heap) (locs : List Loc) (ls : Array Slot), Wh G s σ 4 (l_X7_go_20 y1 v0) H locs → lv_has ls 3 [(0, .ref (aa G 4 0)), (1, .int y1), (2, .int (nI (y1.toNatClampNeg)))] → W p l e (rmv 6 129) s m args below meth c H locs 0 0 Q (F0 m 35 ls [])) :
    ∀ (n k : Nat) (v : Gr), k ≤ y1.toNatClampNeg → y1.toNatClampNeg - k < n → v = itn (b_X7_go_20 y1) k v0 → (WFm (B + k) v) → ∀ (H : Heap) (locs : List Loc) (ls : Array Slot), Wh G s σ 4 v H locs → lv_has ls 3 [(0, .ref (aa G 4 0)), (1, .int y1), (2, .int (nI k))] → W p l e (rmv 6 129) s m args below meth c H locs 0 0 Q (F0 m 20 ls []) := by
  have hx := X.1.1
  have hb := X.1.2.1
  intro n
  induction n with
  | zero => intro k v _ h; omega
  | succ n ih =>
    intro k v hkN hn ev hm H locs ls w hl
    refine lv_iload_n hx hb dX7_go_20 rfl (lv_at hl 2 rfl) ?_
    refine lv_iload_n hx hb dX7_go_21 rfl (lv_at hl 1 rfl) ?_
    refine lv_icmp_ge (tgt := 35) hx hb dX7_go_22 (by decide) (fun zc22 => ?_) (fun zc22 => ?_)
    · -- 35
      have hkE : k = y1.toNatClampNeg := lp_eq hkN zc22
      have ev2 : l_X7_go_20 y1 v0 = v := by unfold l_X7_go_20; rw [← hkE]; exact ev.symm
      rw [ev2] at kk
      rw [hkE] at hl
      exact kk _ _ _ w (lv_sub hl [0, 1, 2] rfl)
    · -- 25
      have hk : k < y1.toNatClampNeg := lp_lt hkN zc22
      refine lv_aload_n hx hb dX7_go_25 rfl (lv_at hl 0 rfl) ?_
      refine k_v (rr_v (rest := []) X w mX7_passTide kw990 (c_X7_passTide (B + k) (by omega) hm) m4_0 rfl rfl ⟨Nat.le_of_ble_eq_true rfl, Nat.le_of_ble_eq_true rfl⟩ rfl hl.1 rfl (Nat.le_of_ble_eq_true rfl) dX7_go_26 ⟨Nat.zero_le _, Nat.zero_le _⟩) w (fun H locs w => ?_)
      obtain ⟨zs26, ezs26⟩ : ∃ y : Gr, y = g_X7_passTide v := ⟨_, rfl⟩; rw [← ezs26] at w
      refine lv_iinc (v := nI (k + 1)) (lv' := [(2, .int (nI (k + 1))), (0, .ref (aa G 4 0)), (1, .int y1)]) hx hb dX7_go_29 hl (k := 2) rfl (nI_1 _) (by decide) rfl (fun ls hl => ?_)
      refine lv_goto (tgt := 20) hx hb dX7_go_32 (by decide) ?_
      exact ih (k + 1) zs26 (by omega) (by omega) (by replace ezs26 := ezs26.symm; subst ezs26; simp only [itn, ← ev, b_X7_go_20]) (by replace ezs26 := ezs26.symm; subst ezs26; exact passTide_WF hm) _ _ _ w (lv_sub hl [1, 2, 0] rfl)
set_option maxRecDepth 100000 in
set_option maxHeartbeats 4000000 in
theorem c_X7_go {l : Launch} {G : GG} {σ : St} {ρ : Gr}  (x1 : Int32) (B : Nat) (hB : B < 2 ^ 30) (hm : WFm B ρ) : MM l G yX7_go cX7_go 3 6 129 (some .int) [.ref (aa G 4 0), .int x1] (setG σ 4 ρ) (Qi G (f_X7_go ρ x1) (setG σ 4 (g_X7_go ρ x1))) := by
  refine MM.of (by decide) (Nat.le_of_ble_eq_true rfl) ?_
  intro p e s m below meth c ls X hr hlk w hl
  have hx := X.1.1
  have hb := X.1.2.1
  have hl : lv_has ls 3 [(0, .ref (aa G 4 0)), (1, .int x1)] := hl
  refine lv_aload_n hx hb dX7_go_0 rfl (lv_at hl 0 rfl) ?_
  refine lv_iload_n hx hb dX7_go_1 rfl (lv_at hl 1 rfl) ?_
  refine k_i (rr_v (rest := []) X w mX7_wrongTides kw986 (c_X7_wrongTides x1) m4_0 rfl rfl ⟨Nat.le_of_ble_eq_true rfl, Nat.le_of_ble_eq_true rfl⟩ rfl hl.1 rfl (Nat.le_of_ble_eq_true rfl) dX7_go_2 ⟨Nat.zero_le _, Nat.zero_le _⟩) w (fun H locs w => ?_)
  refine lv_if_ge (tgt := 18) hx hb dX7_go_5 (by decide) (fun zc5 => ?_) (fun zc5 => ?_)
  · -- 18
    refine lv_iconst (v := 0) hx hb dX7_go_18 (by decide) ?_
    refine lv_istore_n (lv' := [(2, .int 0), (0, .ref (aa G 4 0)), (1, .int x1)]) hx hb dX7_go_19 rfl hl (by decide) rfl (fun ls hl => ?_)
    refine lp_X7_go_20 X x1 ρ B hB (wt_200 zc5) (fun H locs ls w hl => ?_) (x1.toNatClampNeg + 1) 0 _ (Nat.zero_le _) (Nat.lt_succ_of_le (Nat.sub_le _ _)) rfl hm _ _ _ w (lv_sub hl [1, 2, 0] rfl)
    obtain ⟨zl20, ezl20⟩ : ∃ y : Gr, y = (l_X7_go_20 x1 ρ) := ⟨_, rfl⟩
    rw [← ezl20] at w
    refine lv_aload_n hx hb dX7_go_35 rfl (lv_at hl 0 rfl) ?_
    refine gf7_186 X w dX7_go_36 ?_
    exact t_i X w hr hlk dX7_go_39 (by replace ezl20 := ezl20.symm; subst ezl20; simp only [f_X7_go, if_pos zc5]) (by replace ezl20 := ezl20.symm; subst ezl20; simp only [g_X7_go, if_pos zc5])
  · -- 8
    refine lv_aload_n hx hb dX7_go_8 rfl (lv_at hl 0 rfl) ?_
    refine lv_aload_n hx hb dX7_go_9 rfl (lv_at hl 0 rfl) ?_
    refine lv_iload_n hx hb dX7_go_10 rfl (lv_at hl 1 rfl) ?_
    refine k_i (rr_v (rest := [.ref (aa G 4 0)]) X w mX7_wrongTides kw986 (c_X7_wrongTides x1) m4_0 rfl rfl ⟨Nat.le_of_ble_eq_true rfl, Nat.le_of_ble_eq_true rfl⟩ rfl hl.1 rfl (Nat.le_of_ble_eq_true rfl) dX7_go_11 ⟨Nat.zero_le _, Nat.zero_le _⟩) w (fun H locs w => ?_)
    refine k_i (rr_v (rest := []) X w mX7_refuse kw872 (c_X7_refuse (f_X7_wrongTides ρ x1) (wt_in zc5)) m4_0 rfl rfl ⟨Nat.le_of_ble_eq_true rfl, Nat.le_of_ble_eq_true rfl⟩ rfl hl.1 rfl (Nat.le_of_ble_eq_true rfl) dX7_go_14 ⟨Nat.zero_le _, Nat.zero_le _⟩) w (fun H locs w => ?_)
    obtain ⟨zs14, ezs14⟩ : ∃ y : Gr, y = g_X7_refuse ρ (f_X7_wrongTides ρ x1) := ⟨_, rfl⟩; rw [← ezs14] at w
    exact t_i X w hr hlk dX7_go_17 (by replace ezs14 := ezs14.symm; subst ezs14; simp only [f_X7_go, if_neg zc5]) (by replace ezs14 := ezs14.symm; subst ezs14; simp only [g_X7_go, if_neg zc5])

noncomputable def f_X7_cost (ρ : Gr) (x1 : Int32) : Int64 :=
  if 0 ≤ (f_X7_wrongTides ρ x1) then
    let zs27 : Gr := g_X7_costOf ρ x1
    f_X7_costOf ρ x1
  else
    let zs17 : Gr := g_X7_refuse ρ (f_X7_wrongTides ρ x1)
    (-4000000000000000000) + ((f_X7_refuse ρ (f_X7_wrongTides ρ x1)).toInt64)
noncomputable def g_X7_cost (ρ : Gr) (x1 : Int32) : Gr :=
  if 0 ≤ (f_X7_wrongTides ρ x1) then
    let zs27 : Gr := g_X7_costOf ρ x1
    zs27
  else
    let zs17 : Gr := g_X7_refuse ρ (f_X7_wrongTides ρ x1)
    zs17
set_option maxRecDepth 100000 in
set_option maxHeartbeats 4000000 in
theorem c_X7_cost {l : Launch} {G : GG} {σ : St} {ρ : Gr}  (x1 : Int32) (B : Nat) (hB : B < 2 ^ 30) (hm : WFm B ρ) : MM l G yX7_cost cX7_cost 2 7 153 (some .long) [.ref (aa G 4 0), .int x1] (setG σ 4 ρ) (Ql G (f_X7_cost ρ x1) (setG σ 4 (g_X7_cost ρ x1))) := by
  refine MM.of (by decide) (Nat.le_of_ble_eq_true rfl) ?_
  intro p e s m below meth c ls X hr hlk w hl
  have hx := X.1.1
  have hb := X.1.2.1
  have hl : lv_has ls 2 [(0, .ref (aa G 4 0)), (1, .int x1)] := hl
  refine lv_aload_n hx hb dX7_cost_0 rfl (lv_at hl 0 rfl) ?_
  refine lv_iload_n hx hb dX7_cost_1 rfl (lv_at hl 1 rfl) ?_
  refine k_i (rr_v (rest := []) X w mX7_wrongTides kw986 (c_X7_wrongTides x1) m4_0 rfl rfl ⟨Nat.le_of_ble_eq_true rfl, Nat.le_of_ble_eq_true rfl⟩ rfl hl.1 rfl (Nat.le_of_ble_eq_true rfl) dX7_cost_2 ⟨Nat.zero_le _, Nat.zero_le _⟩) w (fun H locs w => ?_)
  refine lv_if_ge (tgt := 25) hx hb dX7_cost_5 (by decide) (fun zc5 => ?_) (fun zc5 => ?_)
  · -- 25
    refine lv_aload_n hx hb dX7_cost_25 rfl (lv_at hl 0 rfl) ?_
    refine lv_iload_n hx hb dX7_cost_26 rfl (lv_at hl 1 rfl) ?_
    refine k_l (rr_v (rest := []) X w mX7_costOf kw1008 (c_X7_costOf x1 B hB hm (wt_200 zc5)) m4_0 rfl rfl ⟨Nat.le_of_ble_eq_true rfl, Nat.le_of_ble_eq_true rfl⟩ rfl hl.1 rfl (Nat.le_of_ble_eq_true rfl) dX7_cost_27 ⟨Nat.zero_le _, Nat.zero_le _⟩) w (fun H locs w => ?_)
    obtain ⟨zs27, ezs27⟩ : ∃ y : Gr, y = g_X7_costOf ρ x1 := ⟨_, rfl⟩; rw [← ezs27] at w
    exact t_l X w hr hlk dX7_cost_30 (by replace ezs27 := ezs27.symm; subst ezs27; simp only [f_X7_cost, if_pos zc5]) (by replace ezs27 := ezs27.symm; subst ezs27; simp only [g_X7_cost, if_pos zc5])
  · -- 8
    refine lv_ldc2 hx hb X.1.2.2.2.1 (X.1.2.2.2.2 _ kw1007) dX7_cost_8 ?_
    refine lv_aload_n hx hb dX7_cost_11 rfl (lv_at hl 0 rfl) ?_
    refine lv_aload_n hx hb dX7_cost_12 rfl (lv_at hl 0 rfl) ?_
    refine lv_iload_n hx hb dX7_cost_13 rfl (lv_at hl 1 rfl) ?_
    refine k_i (rr_v (rest := [.ref (aa G 4 0), .long (-4000000000000000000)]) X w mX7_wrongTides kw986 (c_X7_wrongTides x1) m4_0 rfl rfl ⟨Nat.le_of_ble_eq_true rfl, Nat.le_of_ble_eq_true rfl⟩ rfl hl.1 rfl (Nat.le_of_ble_eq_true rfl) dX7_cost_14 ⟨Nat.zero_le _, Nat.zero_le _⟩) w (fun H locs w => ?_)
    refine k_i (rr_v (rest := [.long (-4000000000000000000)]) X w mX7_refuse kw872 (c_X7_refuse (f_X7_wrongTides ρ x1) (wt_in zc5)) m4_0 rfl rfl ⟨Nat.le_of_ble_eq_true rfl, Nat.le_of_ble_eq_true rfl⟩ rfl hl.1 rfl (Nat.le_of_ble_eq_true rfl) dX7_cost_17 ⟨Nat.zero_le _, Nat.zero_le _⟩) w (fun H locs w => ?_)
    obtain ⟨zs17, ezs17⟩ : ∃ y : Gr, y = g_X7_refuse ρ (f_X7_wrongTides ρ x1) := ⟨_, rfl⟩; rw [← ezs17] at w
    refine lv_i2l hx hb dX7_cost_20 rfl ?_
    refine lv_ladd hx hb dX7_cost_21 ?_
    refine lv_goto (tgt := 30) hx hb dX7_cost_22 (by decide) ?_
    exact t_l X w hr hlk dX7_cost_30 (by replace ezs17 := ezs17.symm; subst ezs17; simp only [f_X7_cost, if_neg zc5]) (by replace ezs17 := ezs17.symm; subst ezs17; simp only [g_X7_cost, if_neg zc5])

noncomputable def f_X7_holds (ρ : Gr) (x1 : Int32) : Int32 :=
  if 0 ≤ (f_X7_wrongTides ρ x1) then
    let zs22 : Gr := g_X7_holdsFor ρ x1
    f_X7_holdsFor ρ x1
  else
    let zs14 : Gr := g_X7_refuse ρ (f_X7_wrongTides ρ x1)
    f_X7_refuse ρ (f_X7_wrongTides ρ x1)
noncomputable def g_X7_holds (ρ : Gr) (x1 : Int32) : Gr :=
  if 0 ≤ (f_X7_wrongTides ρ x1) then
    let zs22 : Gr := g_X7_holdsFor ρ x1
    zs22
  else
    let zs14 : Gr := g_X7_refuse ρ (f_X7_wrongTides ρ x1)
    zs14
set_option maxRecDepth 100000 in
set_option maxHeartbeats 4000000 in
theorem c_X7_holds {l : Launch} {G : GG} {σ : St} {ρ : Gr}  (x1 : Int32) (B : Nat) (hB : B < 2 ^ 30) (hm : WFm B ρ) : MM l G yX7_holds cX7_holds 2 7 152 (some .int) [.ref (aa G 4 0), .int x1] (setG σ 4 ρ) (Qi G (f_X7_holds ρ x1) (setG σ 4 (g_X7_holds ρ x1))) := by
  refine MM.of (by decide) (Nat.le_of_ble_eq_true rfl) ?_
  intro p e s m below meth c ls X hr hlk w hl
  have hx := X.1.1
  have hb := X.1.2.1
  have hl : lv_has ls 2 [(0, .ref (aa G 4 0)), (1, .int x1)] := hl
  refine lv_aload_n hx hb dX7_holds_0 rfl (lv_at hl 0 rfl) ?_
  refine lv_iload_n hx hb dX7_holds_1 rfl (lv_at hl 1 rfl) ?_
  refine k_i (rr_v (rest := []) X w mX7_wrongTides kw986 (c_X7_wrongTides x1) m4_0 rfl rfl ⟨Nat.le_of_ble_eq_true rfl, Nat.le_of_ble_eq_true rfl⟩ rfl hl.1 rfl (Nat.le_of_ble_eq_true rfl) dX7_holds_2 ⟨Nat.zero_le _, Nat.zero_le _⟩) w (fun H locs w => ?_)
  refine lv_if_ge (tgt := 20) hx hb dX7_holds_5 (by decide) (fun zc5 => ?_) (fun zc5 => ?_)
  · -- 20
    refine lv_aload_n hx hb dX7_holds_20 rfl (lv_at hl 0 rfl) ?_
    refine lv_iload_n hx hb dX7_holds_21 rfl (lv_at hl 1 rfl) ?_
    refine k_i (rr_v (rest := []) X w mX7_holdsFor kw1032 (c_X7_holdsFor x1 B hB hm (wt_200 zc5)) m4_0 rfl rfl ⟨Nat.le_of_ble_eq_true rfl, Nat.le_of_ble_eq_true rfl⟩ rfl hl.1 rfl (Nat.le_of_ble_eq_true rfl) dX7_holds_22 ⟨Nat.zero_le _, Nat.zero_le _⟩) w (fun H locs w => ?_)
    obtain ⟨zs22, ezs22⟩ : ∃ y : Gr, y = g_X7_holdsFor ρ x1 := ⟨_, rfl⟩; rw [← ezs22] at w
    exact t_i X w hr hlk dX7_holds_25 (by replace ezs22 := ezs22.symm; subst ezs22; simp only [f_X7_holds, if_pos zc5]) (by replace ezs22 := ezs22.symm; subst ezs22; simp only [g_X7_holds, if_pos zc5])
  · -- 8
    refine lv_aload_n hx hb dX7_holds_8 rfl (lv_at hl 0 rfl) ?_
    refine lv_aload_n hx hb dX7_holds_9 rfl (lv_at hl 0 rfl) ?_
    refine lv_iload_n hx hb dX7_holds_10 rfl (lv_at hl 1 rfl) ?_
    refine k_i (rr_v (rest := [.ref (aa G 4 0)]) X w mX7_wrongTides kw986 (c_X7_wrongTides x1) m4_0 rfl rfl ⟨Nat.le_of_ble_eq_true rfl, Nat.le_of_ble_eq_true rfl⟩ rfl hl.1 rfl (Nat.le_of_ble_eq_true rfl) dX7_holds_11 ⟨Nat.zero_le _, Nat.zero_le _⟩) w (fun H locs w => ?_)
    refine k_i (rr_v (rest := []) X w mX7_refuse kw872 (c_X7_refuse (f_X7_wrongTides ρ x1) (wt_in zc5)) m4_0 rfl rfl ⟨Nat.le_of_ble_eq_true rfl, Nat.le_of_ble_eq_true rfl⟩ rfl hl.1 rfl (Nat.le_of_ble_eq_true rfl) dX7_holds_14 ⟨Nat.zero_le _, Nat.zero_le _⟩) w (fun H locs w => ?_)
    obtain ⟨zs14, ezs14⟩ : ∃ y : Gr, y = g_X7_refuse ρ (f_X7_wrongTides ρ x1) := ⟨_, rfl⟩; rw [← ezs14] at w
    refine lv_goto (tgt := 25) hx hb dX7_holds_17 (by decide) ?_
    exact t_i X w hr hlk dX7_holds_25 (by replace ezs14 := ezs14.symm; subst ezs14; simp only [f_X7_holds, if_neg zc5]) (by replace ezs14 := ezs14.symm; subst ezs14; simp only [g_X7_holds, if_neg zc5])

noncomputable def f_X7_alone (ρ : Gr) (x1 : Int32) : Int32 :=
  if 0 ≤ (f_X7_wrongTides ρ x1) then
    let zv22 : Int32 := ρ 0 24
    let zs25 : Gr := up ρ 0 24 0
    let zs30 : Gr := g_X7_holdsFor zs25 x1
    let zv33 : Int32 := f_X7_holdsFor zs25 x1
    let zs36 : Gr := up zs30 0 24 zv22
    zv33
  else
    let zs14 : Gr := g_X7_refuse ρ (f_X7_wrongTides ρ x1)
    f_X7_refuse ρ (f_X7_wrongTides ρ x1)
noncomputable def g_X7_alone (ρ : Gr) (x1 : Int32) : Gr :=
  if 0 ≤ (f_X7_wrongTides ρ x1) then
    let zv22 : Int32 := ρ 0 24
    let zs25 : Gr := up ρ 0 24 0
    let zs30 : Gr := g_X7_holdsFor zs25 x1
    let zv33 : Int32 := f_X7_holdsFor zs25 x1
    let zs36 : Gr := up zs30 0 24 zv22
    zs36
  else
    let zs14 : Gr := g_X7_refuse ρ (f_X7_wrongTides ρ x1)
    zs14
set_option maxRecDepth 100000 in
set_option maxHeartbeats 4000000 in
theorem c_X7_alone {l : Launch} {G : GG} {σ : St} {ρ : Gr}  (x1 : Int32) (B : Nat) (hB : B < 2 ^ 30) (hm : WFm B ρ) : MM l G yX7_alone cX7_alone 4 7 152 (some .int) [.ref (aa G 4 0), .int x1] (setG σ 4 ρ) (Qi G (f_X7_alone ρ x1) (setG σ 4 (g_X7_alone ρ x1))) := by
  refine MM.of (by decide) (Nat.le_of_ble_eq_true rfl) ?_
  intro p e s m below meth c ls X hr hlk w hl
  have hx := X.1.1
  have hb := X.1.2.1
  have hl : lv_has ls 4 [(0, .ref (aa G 4 0)), (1, .int x1)] := hl
  refine lv_aload_n hx hb dX7_alone_0 rfl (lv_at hl 0 rfl) ?_
  refine lv_iload_n hx hb dX7_alone_1 rfl (lv_at hl 1 rfl) ?_
  refine k_i (rr_v (rest := []) X w mX7_wrongTides kw986 (c_X7_wrongTides x1) m4_0 rfl rfl ⟨Nat.le_of_ble_eq_true rfl, Nat.le_of_ble_eq_true rfl⟩ rfl hl.1 rfl (Nat.le_of_ble_eq_true rfl) dX7_alone_2 ⟨Nat.zero_le _, Nat.zero_le _⟩) w (fun H locs w => ?_)
  refine lv_if_ge (tgt := 18) hx hb dX7_alone_5 (by decide) (fun zc5 => ?_) (fun zc5 => ?_)
  · -- 18
    refine lv_aload_n hx hb dX7_alone_18 rfl (lv_at hl 0 rfl) ?_
    refine gf7_170 X w dX7_alone_19 ?_
    refine lv_topi (fun zv22 ezv22 => ?_)
    refine lv_istore_n (lv' := [(2, .int zv22), (0, .ref (aa G 4 0)), (1, .int x1)]) hx hb dX7_alone_22 rfl hl (by decide) rfl (fun ls hl => ?_)
    refine lv_aload_n hx hb dX7_alone_23 rfl (lv_at hl 1 rfl) ?_
    refine lv_iconst (v := 0) hx hb dX7_alone_24 (by decide) ?_
    refine pf7_170 X w dX7_alone_25 (fun zs25 H locs ezs25 w => ?_)
    refine lv_aload_n hx hb dX7_alone_28 rfl (lv_at hl 1 rfl) ?_
    refine lv_iload_n hx hb dX7_alone_29 rfl (lv_at hl 2 rfl) ?_
    refine k_i (rr_v (rest := []) X w mX7_holdsFor kw1032 (c_X7_holdsFor x1 B hB (by replace ezs25 := ezs25.symm; subst ezs25; replace ezv22 := ezv22.symm; subst ezv22; exact hm) (wt_200 zc5)) m4_0 rfl rfl ⟨Nat.le_of_ble_eq_true rfl, Nat.le_of_ble_eq_true rfl⟩ rfl hl.1 rfl (Nat.le_of_ble_eq_true rfl) dX7_alone_30 ⟨Nat.zero_le _, Nat.zero_le _⟩) w (fun H locs w => ?_)
    obtain ⟨zs30, ezs30⟩ : ∃ y : Gr, y = g_X7_holdsFor zs25 x1 := ⟨_, rfl⟩; rw [← ezs30] at w
    refine lv_topi (fun zv33 ezv33 => ?_)
    refine lv_istore_n (lv' := [(3, .int zv33), (2, .int zv22), (0, .ref (aa G 4 0)), (1, .int x1)]) hx hb dX7_alone_33 rfl hl (by decide) rfl (fun ls hl => ?_)
    refine lv_aload_n hx hb dX7_alone_34 rfl (lv_at hl 2 rfl) ?_
    change W _ _ _ _ _ _ _ _ _ _ _ _ _ _ _ (F0 m 35 ls _)
    refine lv_iload_n hx hb dX7_alone_35 rfl (lv_at hl 1 rfl) ?_
    refine pf7_170 X w dX7_alone_36 (fun zs36 H locs ezs36 w => ?_)
    refine lv_iload_n hx hb dX7_alone_39 rfl (lv_at hl 0 rfl) ?_
    exact t_i X w hr hlk dX7_alone_40 (by replace ezs36 := ezs36.symm; subst ezs36; replace ezv33 := ezv33.symm; subst ezv33; replace ezs30 := ezs30.symm; subst ezs30; replace ezs25 := ezs25.symm; subst ezs25; replace ezv22 := ezv22.symm; subst ezv22; simp only [f_X7_alone, if_pos zc5]) (by replace ezs36 := ezs36.symm; subst ezs36; replace ezv33 := ezv33.symm; subst ezv33; replace ezs30 := ezs30.symm; subst ezs30; replace ezs25 := ezs25.symm; subst ezs25; replace ezv22 := ezv22.symm; subst ezv22; simp only [g_X7_alone, if_pos zc5])
  · -- 8
    refine lv_aload_n hx hb dX7_alone_8 rfl (lv_at hl 0 rfl) ?_
    refine lv_aload_n hx hb dX7_alone_9 rfl (lv_at hl 0 rfl) ?_
    refine lv_iload_n hx hb dX7_alone_10 rfl (lv_at hl 1 rfl) ?_
    refine k_i (rr_v (rest := [.ref (aa G 4 0)]) X w mX7_wrongTides kw986 (c_X7_wrongTides x1) m4_0 rfl rfl ⟨Nat.le_of_ble_eq_true rfl, Nat.le_of_ble_eq_true rfl⟩ rfl hl.1 rfl (Nat.le_of_ble_eq_true rfl) dX7_alone_11 ⟨Nat.zero_le _, Nat.zero_le _⟩) w (fun H locs w => ?_)
    refine k_i (rr_v (rest := []) X w mX7_refuse kw872 (c_X7_refuse (f_X7_wrongTides ρ x1) (wt_in zc5)) m4_0 rfl rfl ⟨Nat.le_of_ble_eq_true rfl, Nat.le_of_ble_eq_true rfl⟩ rfl hl.1 rfl (Nat.le_of_ble_eq_true rfl) dX7_alone_14 ⟨Nat.zero_le _, Nat.zero_le _⟩) w (fun H locs w => ?_)
    obtain ⟨zs14, ezs14⟩ : ∃ y : Gr, y = g_X7_refuse ρ (f_X7_wrongTides ρ x1) := ⟨_, rfl⟩; rw [← ezs14] at w
    exact t_i X w hr hlk dX7_alone_17 (by replace ezs14 := ezs14.symm; subst ezs14; simp only [f_X7_alone, if_neg zc5]) (by replace ezs14 := ezs14.symm; subst ezs14; simp only [g_X7_alone, if_neg zc5])

noncomputable def f_X7_back (ρ : Gr) (x1 : Int32) (x2 : Int32) (x3 : Int32) (x4 : Int32) (x5 : Int32) : Int32 :=
  if (f_X7_isCell ρ x1) = 0 then
    let zs38 : Gr := g_X7_refuse ρ (-1)
    (-1000000000) + (f_X7_refuse ρ (-1))
  else
    if (f_X7_isStuff x2) = 0 then
      let zs38_2 : Gr := g_X7_refuse ρ (-1)
      (-1000000000) + (f_X7_refuse ρ (-1))
    else
      if (f_X7_in x4.toInt64 0 (((1 <<< ((ρ 0 0) &&& 31)) - 1).toInt64)) = 0 then
        let zs38_3 : Gr := g_X7_refuse ρ (-1)
        (-1000000000) + (f_X7_refuse ρ (-1))
      else
        if x3 < 1 then
          let zs59 : Gr := g_X7_refuse ρ (-4)
          (-1000000000) + (f_X7_refuse ρ (-4))
        else
          if 1 ≤ x5 then
            if 9999 < x3 then
              let zs84 : Gr := g_X7_refuse ρ (-6)
              (-1000000000) + (f_X7_refuse ρ (-6))
            else
              if x5 ≤ 200 then
                let zs97 : Gr := g_X7_tonsAfter ρ x1 x2 x3 x4 x5
                let zs108 : Gr := g_X7_tonsAfter zs97 x1 x2 0 x4 x5
                (f_X7_tonsAfter ρ x1 x2 x3 x4 x5) - (f_X7_tonsAfter zs97 x1 x2 0 x4 x5)
              else
                let zs84_2 : Gr := g_X7_refuse ρ (-6)
                (-1000000000) + (f_X7_refuse ρ (-6))
          else
            let zs59_2 : Gr := g_X7_refuse ρ (-4)
            (-1000000000) + (f_X7_refuse ρ (-4))
noncomputable def g_X7_back (ρ : Gr) (x1 : Int32) (x2 : Int32) (x3 : Int32) (x4 : Int32) (x5 : Int32) : Gr :=
  if (f_X7_isCell ρ x1) = 0 then
    let zs38 : Gr := g_X7_refuse ρ (-1)
    zs38
  else
    if (f_X7_isStuff x2) = 0 then
      let zs38_2 : Gr := g_X7_refuse ρ (-1)
      zs38_2
    else
      if (f_X7_in x4.toInt64 0 (((1 <<< ((ρ 0 0) &&& 31)) - 1).toInt64)) = 0 then
        let zs38_3 : Gr := g_X7_refuse ρ (-1)
        zs38_3
      else
        if x3 < 1 then
          let zs59 : Gr := g_X7_refuse ρ (-4)
          zs59
        else
          if 1 ≤ x5 then
            if 9999 < x3 then
              let zs84 : Gr := g_X7_refuse ρ (-6)
              zs84
            else
              if x5 ≤ 200 then
                let zs97 : Gr := g_X7_tonsAfter ρ x1 x2 x3 x4 x5
                let zs108 : Gr := g_X7_tonsAfter zs97 x1 x2 0 x4 x5
                zs108
              else
                let zs84_2 : Gr := g_X7_refuse ρ (-6)
                zs84_2
          else
            let zs59_2 : Gr := g_X7_refuse ρ (-4)
            zs59_2
set_option maxRecDepth 100000 in
set_option maxHeartbeats 4000000 in
theorem c_X7_back {l : Launch} {G : GG} {σ : St} {ρ : Gr}  (x1 : Int32) (x2 : Int32) (x3 : Int32) (x4 : Int32) (x5 : Int32) (B : Nat) (hB : B < 2 ^ 30) (hm : WFm B ρ) : MM l G yX7_back cX7_back 6 3 72 (some .int) [.ref (aa G 4 0), .int x1, .int x2, .int x3, .int x4, .int x5] (setG σ 4 ρ) (Qi G (f_X7_back ρ x1 x2 x3 x4 x5) (setG σ 4 (g_X7_back ρ x1 x2 x3 x4 x5))) := by
  refine MM.of (by decide) (Nat.le_of_ble_eq_true rfl) ?_
  intro p e s m below meth c ls X hr hlk w hl
  have hx := X.1.1
  have hb := X.1.2.1
  have hl : lv_has ls 6 [(0, .ref (aa G 4 0)), (1, .int x1), (2, .int x2), (3, .int x3), (4, .int x4), (5, .int x5)] := hl
  have hm0 := hm
  refine lv_aload_n hx hb dX7_back_0 rfl (lv_at hl 0 rfl) ?_
  refine lv_iload_n hx hb dX7_back_1 rfl (lv_at hl 1 rfl) ?_
  refine k_i (rr_v (rest := []) X w mX7_isCell kw884 (c_X7_isCell x1) m4_0 rfl rfl ⟨Nat.le_of_ble_eq_true rfl, Nat.le_of_ble_eq_true rfl⟩ rfl hl.1 rfl (Nat.le_of_ble_eq_true rfl) dX7_back_2 ⟨Nat.zero_le _, Nat.zero_le _⟩) w (fun H locs w => ?_)
  refine lv_if_eq (tgt := 34) hx hb dX7_back_5 (by decide) (fun zc5 => ?_) (fun zc5 => ?_)
  · -- 34
    refine lv_ldc hx hb X.1.2.2.2.1 (X.1.2.2.2.2 _ kw956) dX7_back_34 ?_
    refine lv_aload_n hx hb dX7_back_36 rfl (lv_at hl 0 rfl) ?_
    refine lv_iconst (v := (-1)) hx hb dX7_back_37 (by decide) ?_
    refine k_i (rr_v (rest := [.int (-1000000000)]) X w mX7_refuse kw872 (c_X7_refuse (-1) (vin_lit (by decide +kernel))) m4_0 rfl rfl ⟨Nat.le_of_ble_eq_true rfl, Nat.le_of_ble_eq_true rfl⟩ rfl hl.1 rfl (Nat.le_of_ble_eq_true rfl) dX7_back_38 ⟨Nat.zero_le _, Nat.zero_le _⟩) w (fun H locs w => ?_)
    obtain ⟨zs38, ezs38⟩ : ∃ y : Gr, y = g_X7_refuse ρ (-1) := ⟨_, rfl⟩; rw [← ezs38] at w
    refine lv_iadd hx hb dX7_back_41 ?_
    exact t_i X w hr hlk dX7_back_42 (by replace ezs38 := ezs38.symm; subst ezs38; simp only [f_X7_back, if_pos zc5]) (by replace ezs38 := ezs38.symm; subst ezs38; simp only [g_X7_back, if_pos zc5])
  · -- 8
    refine lv_iload_n hx hb dX7_back_8 rfl (lv_at hl 2 rfl) ?_
    refine k_i (rr_s (rest := []) X w mX7_isStuff kw916 (c_X7_isStuff x2) ⟨Nat.le_of_ble_eq_true rfl, Nat.le_of_ble_eq_true rfl⟩ rfl hl.1 rfl (Nat.le_of_ble_eq_true rfl) dX7_back_9 ⟨Nat.zero_le _, Nat.zero_le _⟩) w (fun H locs w => ?_)
    refine lv_if_eq (tgt := 34) hx hb dX7_back_12 (by decide) (fun zc12 => ?_) (fun zc12 => ?_)
    · -- 34
      refine lv_ldc hx hb X.1.2.2.2.1 (X.1.2.2.2.2 _ kw956) dX7_back_34 ?_
      refine lv_aload_n hx hb dX7_back_36 rfl (lv_at hl 0 rfl) ?_
      refine lv_iconst (v := (-1)) hx hb dX7_back_37 (by decide) ?_
      refine k_i (rr_v (rest := [.int (-1000000000)]) X w mX7_refuse kw872 (c_X7_refuse (-1) (vin_lit (by decide +kernel))) m4_0 rfl rfl ⟨Nat.le_of_ble_eq_true rfl, Nat.le_of_ble_eq_true rfl⟩ rfl hl.1 rfl (Nat.le_of_ble_eq_true rfl) dX7_back_38 ⟨Nat.zero_le _, Nat.zero_le _⟩) w (fun H locs w => ?_)
      obtain ⟨zs38_2, ezs38_2⟩ : ∃ y : Gr, y = g_X7_refuse ρ (-1) := ⟨_, rfl⟩; rw [← ezs38_2] at w
      refine lv_iadd hx hb dX7_back_41 ?_
      exact t_i X w hr hlk dX7_back_42 (by replace ezs38_2 := ezs38_2.symm; subst ezs38_2; simp only [f_X7_back, if_neg zc5, if_pos zc12]) (by replace ezs38_2 := ezs38_2.symm; subst ezs38_2; simp only [g_X7_back, if_neg zc5, if_pos zc12])
    · -- 15
      refine lv_iload hx hb dX7_back_15 (lv_at hl 4 rfl) ?_
      refine lv_i2l hx hb dX7_back_17 rfl ?_
      refine lv_lconst (v := 0) hx hb dX7_back_18 (by decide) ?_
      refine lv_iconst (v := 1) hx hb dX7_back_19 (by decide) ?_
      refine lv_aload_n hx hb dX7_back_20 rfl (lv_at hl 0 rfl) ?_
      refine gf7_111 X w dX7_back_21 ?_
      refine lv_ishl hx hb dX7_back_24 ?_
      refine lv_iconst (v := 1) hx hb dX7_back_25 (by decide) ?_
      refine lv_isub hx hb dX7_back_26 ?_
      refine lv_i2l hx hb dX7_back_27 rfl ?_
      refine k_i (rr_s (rest := []) X w mX7_in kw888 (c_X7_in x4.toInt64 0 (((1 <<< ((ρ 0 0) &&& 31)) - 1).toInt64)) ⟨Nat.le_of_ble_eq_true rfl, Nat.le_of_ble_eq_true rfl⟩ rfl hl.1 rfl (Nat.le_of_ble_eq_true rfl) dX7_back_28 ⟨Nat.zero_le _, Nat.zero_le _⟩) w (fun H locs w => ?_)
      change W _ _ _ _ _ _ _ _ _ _ _ _ _ _ _ (F0 m 31 ls _)
      refine lv_if_ne (tgt := 43) hx hb dX7_back_31 (by decide) (fun zc31 => ?_) (fun zc31 => ?_)
      · -- 43
        refine lv_iload_n hx hb dX7_back_43 rfl (lv_at hl 3 rfl) ?_
        refine lv_iconst (v := 1) hx hb dX7_back_44 (by decide) ?_
        refine lv_icmp_lt (tgt := 54) hx hb dX7_back_45 (by decide) (fun zc45 => ?_) (fun zc45 => ?_)
        · -- 54
          refine lv_ldc hx hb X.1.2.2.2.1 (X.1.2.2.2.2 _ kw956) dX7_back_54 ?_
          refine lv_aload_n hx hb dX7_back_56 rfl (lv_at hl 0 rfl) ?_
          refine lv_bipush (v := (-4)) hx hb dX7_back_57 (by decide) ?_
          refine k_i (rr_v (rest := [.int (-1000000000)]) X w mX7_refuse kw872 (c_X7_refuse (-4) (vin_lit (by decide +kernel))) m4_0 rfl rfl ⟨Nat.le_of_ble_eq_true rfl, Nat.le_of_ble_eq_true rfl⟩ rfl hl.1 rfl (Nat.le_of_ble_eq_true rfl) dX7_back_59 ⟨Nat.zero_le _, Nat.zero_le _⟩) w (fun H locs w => ?_)
          obtain ⟨zs59, ezs59⟩ : ∃ y : Gr, y = g_X7_refuse ρ (-4) := ⟨_, rfl⟩; rw [← ezs59] at w
          refine lv_iadd hx hb dX7_back_62 ?_
          exact t_i X w hr hlk dX7_back_63 (by replace ezs59 := ezs59.symm; subst ezs59; simp only [f_X7_back, if_neg zc5, if_neg zc12, if_neg zc31, if_pos zc45]) (by replace ezs59 := ezs59.symm; subst ezs59; simp only [g_X7_back, if_neg zc5, if_neg zc12, if_neg zc31, if_pos zc45])
        · -- 48
          refine lv_iload hx hb dX7_back_48 (lv_at hl 5 rfl) ?_
          refine lv_iconst (v := 1) hx hb dX7_back_50 (by decide) ?_
          refine lv_icmp_ge (tgt := 64) hx hb dX7_back_51 (by decide) (fun zc51 => ?_) (fun zc51 => ?_)
          · -- 64
            refine lv_iload_n hx hb dX7_back_64 rfl (lv_at hl 3 rfl) ?_
            refine lv_sipush (v := 9999) hx hb dX7_back_65 (by decide) ?_
            refine lv_icmp_gt (tgt := 79) hx hb dX7_back_68 (by decide) (fun zc68 => ?_) (fun zc68 => ?_)
            · -- 79
              refine lv_ldc hx hb X.1.2.2.2.1 (X.1.2.2.2.2 _ kw956) dX7_back_79 ?_
              refine lv_aload_n hx hb dX7_back_81 rfl (lv_at hl 0 rfl) ?_
              refine lv_bipush (v := (-6)) hx hb dX7_back_82 (by decide) ?_
              refine k_i (rr_v (rest := [.int (-1000000000)]) X w mX7_refuse kw872 (c_X7_refuse (-6) (vin_lit (by decide +kernel))) m4_0 rfl rfl ⟨Nat.le_of_ble_eq_true rfl, Nat.le_of_ble_eq_true rfl⟩ rfl hl.1 rfl (Nat.le_of_ble_eq_true rfl) dX7_back_84 ⟨Nat.zero_le _, Nat.zero_le _⟩) w (fun H locs w => ?_)
              obtain ⟨zs84, ezs84⟩ : ∃ y : Gr, y = g_X7_refuse ρ (-6) := ⟨_, rfl⟩; rw [← ezs84] at w
              refine lv_iadd hx hb dX7_back_87 ?_
              exact t_i X w hr hlk dX7_back_88 (by replace ezs84 := ezs84.symm; subst ezs84; simp only [f_X7_back, if_neg zc5, if_neg zc12, if_neg zc31, if_neg zc45, if_pos zc51, if_pos zc68]) (by replace ezs84 := ezs84.symm; subst ezs84; simp only [g_X7_back, if_neg zc5, if_neg zc12, if_neg zc31, if_neg zc45, if_pos zc51, if_pos zc68])
            · -- 71
              refine lv_iload hx hb dX7_back_71 (lv_at hl 5 rfl) ?_
              refine lv_sipush (v := 200) hx hb dX7_back_73 (by decide) ?_
              refine lv_icmp_le (tgt := 89) hx hb dX7_back_76 (by decide) (fun zc76 => ?_) (fun zc76 => ?_)
              · -- 89
                refine lv_aload_n hx hb dX7_back_89 rfl (lv_at hl 0 rfl) ?_
                refine lv_iload_n hx hb dX7_back_90 rfl (lv_at hl 1 rfl) ?_
                refine lv_iload_n hx hb dX7_back_91 rfl (lv_at hl 2 rfl) ?_
                refine lv_iload_n hx hb dX7_back_92 rfl (lv_at hl 3 rfl) ?_
                refine lv_iload hx hb dX7_back_93 (lv_at hl 4 rfl) ?_
                refine lv_iload hx hb dX7_back_95 (lv_at hl 5 rfl) ?_
                refine k_i (rr_v (rest := []) X w mX7_tonsAfter kw1044 (c_X7_tonsAfter x1 x2 x3 x4 x5 B hB hm (clamp_le (y := 200) (by decide) (by decide) zc76) (hm0.cell zc5) (stuff_v zc12)) m4_0 rfl rfl ⟨Nat.le_of_ble_eq_true rfl, Nat.le_of_ble_eq_true rfl⟩ rfl hl.1 rfl (Nat.le_of_ble_eq_true rfl) dX7_back_97 ⟨Nat.zero_le _, Nat.zero_le _⟩) w (fun H locs w => ?_)
                obtain ⟨zs97, ezs97⟩ : ∃ y : Gr, y = g_X7_tonsAfter ρ x1 x2 x3 x4 x5 := ⟨_, rfl⟩; rw [← ezs97] at w
                have hm : WFm B zs97 := by rw [ezs97]; exact (tonsAfter_Sv _ _ _ _ _ _).wf hm
                refine lv_aload_n hx hb dX7_back_100 rfl (lv_at hl 0 rfl) ?_
                refine lv_iload_n hx hb dX7_back_101 rfl (lv_at hl 1 rfl) ?_
                refine lv_iload_n hx hb dX7_back_102 rfl (lv_at hl 2 rfl) ?_
                refine lv_iconst (v := 0) hx hb dX7_back_103 (by decide) ?_
                change W _ _ _ _ _ _ _ _ _ _ _ _ _ _ _ (F0 m 104 ls _)
                refine lv_iload hx hb dX7_back_104 (lv_at hl 4 rfl) ?_
                refine lv_iload hx hb dX7_back_106 (lv_at hl 5 rfl) ?_
                refine k_i (rr_v (rest := [.int (f_X7_tonsAfter ρ x1 x2 x3 x4 x5)]) X w mX7_tonsAfter kw1044 (c_X7_tonsAfter x1 x2 0 x4 x5 B hB hm (clamp_le (y := 200) (by decide) (by decide) zc76) (hm0.cell zc5) (stuff_v zc12)) m4_0 rfl rfl ⟨Nat.le_of_ble_eq_true rfl, Nat.le_of_ble_eq_true rfl⟩ rfl hl.1 rfl (Nat.le_of_ble_eq_true rfl) dX7_back_108 ⟨Nat.zero_le _, Nat.zero_le _⟩) w (fun H locs w => ?_)
                obtain ⟨zs108, ezs108⟩ : ∃ y : Gr, y = g_X7_tonsAfter zs97 x1 x2 0 x4 x5 := ⟨_, rfl⟩; rw [← ezs108] at w
                have hm : WFm B zs108 := by rw [ezs108]; exact (tonsAfter_Sv _ _ _ _ _ _).wf hm
                refine lv_isub hx hb dX7_back_111 ?_
                exact t_i X w hr hlk dX7_back_112 (by replace ezs108 := ezs108.symm; subst ezs108; replace ezs97 := ezs97.symm; subst ezs97; simp only [f_X7_back, if_neg zc5, if_neg zc12, if_neg zc31, if_neg zc45, if_pos zc51, if_neg zc68, if_pos zc76]) (by replace ezs108 := ezs108.symm; subst ezs108; replace ezs97 := ezs97.symm; subst ezs97; simp only [g_X7_back, if_neg zc5, if_neg zc12, if_neg zc31, if_neg zc45, if_pos zc51, if_neg zc68, if_pos zc76])
              · -- 79
                refine lv_ldc hx hb X.1.2.2.2.1 (X.1.2.2.2.2 _ kw956) dX7_back_79 ?_
                refine lv_aload_n hx hb dX7_back_81 rfl (lv_at hl 0 rfl) ?_
                refine lv_bipush (v := (-6)) hx hb dX7_back_82 (by decide) ?_
                refine k_i (rr_v (rest := [.int (-1000000000)]) X w mX7_refuse kw872 (c_X7_refuse (-6) (vin_lit (by decide +kernel))) m4_0 rfl rfl ⟨Nat.le_of_ble_eq_true rfl, Nat.le_of_ble_eq_true rfl⟩ rfl hl.1 rfl (Nat.le_of_ble_eq_true rfl) dX7_back_84 ⟨Nat.zero_le _, Nat.zero_le _⟩) w (fun H locs w => ?_)
                obtain ⟨zs84_2, ezs84_2⟩ : ∃ y : Gr, y = g_X7_refuse ρ (-6) := ⟨_, rfl⟩; rw [← ezs84_2] at w
                refine lv_iadd hx hb dX7_back_87 ?_
                exact t_i X w hr hlk dX7_back_88 (by replace ezs84_2 := ezs84_2.symm; subst ezs84_2; simp only [f_X7_back, if_neg zc5, if_neg zc12, if_neg zc31, if_neg zc45, if_pos zc51, if_neg zc68, if_neg zc76]) (by replace ezs84_2 := ezs84_2.symm; subst ezs84_2; simp only [g_X7_back, if_neg zc5, if_neg zc12, if_neg zc31, if_neg zc45, if_pos zc51, if_neg zc68, if_neg zc76])
          · -- 54
            refine lv_ldc hx hb X.1.2.2.2.1 (X.1.2.2.2.2 _ kw956) dX7_back_54 ?_
            refine lv_aload_n hx hb dX7_back_56 rfl (lv_at hl 0 rfl) ?_
            refine lv_bipush (v := (-4)) hx hb dX7_back_57 (by decide) ?_
            refine k_i (rr_v (rest := [.int (-1000000000)]) X w mX7_refuse kw872 (c_X7_refuse (-4) (vin_lit (by decide +kernel))) m4_0 rfl rfl ⟨Nat.le_of_ble_eq_true rfl, Nat.le_of_ble_eq_true rfl⟩ rfl hl.1 rfl (Nat.le_of_ble_eq_true rfl) dX7_back_59 ⟨Nat.zero_le _, Nat.zero_le _⟩) w (fun H locs w => ?_)
            obtain ⟨zs59_2, ezs59_2⟩ : ∃ y : Gr, y = g_X7_refuse ρ (-4) := ⟨_, rfl⟩; rw [← ezs59_2] at w
            refine lv_iadd hx hb dX7_back_62 ?_
            exact t_i X w hr hlk dX7_back_63 (by replace ezs59_2 := ezs59_2.symm; subst ezs59_2; simp only [f_X7_back, if_neg zc5, if_neg zc12, if_neg zc31, if_neg zc45, if_neg zc51]) (by replace ezs59_2 := ezs59_2.symm; subst ezs59_2; simp only [g_X7_back, if_neg zc5, if_neg zc12, if_neg zc31, if_neg zc45, if_neg zc51])
      · -- 34
        refine lv_ldc hx hb X.1.2.2.2.1 (X.1.2.2.2.2 _ kw956) dX7_back_34 ?_
        refine lv_aload_n hx hb dX7_back_36 rfl (lv_at hl 0 rfl) ?_
        refine lv_iconst (v := (-1)) hx hb dX7_back_37 (by decide) ?_
        refine k_i (rr_v (rest := [.int (-1000000000)]) X w mX7_refuse kw872 (c_X7_refuse (-1) (vin_lit (by decide +kernel))) m4_0 rfl rfl ⟨Nat.le_of_ble_eq_true rfl, Nat.le_of_ble_eq_true rfl⟩ rfl hl.1 rfl (Nat.le_of_ble_eq_true rfl) dX7_back_38 ⟨Nat.zero_le _, Nat.zero_le _⟩) w (fun H locs w => ?_)
        obtain ⟨zs38_3, ezs38_3⟩ : ∃ y : Gr, y = g_X7_refuse ρ (-1) := ⟨_, rfl⟩; rw [← ezs38_3] at w
        refine lv_iadd hx hb dX7_back_41 ?_
        exact t_i X w hr hlk dX7_back_42 (by replace ezs38_3 := ezs38_3.symm; subst ezs38_3; simp only [f_X7_back, if_neg zc5, if_neg zc12, if_pos zc31]) (by replace ezs38_3 := ezs38_3.symm; subst ezs38_3; simp only [g_X7_back, if_neg zc5, if_neg zc12, if_pos zc31])
