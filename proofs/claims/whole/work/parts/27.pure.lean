/-! lacks as numbers, costs -/
theorem lack_nat {n nw nr M c : Nat} {v : Gr} (I : IC n nw nr v) (Z : TZ n M v) (hM : M < 2 ^ 30) (hc : c < n) : ∃ m, m ≤ 99 ∧ (if 0 < f_X0_lackOf v (nI c) then f_X0_lackOf v (nI c) else 0) = nI m ∧ (f_X0_lackOf v (nI c) ≤ 0 ↔ m = 0) := by
  have hn := I.1.1
  obtain ⟨⟨b0, hb1, hb2, eb0⟩, ⟨w, _, hw, ew⟩, _⟩ := I.2.2.1 c hc
  obtain ⟨a, ea, ha, ea'⟩ := Z.n8 (h := c) (by omega)
  obtain ⟨b, eb, hb, eb'⟩ := Z.n8 (h := 8 + c) (by omega)
  have h1 := Z.le (h := c) (by omega)
  have h2 := Z.le (h := 8 + c) (by omega)
  have eS : f_X0_settledIn v (nI c) = nI (a + b) := by rw [sett_v v (by omega), ea, eb, nI_add]
  have eD : f_X0_depthOf v (nI c) = nI (b0 - (a + b) / 100) := by
    unfold f_X0_depthOf f_X6_depthAbove
    rw [if_neg (nI_pos (by omega)), if_pos (show nI c < 8 from nI_lt (b := 8) (by omega) (by decide)), eS, nI_clamp (by omega), eb0, show (100 : Int32) = nI 100 from rfl, pk_div (by omega) (by decide) (by decide)]
    by_cases q : (a + b) / 100 < b0
    · rw [pk_sub (by omega), if_pos (show (0 : Int32) < nI (b0 - (a + b) / 100) from nI_lt (a := 0) (by omega) (by omega))]
    · rw [if_neg (fun z => ?_), show b0 - (a + b) / 100 = 0 by omega]; rfl
      have := Int32.lt_iff_toInt_lt.mp z
      rw [pk_sub_toInt (by omega) (by omega)] at this
      have z0 : (0 : Int32).toInt = 0 := by decide
      omega
  rw [lackv v (by omega), eD, ew]
  obtain ⟨d, hd, ed⟩ : ∃ d, d ≤ 99 ∧ b0 - (a + b) / 100 = d := ⟨_, by omega, rfl⟩
  rw [ed]
  by_cases q : d < w
  · rw [pk_sub (by omega), if_pos (show (0 : Int32) < nI (w - d) from nI_lt (a := 0) (by omega) (by omega))]
    refine ⟨w - d, by omega, rfl, ?_⟩
    constructor
    · intro z; exact absurd z (nI_nle (by omega) (by omega))
    · intro z; omega
  · have hle : nI w - nI d ≤ 0 := by
      rw [Int32.le_iff_toInt_le, pk_sub_toInt (by omega) (by omega)]
      have z0 : (0 : Int32).toInt = 0 := by decide
      omega
    rw [if_neg (Int32.not_lt.mpr hle)]
    exact ⟨0, by omega, rfl, fun _ => rfl, fun _ => hle⟩
theorem price_sim {n nw nr M : Nat} {v u : Gr} (I : IC n nw nr v) (R : RC n nw nr v u) (T : TR n v u) (Z : TZ n M v) (hM : M < 2 ^ 30) : ∃ N, N ≤ 78408 ∧ f_X7_feetLacking u 1 = nI N ∧ f_X0_priceOfLacks v = lN N := by
  have hn := I.1.1
  have hb : (v 1 0).toNatClampNeg = n := by rw [I.2.1.1, nI_clamp (by omega)]
  have hb' : (u 0 0).toNatClampNeg = n := by rw [R.1.1, nI_clamp (by omega)]
  have k := itn_2 (f := b_X7_feetLacking_4 u 1) (g := b_X0_priceOfLacks_4 v) (N := n) (fun k x y => ∃ N, N ≤ 9801 * k ∧ x = nI N ∧ y = lN N) (fun k x y hk ⟨N, hN, ex, ey⟩ => by
    obtain ⟨m, hm, em, hz⟩ := lack_nat I Z hM hk
    obtain ⟨p, _, hp, ep⟩ := (I.2.2.1 k hk).2.2.2.2
    have hmp : m * p ≤ 99 * 99 := Nat.mul_le_mul hm hp
    refine ⟨N + m * p, by omega, ?_, ?_⟩
    · unfold b_X7_feetLacking_4
      dsimp only
      rw [lack_eq I R T hk, nI_clamp (by omega), (R.2.1 k hk).2.2.2.2, ep]
      by_cases q : f_X0_lackOf v (nI k) ≤ 0
      · rw [if_pos q, hz.mp q, ex, Int32.add_zero, Nat.zero_mul, Nat.add_zero]
      · rw [if_pos (Int32.not_le.mp q)] at em
        rw [if_neg q, if_neg (by decide), em, ex, pk_mul, nI_add]
    · unfold b_X0_priceOfLacks_4
      dsimp only
      rw [em, nI_clamp (by omega), ep, nI_l (by omega), nI_l (by omega), lN_mul, ey, lN_add]) n 0 0 (Nat.le_refl _) ⟨0, by omega, rfl, rfl⟩
  obtain ⟨N, hN, e1, e2⟩ := k
  refine ⟨N, by omega, ?_, ?_⟩
  · unfold f_X7_feetLacking l_X7_feetLacking_4; rw [hb']; exact e1
  · unfold f_X0_priceOfLacks l_X0_priceOfLacks_4; rw [hb]; exact e2
theorem feet_sim {n nw nr M : Nat} {v u : Gr} (I : IC n nw nr v) (R : RC n nw nr v u) (T : TR n v u) (Z : TZ n M v) (hM : M < 2 ^ 30) : f_X7_feetLacking u 0 = f_X0_feetLacked v ∧ (f_X7_feetLacking u 0 ≤ 0 ↔ ∀ c, c < n → f_X0_lackOf v (nI c) ≤ 0) := by
  have hn := I.1.1
  have hb : (v 1 0).toNatClampNeg = n := by rw [I.2.1.1, nI_clamp (by omega)]
  have hb' : (u 0 0).toNatClampNeg = n := by rw [R.1.1, nI_clamp (by omega)]
  have k := itn_2 (f := b_X7_feetLacking_4 u 0) (g := b_X0_feetLacked_4 v) (N := n) (fun k x y => x = y ∧ ∃ N, N ≤ 99 * k ∧ x = nI N ∧ (N = 0 ↔ ∀ c, c < k → f_X0_lackOf v (nI c) ≤ 0)) (fun k x y hk ⟨exy, N, hN, ex, hz0⟩ => by
    obtain ⟨m, hm, em, hz⟩ := lack_nat I Z hM hk
    have e1 : b_X7_feetLacking_4 u 0 k x = nI (N + m) := by
      unfold b_X7_feetLacking_4
      dsimp only
      rw [lack_eq I R T hk]
      by_cases q : f_X0_lackOf v (nI k) ≤ 0
      · rw [if_pos q, hz.mp q, ex, Int32.add_zero, Nat.add_zero]
      · rw [if_pos (Int32.not_le.mp q)] at em
        rw [if_neg q, if_pos rfl, em, ex, Int32.mul_one, nI_add]
    have e2 : b_X0_feetLacked_4 v k y = nI (N + m) := by
      unfold b_X0_feetLacked_4
      rw [em, ← exy, ex, nI_add]
    refine ⟨by rw [e1, e2], N + m, by omega, e1, ?_⟩
    constructor
    · intro h c hc
      by_cases q : c = k
      · subst q; exact hz.mpr (by omega)
      · exact hz0.mp (by omega) c (by omega)
    · intro h
      have a1 := hz0.mpr (fun c hc => h c (by omega))
      have a2 := hz.mp (h k (by omega))
      omega) n 0 0 (Nat.le_refl _) ⟨rfl, 0, by omega, rfl, fun _ c hc => absurd hc (Nat.not_lt_zero c), fun _ => rfl⟩
  obtain ⟨e, N, hN, e1, hz⟩ := k
  have f1 : f_X7_feetLacking u 0 = itn (b_X7_feetLacking_4 u 0) n 0 := by unfold f_X7_feetLacking l_X7_feetLacking_4; rw [hb']
  have f2 : f_X0_feetLacked v = itn (b_X0_feetLacked_4 v) n 0 := by unfold f_X0_feetLacked l_X0_feetLacked_4; rw [hb]
  refine ⟨by rw [f1, f2]; exact e, ?_⟩
  rw [f1, e1, ← hz]
  constructor
  · intro q
    by_cases z : N = 0
    · exact z
    · exact absurd q (nI_nle (by omega) (by omega))
  · intro q; rw [q]; decide
theorem some_sim {n nw nr M : Nat} {v : Gr} (I : IC n nw nr v) : f_X0_someLack v = 0 ↔ ∀ c, c < n → f_X0_lackOf v (nI c) ≤ 0 := by
  have hn := I.1.1
  have hb : (v 1 0).toNatClampNeg = n := by rw [I.2.1.1, nI_clamp (by omega)]
  have key : ∀ m k, k ≤ n → n - k < m → ((wl (b_X0_someLack_2 v) m k ()).1 = 26 ↔ ∀ c, k ≤ c → c < n → f_X0_lackOf v (nI c) ≤ 0) := by
    intro m
    induction m with
    | zero => intro k _ h; omega
    | succ m ih =>
      intro k hk hm
      by_cases q : k = n
      · have e : b_X0_someLack_2 v k () = (false, 26, 0, ()) := by
          unfold b_X0_someLack_2
          rw [I.2.1.1, if_pos ((nI_leI (by omega) (by omega)).mpr (by omega))]
        rw [wl_out e]
        exact ⟨fun _ c h1 h2 => by omega, fun _ => rfl⟩
      · have hlt : ¬ nI n ≤ nI k := fun z => by have := (nI_leI (by omega) (by omega)).mp z; omega
        by_cases l : f_X0_lackOf v (nI k) ≤ 0
        · have e : b_X0_someLack_2 v k () = (true, 0, 0, ()) := by
            unfold b_X0_someLack_2
            rw [I.2.1.1, if_neg hlt, if_pos l]
          rw [wl_go e, ih (k + 1) (by omega) (by omega)]
          constructor
          · intro h c h1 h2
            by_cases z : c = k
            · rw [z]; exact l
            · exact h c (by omega) h2
          · intro h c h1 h2; exact h c (by omega) h2
        · have e : b_X0_someLack_2 v k () = (false, 19, 1, ()) := by
            unfold b_X0_someLack_2
            rw [I.2.1.1, if_neg hlt, if_neg l]
          rw [wl_out e]
          constructor
          · intro h; exact absurd (show (19 : Nat) = 26 from h) (by decide)
          · intro h; exact absurd (h k (Nat.le_refl _) (by omega)) l
  have k := key (nn (n + 1)) 0 (Nat.zero_le _) (by rw [nn_eq]; omega)
  unfold f_X0_someLack l_X0_someLack_2
  rw [hb]
  dsimp only
  by_cases q : (wl (b_X0_someLack_2 v) (nn (n + 1)) 0 ()).1 = 26
  · rw [if_pos q]; exact ⟨fun _ c hc => k.mp q c (Nat.zero_le _) hc, fun _ => rfl⟩
  · rw [if_neg q]
    constructor
    · intro h; exact absurd h (by decide)
    · intro h; exact absurd (k.mpr (fun c _ hc => h c hc)) q
/-- a tide's cost -/
theorem cost1 {n nw nr B M : Nat} {v u : Gr} (S : SIM n nw nr B M v u) (hM : M < 2 ^ 30) (hL : LT 999 v) (e36 : u 0 36 = v 0 9) (e37 : u 0 37 = v 0 10) : ∃ C, C ≤ 179307 ∧ f_X7_costNow u = nI C ∧ f_X3_tideCosts v = lN C := by
  obtain ⟨I, R, T, N, Z, hb⟩ := S
  obtain ⟨P, hP, e1, e2⟩ := price_sim I R T Z hM
  obtain ⟨t, w, ht, hw, et, ew⟩ := hL
  obtain ⟨fe, _, hfe, efe⟩ := I.2.2.2.2.2.2.1.2.2.2.2
  have hm : t * fe ≤ 999 * 99 := Nat.mul_le_mul ht hfe
  refine ⟨P + t * fe + 2 * w, by omega, ?_, ?_⟩
  · unfold f_X7_costNow
    rw [e1, e36, e37, R.2.2.2.2.1.2.2.2, et, ew, efe, pk_mul, nI_add, show (2 : Int32) = nI 2 from rfl, pk_mul, nI_add]
  · unfold f_X3_tideCosts
    rw [e2, et, ew, efe, nI_l (by omega), nI_l (by omega), nI_l (by omega), lN_mul, lN_add, show (2 : Int64) = lN 2 from rfl, lN_mul, lN_add]
noncomputable def VP (x : Int32) (k : Nat) (v : Gr) : Gr := itn (fun _ s => g_X3_goBy s x) k v
noncomputable def UP (k : Nat) (u : Gr) : Gr := itn (fun _ s => g_X7_passTide s) k u
theorem VP_s (x : Int32) (k : Nat) (v : Gr) : VP x (k + 1) v = g_X3_goBy (VP x k v) x := rfl
theorem UP_s (k : Nat) (u : Gr) : UP (k + 1) u = g_X7_passTide (UP k u) := rfl
theorem run_plan {n nw nr B M : Nat} {v u : Gr} (S : SIM n nw nr B M v u) (hcap : u 0 24 = v 19 0) (h1 : 1 ≤ n) (hB : B + 200 < 2 ^ 30) (hM : M + 1598400 < 2 ^ 30) : ∀ k, k ≤ 200 → SIM n nw nr (B + k) (M + 7992 * k) (VP (-1) k v) (UP k u) ∧ UP k u 0 24 = VP (-1) k v 19 0 ∧ (1 ≤ k → LT 999 (VP (-1) k v) ∧ UP k u 0 36 = VP (-1) k v 0 9 ∧ UP k u 0 37 = VP (-1) k v 0 10)
  | 0, _ => ⟨S, hcap, fun h => absurd h (by decide)⟩
  | k + 1, hk => by
    obtain ⟨S', hc', _⟩ := run_plan S hcap h1 hB hM k (by omega)
    have t := tide_plan S' hc' h1 (by omega) (by omega)
    rw [VP_s, UP_s]
    exact ⟨t.1.mono (by omega) (by omega), t.2.1, fun _ => t.2.2⟩
theorem run_alone {n nw nr B M : Nat} {v u : Gr} (S : SIM n nw nr B M v u) (h24 : u 0 24 = 0) (h1 : 1 ≤ n) (hB : B + 200 < 2 ^ 30) (hM : M + 1598400 < 2 ^ 30) : ∀ k, k ≤ 200 → SIM n nw nr (B + k) (M + 7992 * k) (VP 9 k v) (UP k u) ∧ UP k u 0 24 = 0
  | 0, _ => ⟨S, h24⟩
  | k + 1, hk => by
    obtain ⟨S', hc'⟩ := run_alone S h24 h1 hB hM k (by omega)
    have t := tide_alone S' hc' h1 (by omega) (by omega)
    rw [VP_s, UP_s]
    exact ⟨t.1.mono (by omega) (by omega), t.2⟩
/-- the cost of one tide, as a number -/
noncomputable def cN (r : Gr) : Nat := (f_X3_tideCosts r).toInt.toNat
theorem cN_eq {C : Nat} {r : Gr} (hC : C ≤ 179307) (h : f_X3_tideCosts r = lN C) : cN r = C := by
  unfold cN
  rw [h, lN_toInt (by omega)]; rfl
noncomputable def Sm (v : Gr) (k : Nat) : Nat := sm (fun i => cN (VP (-1) (i + 1) v)) k
theorem sm_mono (f : Nat → Nat) {a : Nat} : ∀ b, a ≤ b → sm f a ≤ sm f b
  | 0, h => by rw [Nat.le_zero.mp h]; exact Nat.le_refl _
  | b + 1, h => by
    by_cases e : a = b + 1
    · rw [e]; exact Nat.le_refl _
    · have := sm_mono f (a := a) b (by omega)
      show sm f a ≤ sm f b + f b
      omega
theorem cost_k {n nw nr B M : Nat} {v u : Gr} (S : SIM n nw nr B M v u) (hcap : u 0 24 = v 19 0) (h1 : 1 ≤ n) (hB : B + 200 < 2 ^ 30) (hM : M + 1598400 < 2 ^ 30) {k : Nat} (hk : k < 200) : cN (VP (-1) (k + 1) v) ≤ 179307 ∧ f_X3_tideCosts (VP (-1) (k + 1) v) = lN (cN (VP (-1) (k + 1) v)) ∧ f_X7_costNow (UP (k + 1) u) = nI (cN (VP (-1) (k + 1) v)) := by
  obtain ⟨S', hc', h3⟩ := run_plan S hcap h1 hB hM (k + 1) (by omega)
  obtain ⟨h3, h4, h5⟩ := h3 (by omega)
  have hh : M + 7992 * (k + 1) < 2 ^ 30 := by
    clear S' hc' h3 h4 h5 S hcap
    have h200 : 7992 * (k + 1) ≤ 7992 * 200 := Nat.mul_le_mul_left _ (by omega)
    exact Nat.lt_of_le_of_lt (Nat.add_le_add_left h200 M) (by omega)
  obtain ⟨C, hC, e1, e2⟩ := cost1 S' hh h3 h4 h5
  have := cN_eq hC e2
  rw [this]
  exact ⟨hC, e2, e1⟩
theorem Sm_le {n nw nr B M : Nat} {v u : Gr} (S : SIM n nw nr B M v u) (hcap : u 0 24 = v 19 0) (h1 : 1 ≤ n) (hB : B + 200 < 2 ^ 30) (hM : M + 1598400 < 2 ^ 30) : ∀ k, k ≤ 200 → Sm v k ≤ 179307 * k
  | 0, _ => Nat.zero_le _
  | k + 1, hk => by
    have h := Sm_le S hcap h1 hB hM k (by omega)
    have h2 := (cost_k S hcap h1 hB hM (k := k) (by omega)).1
    show Sm v k + cN (VP (-1) (k + 1) v) ≤ _
    omega
theorem costOf_loop {n nw nr B M : Nat} {v u : Gr} (S : SIM n nw nr B M v u) (hcap : u 0 24 = v 19 0) (h1 : 1 ≤ n) (hB : B + 200 < 2 ^ 30) (hM : M + 1598400 < 2 ^ 30) (y : Int32) : ∀ k, k ≤ 200 → itn (b_X7_costOf_9 y) k (0, u) = (lN (Sm v k), UP k u)
  | 0, _ => rfl
  | k + 1, hk => by
    have h := costOf_loop S hcap h1 hB hM y k (by omega)
    have c := cost_k S hcap h1 hB hM (k := k) (by omega)
    have e : UP (k + 1) u = g_X7_passTide (UP k u) := UP_s k u
    show b_X7_costOf_9 y k (itn (b_X7_costOf_9 y) k (0, u)) = _
    rw [h]
    unfold b_X7_costOf_9
    dsimp only
    rw [← e, c.2.2, nI_l (by have := c.1; omega), lN_add]
    rfl
theorem runCosts_loop {n nw nr B M N E : Nat} {v u : Gr} (S : SIM n nw nr B M v u) (hcap : u 0 24 = v 19 0) (h1 : 1 ≤ n) (hB : B + 200 < 2 ^ 30) (hM : M + 1598400 < 2 ^ 30) (hN : N ≤ 200) (hE : E < 2 ^ 63) : ∀ m k, k ≤ N → N - k < m → ∃ D, (wl (b_X3_runCosts_6 (nI N) (lN E)) m k (lN (Sm v k), VP (-1) k v)).2.2.1 = lN D ∧ D ≤ Sm v N ∧ (D = Sm v N ∨ E ≤ D) := by
  intro m
  induction m with
  | zero => intro k _ h; omega
  | succ m ih =>
    intro k hk hm
    have hs := Sm_le S hcap h1 hB hM k (by omega)
    by_cases q : k = N
    · subst q
      have e : b_X3_runCosts_6 (nI k) (lN E) k (lN (Sm v k), VP (-1) k v) = (false, 39, 0, (lN (Sm v k), VP (-1) k v)) := by
        unfold b_X3_runCosts_6
        rw [if_pos (Int32.le_refl _)]
      rw [wl_out e]
      exact ⟨Sm v k, rfl, Nat.le_refl _, Or.inl rfl⟩
    · have hlt : ¬ nI N ≤ nI k := fun z => by have := (nI_leI (by omega) (by omega)).mp z; omega
      by_cases l : E ≤ Sm v k
      · have e : b_X3_runCosts_6 (nI N) (lN E) k (lN (Sm v k), VP (-1) k v) = (false, 39, 0, (lN (Sm v k), VP (-1) k v)) := by
          unfold b_X3_runCosts_6
          dsimp only
          rw [if_neg hlt, if_pos ((lg_cmp_ge _ _).mpr ((pk_lLE hE (by omega)).mpr l))]
        rw [wl_out e]
        exact ⟨Sm v k, rfl, sm_mono _ N hk, Or.inr l⟩
      · have c := cost_k S hcap h1 hB hM (k := k) (by omega)
        have e9 : VP (-1) (k + 1) v = g_X3_goBy (VP (-1) k v) (-1) := VP_s _ _ _
        have e : b_X3_runCosts_6 (nI N) (lN E) k (lN (Sm v k), VP (-1) k v) = (true, 0, 0, (lN (Sm v (k + 1)), VP (-1) (k + 1) v)) := by
          unfold b_X3_runCosts_6
          dsimp only
          rw [if_neg hlt, if_neg (fun z => l ((pk_lLE hE (by omega)).mp ((lg_cmp_ge _ _).mp z))), ← e9, c.2.1, lN_add]
          rfl
        rw [wl_go e]
        exact ih (k + 1) (by omega) (by omega)
/-- costs, one against the other: C is the reference's; the class's is C where that is below E, else some D not below E -/
theorem cost_sim {n nw nr B M N : Nat} {v u : Gr} (S : SIM n nw nr B M v u) (hcap : u 0 24 = v 19 0) (h1 : 1 ≤ n) (hB : B + 200 < 2 ^ 30) (hM : M + 1598400 < 2 ^ 30) (hN : N ≤ 200) : ∃ C, C ≤ 35861400 ∧ (itn (b_X7_costOf_9 (nI N)) (nI N).toNatClampNeg (0, u)).1 = lN C ∧ ∀ E, E < 2 ^ 63 → ∃ D, f_X3_runCosts v (nI N) (lN E) = lN D ∧ D ≤ C ∧ (D = C ∨ E ≤ D) := by
  have hs := Sm_le S hcap h1 hB hM N hN
  refine ⟨Sm v N, by omega, ?_, fun E hE => ?_⟩
  · rw [nI_clamp (by omega), costOf_loop S hcap h1 hB hM (nI N) N hN]
  · unfold f_X3_runCosts l_X3_runCosts_6
    dsimp only
    rw [nI_clamp (by omega), nn_eq]
    exact runCosts_loop S hcap h1 hB hM hN hE (N + 1) 0 (Nat.zero_le _) (by omega)
