/-! images -/
def rk (f i : Nat) : Nat := match f with
  | 0 => match i with
    | 0 => 0
    | 8 => 1
    | 15 => 2
    | 20 => 3
    | 21 => 4
    | 22 => 5
    | 23 => 6
    | 24 => 7
    | 25 => 8
    | 26 => 9
    | 27 => 10
    | 28 => 11
    | _ => 1000
  | 1 => if i < 8 then 12 + 8 * i else 1000
  | 2 => if i < 8 then 13 + 8 * i else 1000
  | 3 => if i < 8 then 14 + 8 * i else 1000
  | 4 => if i < 8 then 15 + 8 * i else 1000
  | 5 => if i < 8 then 16 + 8 * i else 1000
  | 16 => if i < 8 then 17 + 8 * i else 1000
  | 17 => if i < 8 then 18 + 8 * i else 1000
  | 18 => if i < 8 then 19 + 8 * i else 1000
  | 6 => if i < 16 then 76 + 2 * i else 1000
  | 7 => if i < 16 then 77 + 2 * i else 1000
  | 9 => if i < 24 then 108 + 6 * i else 1000
  | 10 => if i < 24 then 109 + 6 * i else 1000
  | 11 => if i < 24 then 110 + 6 * i else 1000
  | 12 => if i < 24 then 111 + 6 * i else 1000
  | 13 => if i < 24 then 112 + 6 * i else 1000
  | 14 => if i < 24 then 113 + 6 * i else 1000
  | 19 => if i < 28 then 252 + i else 1000
  | _ => 1000
theorem rk_lt {f i : Nat} (h : rk f i < 280) : f < 20 ∧ i < 29 := by
  unfold rk at h
  repeat' split at h
  all_goals first | omega | (exact ⟨by omega, by omega⟩)
def ps (n : Nat) : Nat × Nat := if n < 12 then ([0, 8, 15, 20, 21, 22, 23, 24, 25, 26, 27, 28].getD n 0 |> fun j => (0, j)) else if n < 76 then ([1, 2, 3, 4, 5, 16, 17, 18].getD ((n - 12) % 8) 0, (n - 12) / 8) else if n < 108 then (6 + (n - 76) % 2, (n - 76) / 2) else if n < 252 then (9 + (n - 108) % 6, (n - 108) / 6) else (19, n - 252)
theorem ps_rk_dec : ∀ f, f < 20 → ∀ i, i < 29 → (rk f i < 280 → ps (rk f i) = (f, i)) := by decide +kernel
theorem ps_rk {f i : Nat} (h : rk f i < 280) : ps (rk f i) = (f, i) := ps_rk_dec f (rk_lt h).1 i (rk_lt h).2 h
theorem rk_inj {f i f' i' : Nat} (h : rk f i < 280) (e : rk f' i' = rk f i) : f' = f ∧ i' = i := by
  have h1 := ps_rk h
  have h2 := ps_rk (f := f') (i := i') (by rw [e]; exact h)
  rw [e, h1] at h2
  exact ⟨(congrArg Prod.fst h2).symm, (congrArg Prod.snd h2).symm⟩
theorem uimg_rk (J : Nat → Int32) {f i : Nat} (h : rk f i < 280) (hf : f ≠ 14) : uimg J f i = J (rk f i) := by
  have h0 := h
  unfold rk at h0
  unfold uimg rk
  repeat' split at h0
  all_goals first | omega | rfl | (simp only [*, if_true]; done) | skip
  all_goals first | (rw [if_pos (by assumption)]) | skip

/-- where the carrying stands after n values -/
noncomputable def TJ (J : Nat → Int32) (w : Gr) (n : Nat) : Gr := fun f i => if f = 0 ∧ i = 53 then nI n else if f = 52 then (if i < n then J i else w 52 i) else if rk f i < n then uimg J f i else w f i
theorem TJ_53 (J : Nat → Int32) (w : Gr) (n : Nat) : TJ J w n 0 53 = nI n := by unfold TJ; rw [if_pos ⟨rfl, rfl⟩]
theorem TJ_54 (J : Nat → Int32) (w : Gr) {n : Nat} (hn : n ≤ 280) : TJ J w n 0 54 = w 0 54 := by
  unfold TJ; rw [if_neg (by decide), if_neg (by decide), if_neg (show ¬ rk 0 54 < n from fun q => by have : rk 0 54 = 1000 := rfl; omega)]
theorem TJ_52 (J : Nat → Int32) (w : Gr) (n i : Nat) : TJ J w n 52 i = if i < n then J i else w 52 i := by unfold TJ; rw [if_neg (fun q => absurd q.1 (by decide)), if_pos rfl]
theorem TJ_o (J : Nat → Int32) (w : Gr) {n f i : Nat} (h : ¬ (f = 0 ∧ i = 53)) (h52 : f ≠ 52) : TJ J w n f i = if rk f i < n then uimg J f i else w f i := by unfold TJ; rw [if_neg h, if_neg h52]
theorem TJ_at (J : Nat → Int32) (w : Gr) {n f i : Nat} (h : rk f i = n) (hn : n < 280) : TJ J w n f i = w f i := by
  unfold TJ
  rw [if_neg (fun q => by rw [q.1, q.2] at h; have : rk 0 53 = 1000 := rfl; omega), if_neg (fun q => by rw [q] at h; have : rk 52 i = 1000 := rfl; omega), if_neg (by omega)]
theorem TJ_0 (J : Nat → Int32) (w : Gr) : TJ J w 0 = up w 0 53 0 := by
  funext f i
  unfold TJ
  by_cases h0 : f = 0
  · subst h0
    rw [up0, if_neg (show ¬ (0 : Nat) = 52 by decide), if_neg (Nat.not_lt_zero _)]
    by_cases h : i = 53
    · rw [if_pos ⟨rfl, h⟩, if_pos h]; rfl
    · rw [if_neg (fun q => h q.2), if_neg h]
  · rw [if_neg (fun q => h0 q.1), up_ne h0, if_neg (Nat.not_lt_zero _), if_neg (Nat.not_lt_zero _)]
    split
    · rename_i e; rw [e]
    · rfl
theorem carry_T {J : Nat → Int32} {w : Gr} {n f i : Nat} {x : Int32} (hn : n < 280) (hm : (w 0 54 = 0 ∧ J n = w 52 n) ∨ (¬ w 0 54 = 0 ∧ x = J n)) (hr : rk f i = n) : f_X7_carry (TJ J w n) x = J n ∧ up (g_X7_carry (TJ J w n) x) f i (uimg J f i) = TJ J w (n + 1) := by
  have e1 : (nI n + 1 - 1).toNatClampNeg = n := by rw [Int32.add_sub_cancel, nI_clamp (by omega)]
  have fin : ∀ g : Gr, (∀ f', f' ≠ 0 → f' ≠ 52 → g f' = TJ J w n f') → (∀ k, g 0 k = if k = 53 then nI (n + 1) else TJ J w n 0 k) → (∀ k, g 52 k = if k = n then J n else TJ J w n 52 k) → up g f i (uimg J f i) = TJ J w (n + 1) := by
    intro g g1 g2 g3
    funext f' i'
    by_cases e : f' = f ∧ i' = i
    · obtain ⟨rfl, rfl⟩ := e
      rw [up0, if_pos rfl]
      unfold TJ
      rw [if_neg (fun q => by rw [q.1, q.2] at hr; have : rk 0 53 = 1000 := rfl; omega), if_neg (fun q => by rw [q] at hr; have : rk 52 i' = 1000 := rfl; omega), if_pos (by omega)]
    · have hne : rk f' i' ≠ n := fun q => e (rk_inj (by omega) (q.trans hr.symm))
      have e2 : up g f i (uimg J f i) f' i' = g f' i' := by
        by_cases ef : f' = f
        · subst ef; rw [up0, if_neg (fun q => e ⟨rfl, q⟩)]
        · rw [up_ne ef]
      rw [e2]
      by_cases h0 : f' = 0
      · subst h0
        rw [g2]
        by_cases h53 : i' = 53
        · rw [if_pos h53, h53, TJ_53]
        · rw [if_neg h53]
          rw [TJ_o J w (fun q => h53 q.2) (by decide), TJ_o J w (fun q => h53 q.2) (by decide)]
          by_cases l : rk 0 i' < n
          · rw [if_pos l, if_pos (by omega)]
          · rw [if_neg l, if_neg (by omega)]
      · by_cases h52 : f' = 52
        · subst h52
          rw [g3, TJ_52, TJ_52]
          by_cases l : i' = n
          · rw [if_pos l, if_pos (by omega), l]
          · rw [if_neg l]
            by_cases l2 : i' < n
            · rw [if_pos l2, if_pos (by omega)]
            · rw [if_neg l2, if_neg (by omega)]
        · rw [g1 f' h0 h52]
          rw [TJ_o J w (fun q => h0 q.1) h52, TJ_o J w (fun q => h0 q.1) h52]
          by_cases l : rk f' i' < n
          · rw [if_pos l, if_pos (by omega)]
          · rw [if_neg l, if_neg (by omega)]
  unfold f_X7_carry g_X7_carry
  dsimp only
  rw [TJ_54 J w (by omega)]
  rcases hm with ⟨h54, hJ⟩ | ⟨h54, rfl⟩
  · rw [if_pos h54, if_pos h54, TJ_53]
    refine ⟨?_, fin _ (fun f' h0 h52 => up_ne h0) (fun k => ?_) (fun k => ?_)⟩
    · rw [s1, e1, up_ne (by decide), TJ_52, if_neg (Nat.lt_irrefl _), hJ]
    · rw [up0, nI_1]
    · rw [up_ne (by decide), TJ_52]
      by_cases l : k = n
      · rw [if_pos l, if_neg (by omega), l, hJ]
      · rw [if_neg l]
  · rw [if_neg h54, if_neg h54, TJ_53, up_ne (show (0 : Nat) ≠ 52 by decide), TJ_53, nI_clamp (by omega)]
    refine ⟨?_, fin _ (fun f' h0 h52 => by rw [up_ne h0, up_ne h52]) (fun k => ?_) (fun k => ?_)⟩
    · rw [s1, e1, up_ne (by decide), up0, if_pos rfl]
    · rw [up0, nI_1, up_ne (by decide)]
    · rw [up_ne (by decide), up0]
