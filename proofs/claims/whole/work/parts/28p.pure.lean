theorem ok_judge {j : Nat} {σ : St} (h : IV j σ) (hj : j < 512) (x : Int32) : OK j σ (f_X6_judge σ x) (g_X6_judge σ x) (f_X7_judge (σ 4) x) (g_X7_judge (σ 4) x) := by
  obtain ⟨⟨n, nw, nr, S, c1, c2⟩, t, ⟨r, hr, er, er', hrow⟩, ff, ii⟩ := id h
  obtain ⟨j1, j2, j3⟩ := j30 hj
  have hn := S.1.1.1
  unfold f_X6_judge g_X6_judge f_X7_judge g_X7_judge
  dsimp only
  by_cases h2 : f_X7_in x.toInt64 0 2 = 0
  · have h2' : ¬ (0 ≤ x ∧ x ≤ 2) := fun q => (in_ii (x := x) (a := 0) (b := 2)).mpr q h2
    simp only [if_pos h2]
    by_cases q : x < 0
    · simp only [if_pos q]; exact OK.ref h r2
    · have q2 : ¬ x ≤ 2 := fun z => h2' ⟨Int32.not_lt.mp q, z⟩
      simp only [if_neg q, if_neg q2]; exact OK.ref h r2
  · obtain ⟨q1, q2⟩ := (in_ii (x := x) (a := 0) (b := 2)).mp h2
    simp only [if_neg h2, if_neg (Int32.not_lt.mpr q1), if_pos q2]
    have hc6 : l_X6_rowIsOfCells_2 σ () = wl (b_X6_rowIsOfCells_2 σ) (r + 1) 0 () := by unfold l_X6_rowIsOfCells_2; rw [nn_eq, er, nI_clamp (by omega)]
    have hc7 : l_X7_judge_21 x (σ 4) = wl (b_X7_judge_21 x) (r + 1) 0 (σ 4) := by unfold l_X7_judge_21; rw [nn_eq, er', nI_clamp (by omega)]
    rcases row_chk (y1 := x) hn S.1.2.1.1 S.2.1.1.1 hr er er' hrow r 0 (by omega) with ⟨a1, a2, a3⟩ | ⟨a1, a2⟩
    · have hrc : f_X6_rowIsOfCells σ = 1 := by unfold f_X6_rowIsOfCells; dsimp only; rw [hc6, if_pos a1]
      rw [hc7, a2, hrc]
      dsimp only
      simp only [if_neg (show ¬ (1 : Int32) = 0 by decide), if_pos (show (65 : Nat) = 65 from rfl)]
      have hz : σ 4 0 0 = σ 1 1 0 := S.2.1.1.1.trans S.1.2.1.1.symm
      by_cases z : σ 1 1 0 = 0
      · simp only [if_pos z, if_pos (hz.trans z)]; exact OK.ref h r3
      · simp only [if_neg z, if_neg (fun q => z (hz.symm.trans q))]
        have k := itn_2 (f := b_X6_judge_68 x) (g := b_X7_judge_91 x) (N := r) (JP n nw nr (200 * j) (1598400 * j) σ (g_X7_save (σ 4)))
          (fun k a b hk q => judge_step (by omega) (Nat.lt_of_le_of_lt (Nat.add_le_add_left (by decide : 7992 * 28 ≤ 1598400) _) j2) hr hk (fun i hi => by rw [save_c _ 31 (by decide)]; exact (hrow i hi).1) (fun i hi => a3 i (Nat.zero_le _) hi) q)
          r ((-9), 0, setG σ 2 (g_X3_become (σ 2) (σ 1))) ((-9), 0, g_X7_save (σ 4)) (Nat.le_refl _)
          (by
            have A := become_AG (σ 2) (σ 1)
            refine ⟨?_, ?_, rfl, Or.inl rfl, ⟨0, Nat.zero_le _, rfl, rfl⟩, fun f hf => setG_ne hf, Tt.rf⟩
            · show SIM n nw nr (200 * j + 0) (1598400 * j + 7992 * 0) (setG σ 2 (g_X3_become (σ 2) (σ 1)) 2) (g_X7_save (σ 4))
              rw [setG_same]; exact (S.ag A).am (save_AM _)
            · show g_X7_save (σ 4) 0 24 = setG σ 2 (g_X3_become (σ 2) (σ 1)) 2 19 0
              rw [setG_same, save_s _ 24 (by decide), A.2.1 0 (by decide)]; exact c1)
        have e6 : l_X6_judge_68 x ((-9), 0, setG σ 2 (g_X3_become (σ 2) (σ 1))) = itn (b_X6_judge_68 x) r ((-9), 0, setG σ 2 (g_X3_become (σ 2) (σ 1))) := by
          unfold l_X6_judge_68
          dsimp only
          rw [setG_ne (by decide), er, nI_clamp (by omega)]
        have e7 : l_X7_judge_91 x ((-9), 0, g_X7_save (σ 4)) = itn (b_X7_judge_91 x) r ((-9), 0, g_X7_save (σ 4)) := by
          unfold l_X7_judge_91
          dsimp only
          rw [save_s _ 32 (by decide), er', nI_clamp (by omega)]
        rw [e6, e7]
        generalize itn (b_X6_judge_68 x) r ((-9), 0, setG σ 2 (g_X3_become (σ 2) (σ 1))) = z6 at *
        generalize itn (b_X7_judge_91 x) r ((-9), 0, g_X7_save (σ 4)) = z7 at *
        obtain ⟨S', hcap', e1, _, ⟨C, hC, p6, p7⟩, hf, ht⟩ := k
        have e0 : z6.2.2 0 = σ 0 := hf 0 (by decide)
        have hMr : 1598400 * j + 7992 * r < 2 ^ 30 := by
          have : 7992 * r ≤ 1598400 := Nat.le_trans (Nat.mul_le_mul_left 7992 hr) (by decide)
          exact Nat.lt_of_le_of_lt (Nat.add_le_add_left this _) j2
        have feet := (feet_sim S'.1 S'.2.1 S'.2.2.1 S'.2.2.2.2.1 hMr).1
        have sv := Sv.of32 ht
        refine OK.of ?_ ?_ ?_
        · rw [setG_ne (by decide)]; exact hf 4 (by decide)
        · rw [if_pos trivial, e1, p6, p7, lN_i, feet, setG_ne (show (2 : Nat) ≠ 0 by decide)]
        · rw [setG_same, setG_ne (show (1 : Nat) ≠ 0 by decide), setG_ne (show (3 : Nat) ≠ 0 by decide), e0, hf 1 (by decide), hf 3 (by decide)]
          have base : IVc j (up (σ 0) 0 6 0) (σ 1) (σ 3) (up (σ 4) 0 32 0) := by
            refine ⟨⟨n, nw, nr, S.am ⟨fun j hj => s0 j (by omega), s0 34 (by decide), fun f i _ hf => by rw [up_ne (by omega)], fun f i _ hf => by rw [up_ne (by omega)], fun f i _ hf => by rw [up_ne (by omega)], fun i _ => rfl⟩, (s0 24 (by decide)).trans c1, (s0 34 (by decide)).trans c2⟩, ?_, ⟨0, by decide, s1, s1, fun i hi => absurd hi (Nat.not_lt_zero _)⟩, ff, ?_⟩
            · obtain ⟨e, he, t1, t2, t3⟩ := t
              exact ⟨e, he, t1, (s0 30 (by decide)).trans t2, t3⟩
            · rcases ii with ⟨a, b⟩ | ⟨a, b, c⟩
              · exact Or.inl ⟨(s0 3 (by decide)).trans a, (s0 51 (by decide)).trans b⟩
              · exact Or.inr ⟨(s0 3 (by decide)).trans a, (s0 51 (by decide)).trans b, c⟩
          exact IVc.sim base (Nat.le_succ j) (base.1.sv (Nat.le_succ j) sv) sv.wk
    · have hrc : f_X6_rowIsOfCells σ = 0 := by unfold f_X6_rowIsOfCells; dsimp only; rw [hc6, if_neg (by rw [a1]; decide)]
      rw [hc7, a2, hrc]
      dsimp only
      simp only [if_pos (show (0 : Int32) = 0 from rfl), if_neg (show ¬ (58 : Nat) = 65 by decide)]
      exact OK.ref h r1
