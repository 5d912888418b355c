theorem ne0 {x : Int32} (h : x = 1) : ¬ x = 0 := by rw [h]; decide
theorem cs_stm {t : Nat → Int32} {e a : Nat} {ρ : Gr} (h : CX t e ρ a) : SS t e a ρ (stm (hb t e) a) (f_X1_readStatement ρ) (g_X1_readStatement ρ) := by
  have k5 : KS [3] ρ (up ρ 1 3 (f_X1_byteHere ρ)) := KS.u
  have h5 : CX t e (up ρ 1 3 (f_X1_byteHere ρ)) a := h.ks k5 (by decide) h.2.2.2.1 ((k5.2 2 (by decide)).trans h.2.2.2.2)
  have v5 : up ρ 1 3 (f_X1_byteHere ρ) 1 3 = f_X1_byteHere ρ := by rw [up0, if_pos rfl]
  unfold f_X1_readStatement g_X1_readStatement
  dsimp only
  rw [v5]
  generalize up ρ 1 3 (f_X1_byteHere ρ) = ρ5 at *
  by_cases b99 : hb t e a = 99
  · have c99 := (h.is (c := 99) (by decide) (by decide)).mpr b99
    rw [if_pos c99, if_pos c99]
    have h6 := h5.inc (hb_out b99 (by decide))
    have k6 : KS [3, 2] ρ (up ρ5 1 2 (ρ5 1 2 + 1)) := k5.trans KS.u
    have v6 : up ρ5 1 2 (ρ5 1 2 + 1) 1 3 = 99 := by rw [up0, if_neg (by decide), v5, c99]
    generalize up ρ5 1 2 (ρ5 1 2 + 1) = z at *
    by_cases n1 : (rnum (hb t e) (a + 1)).1 = true
    · obtain ⟨f1, g1, s1', x1, y1⟩ := (cs_num h6).1 n1
      have es := (stm_c b99).trans (rb_ok n1)
      rw [if_neg (ne0 f1), if_neg (ne0 f1)]
      have l1 := (s1'.2 3 (by decide)).trans v6
      have k7 := k6.trans s1'
      generalize g_X1_readNumber z = z1 at *
      generalize (rnum (hb t e) (a + 1)).2.1 = b at *
      by_cases n2 : hb t e b = 44
      · obtain ⟨f2, g2, s2⟩ := (cs_sign (x := 44) g1 (by decide) (by decide)).1 n2
        have es := es.trans (if_pos n2)
        rw [if_neg (ne0 f2), if_neg (ne0 f2)]
        have l2 := (s2.2 3 (by decide)).trans l1
        have x2 := (s2.2 8 (by decide)).trans x1
        have k8 := k7.trans s2
        generalize g_X1_readSign z1 44 = z2 at *
        by_cases n3 : (rnum (hb t e) (b + 1)).1 = true
        · obtain ⟨f3, g3, s3, x3, y3⟩ := (cs_num g2).1 n3
          have es := es.trans (rb_ok n3)
          rw [if_neg (ne0 f3), if_neg (ne0 f3)]
          have l3 := (s3.2 3 (by decide)).trans l2
          have k9 := k8.trans s3
          generalize g_X1_readNumber z2 = z3 at *
          refine SS.end es g3 k9 (fun g' kk => ⟨?_, fun _ => ⟨?_, ?_⟩, fun q => ?_, fun q => ?_, fun q => ?_⟩)
          · rw [kk.2 3 (by decide), l3, b99]
          · rw [kk.2 9 (by decide), y3, x2]
          · rw [kk.2 8 (by decide), x3]
          · rw [b99] at q; exact absurd q (by decide)
          · rw [b99] at q; exact absurd q (by decide)
          · rw [b99] at q; exact absurd q (by decide)
        · obtain ⟨f3, g3, p3⟩ := (cs_num g2).2 n3
          have es := es.trans (rb_no n3)
          rw [p3] at es
          rw [if_pos f3, if_pos f3, g3]
          exact SS.no es g2 k8
      · obtain ⟨f2, g2⟩ := (cs_sign (x := 44) g1 (by decide) (by decide)).2 n2
        rw [if_pos f2, if_pos f2, g2]
        exact SS.no (es.trans (if_neg n2)) g1 k7
    · obtain ⟨f1, g1, p1⟩ := (cs_num h6).2 n1
      have es := (stm_c b99).trans (rb_no n1)
      rw [p1] at es
      rw [if_pos f1, if_pos f1, g1]
      exact SS.no es h6 k6
  · have c99 : ¬ f_X1_byteHere ρ = 99 := fun q => b99 ((h.is (by decide) (by decide)).mp q)
    rw [if_neg c99, if_neg c99]
    by_cases b109 : hb t e a = 109
    · have c109 := (h.is (c := 109) (by decide) (by decide)).mpr b109
      rw [if_pos c109, if_pos c109]
      have h6 := h5.inc (hb_out b109 (by decide))
      have k6 : KS [3, 2] ρ (up ρ5 1 2 (ρ5 1 2 + 1)) := k5.trans KS.u
      have v6 : up ρ5 1 2 (ρ5 1 2 + 1) 1 3 = 109 := by rw [up0, if_neg (by decide), v5, c109]
      generalize up ρ5 1 2 (ρ5 1 2 + 1) = z at *
      obtain ⟨g1, s1', x1, y1, f1⟩ := cs_moon h6
      have es := stm_m b109
      by_cases m0 : mcn (hb t e) (a + 1) 28 0 = 0
      · rw [if_pos m0] at es
        rw [m0] at g1
        rw [if_pos (f1.mpr m0), if_pos (f1.mpr m0)]
        exact SS.no es g1 (k6.trans s1')
      · rw [if_neg m0] at es
        rw [if_neg (fun q => m0 (f1.mp q)), if_neg (fun q => m0 (f1.mp q))]
        have l1 := (s1'.2 3 (by decide)).trans v6
        generalize g_X1_readMoon z = z1 at *
        refine SS.end es g1 (k6.trans s1') (fun g' kk => ⟨?_, fun q => ?_, fun q => ?_, fun q => ?_, fun _ => ⟨?_, ?_⟩⟩)
        · rw [kk.2 3 (by decide), l1, b109]
        · rw [b109] at q; exact absurd q (by decide)
        · rw [b109] at q; exact absurd q (by decide)
        · rw [b109] at q; exact absurd q (by decide)
        · rw [kk.2 11 (by decide), y1]
        · rw [kk.2 10 (by decide), x1]
    · have c109 : ¬ f_X1_byteHere ρ = 109 := fun q => b109 ((h.is (by decide) (by decide)).mp q)
      rw [if_neg c109, if_neg c109]
      by_cases b114 : hb t e a = 114
      · have c114 := (h.is (c := 114) (by decide) (by decide)).mpr b114
        rw [if_pos c114, if_pos c114]
        have h6 := h5.inc (hb_out b114 (by decide))
        have k6 : KS [3, 2] ρ (up ρ5 1 2 (ρ5 1 2 + 1)) := k5.trans KS.u
        have v6 : up ρ5 1 2 (ρ5 1 2 + 1) 1 3 = 114 := by rw [up0, if_neg (by decide), v5, c114]
        generalize up ρ5 1 2 (ρ5 1 2 + 1) = z at *
        by_cases n1 : (rdig (hb t e) (a + 1)).1 = true
        · obtain ⟨f1, g1, s1', x1, y1⟩ := (cs_dig h6).1 n1
          have es := (stm_r b114).trans (rb_ok n1)
          rw [if_neg (ne0 f1), if_neg (ne0 f1)]
          have l1 := (s1'.2 3 (by decide)).trans v6
          have k7 := k6.trans s1'
          generalize g_X1_readDigit z = z1 at *
          generalize (rdig (hb t e) (a + 1)).2.1 = b at *
          by_cases n2 : (rof (hb t e) b 83 77).1 = true
          · obtain ⟨f2, g2, s2, x2⟩ := (cs_stuff g1).1 n2
            have es := es.trans (rb_ok n2)
            rw [if_neg (ne0 f2), if_neg (ne0 f2)]
            have l2 := (s2.2 3 (by decide)).trans l1
            have w2 := (s2.2 4 (by decide)).trans x1
            have k8 := k7.trans s2
            generalize g_X1_readStuff z1 = z2 at *
            generalize (rof (hb t e) b 83 77).2.1 = c at *
            by_cases n3 : (rnum (hb t e) c).1 = true
            · obtain ⟨f3, g3, s3, x3, y3⟩ := (cs_num g2).1 n3
              have es := es.trans (rb_ok n3)
              rw [if_neg (ne0 f3), if_neg (ne0 f3)]
              have l3 := (s3.2 3 (by decide)).trans l2
              have w3 := (s3.2 4 (by decide)).trans w2
              have u3 := (s3.2 7 (by decide)).trans x2
              have k9 := k8.trans s3
              generalize g_X1_readNumber z2 = z3 at *
              refine SS.end es g3 k9 (fun g' kk => ⟨?_, fun q => ?_, fun q => ?_, fun _ => ⟨?_, ?_, ?_⟩, fun q => ?_⟩)
              · rw [kk.2 3 (by decide), l3, b114]
              · rw [b114] at q; exact absurd q (by decide)
              · rw [b114] at q; exact absurd q (by decide)
              · rw [kk.2 4 (by decide), w3]
              · rw [kk.2 7 (by decide), u3]
              · rw [kk.2 8 (by decide), x3]
              · rw [b114] at q; exact absurd q (by decide)
            · obtain ⟨f3, g3, p3⟩ := (cs_num g2).2 n3
              have es := es.trans (rb_no n3)
              rw [p3] at es
              rw [if_pos f3, if_pos f3, g3]
              exact SS.no es g2 k8
          · obtain ⟨f2, g2, s2, p2⟩ := (cs_stuff g1).2 n2
            have es := es.trans (rb_no n2)
            rw [p2] at es
            rw [if_pos f2, if_pos f2]
            exact SS.no es g2 (k7.trans s2)
        · obtain ⟨f1, g1, p1⟩ := (cs_dig h6).2 n1
          have es := (stm_r b114).trans (rb_no n1)
          rw [p1] at es
          rw [if_pos f1, if_pos f1, g1]
          exact SS.no es h6 k6
      · have c114 : ¬ f_X1_byteHere ρ = 114 := fun q => b114 ((h.is (by decide) (by decide)).mp q)
        rw [if_neg c114, if_neg c114]
        by_cases b119 : hb t e a = 119
        · have c119 := (h.is (c := 119) (by decide) (by decide)).mpr b119
          rw [if_pos c119, if_pos c119]
          have h6 := h5.inc (hb_out b119 (by decide))
          have k6 : KS [3, 2] ρ (up ρ5 1 2 (ρ5 1 2 + 1)) := k5.trans KS.u
          have v6 : up ρ5 1 2 (ρ5 1 2 + 1) 1 3 = 119 := by rw [up0, if_neg (by decide), v5, c119]
          generalize up ρ5 1 2 (ρ5 1 2 + 1) = z at *
          by_cases n1 : (rdig (hb t e) (a + 1)).1 = true
          · obtain ⟨f1, g1, s1', x1, y1⟩ := (cs_dig h6).1 n1
            have es := (stm_w b119).trans (rb_ok n1)
            rw [if_neg (ne0 f1), if_neg (ne0 f1)]
            have l1 := (s1'.2 3 (by decide)).trans v6
            have k7 := k6.trans s1'
            generalize g_X1_readDigit z = z1 at *
            generalize (rdig (hb t e) (a + 1)).2.1 = b at *
            by_cases n2 : (rdig (hb t e) b).1 = true
            · obtain ⟨f2, g2, s2, x2, y2⟩ := (cs_dig g1).1 n2
              have es := es.trans (rb_ok n2)
              rw [if_neg (ne0 f2), if_neg (ne0 f2)]
              have l2 := (s2.2 3 (by decide)).trans l1
              have w2 := y2.trans x1
              have k8 := k7.trans s2
              generalize g_X1_readDigit z1 = z2 at *
              generalize (rdig (hb t e) b).2.1 = c at *
              by_cases n3 : (rof (hb t e) c 115 110).1 = true
              · obtain ⟨f3, g3, s3, x3⟩ := (cs_kind g2).1 n3
                have es := es.trans (rb_ok n3)
                rw [if_neg (ne0 f3), if_neg (ne0 f3)]
                have l3 := (s3.2 3 (by decide)).trans l2
                have w3 := (s3.2 5 (by decide)).trans w2
                have u3 := (s3.2 4 (by decide)).trans x2
                have k9 := k8.trans s3
                generalize g_X1_readKind z2 = z3 at *
                generalize (rof (hb t e) c 115 110).2.1 = d at *
                by_cases n4 : (rof (hb t e) d 83 77).1 = true
                · obtain ⟨f4, g4, s4, x4⟩ := (cs_stuff g3).1 n4
                  have es := es.trans (rb_ok n4)
                  rw [if_neg (ne0 f4), if_neg (ne0 f4)]
                  have l4 := (s4.2 3 (by decide)).trans l3
                  have w4 := (s4.2 5 (by decide)).trans w3
                  have u4 := (s4.2 4 (by decide)).trans u3
                  have t4 := (s4.2 6 (by decide)).trans x3
                  have k10 := k9.trans s4
                  generalize g_X1_readStuff z3 = z4 at *
                  generalize (rof (hb t e) d 83 77).2.1 = o at *
                  by_cases n5 : (rnum (hb t e) o).1 = true
                  · obtain ⟨f5, g5, s5, x5, y5⟩ := (cs_num g4).1 n5
                    have es := es.trans (rb_ok n5)
                    rw [if_neg (ne0 f5), if_neg (ne0 f5)]
                    have l5 := (s5.2 3 (by decide)).trans l4
                    have w5 := (s5.2 5 (by decide)).trans w4
                    have u5 := (s5.2 4 (by decide)).trans u4
                    have t5 := (s5.2 6 (by decide)).trans t4
                    have r5 := (s5.2 7 (by decide)).trans x4
                    have k11 := k10.trans s5
                    generalize g_X1_readNumber z4 = z5 at *
                    refine SS.end es g5 k11 (fun g' kk => ⟨?_, fun q => ?_, fun _ => ⟨?_, ?_, ?_, ?_, ?_⟩, fun q => ?_, fun q => ?_⟩)
                    · rw [kk.2 3 (by decide), l5, b119]
                    · rw [b119] at q; exact absurd q (by decide)
                    · rw [kk.2 5 (by decide), w5]
                    · rw [kk.2 4 (by decide), u5]
                    · rw [kk.2 6 (by decide), t5]
                    · rw [kk.2 7 (by decide), r5]
                    · rw [kk.2 8 (by decide), x5]
                    · rw [b119] at q; exact absurd q (by decide)
                    · rw [b119] at q; exact absurd q (by decide)
                  · obtain ⟨f5, g5, p5⟩ := (cs_num g4).2 n5
                    have es := es.trans (rb_no n5)
                    rw [p5] at es
                    rw [if_pos f5, if_pos f5, g5]
                    exact SS.no es g4 k10
                · obtain ⟨f4, g4, s4, p4⟩ := (cs_stuff g3).2 n4
                  have es := es.trans (rb_no n4)
                  rw [p4] at es
                  rw [if_pos f4, if_pos f4]
                  exact SS.no es g4 (k9.trans s4)
              · obtain ⟨f3, g3, s3, p3⟩ := (cs_kind g2).2 n3
                have es := es.trans (rb_no n3)
                rw [p3] at es
                rw [if_pos f3, if_pos f3]
                exact SS.no es g3 (k8.trans s3)
            · obtain ⟨f2, g2, p2⟩ := (cs_dig g1).2 n2
              have es := es.trans (rb_no n2)
              rw [p2] at es
              rw [if_pos f2, if_pos f2, g2]
              exact SS.no es g1 k7
          · obtain ⟨f1, g1, p1⟩ := (cs_dig h6).2 n1
            have es := (stm_w b119).trans (rb_no n1)
            rw [p1] at es
            rw [if_pos f1, if_pos f1, g1]
            exact SS.no es h6 k6
        · have c119 : ¬ f_X1_byteHere ρ = 119 := fun q => b119 ((h.is (by decide) (by decide)).mp q)
          rw [if_neg c119, if_neg c119]
          exact SS.no (stm_o b99 b119 b114 b109) h5 k5
