/-! LOOKS -/
theorem stop_L {nw : Nat → Int32} {r2 v : Int32} (e2 : nw 2 = r2) (hb : 1 ≤ r2.toInt ∧ r2.toInt ≤ 9) : s_stop8 nw v = s_stop r2 v := by
  unfold s_stop8 s_stop s_isSpeed
  rw [in8_eq]
  by_cases c : s_isWithin v (-40) 40 = true
  · rw [if_pos c, if_pos c, stop_eq (wiI c (by decide) (by decide)) (by rw [e2]; exact hb), e2]
  · rw [if_neg c, if_neg c]
theorem half_L {v : Int32} : s_half8 v = s_half v := by
  unfold s_half8 s_half s_isRope
  rw [in8_eq]
  by_cases c : s_isWithin v 10 60 = true
  · rw [if_pos c, if_pos c, half_eq (wiI c (by decide) (by decide))]
  · rw [if_neg c, if_neg c]
theorem tk_b {tk a : Int32} : (tk + a) - tk = a := by rw [Int32.add_comm, Int32.add_sub_cancel]
theorem crane_L0 {nw : Nat → Int32} {r0 r1 r2 r3 r4 pv tk l0 l1 l2 l3 l4 l5 l6 l7 l8 l9 l10 l11 q0 q1 q2 q3 q4 q5 q6 q7 q8 q9 q10 q11 what : Int32} (h : PaR nw r0 r1 r2 r3 r4 pv tk l0 l1 l2 l3 l4 l5 l6 l7 l8 l9 l10 l11 q0 q1 q2 q3 q4 q5 q6 q7 q8 q9 q10 q11) : s_crane8_0 nw what = s_crane_0 l0 l1 l2 l3 l4 l5 l6 l7 l9 l11 r2 r3 what := by
  have e0 : nw 7 = l0 := h.2.1.1
  have e1 : nw 8 = l1 := h.2.1.2.1
  have eX2 : nw 9 = l2 := h.2.1.2.2.1
  have eX3 : nw 10 = l3 := h.2.1.2.2.2.1
  have e4 : nw 11 = l4 := h.2.1.2.2.2.2.1
  have e5 : nw 12 = l5 := h.2.1.2.2.2.2.2.1
  have e6 : nw 13 = l6 := h.2.1.2.2.2.2.2.2.1
  have e7 : nw 14 = l7 := h.2.1.2.2.2.2.2.2.2.1
  have es : nw 15 = stN l9 l11 := (h.2.1.2.2.2.2.2.2.2.2).1
  have e2 : nw 2 = r2 := h.1.2.2.1
  have e3 : nw 3 = r3 := h.1.2.2.2.1
  have eq := quiet_eq_0 h
  have hb := h.2.2.2.2.1
  have hc := h.2.2.2.1.2.2.1
  unfold s_crane8_0 s_crane_0
  rw [isCrane8_eq, e0, e1, eX2, eX3, e4, e5, e6, e7, es, limit_eq_0, eq, stop_eq (nw := nw) (v := l1) hb.1 (by rw [e2]; exact hc), half_eq hb.2.1, e2, e3]
  rw [eX3]
  rfl
theorem step_L00 {nw : Nat → Int32} {r0 r1 r2 r3 r4 pv tk l0 l1 l2 l3 l4 l5 l6 l7 l8 l9 l10 l11 q0 q1 q2 q3 q4 q5 q6 q7 q8 q9 q10 q11 what : Int32} (h : PaR nw r0 r1 r2 r3 r4 pv tk l0 l1 l2 l3 l4 l5 l6 l7 l8 l9 l10 l11 q0 q1 q2 q3 q4 q5 q6 q7 q8 q9 q10 q11) : s_stepOf8_00 nw what = s_stepOf_0 l8 l9 l10 l11 0 what := by
  obtain ⟨s0, s1, s2, s3, -⟩ := h.2.1.2.2.2.2.2.2.2.2
  have s0 : nw 15 = stN l9 l11 := s0
  have e6 : nw 6 = tk := h.1.2.2.2.2.2.2
  unfold s_stepOf8_00 s_stepOf_0
  rw [isCrane8_eq, in8_eq, s0, e6]
  rw [if_neg (show ¬ (0 : Int32) < 0 by decide)]
  have hst : s_stepsToCome l9 l11 = stN l9 l11 := rfl
  rw [hst]
  by_cases c9 : l9 = 0
  · by_cases c11 : l11 = 0
    · rw [c9, c11, stN_00]
      simp only [if_neg (show ¬ (0 : Int32) < 0 by decide)]
    · obtain ⟨t1, t2⟩ := s2 c9 c11
      have t1 : nw 16 = tk + l10 := t1
      have t2 : nw 17 = l11 := t2
      rw [t1, t2, tk_b]
      unfold s_stepIn s_stepBy s_isSoon
      rw [if_pos (show (0 : Int32) = 0 from rfl), if_pos c9, if_neg (show ¬ (false = true) by decide), if_neg (show ¬ (false = true) by decide)]
  · obtain ⟨t1, t2⟩ := s1 c9
    have t1 : nw 16 = tk + l8 := t1
    have t2 : nw 17 = l9 := t2
    rw [t1, t2, tk_b]
    unfold s_stepIn s_stepBy s_isSoon
    rw [if_pos (show (0 : Int32) = 0 from rfl), if_neg c9, if_pos (show true = true from rfl), if_pos (show true = true from rfl)]
theorem step_L01 {nw : Nat → Int32} {r0 r1 r2 r3 r4 pv tk l0 l1 l2 l3 l4 l5 l6 l7 l8 l9 l10 l11 q0 q1 q2 q3 q4 q5 q6 q7 q8 q9 q10 q11 what : Int32} (h : PaR nw r0 r1 r2 r3 r4 pv tk l0 l1 l2 l3 l4 l5 l6 l7 l8 l9 l10 l11 q0 q1 q2 q3 q4 q5 q6 q7 q8 q9 q10 q11) : s_stepOf8_01 nw what = s_stepOf_0 l8 l9 l10 l11 1 what := by
  obtain ⟨s0, s1, s2, s3, -⟩ := h.2.1.2.2.2.2.2.2.2.2
  have s0 : nw 15 = stN l9 l11 := s0
  have e6 : nw 6 = tk := h.1.2.2.2.2.2.2
  unfold s_stepOf8_01 s_stepOf_0
  rw [isCrane8_eq, in8_eq, s0, e6]
  rw [if_neg (show ¬ (1 : Int32) < 0 by decide)]
  have hst : s_stepsToCome l9 l11 = stN l9 l11 := rfl
  rw [hst]
  by_cases c9 : l9 = 0
  · by_cases c11 : l11 = 0
    · rw [c9, c11, stN_00, if_neg (show ¬ (1 : Int32) < 0 by decide), if_neg (show ¬ (1 : Int32) < 0 by decide)]
    · rw [c9, stN_01 c11, if_neg (show ¬ (1 : Int32) < 1 by decide), if_neg (show ¬ (1 : Int32) < 1 by decide)]
  · by_cases c11 : l11 = 0
    · rw [c11, stN_10 c9, if_neg (show ¬ (1 : Int32) < 1 by decide), if_neg (show ¬ (1 : Int32) < 1 by decide)]
    · obtain ⟨t1, t2⟩ := s3 c9 c11
      have t1 : nw 18 = tk + l10 := t1
      have t2 : nw 19 = l11 := t2
      rw [t1, t2, tk_b]
      unfold s_stepIn s_stepBy s_isSoon
      rw [if_neg (show ¬ (1 : Int32) = 0 by decide), if_neg (show ¬ (false = true) by decide), if_neg (show ¬ (false = true) by decide)]
theorem step_L0n {l8 l9 l10 l11 k what : Int32} (hk0 : ¬ k = 0) (hk1 : ¬ k = 1) : s_stepOf8_0n k what = s_stepOf_0 l8 l9 l10 l11 k what := by
  unfold s_stepOf8_0n s_stepOf_0
  rw [isCrane8_eq, in8_eq]
  by_cases c1 : k < 0
  · rw [if_pos c1, if_pos c1]
  · rw [if_neg c1, if_neg c1]
    have hn : ¬ k < s_stepsToCome l9 l11 := kNo c1 hk0 hk1 (stN_cases l9 l11)
    rw [if_neg hn]
theorem spot_L0 {nw : Nat → Int32} {mm : Nat} {am k what : Int32} {af ag : Nat → Int32} (h : SpR nw 33 mm am af ag) : s_spot8_0 nw mm k what = s_spot_0 am af ag k what := by
  have hs := h
  obtain ⟨h1, h2, h3, h4, h5, h6⟩ := h
  unfold s_spot8_0 s_spot_0
  rw [isCrane8_eq, in8_eq, h2]
  have em : (-1 : Int32).toInt = -1 := by decide
  by_cases c0 : s_isCrane 0 = true
  · rw [if_pos c0, if_pos c0]
    by_cases c1 : k < (-1)
    · rw [if_pos c1, if_pos c1]
    · rw [if_neg c1, if_neg c1]
      by_cases c2 : s_isWithin what 0 2 = true
      · rw [if_pos c2, if_pos c2]
        rw [ltI, em] at c1
        by_cases c3 : k = (-1)
        · rw [if_pos c3, c3, if_neg (by decide)]
        · have c3' : k.toInt ≠ -1 := fun q => c3 (eqI.mpr (by rw [q, em]))
          rw [if_neg c3, if_pos (show 0 ≤ k by rw [leI, zI]; omega)]
          by_cases c4 : k < nI mm
          · rw [if_pos c4, if_pos c4]
            rw [ltI, nIt (by omega)] at c4
            have hj : k.toInt.toNat < mm := by omega
            have ek : k = nI k.toInt.toNat := by rw [eqI, nIt (by omega)]; omega
            generalize k.toInt.toNat = j at hj ek
            subst ek
            have g1 : nw ((34 : Int32) + nI j).toNatClampNeg = af j := by
              rw [show ((34 : Int32) + nI j) = nI (34 + j) from nI_sum (a := 34) (b := j) rfl rfl rfl, nI_clamp (by omega), Nat.add_comm]
              exact (h4 j hj).1
            have g2 : nw ((154 : Int32) + nI j).toNatClampNeg = ag j := by
              rw [show ((154 : Int32) + nI j) = nI (154 + j) from nI_sum (a := 154) (b := j) rfl rfl rfl, nI_clamp (by omega), Nat.add_comm]
              exact (h4 j hj).2
            unfold s_blockAt s_floorAt
            rw [g1, g2, nameAt_n (by omega), ticksAt_old rfl hj h1]
          · rw [if_neg c4, if_neg c4]
      · rw [if_neg c2, if_neg c2]
  · rw [if_neg c0, if_neg c0]
theorem been_L0 {nw : Nat → Int32} {mm : Nat} {am x rp : Int32} {af ag : Nat → Int32} (h : SpR nw 33 mm am af ag) : s_been8_0 nw mm x rp = s_been_0 am af ag x rp := by
  have hs := h
  obtain ⟨h1, h2, h3, h4, h5, h6⟩ := h
  unfold s_been8_0 s_been_0 s_ticksIn
  rw [isCrane8_eq, in8_eq, in8_eq, six_0, find_eq hs]
  have hn : s_nameOf x rp = (100 * x) + rp := by unfold s_nameOf; rw [Int32.mul_comm]
  rw [hn, show (33 + 1 : Nat) = 34 from rfl]
  have hp := gIx_p (nw := nw) (o := 34) (mm := mm) (cd := (100 * x) + rp) h1 121 0 (by omega) (by omega) (fun i hi => by omega)
  generalize gIx nw 34 mm ((100 * x) + rp) 121 0 = ix at *
  by_cases c1 : ix = mm
  · rw [if_pos (show nI ix = nI mm by rw [c1]), c1, ticksAt_new h2 h1]
  · rw [if_neg (show ¬ nI ix = nI mm from fun q => c1 (nI_ne (by omega) (by omega) q)), ticksAt_old h2 (by omega) h1]
    have g2 : nw (ix + 154) = ag ix := (h4 ix (by omega)).2
    rw [g2]
theorem crane_L1 {nw : Nat → Int32} {r0 r1 r2 r3 r4 pv tk l0 l1 l2 l3 l4 l5 l6 l7 l8 l9 l10 l11 q0 q1 q2 q3 q4 q5 q6 q7 q8 q9 q10 q11 what : Int32} (h : PaR nw r0 r1 r2 r3 r4 pv tk l0 l1 l2 l3 l4 l5 l6 l7 l8 l9 l10 l11 q0 q1 q2 q3 q4 q5 q6 q7 q8 q9 q10 q11) : s_crane8_1 nw what = s_crane_1 q0 q1 q2 q3 q4 q5 q6 q7 q9 q11 r2 r3 what := by
  have e0 : nw 20 = q0 := h.2.2.1.1
  have e1 : nw 21 = q1 := h.2.2.1.2.1
  have eX2 : nw 22 = q2 := h.2.2.1.2.2.1
  have eX3 : nw 23 = q3 := h.2.2.1.2.2.2.1
  have e4 : nw 24 = q4 := h.2.2.1.2.2.2.2.1
  have e5 : nw 25 = q5 := h.2.2.1.2.2.2.2.2.1
  have e6 : nw 26 = q6 := h.2.2.1.2.2.2.2.2.2.1
  have e7 : nw 27 = q7 := h.2.2.1.2.2.2.2.2.2.2.1
  have es : nw 28 = stN q9 q11 := (h.2.2.1.2.2.2.2.2.2.2.2).1
  have e2 : nw 2 = r2 := h.1.2.2.1
  have e3 : nw 3 = r3 := h.1.2.2.2.1
  have eq := quiet_eq_1 h
  have hb := h.2.2.2.2.2.1
  have hc := h.2.2.2.1.2.2.1
  unfold s_crane8_1 s_crane_1
  rw [isCrane8_eq, e0, e1, eX2, eX3, e4, e5, e6, e7, es, limit_eq_1, eq, stop_eq (nw := nw) (v := q1) hb.1 (by rw [e2]; exact hc), half_eq hb.2.1, e2, e3]
  rw [eX3]
  rfl
theorem step_L10 {nw : Nat → Int32} {r0 r1 r2 r3 r4 pv tk l0 l1 l2 l3 l4 l5 l6 l7 l8 l9 l10 l11 q0 q1 q2 q3 q4 q5 q6 q7 q8 q9 q10 q11 what : Int32} (h : PaR nw r0 r1 r2 r3 r4 pv tk l0 l1 l2 l3 l4 l5 l6 l7 l8 l9 l10 l11 q0 q1 q2 q3 q4 q5 q6 q7 q8 q9 q10 q11) : s_stepOf8_10 nw what = s_stepOf_1 q8 q9 q10 q11 0 what := by
  obtain ⟨s0, s1, s2, s3, -⟩ := h.2.2.1.2.2.2.2.2.2.2.2
  have s0 : nw 28 = stN q9 q11 := s0
  have e6 : nw 6 = tk := h.1.2.2.2.2.2.2
  unfold s_stepOf8_10 s_stepOf_1
  rw [isCrane8_eq, in8_eq, s0, e6]
  rw [if_neg (show ¬ (0 : Int32) < 0 by decide)]
  have hst : s_stepsToCome q9 q11 = stN q9 q11 := rfl
  rw [hst]
  by_cases c9 : q9 = 0
  · by_cases c11 : q11 = 0
    · rw [c9, c11, stN_00]
      simp only [if_neg (show ¬ (0 : Int32) < 0 by decide)]
    · obtain ⟨t1, t2⟩ := s2 c9 c11
      have t1 : nw 29 = tk + q10 := t1
      have t2 : nw 30 = q11 := t2
      rw [t1, t2, tk_b]
      unfold s_stepIn s_stepBy s_isSoon
      rw [if_pos (show (0 : Int32) = 0 from rfl), if_pos c9, if_neg (show ¬ (false = true) by decide), if_neg (show ¬ (false = true) by decide)]
  · obtain ⟨t1, t2⟩ := s1 c9
    have t1 : nw 29 = tk + q8 := t1
    have t2 : nw 30 = q9 := t2
    rw [t1, t2, tk_b]
    unfold s_stepIn s_stepBy s_isSoon
    rw [if_pos (show (0 : Int32) = 0 from rfl), if_neg c9, if_pos (show true = true from rfl), if_pos (show true = true from rfl)]
theorem step_L11 {nw : Nat → Int32} {r0 r1 r2 r3 r4 pv tk l0 l1 l2 l3 l4 l5 l6 l7 l8 l9 l10 l11 q0 q1 q2 q3 q4 q5 q6 q7 q8 q9 q10 q11 what : Int32} (h : PaR nw r0 r1 r2 r3 r4 pv tk l0 l1 l2 l3 l4 l5 l6 l7 l8 l9 l10 l11 q0 q1 q2 q3 q4 q5 q6 q7 q8 q9 q10 q11) : s_stepOf8_11 nw what = s_stepOf_1 q8 q9 q10 q11 1 what := by
  obtain ⟨s0, s1, s2, s3, -⟩ := h.2.2.1.2.2.2.2.2.2.2.2
  have s0 : nw 28 = stN q9 q11 := s0
  have e6 : nw 6 = tk := h.1.2.2.2.2.2.2
  unfold s_stepOf8_11 s_stepOf_1
  rw [isCrane8_eq, in8_eq, s0, e6]
  rw [if_neg (show ¬ (1 : Int32) < 0 by decide)]
  have hst : s_stepsToCome q9 q11 = stN q9 q11 := rfl
  rw [hst]
  by_cases c9 : q9 = 0
  · by_cases c11 : q11 = 0
    · rw [c9, c11, stN_00, if_neg (show ¬ (1 : Int32) < 0 by decide), if_neg (show ¬ (1 : Int32) < 0 by decide)]
    · rw [c9, stN_01 c11, if_neg (show ¬ (1 : Int32) < 1 by decide), if_neg (show ¬ (1 : Int32) < 1 by decide)]
  · by_cases c11 : q11 = 0
    · rw [c11, stN_10 c9, if_neg (show ¬ (1 : Int32) < 1 by decide), if_neg (show ¬ (1 : Int32) < 1 by decide)]
    · obtain ⟨t1, t2⟩ := s3 c9 c11
      have t1 : nw 31 = tk + q10 := t1
      have t2 : nw 32 = q11 := t2
      rw [t1, t2, tk_b]
      unfold s_stepIn s_stepBy s_isSoon
      rw [if_neg (show ¬ (1 : Int32) = 0 by decide), if_neg (show ¬ (false = true) by decide), if_neg (show ¬ (false = true) by decide)]
theorem step_L1n {q8 q9 q10 q11 k what : Int32} (hk0 : ¬ k = 0) (hk1 : ¬ k = 1) : s_stepOf8_1n k what = s_stepOf_1 q8 q9 q10 q11 k what := by
  unfold s_stepOf8_1n s_stepOf_1
  rw [isCrane8_eq, in8_eq]
  by_cases c1 : k < 0
  · rw [if_pos c1, if_pos c1]
  · rw [if_neg c1, if_neg c1]
    have hn : ¬ k < s_stepsToCome q9 q11 := kNo c1 hk0 hk1 (stN_cases q9 q11)
    rw [if_neg hn]
theorem spot_L1 {nw : Nat → Int32} {mm : Nat} {am k what : Int32} {af ag : Nat → Int32} (h : SpR nw 274 mm am af ag) : s_spot8_1 nw mm k what = s_spot_1 am af ag k what := by
  have hs := h
  obtain ⟨h1, h2, h3, h4, h5, h6⟩ := h
  unfold s_spot8_1 s_spot_1
  rw [isCrane8_eq, in8_eq, h2]
  have em : (-1 : Int32).toInt = -1 := by decide
  by_cases c0 : s_isCrane 1 = true
  · rw [if_pos c0, if_pos c0]
    by_cases c1 : k < (-1)
    · rw [if_pos c1, if_pos c1]
    · rw [if_neg c1, if_neg c1]
      by_cases c2 : s_isWithin what 0 2 = true
      · rw [if_pos c2, if_pos c2]
        rw [ltI, em] at c1
        by_cases c3 : k = (-1)
        · rw [if_pos c3, c3, if_neg (by decide)]
        · have c3' : k.toInt ≠ -1 := fun q => c3 (eqI.mpr (by rw [q, em]))
          rw [if_neg c3, if_pos (show 0 ≤ k by rw [leI, zI]; omega)]
          by_cases c4 : k < nI mm
          · rw [if_pos c4, if_pos c4]
            rw [ltI, nIt (by omega)] at c4
            have hj : k.toInt.toNat < mm := by omega
            have ek : k = nI k.toInt.toNat := by rw [eqI, nIt (by omega)]; omega
            generalize k.toInt.toNat = j at hj ek
            subst ek
            have g1 : nw ((275 : Int32) + nI j).toNatClampNeg = af j := by
              rw [show ((275 : Int32) + nI j) = nI (275 + j) from nI_sum (a := 275) (b := j) rfl rfl rfl, nI_clamp (by omega), Nat.add_comm]
              exact (h4 j hj).1
            have g2 : nw ((395 : Int32) + nI j).toNatClampNeg = ag j := by
              rw [show ((395 : Int32) + nI j) = nI (395 + j) from nI_sum (a := 395) (b := j) rfl rfl rfl, nI_clamp (by omega), Nat.add_comm]
              exact (h4 j hj).2
            unfold s_blockAt s_floorAt
            rw [g1, g2, nameAt_n (by omega), ticksAt_old rfl hj h1]
          · rw [if_neg c4, if_neg c4]
      · rw [if_neg c2, if_neg c2]
  · rw [if_neg c0, if_neg c0]
theorem been_L1 {nw : Nat → Int32} {mm : Nat} {am x rp : Int32} {af ag : Nat → Int32} (h : SpR nw 274 mm am af ag) : s_been8_1 nw mm x rp = s_been_1 am af ag x rp := by
  have hs := h
  obtain ⟨h1, h2, h3, h4, h5, h6⟩ := h
  unfold s_been8_1 s_been_1 s_ticksIn
  rw [isCrane8_eq, in8_eq, in8_eq, six_1, find_eq hs]
  have hn : s_nameOf x rp = (100 * x) + rp := by unfold s_nameOf; rw [Int32.mul_comm]
  rw [hn, show (274 + 1 : Nat) = 275 from rfl]
  have hp := gIx_p (nw := nw) (o := 275) (mm := mm) (cd := (100 * x) + rp) h1 121 0 (by omega) (by omega) (fun i hi => by omega)
  generalize gIx nw 275 mm ((100 * x) + rp) 121 0 = ix at *
  by_cases c1 : ix = mm
  · rw [if_pos (show nI ix = nI mm by rw [c1]), c1, ticksAt_new h2 h1]
  · rw [if_neg (show ¬ nI ix = nI mm from fun q => c1 (nI_ne (by omega) (by omega) q)), ticksAt_old h2 (by omega) h1]
    have g2 : nw (ix + 395) = ag ix := (h4 ix (by omega)).2
    rw [g2]
theorem count_L {nw : Nat → Int32} {r0 r1 r2 r3 r4 pv tk l0 l1 l2 l3 l4 l5 l6 l7 l8 l9 l10 l11 q0 q1 q2 q3 q4 q5 q6 q7 q8 q9 q10 q11 ch le what : Int32} (h : PaR nw r0 r1 r2 r3 r4 pv tk l0 l1 l2 l3 l4 l5 l6 l7 l8 l9 l10 l11 q0 q1 q2 q3 q4 q5 q6 q7 q8 q9 q10 q11) : s_count8 ch le nw what = s_count ch tk pv l0 q0 r0 r1 r2 r3 r4 le what := by
  obtain ⟨⟨e0, e1, e2, e3, e4, e5, e6⟩, ⟨a0, -⟩, ⟨b0, -⟩, -⟩ := h
  have a0 : nw 7 = l0 := a0
  have b0 : nw 20 = q0 := b0
  unfold s_count8 s_count s_free8 s_freeBetween
  rw [a0, b0, e1]
  by_cases w7 : what = 7
  · subst w7; rfl
  rw [if_neg w7]
  by_cases w8 : what = 8
  · subst w8; rfl
  rw [if_neg w8]
  by_cases w9 : what = 9
  · subst w9; rfl
  rw [if_neg w9]
  by_cases w0 : what = 0
  · subst w0; exact e0
  by_cases w1 : what = 1
  · subst w1; exact e1
  by_cases w2 : what = 2
  · subst w2; exact e2
  by_cases w3 : what = 3
  · subst w3; exact e3
  by_cases w4 : what = 4
  · subst w4; exact e4
  by_cases w5 : what = 5
  · subst w5; exact e5
  by_cases w6 : what = 6
  · subst w6; exact e6
  rw [if_neg w0, if_neg w1, if_neg w2, if_neg w3, if_neg w4, if_neg w5, if_neg w6, if_neg w7, if_neg w8, if_neg w9, if_neg]
  intro q
  have := in8_iff.mp q
  rw [leI, leI, zI, show (6 : Int32).toInt = 6 by decide] at this
  have k0 : what.toInt ≠ 0 := fun q => w0 (eqI.mpr (by rw [q]; rfl))
  have k1 : what.toInt ≠ 1 := fun q => w1 (eqI.mpr (by rw [q]; rfl))
  have k2 : what.toInt ≠ 2 := fun q => w2 (eqI.mpr (by rw [q]; rfl))
  have k3 : what.toInt ≠ 3 := fun q => w3 (eqI.mpr (by rw [q]; rfl))
  have k4 : what.toInt ≠ 4 := fun q => w4 (eqI.mpr (by rw [q]; rfl))
  have k5 : what.toInt ≠ 5 := fun q => w5 (eqI.mpr (by rw [q]; rfl))
  have k6 : what.toInt ≠ 6 := fun q => w6 (eqI.mpr (by rw [q]; rfl))
  omega
theorem char_t : ∀ i : Nat, i < 95 → vp_nar .char (((Int32.ofInt ((i : Int) + 32)).toUInt32 % 65536).toInt32) = Int32.ofInt ((i : Int) + 32) := by decide +kernel
theorem char_eq {w : Int32} (h : 32 ≤ w.toInt ∧ w.toInt ≤ 126) : vp_nar .char ((w.toUInt32 % 65536).toInt32) = w := by
  have h1 := char_t (w.toInt - 32).toNat (by omega)
  have e : ((w.toInt - 32).toNat : Int) + 32 = w.toInt := by omega
  rw [e, Int32.ofInt_toInt] at h1
  exact h1
theorem write_L {k : Nat} {xn le w o0 o1 b0 b1 : Int32} {xc tx o2 b2 : Nat → Int32} (h : TxR k xn le xc tx) (hc : s_write xn xc w = (o0, o1, o2)) (h8 : s_write8 le tx w = (b0, b1, b2)) : o0 = b0 ∧ ∃ k2, TxR k2 o1 b1 o2 b2 := by
  have hs := h
  obtain ⟨h1, h2, h3, h4⟩ := h
  unfold s_write at hc
  unfold s_write8 at h8
  rw [in8_eq] at h8
  by_cases c1 : s_isWithin w 32 126 = true
  · rw [if_pos c1] at hc h8
    by_cases c2 : k = 200
    · rw [if_pos (by rw [h3, c2]; decide)] at h8
      rw [if_pos (by unfold s_isFull; rw [h2, c2, if_neg (by decide)])] at hc
      simp only [Prod.mk.injEq] at hc h8
      obtain ⟨u0, u1, u2⟩ := hc
      obtain ⟨v0, v1, v2⟩ := h8
      subst u0 u1 u2 v0 v1 v2
      exact ⟨rfl, k, hs⟩
    · have n200 : (nI 200 : Int32) = 200 := by decide
      rw [if_neg (by rw [h3]; intro q; rw [← n200] at q; exact c2 (nI_ne (by omega) (by omega) q))] at h8
      rw [if_neg (by unfold s_isFull; rw [h2, if_pos (by rw [ltI, nIt (by omega), show (200 : Int32).toInt = 200 by decide]; omega)]; decide)] at hc
      have ha : s_append xn xc ((w.toUInt32 % 65536).toInt32) = (nI (k + 1), upd xc k w) := by
        unfold s_append
        rw [h2, if_neg (by rw [ltI, zI, nIt (by omega)]; omega), if_neg (by rw [leI, nIt (by omega), show (200 : Int32).toInt = 200 by decide]; omega), nI_clamp (by omega), nI1 (by omega), char_eq (wiI c1 (by decide) (by decide))]
      rw [ha] at hc
      dsimp only at hc
      rw [h3, nI_clamp (by omega), nI1 (by omega)] at h8
      simp only [Prod.mk.injEq] at hc h8
      obtain ⟨u0, u1, u2⟩ := hc
      obtain ⟨v0, v1, v2⟩ := h8
      subst u0 u1 u2 v0 v1 v2
      refine ⟨rfl, k + 1, by omega, rfl, rfl, fun i hi => ?_⟩
      by_cases q : i = k
      · subst q; rw [upd_eq, upd_eq]
      · rw [upd_ne q, upd_ne q]; exact h4 i (by omega)
  · rw [if_neg c1] at hc h8
    simp only [Prod.mk.injEq] at hc h8
    obtain ⟨u0, u1, u2⟩ := hc
    obtain ⟨v0, v1, v2⟩ := h8
    subst u0 u1 u2 v0 v1 v2
    exact ⟨rfl, k, hs⟩
