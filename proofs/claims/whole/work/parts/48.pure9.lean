theorem isOne {b : Bool} : (if b = true then (1 : Int32) else 0) = bB b := by cases b <;> rfl
/-- a rope's length stays where ropes are -/
theorem hoR_b {a1 a2 a7 sl ot lv : Int32} (h2 : 10 ≤ a2.toInt ∧ a2.toInt ≤ 60) (h7 : 10 ≤ a7.toInt ∧ a7.toInt ≤ 60) : 10 ≤ (s_hoistRope a1 a2 a7 sl ot lv).1.toInt ∧ (s_hoistRope a1 a2 a7 sl ot lv).1.toInt ≤ 60 := by
  have e1 : (1 : Int32).toInt = 1 := by decide
  have em : (a2 - 1).toInt = a2.toInt - 1 := by rw [subI (by omega) (by omega), e1]
  have ep : (a2 + 1).toInt = a2.toInt + 1 := by rw [addI (by omega) (by omega), e1]
  unfold s_hoistRope
  by_cases c1 : a7 = a2
  · rw [if_pos c1]; exact h2
  rw [if_neg c1]
  have c1' : a7.toInt ≠ a2.toInt := fun q => c1 (eqI.mpr q)
  by_cases c2 : (if 0 ≤ a1 then a1 else 0 - a1) ≤ sl
  · rw [if_pos c2]
    by_cases c3 : a7 ≤ a2
    · rw [if_pos c3]
      rw [leI] at c3
      repeat' split
      all_goals first | exact h2 | (show 10 ≤ (a2 - 1).toInt ∧ (a2 - 1).toInt ≤ 60; omega)
    · rw [if_neg c3]
      rw [leI] at c3
      repeat' split
      all_goals first | exact h2 | (show 10 ≤ (a2 + 1).toInt ∧ (a2 + 1).toInt ≤ 60; omega)
  · rw [if_neg c2]; exact h2
set_option maxHeartbeats 4000000 in
/-- A TICK: class and reference alike -/
theorem tick_eq {nw A : Nat → Int32} {set ret : Int32} {r0 r1 r2 r3 r4 pv tk l0 l1 l2 l3 l4 l5 l6 l7 l8 l9 l10 l11 q0 q1 q2 q3 q4 q5 q6 q7 q8 q9 q10 q11 m0 m1 m2 m4 m5 m6 m9 m11 n0 n1 n2 n4 n5 n6 n9 n11 : Int32} {mb nb : Bool}
    (hru : RuR nw r0 r1 r2 r3 r4 pv tk) (hl : CrR nw 7 tk l0 l1 l2 l3 l4 l5 l6 l7 l8 l9 l10 l11) (hq : CrR nw 20 tk q0 q1 q2 q3 q4 q5 q6 q7 q8 q9 q10 q11) (hb : RuB r0 r1 r2 r3 r4 pv) (hlb : CrB l1 l2 l3 l7) (hqb : CrB q1 q2 q3 q7) (hx : XB r0 r1 l0 q0)
    (h : s_goesBy8 nw = (set, A)) (hc : s_pairGoOn pv l0 l1 l2 l3 l4 l5 l6 l7 l8 l9 l10 l11 q0 q1 q2 q3 q4 q5 q6 q7 q8 q9 q10 q11 r0 r1 r2 r3 r4 = (ret, m0, m1, m2, m4, m5, m6, m9, m11, mb, n0, n1, n2, n4, n5, n6, n9, n11, nb)) :
    RuR A r0 r1 r2 r3 r4 pv (tk + 1) ∧ CrR A 7 (tk + 1) m0 m1 m2 l3 m4 m5 m6 l7 (l8 - 1) m9 (l10 - 1) m11 ∧ CrR A 20 (tk + 1) n0 n1 n2 q3 n4 n5 n6 q7 (q8 - 1) n9 (q10 - 1) n11 ∧ CrB m1 m2 l3 l7 ∧ CrB n1 n2 q3 q7 ∧ XB r0 r1 m0 n0 ∧ (set = (if mb = true then (if nb = true then 3 else 1) else (if nb = true then 2 else 0)) ∧ ret = (if mb = true then (if nb = true then 2 else 1) else (if nb = true then 1 else 0))) ∧ (∀ i, 33 ≤ i → A i = nw i) := by
  obtain ⟨b0, b1, b2, b3, b4, b5⟩ := hb
  obtain ⟨lb1, lb2, lb3, lb7⟩ := hlb
  obtain ⟨qb1, qb2, qb3, qb7⟩ := hqb
  obtain ⟨R0, R1, R2, R3, R4, R5, R6⟩ := hru
  obtain ⟨L0, L1, L2, L3, L4, L5, L6, L7, LS⟩ := hl
  obtain ⟨Q0, Q1, Q2, Q3, Q4, Q5, Q6, Q7, QS⟩ := hq
  have L0 : nw 7 = l0 := L0
  have L1 : nw 8 = l1 := L1
  have L2 : nw 9 = l2 := L2
  have L3 : nw 10 = l3 := L3
  have L4 : nw 11 = l4 := L4
  have L5 : nw 12 = l5 := L5
  have L6 : nw 13 = l6 := L6
  have L7 : nw 14 = l7 := L7
  have Q0 : nw 20 = q0 := Q0
  have Q1 : nw 21 = q1 := Q1
  have Q2 : nw 22 = q2 := Q2
  have Q3 : nw 23 = q3 := Q3
  have Q4 : nw 24 = q4 := Q4
  have Q5 : nw 25 = q5 := Q5
  have Q6 : nw 26 = q6 := Q6
  have Q7 : nw 27 = q7 := Q7
  obtain ⟨w1, s9, s11, ets⟩ := bEx3 (s_takeSteps l6 l8 l9 l10 l11)
  obtain ⟨w2, t9, t11, ett⟩ := bEx3 (s_takeSteps q6 q8 q9 q10 q11)
  have sb1 := speed_b (a6 := w1) lb1 lb3 b2 b3
  have sb2 := speed_b (a6 := w2) qb1 qb3 b2 b3
  -- the class
  unfold s_pairGoOn at hc
  rw [roll_eq, roll_eq, ets, ett] at hc
  dsimp only at hc
  -- the reference
  unfold s_goesBy8 at h
  obtain ⟨A1, e1⟩ := bEx1 (s_stepsCome8_0 (upd nw 6 ((nw 6) + 1)))
  rw [e1] at h
  dsimp only at h
  obtain ⟨A2, e2⟩ := bEx1 (s_stepsCome8_1 A1)
  rw [e2] at h
  dsimp only at h
  have k1 := stK_0 e1
  have k2 := stK_1 e2
  have f : ∀ i : Nat, (i < 13 ∨ i = 14 ∨ (19 < i ∧ i < 26) ∨ i = 27 ∨ 32 < i) → i ≠ 6 → A2 i = nw i := fun i hi h6 => by rw [k2 i (by omega), k1 i (by omega), upd_ne h6]
  have s1 := steps_eq_0 (A := upd nw 6 ((nw 6) + 1)) (tk := tk) (by rw [upd_eq, R6]) (by rw [upd_ne (by decide)]; exact L6) LS e1 ets
  have a6 : A1 6 = tk + 1 := by rw [k1 6 (by omega), upd_eq, R6]
  have s2 := steps_eq_1 (A := A1) a6 (by rw [k1 26 (by omega), upd_ne (by decide)]; exact Q6) (by rw [k1 28 (by omega), k1 29 (by omega), k1 30 (by omega), k1 31 (by omega), k1 32 (by omega)]; exact QS) e2 ett
  have W1 : A2 13 = w1 := by rw [k2 13 (by omega)]; exact s1.1
  have W2 : A2 26 = w2 := s2.1
  have V1 : s_wanted8_0 A2 = s_speedNearerToWant l1 l3 w1 r2 r3 := by
    rw [wanted_eq_0 (by rw [f 3 (by omega) (by omega), R3]; exact b3) (by rw [f 10 (by omega) (by omega), L3]; exact lb3) (by rw [f 2 (by omega) (by omega), R2]; exact b2), f 8 (by omega) (by omega), f 10 (by omega) (by omega), W1, f 2 (by omega) (by omega), f 3 (by omega) (by omega), L1, L3, R2, R3]
  have V2 : s_wanted8_1 A2 = s_speedNearerToWant q1 q3 w2 r2 r3 := by
    rw [wanted_eq_1 (by rw [f 3 (by omega) (by omega), R3]; exact b3) (by rw [f 23 (by omega) (by omega), Q3]; exact qb3) (by rw [f 2 (by omega) (by omega), R2]; exact b2), f 21 (by omega) (by omega), f 23 (by omega) (by omega), W2, f 2 (by omega) (by omega), f 3 (by omega) (by omega), Q1, Q3, R2, R3]
  rw [V1, V2] at h
  generalize s_speedNearerToWant l1 l3 w1 r2 r3 = v1 at *
  generalize s_speedNearerToWant q1 q3 w2 r2 r3 = v2 at *
  have B1 := brk_0 (A := A2) (v := v1) (by rw [f 1 (by omega) (by omega)]; exact R1) (by rw [f 2 (by omega) (by omega)]; exact R2) (by rw [f 7 (by omega) (by omega)]; exact L0) (by rw [f 20 (by omega) (by omega)]; exact Q0) b0 b1 b2 hx sb1
  have B2 := brk_1 (A := A2) (v := v2) (by rw [f 0 (by omega) (by omega)]; exact R0) (by rw [f 1 (by omega) (by omega)]; exact R1) (by rw [f 2 (by omega) (by omega)]; exact R2) (by rw [f 7 (by omega) (by omega)]; exact L0) (by rw [f 20 (by omega) (by omega)]; exact Q0) b0 b1 b2 hx sb2
  have mv := move_b b0 b1 b2 hx sb1 sb2
  rw [B1, B2] at h
  obtain ⟨mx, mv1, mv2, mi1, mi2⟩ := mv
  simp only [mi1, mi2] at hc
  generalize bkC v1 (if 0 ≤ v1 then s_freeBetween l0 q0 r1 / 2 else l0) r2 = x1 at *
  generalize bkC v2 (if 0 ≤ v2 then r0 - q0 else s_freeBetween l0 q0 r1 / 2) r2 = x2 at *
  obtain ⟨A3, e3⟩ := bEx1 (s_goes8_0 A2 x1)
  rw [e3] at h
  dsimp only at h
  obtain ⟨A4, e4⟩ := bEx1 (s_goes8_1 A3 x2)
  rw [e4] at h
  dsimp only at h
  obtain ⟨A5, e5⟩ := bEx1 (s_hoists8_0 A4)
  rw [e5] at h
  dsimp only at h
  obtain ⟨A6, e6⟩ := bEx1 (s_hoists8_1 A5)
  rw [e6] at h
  dsimp only at h
  have k3 := goK_0 e3
  have k4 := goK_1 e4
  have k5 := hoK_0 e5
  have k6 := hoK_1 e6
  have g1 := goes_eq_0 e3 (by rw [f 9 (by omega) (by omega), L2]; omega)
  have g2 := goes_eq_1 e4 (by rw [k3 22 (by omega) (by omega) (by omega) (by omega), f 22 (by omega) (by omega), Q2]; omega)
  rw [f 7 (by omega) (by omega), f 9 (by omega) (by omega), f 11 (by omega) (by omega), f 12 (by omega) (by omega), f 8 (by omega) (by omega), L0, L1, L2, L4, L5] at g1
  rw [k3 20 (by omega) (by omega) (by omega) (by omega), k3 22 (by omega) (by omega) (by omega) (by omega), k3 24 (by omega) (by omega) (by omega) (by omega), k3 25 (by omega) (by omega) (by omega) (by omega), k3 21 (by omega) (by omega) (by omega) (by omega), f 20 (by omega) (by omega), f 22 (by omega) (by omega), f 24 (by omega) (by omega), f 25 (by omega) (by omega), f 21 (by omega) (by omega), Q0, Q1, Q2, Q4, Q5] at g2
  have m4 : ∀ i : Nat, i ≠ 7 → i ≠ 8 → i ≠ 11 → i ≠ 12 → i ≠ 20 → i ≠ 21 → i ≠ 24 → i ≠ 25 → A4 i = A2 i := fun i j1 j2 j3 j4 j5 j6 j7 j8 => (k4 i j5 j6 j7 j8).trans (k3 i j1 j2 j3 j4)
  have z : ∀ i : Nat, i ≠ 7 → i ≠ 8 → i ≠ 11 → i ≠ 12 → i ≠ 20 → i ≠ 21 → i ≠ 24 → i ≠ 25 → i ≠ 9 → i ≠ 22 → A6 i = A2 i := fun i j1 j2 j3 j4 j5 j6 j7 j8 j9 j10 => (k6 i j10).trans ((k5 i j9).trans (m4 i j1 j2 j3 j4 j5 j6 j7 j8))
  have M5 : A4 5 = pv := by rw [m4 5 (by decide) (by decide) (by decide) (by decide) (by decide) (by decide) (by decide) (by decide), f 5 (by omega) (by omega), R5]
  obtain ⟨p1, eh1⟩ := bEx1 (s_hoistRope x1 l2 l7 r4 q2 pv)
  obtain ⟨p2, eh2⟩ := bEx1 (s_hoistRope x2 q2 q7 r4 p1 pv)
  have hv4 : A4 5 = -4 ∨ 0 ≤ (A4 5).toInt := by
    rw [M5]
    rcases b5 with q | q
    · exact Or.inl q
    · exact Or.inr q.1
  have P1 : A5 9 = p1 := by
    rw [hoist_eq_0 e5 hv4, k4 8 (by decide) (by decide) (by decide) (by decide), g1.2.1, m4 9 (by decide) (by decide) (by decide) (by decide) (by decide) (by decide) (by decide) (by decide), m4 14 (by decide) (by decide) (by decide) (by decide) (by decide) (by decide) (by decide) (by decide), m4 4 (by decide) (by decide) (by decide) (by decide) (by decide) (by decide) (by decide) (by decide), m4 22 (by decide) (by decide) (by decide) (by decide) (by decide) (by decide) (by decide) (by decide), M5, f 9 (by omega) (by omega), f 14 (by omega) (by omega), f 4 (by omega) (by omega), f 22 (by omega) (by omega), L2, L7, R4, Q2, eh1]
  have P2 : A6 22 = p2 := by
    rw [hoist_eq_1 e6 (by rw [k5 5 (by decide)]; exact hv4), P1, k5 21 (by decide), k5 22 (by decide), k5 27 (by decide), k5 4 (by decide), k5 5 (by decide), g2.2.1, m4 22 (by decide) (by decide) (by decide) (by decide) (by decide) (by decide) (by decide) (by decide), m4 27 (by decide) (by decide) (by decide) (by decide) (by decide) (by decide) (by decide) (by decide), m4 4 (by decide) (by decide) (by decide) (by decide) (by decide) (by decide) (by decide) (by decide), M5, f 22 (by omega) (by omega), f 27 (by omega) (by omega), f 4 (by omega) (by omega), Q2, Q7, R4, eh2]
  have pb1 := hoR_b (a1 := x1) (sl := r4) (ot := q2) (lv := pv) lb2 lb7
  rw [eh1] at pb1
  have pb2 := hoR_b (a1 := x2) (sl := r4) (ot := p1) (lv := pv) qb2 qb7
  rw [eh2] at pb2
  rw [eh1] at hc
  dsimp only at hc
  rw [eh2] at hc
  dsimp only at hc
  have y : ∀ i : Nat, (i < 7 ∨ i = 10 ∨ i = 14 ∨ i = 23 ∨ i = 27 ∨ 32 < i) → i ≠ 6 → A6 i = nw i := fun i hi h6 => (z i (by omega) (by omega) (by omega) (by omega) (by omega) (by omega) (by omega) (by omega) (by omega) (by omega)).trans (f i (by omega) h6)
  have core : RuR A6 r0 r1 r2 r3 r4 pv (tk + 1) ∧ CrR A6 7 (tk + 1) (l0 + x1) x1 p1 l3 (s_swingOut l2 l4 l5 (x1 - l1)).1 (s_swingOut l2 l4 l5 (x1 - l1)).2 w1 l7 (l8 - 1) s9 (l10 - 1) s11 ∧ CrR A6 20 (tk + 1) (q0 + x2) x2 p2 q3 (s_swingOut q2 q4 q5 (x2 - q1)).1 (s_swingOut q2 q4 q5 (x2 - q1)).2 w2 q7 (q8 - 1) t9 (q10 - 1) t11 ∧ (∀ i, 33 ≤ i → A6 i = nw i) := by
    refine ⟨⟨(y 0 (by omega) (by decide)).trans R0, (y 1 (by omega) (by decide)).trans R1, (y 2 (by omega) (by decide)).trans R2, (y 3 (by omega) (by decide)).trans R3, (y 4 (by omega) (by decide)).trans R4, (y 5 (by omega) (by decide)).trans R5, ?_⟩, ⟨?_, ?_, ?_, (y 10 (by omega) (by decide)).trans L3, ?_, ?_, ?_, (y 14 (by omega) (by decide)).trans L7, ?_⟩, ⟨?_, ?_, P2, (y 23 (by omega) (by decide)).trans Q3, ?_, ?_, ?_, (y 27 (by omega) (by decide)).trans Q7, ?_⟩, fun i hi => y i (by omega) (by omega)⟩
    · rw [z 6 (by decide) (by decide) (by decide) (by decide) (by decide) (by decide) (by decide) (by decide) (by decide) (by decide), k2 6 (by omega), a6]
    · show A6 7 = _
      rw [k6 7 (by decide), k5 7 (by decide), k4 7 (by decide) (by decide) (by decide) (by decide), g1.1]
    · show A6 8 = _
      rw [k6 8 (by decide), k5 8 (by decide), k4 8 (by decide) (by decide) (by decide) (by decide), g1.2.1]
    · show A6 9 = _
      rw [k6 9 (by decide), P1]
    · show A6 11 = _
      rw [k6 11 (by decide), k5 11 (by decide), k4 11 (by decide) (by decide) (by decide) (by decide), g1.2.2.1]
    · show A6 12 = _
      rw [k6 12 (by decide), k5 12 (by decide), k4 12 (by decide) (by decide) (by decide) (by decide), g1.2.2.2]
    · show A6 13 = _
      rw [z 13 (by decide) (by decide) (by decide) (by decide) (by decide) (by decide) (by decide) (by decide) (by decide) (by decide), W1]
    · show StR (A6 15) (A6 16) (A6 17) (A6 18) (A6 19) _ _ _ _ _
      have e : ∀ i, 14 < i → i < 20 → A6 i = A1 i := fun i hi hj => (z i (by omega) (by omega) (by omega) (by omega) (by omega) (by omega) (by omega) (by omega) (by omega) (by omega)).trans (k2 i (by omega))
      rw [e 15 (by decide) (by decide), e 16 (by decide) (by decide), e 17 (by decide) (by decide), e 18 (by decide) (by decide), e 19 (by decide) (by decide)]
      exact s1.2
    · show A6 20 = _
      rw [k6 20 (by decide), k5 20 (by decide), g2.1]
    · show A6 21 = _
      rw [k6 21 (by decide), k5 21 (by decide), g2.2.1]
    · show A6 24 = _
      rw [k6 24 (by decide), k5 24 (by decide), g2.2.2.1]
    · show A6 25 = _
      rw [k6 25 (by decide), k5 25 (by decide), g2.2.2.2]
    · show A6 26 = _
      rw [z 26 (by decide) (by decide) (by decide) (by decide) (by decide) (by decide) (by decide) (by decide) (by decide) (by decide), W2]
    · show StR (A6 28) (A6 29) (A6 30) (A6 31) (A6 32) _ _ _ _ _
      have e : ∀ i, 27 < i → i < 33 → A6 i = A2 i := fun i hi hj => z i (by omega) (by omega) (by omega) (by omega) (by omega) (by omega) (by omega) (by omega) (by omega) (by omega)
      rw [e 28 (by decide) (by decide), e 29 (by decide) (by decide), e 30 (by decide) (by decide), e 31 (by decide) (by decide), e 32 (by decide) (by decide)]
      exact s2.2
  obtain ⟨co1, co2, co3, co4⟩ := core
  generalize s_swingOut l2 l4 l5 (x1 - l1) = so1 at *
  generalize s_swingOut q2 q4 q5 (x2 - q1) = so2 at *
  by_cases d1 : x1 = v1
  · by_cases d2 : x2 = v2
    · simp only [if_pos d1, if_pos d2, Bool.false_eq_true, if_true, if_false, Prod.mk.injEq] at hc h
      obtain ⟨h1, h2⟩ := h
      obtain ⟨u0, u1, u2, u3, u4, u5, u6, u7, u8, u9, u10, u11, u12, u13, u14, u15, u16, u17, u18⟩ := hc
      subst u0 u1 u2 u3 u4 u5 u6 u7 u8 u9 u10 u11 u12 u13 u14 u15 u16 u17 u18 h1 h2
      exact ⟨co1, co2, co3, ⟨mv1, pb1, lb3, lb7⟩, ⟨mv2, pb2, qb3, qb7⟩, mx, ⟨rfl, rfl⟩, co4⟩
    · simp only [if_pos d1, if_neg d2, Bool.false_eq_true, if_true, if_false, Prod.mk.injEq] at hc h
      obtain ⟨h1, h2⟩ := h
      obtain ⟨u0, u1, u2, u3, u4, u5, u6, u7, u8, u9, u10, u11, u12, u13, u14, u15, u16, u17, u18⟩ := hc
      subst u0 u1 u2 u3 u4 u5 u6 u7 u8 u9 u10 u11 u12 u13 u14 u15 u16 u17 u18 h1 h2
      exact ⟨co1, co2, co3, ⟨mv1, pb1, lb3, lb7⟩, ⟨mv2, pb2, qb3, qb7⟩, mx, ⟨rfl, rfl⟩, co4⟩
  · by_cases d2 : x2 = v2
    · simp only [if_neg d1, if_pos d2, Bool.false_eq_true, if_true, if_false, Prod.mk.injEq] at hc h
      obtain ⟨h1, h2⟩ := h
      obtain ⟨u0, u1, u2, u3, u4, u5, u6, u7, u8, u9, u10, u11, u12, u13, u14, u15, u16, u17, u18⟩ := hc
      subst u0 u1 u2 u3 u4 u5 u6 u7 u8 u9 u10 u11 u12 u13 u14 u15 u16 u17 u18 h1 h2
      exact ⟨co1, co2, co3, ⟨mv1, pb1, lb3, lb7⟩, ⟨mv2, pb2, qb3, qb7⟩, mx, ⟨rfl, rfl⟩, co4⟩
    · simp only [if_neg d1, if_neg d2, Bool.false_eq_true, if_true, if_false, Prod.mk.injEq] at hc h
      obtain ⟨h1, h2⟩ := h
      obtain ⟨u0, u1, u2, u3, u4, u5, u6, u7, u8, u9, u10, u11, u12, u13, u14, u15, u16, u17, u18⟩ := hc
      subst u0 u1 u2 u3 u4 u5 u6 u7 u8 u9 u10 u11 u12 u13 u14 u15 u16 u17 u18 h1 h2
      exact ⟨co1, co2, co3, ⟨mv1, pb1, lb3, lb7⟩, ⟨mv2, pb2, qb3, qb7⟩, mx, ⟨rfl, rfl⟩, co4⟩
