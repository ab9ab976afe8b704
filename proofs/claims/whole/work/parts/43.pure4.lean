/-- the steps that are to come: the class's two pairs, the reference's list from b on (tk: the ticks gone) -/
def stN (a9 a11 : Int32) : Int32 := if a9 = 0 then (if a11 = 0 then 0 else 1) else (if a11 = 0 then 1 else 2)
def StR (n0 n1 n2 n3 n4 : Int32) (tk a8 a9 a10 a11 : Int32) : Prop := n0 = stN a9 a11 ∧ (a9 ≠ 0 → n1 = tk + a8 ∧ n2 = a9) ∧ (a9 = 0 → a11 ≠ 0 → n1 = tk + a10 ∧ n2 = a11) ∧ (a9 ≠ 0 → a11 ≠ 0 → n3 = tk + a10 ∧ n4 = a11) ∧ (a9 ≠ 0 → 1 ≤ a8.toInt ∧ a8.toInt ≤ 100) ∧ (a11 ≠ 0 → 1 ≤ a10.toInt ∧ a10.toInt ≤ 100)
theorem stN_00 : stN 0 0 = 0 := rfl
theorem stN_01 {a : Int32} (h : a ≠ 0) : stN 0 a = 1 := by unfold stN; rw [if_pos rfl, if_neg h]
theorem stN_10 {a : Int32} (h : a ≠ 0) : stN a 0 = 1 := by unfold stN; rw [if_neg h, if_pos rfl]
theorem stN_11 {a b : Int32} (h : a ≠ 0) (h2 : b ≠ 0) : stN a b = 2 := by unfold stN; rw [if_neg h, if_neg h2]
theorem stN_cases (a b : Int32) : stN a b = 0 ∨ stN a b = 1 ∨ stN a b = 2 := by
  unfold stN
  repeat' split
  all_goals first | exact Or.inl rfl | exact Or.inr (Or.inl rfl) | exact Or.inr (Or.inr rfl)
theorem come_iff {tk a : Int32} (h : 1 ≤ a.toInt ∧ a.toInt ≤ 100) : (tk + a = tk + 1) ↔ ¬ (1 ≤ a - 1) := by
  have e1 : (1 : Int32).toInt = 1 := by decide
  have e : (a - 1).toInt = a.toInt - 1 := by rw [subI (by omega) (by omega), e1]
  rw [Int32.add_right_inj, leI, e, e1, eqI, e1]
  omega
theorem later_eq {tk a : Int32} : tk + a = (tk + 1) + (a - 1) := by
  rw [Int32.add_assoc, Int32.add_comm 1 (a - 1), Int32.sub_add_cancel]
theorem later_b {a : Int32} (h : 1 ≤ a.toInt ∧ a.toInt ≤ 100) (h2 : 1 ≤ a - 1) : 1 ≤ (a - 1).toInt ∧ (a - 1).toInt ≤ 100 := by
  have e1 : (1 : Int32).toInt = 1 := by decide
  have e : (a - 1).toInt = a.toInt - 1 := by rw [subI (by omega) (by omega), e1]
  rw [leI, e, e1] at h2
  omega
theorem steps_eq_0 {A A1 : Nat → Int32} {tk a6 a8 a9 a10 a11 w1 b9 b11 : Int32} (h6 : A 6 = tk + 1) (hw : A 13 = a6) (hs : StR (A 15) (A 16) (A 17) (A 18) (A 19) tk a8 a9 a10 a11) (h : s_stepsCome8_0 A = (A1, ())) (hc : s_takeSteps a6 a8 a9 a10 a11 = (w1, b9, b11)) : A1 13 = w1 ∧ StR (A1 15) (A1 16) (A1 17) (A1 18) (A1 19) (tk + 1) (a8 - 1) b9 (a10 - 1) b11 := by
  obtain ⟨s0, s1, s2, s3, s4, s5⟩ := hs
  have eA : A1 = (s_stepsCome8_0 A).1 := by rw [h]
  unfold s_takeSteps at hc
  unfold s_stepsCome8_0 at eA
  by_cases c9 : a9 = 0
  · rw [if_pos c9] at hc
    subst c9
    by_cases c11 : a11 = 0
    · rw [if_pos c11] at hc
      subst c11
      rw [stN_00] at s0
      rw [if_pos s0] at eA
      unfold s_stepsCome8_00 at eA
      simp only [Prod.mk.injEq] at hc
      obtain ⟨rfl, rfl, rfl⟩ := hc
      subst eA
      exact ⟨hw, rfl, fun q => absurd rfl q, fun _ q => absurd rfl q, fun q => absurd rfl q, fun q => absurd rfl q, fun q => absurd rfl q⟩
    · rw [if_neg c11] at hc
      rw [stN_01 c11] at s0
      rw [if_neg (by rw [s0]; decide), if_pos s0] at eA
      unfold s_stepsCome8_01 at eA
      obtain ⟨t1, t2⟩ := s2 rfl c11
      have hb := s5 c11
      by_cases cc : 1 ≤ a10 - 1
      · rw [if_pos cc] at hc
        rw [if_neg (by rw [t1, h6]; exact fun q => (come_iff hb).mp q cc)] at eA
        simp only [Prod.mk.injEq] at hc
        obtain ⟨rfl, rfl, rfl⟩ := hc
        subst eA
        exact ⟨hw, (stN_01 c11).symm, fun q => absurd rfl q, fun _ _ => ⟨t1.trans later_eq, t2⟩, fun q => absurd rfl q, fun q => absurd rfl q, fun _ => later_b hb cc⟩
      · rw [if_neg cc] at hc
        rw [if_pos (by rw [t1, h6]; exact (come_iff hb).mpr cc)] at eA
        simp only [Prod.mk.injEq] at hc
        obtain ⟨rfl, rfl, rfl⟩ := hc
        subst eA
        refine ⟨?_, rfl, fun q => absurd rfl q, fun _ q => absurd rfl q, fun q => absurd rfl q, fun q => absurd rfl q, fun q => absurd rfl q⟩
        show A 13 + A 17 = a6 + a11
        rw [hw, t2]
  · rw [if_neg c9] at hc
    obtain ⟨t1, t2⟩ := s1 c9
    have hb := s4 c9
    by_cases c11 : a11 = 0
    · subst c11
      rw [stN_10 c9] at s0
      rw [if_neg (by rw [s0]; decide), if_pos s0] at eA
      unfold s_stepsCome8_01 at eA
      by_cases cc : 1 ≤ a8 - 1
      · rw [if_pos cc, if_pos rfl] at hc
        rw [if_neg (by rw [t1, h6]; exact fun q => (come_iff hb).mp q cc)] at eA
        simp only [Prod.mk.injEq] at hc
        obtain ⟨rfl, rfl, rfl⟩ := hc
        subst eA
        exact ⟨hw, (stN_10 c9).symm, fun _ => ⟨t1.trans later_eq, t2⟩, fun _ q => absurd rfl q, fun _ q => absurd rfl q, fun _ => later_b hb cc, fun q => absurd rfl q⟩
      · rw [if_neg cc, if_pos rfl] at hc
        rw [if_pos (by rw [t1, h6]; exact (come_iff hb).mpr cc)] at eA
        simp only [Prod.mk.injEq] at hc
        obtain ⟨rfl, rfl, rfl⟩ := hc
        subst eA
        refine ⟨?_, rfl, fun q => absurd rfl q, fun _ q => absurd rfl q, fun q => absurd rfl q, fun q => absurd rfl q, fun q => absurd rfl q⟩
        show A 13 + A 17 = a6 + a9
        rw [hw, t2]
    · obtain ⟨t3, t4⟩ := s3 c9 c11
      have hb2 := s5 c11
      rw [stN_11 c9 c11] at s0
      rw [if_neg (by rw [s0]; decide), if_neg (by rw [s0]; decide)] at eA
      unfold s_stepsCome8_02 at eA
      by_cases cc : 1 ≤ a8 - 1
      · rw [if_pos cc, if_neg c11] at hc
        rw [if_neg (by rw [t1, h6]; exact fun q => (come_iff hb).mp q cc)] at eA
        by_cases cd : 1 ≤ a10 - 1
        · rw [if_pos cd] at hc
          rw [if_neg (by rw [t3, h6]; exact fun q => (come_iff hb2).mp q cd)] at eA
          simp only [Prod.mk.injEq] at hc
          obtain ⟨rfl, rfl, rfl⟩ := hc
          subst eA
          exact ⟨hw, (stN_11 c9 c11).symm, fun _ => ⟨t1.trans later_eq, t2⟩, fun q => absurd q c9, fun _ _ => ⟨t3.trans later_eq, t4⟩, fun _ => later_b hb cc, fun _ => later_b hb2 cd⟩
        · rw [if_neg cd] at hc
          rw [if_pos (by rw [t3, h6]; exact (come_iff hb2).mpr cd)] at eA
          simp only [Prod.mk.injEq] at hc
          obtain ⟨rfl, rfl, rfl⟩ := hc
          subst eA
          refine ⟨?_, (stN_10 c9).symm, fun _ => ⟨t1.trans later_eq, t2⟩, fun q => absurd q c9, fun _ q => absurd rfl q, fun _ => later_b hb cc, fun q => absurd rfl q⟩
          show A 13 + A 19 = a6 + a11
          rw [hw, t4]
      · rw [if_neg cc, if_neg c11] at hc
        rw [if_pos (by rw [t1, h6]; exact (come_iff hb).mpr cc)] at eA
        by_cases cd : 1 ≤ a10 - 1
        · rw [if_pos cd] at hc
          rw [if_neg (by rw [t3, h6]; exact fun q => (come_iff hb2).mp q cd)] at eA
          simp only [Prod.mk.injEq] at hc
          obtain ⟨rfl, rfl, rfl⟩ := hc
          subst eA
          refine ⟨?_, (stN_01 c11).symm, fun q => absurd rfl q, fun _ _ => ⟨t3.trans later_eq, t4⟩, fun q => absurd rfl q, fun q => absurd rfl q, fun _ => later_b hb2 cd⟩
          show A 13 + A 17 = a6 + a9
          rw [hw, t2]
        · rw [if_neg cd] at hc
          rw [if_pos (by rw [t3, h6]; exact (come_iff hb2).mpr cd)] at eA
          simp only [Prod.mk.injEq] at hc
          obtain ⟨rfl, rfl, rfl⟩ := hc
          subst eA
          refine ⟨?_, rfl, fun q => absurd rfl q, fun _ q => absurd rfl q, fun q => absurd rfl q, fun q => absurd rfl q, fun q => absurd rfl q⟩
          show (A 13 + A 17) + A 19 = (a6 + a9) + a11
          rw [hw, t2, t4]
theorem steps_eq_1 {A A1 : Nat → Int32} {tk a6 a8 a9 a10 a11 w1 b9 b11 : Int32} (h6 : A 6 = tk + 1) (hw : A 26 = a6) (hs : StR (A 28) (A 29) (A 30) (A 31) (A 32) tk a8 a9 a10 a11) (h : s_stepsCome8_1 A = (A1, ())) (hc : s_takeSteps a6 a8 a9 a10 a11 = (w1, b9, b11)) : A1 26 = w1 ∧ StR (A1 28) (A1 29) (A1 30) (A1 31) (A1 32) (tk + 1) (a8 - 1) b9 (a10 - 1) b11 := by
  obtain ⟨s0, s1, s2, s3, s4, s5⟩ := hs
  have eA : A1 = (s_stepsCome8_1 A).1 := by rw [h]
  unfold s_takeSteps at hc
  unfold s_stepsCome8_1 at eA
  by_cases c9 : a9 = 0
  · rw [if_pos c9] at hc
    subst c9
    by_cases c11 : a11 = 0
    · rw [if_pos c11] at hc
      subst c11
      rw [stN_00] at s0
      rw [if_pos s0] at eA
      unfold s_stepsCome8_10 at eA
      simp only [Prod.mk.injEq] at hc
      obtain ⟨rfl, rfl, rfl⟩ := hc
      subst eA
      exact ⟨hw, rfl, fun q => absurd rfl q, fun _ q => absurd rfl q, fun q => absurd rfl q, fun q => absurd rfl q, fun q => absurd rfl q⟩
    · rw [if_neg c11] at hc
      rw [stN_01 c11] at s0
      rw [if_neg (by rw [s0]; decide), if_pos s0] at eA
      unfold s_stepsCome8_11 at eA
      obtain ⟨t1, t2⟩ := s2 rfl c11
      have hb := s5 c11
      by_cases cc : 1 ≤ a10 - 1
      · rw [if_pos cc] at hc
        rw [if_neg (by rw [t1, h6]; exact fun q => (come_iff hb).mp q cc)] at eA
        simp only [Prod.mk.injEq] at hc
        obtain ⟨rfl, rfl, rfl⟩ := hc
        subst eA
        exact ⟨hw, (stN_01 c11).symm, fun q => absurd rfl q, fun _ _ => ⟨t1.trans later_eq, t2⟩, fun q => absurd rfl q, fun q => absurd rfl q, fun _ => later_b hb cc⟩
      · rw [if_neg cc] at hc
        rw [if_pos (by rw [t1, h6]; exact (come_iff hb).mpr cc)] at eA
        simp only [Prod.mk.injEq] at hc
        obtain ⟨rfl, rfl, rfl⟩ := hc
        subst eA
        refine ⟨?_, rfl, fun q => absurd rfl q, fun _ q => absurd rfl q, fun q => absurd rfl q, fun q => absurd rfl q, fun q => absurd rfl q⟩
        show A 26 + A 30 = a6 + a11
        rw [hw, t2]
  · rw [if_neg c9] at hc
    obtain ⟨t1, t2⟩ := s1 c9
    have hb := s4 c9
    by_cases c11 : a11 = 0
    · subst c11
      rw [stN_10 c9] at s0
      rw [if_neg (by rw [s0]; decide), if_pos s0] at eA
      unfold s_stepsCome8_11 at eA
      by_cases cc : 1 ≤ a8 - 1
      · rw [if_pos cc, if_pos rfl] at hc
        rw [if_neg (by rw [t1, h6]; exact fun q => (come_iff hb).mp q cc)] at eA
        simp only [Prod.mk.injEq] at hc
        obtain ⟨rfl, rfl, rfl⟩ := hc
        subst eA
        exact ⟨hw, (stN_10 c9).symm, fun _ => ⟨t1.trans later_eq, t2⟩, fun _ q => absurd rfl q, fun _ q => absurd rfl q, fun _ => later_b hb cc, fun q => absurd rfl q⟩
      · rw [if_neg cc, if_pos rfl] at hc
        rw [if_pos (by rw [t1, h6]; exact (come_iff hb).mpr cc)] at eA
        simp only [Prod.mk.injEq] at hc
        obtain ⟨rfl, rfl, rfl⟩ := hc
        subst eA
        refine ⟨?_, rfl, fun q => absurd rfl q, fun _ q => absurd rfl q, fun q => absurd rfl q, fun q => absurd rfl q, fun q => absurd rfl q⟩
        show A 26 + A 30 = a6 + a9
        rw [hw, t2]
    · obtain ⟨t3, t4⟩ := s3 c9 c11
      have hb2 := s5 c11
      rw [stN_11 c9 c11] at s0
      rw [if_neg (by rw [s0]; decide), if_neg (by rw [s0]; decide)] at eA
      unfold s_stepsCome8_12 at eA
      by_cases cc : 1 ≤ a8 - 1
      · rw [if_pos cc, if_neg c11] at hc
        rw [if_neg (by rw [t1, h6]; exact fun q => (come_iff hb).mp q cc)] at eA
        by_cases cd : 1 ≤ a10 - 1
        · rw [if_pos cd] at hc
          rw [if_neg (by rw [t3, h6]; exact fun q => (come_iff hb2).mp q cd)] at eA
          simp only [Prod.mk.injEq] at hc
          obtain ⟨rfl, rfl, rfl⟩ := hc
          subst eA
          exact ⟨hw, (stN_11 c9 c11).symm, fun _ => ⟨t1.trans later_eq, t2⟩, fun q => absurd q c9, fun _ _ => ⟨t3.trans later_eq, t4⟩, fun _ => later_b hb cc, fun _ => later_b hb2 cd⟩
        · rw [if_neg cd] at hc
          rw [if_pos (by rw [t3, h6]; exact (come_iff hb2).mpr cd)] at eA
          simp only [Prod.mk.injEq] at hc
          obtain ⟨rfl, rfl, rfl⟩ := hc
          subst eA
          refine ⟨?_, (stN_10 c9).symm, fun _ => ⟨t1.trans later_eq, t2⟩, fun q => absurd q c9, fun _ q => absurd rfl q, fun _ => later_b hb cc, fun q => absurd rfl q⟩
          show A 26 + A 32 = a6 + a11
          rw [hw, t4]
      · rw [if_neg cc, if_neg c11] at hc
        rw [if_pos (by rw [t1, h6]; exact (come_iff hb).mpr cc)] at eA
        by_cases cd : 1 ≤ a10 - 1
        · rw [if_pos cd] at hc
          rw [if_neg (by rw [t3, h6]; exact fun q => (come_iff hb2).mp q cd)] at eA
          simp only [Prod.mk.injEq] at hc
          obtain ⟨rfl, rfl, rfl⟩ := hc
          subst eA
          refine ⟨?_, (stN_01 c11).symm, fun q => absurd rfl q, fun _ _ => ⟨t3.trans later_eq, t4⟩, fun q => absurd rfl q, fun q => absurd rfl q, fun _ => later_b hb2 cd⟩
          show A 26 + A 30 = a6 + a9
          rw [hw, t2]
        · rw [if_neg cd] at hc
          rw [if_pos (by rw [t3, h6]; exact (come_iff hb2).mpr cd)] at eA
          simp only [Prod.mk.injEq] at hc
          obtain ⟨rfl, rfl, rfl⟩ := hc
          subst eA
          refine ⟨?_, rfl, fun q => absurd rfl q, fun _ q => absurd rfl q, fun q => absurd rfl q, fun q => absurd rfl q, fun q => absurd rfl q⟩
          show (A 26 + A 30) + A 32 = (a6 + a9) + a11
          rw [hw, t2, t4]
