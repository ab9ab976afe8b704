/-- a crane's tick in one line -/
theorem roll_eq (a0 a1 a2 a3 a4 a5 a6 a8 a9 a10 a11 r2 r3 lo hi : Int32) : s_roll a0 a1 a2 a3 a4 a5 a6 a8 a9 a10 a11 r2 r3 lo hi =
    (a0 + bkC (s_speedNearerToWant a1 a3 (s_takeSteps a6 a8 a9 a10 a11).1 r2 r3) (if 0 ≤ s_speedNearerToWant a1 a3 (s_takeSteps a6 a8 a9 a10 a11).1 r2 r3 then hi else lo) r2,
     bkC (s_speedNearerToWant a1 a3 (s_takeSteps a6 a8 a9 a10 a11).1 r2 r3) (if 0 ≤ s_speedNearerToWant a1 a3 (s_takeSteps a6 a8 a9 a10 a11).1 r2 r3 then hi else lo) r2,
     (s_swingOut a2 a4 a5 (bkC (s_speedNearerToWant a1 a3 (s_takeSteps a6 a8 a9 a10 a11).1 r2 r3) (if 0 ≤ s_speedNearerToWant a1 a3 (s_takeSteps a6 a8 a9 a10 a11).1 r2 r3 then hi else lo) r2 - a1)).1,
     (s_swingOut a2 a4 a5 (bkC (s_speedNearerToWant a1 a3 (s_takeSteps a6 a8 a9 a10 a11).1 r2 r3) (if 0 ≤ s_speedNearerToWant a1 a3 (s_takeSteps a6 a8 a9 a10 a11).1 r2 r3 then hi else lo) r2 - a1)).2,
     (s_takeSteps a6 a8 a9 a10 a11).1, (s_takeSteps a6 a8 a9 a10 a11).2.1, (s_takeSteps a6 a8 a9 a10 a11).2.2,
     if s_wayToStop (s_speedNearerToWant a1 a3 (s_takeSteps a6 a8 a9 a10 a11).1 r2 r3) r2 ≤ (if 0 ≤ s_speedNearerToWant a1 a3 (s_takeSteps a6 a8 a9 a10 a11).1 r2 r3 then hi else lo) then false else true) := by
  unfold s_roll
  obtain ⟨w, b9, b11, e⟩ := bEx3 (s_takeSteps a6 a8 a9 a10 a11)
  rw [e]
  dsimp only
  generalize s_speedNearerToWant a1 a3 w r2 r3 = v
  unfold bkC
  by_cases c1 : 0 ≤ v
  · simp only [if_pos c1]
    by_cases c2 : s_wayToStop v r2 ≤ hi
    · simp only [if_pos c2]
    · simp only [if_neg c2]
  · simp only [if_neg c1]
    by_cases c2 : s_wayToStop v r2 ≤ lo
    · simp only [if_pos c2]
    · simp only [if_neg c2]
theorem goes_eq_0 {A A1 : Nat → Int32} {v : Int32} (h : s_goes8_0 A v = (A1, ())) (hl : 1 ≤ (A 9).toInt) : A1 7 = A 7 + v ∧ A1 8 = v ∧ A1 11 = (s_swingOut (A 9) (A 11) (A 12) (v - A 8)).1 ∧ A1 12 = (s_swingOut (A 9) (A 11) (A 12) (v - A 8)).2 := by
  have e : A1 = (s_goes8_0 A v).1 := by rw [h]
  unfold s_goes8_0 at e
  subst e
  unfold s_swingOut
  rw [if_neg (by rw [leI, zI]; omega)]
  dsimp only
  refine ⟨?_, ?_, ?_, ?_⟩
  · rw [upd_ne (by decide), upd_ne (by decide), upd_ne (by decide), upd_eq]
  · rw [upd_ne (by decide), upd_ne (by decide), upd_eq]
  · rw [upd_eq, kept_eq, kept_eq]
  · rw [upd_ne (by decide), upd_eq, kept_eq]
theorem goes_eq_1 {A A1 : Nat → Int32} {v : Int32} (h : s_goes8_1 A v = (A1, ())) (hl : 1 ≤ (A 22).toInt) : A1 20 = A 20 + v ∧ A1 21 = v ∧ A1 24 = (s_swingOut (A 22) (A 24) (A 25) (v - A 21)).1 ∧ A1 25 = (s_swingOut (A 22) (A 24) (A 25) (v - A 21)).2 := by
  have e : A1 = (s_goes8_1 A v).1 := by rw [h]
  unfold s_goes8_1 at e
  subst e
  unfold s_swingOut
  rw [if_neg (by rw [leI, zI]; omega)]
  dsimp only
  refine ⟨?_, ?_, ?_, ?_⟩
  · rw [upd_ne (by decide), upd_ne (by decide), upd_ne (by decide), upd_eq]
  · rw [upd_ne (by decide), upd_ne (by decide), upd_eq]
  · rw [upd_eq, kept_eq, kept_eq]
  · rw [upd_ne (by decide), upd_eq, kept_eq]
theorem hoist_eq_0 {A A1 : Nat → Int32} (h : s_hoists8_0 A = (A1, ())) (hv : A 5 = -4 ∨ 0 ≤ (A 5).toInt) : A1 9 = (s_hoistRope (A 8) (A 9) (A 14) (A 4) (A 22) (A 5)).1 := by
  have e : A1 = (s_hoists8_0 A).1 := by rw [h]
  have hlt : A 5 < 0 ↔ A 5 = -4 := by
    constructor
    · intro q
      rcases hv with z | z
      · exact z
      · rw [ltI, zI] at q; omega
    · intro q; rw [q]; decide
  unfold s_hoists8_0 at e
  simp only [size_eq] at e
  subst e
  unfold s_hoistRope
  simp only [hlt]
  repeat' split
  all_goals first | rfl | exact upd_eq | (exfalso; contradiction)
theorem hoist_eq_1 {A A1 : Nat → Int32} (h : s_hoists8_1 A = (A1, ())) (hv : A 5 = -4 ∨ 0 ≤ (A 5).toInt) : A1 22 = (s_hoistRope (A 21) (A 22) (A 27) (A 4) (A 9) (A 5)).1 := by
  have e : A1 = (s_hoists8_1 A).1 := by rw [h]
  have hlt : A 5 < 0 ↔ A 5 = -4 := by
    constructor
    · intro q
      rcases hv with z | z
      · exact z
      · rw [ltI, zI] at q; omega
    · intro q; rw [q]; decide
  unfold s_hoists8_1 at e
  simp only [size_eq] at e
  subst e
  unfold s_hoistRope
  simp only [hlt]
  repeat' split
  all_goals first | rfl | exact upd_eq | (exfalso; contradiction)
