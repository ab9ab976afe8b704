theorem clampEq {x mo : Int32} (h : 0 ≤ mo.toInt ∧ mo.toInt ≤ 1000000) : s_keptWithin x mo = (if x ≤ mo then if -mo ≤ x then x else -mo else mo) := by
  have e : (-mo).toInt = -mo.toInt := negI (by omega)
  unfold s_keptWithin
  by_cases c1 : x ≤ mo
  · rw [if_pos c1, if_neg (c := mo < x) (by rw [ltI]; rw [leI] at c1; omega)]
    by_cases c2 : -mo ≤ x
    · rw [if_pos c2]
      by_cases c3 : -mo < x
      · rw [if_pos c3]
      · rw [if_neg c3, eqI]; rw [leI] at c2; rw [ltI] at c3; omega
    · rw [if_neg c2, if_neg (by rw [ltI]; rw [leI] at c2; omega)]
  · rw [if_neg c1, if_pos (c := mo < x) (by rw [ltI]; rw [leI] at c1; omega)]
    by_cases c3 : -mo < mo
    · rw [if_pos c3]
    · rw [if_neg c3, eqI]; rw [ltI] at c3; omega
theorem limit_eq_0 (nw : Nat → Int32) : s_limitOf8_0 nw = s_limit (nw 10) (nw 3) := by
  unfold s_limitOf8_0 s_limit
  generalize (nw 3) - ((nw 10) / 10) = x
  by_cases c1 : 1 < x
  · rw [if_pos c1, if_pos (by rw [leI]; rw [ltI] at c1; omega)]
  · rw [if_neg c1]
    by_cases c2 : 1 ≤ x
    · rw [if_pos c2, eqI]; rw [leI] at c2; rw [ltI] at c1; omega
    · rw [if_neg c2]
theorem limit_eq_1 (nw : Nat → Int32) : s_limitOf8_1 nw = s_limit (nw 23) (nw 3) := by
  unfold s_limitOf8_1 s_limit
  generalize (nw 3) - ((nw 23) / 10) = x
  by_cases c1 : 1 < x
  · rw [if_pos c1, if_pos (by rw [leI]; rw [ltI] at c1; omega)]
  · rw [if_neg c1]
    by_cases c2 : 1 ≤ x
    · rw [if_pos c2, eqI]; rw [leI] at c2; rw [ltI] at c1; omega
    · rw [if_neg c2]
theorem limit_b {a3 r3 : Int32} (h : 1 ≤ r3.toInt ∧ r3.toInt ≤ 40) (h3 : 0 ≤ a3.toInt ∧ a3.toInt ≤ 99) : 1 ≤ (s_limit a3 r3).toInt ∧ (s_limit a3 r3).toInt ≤ 40 := by
  have e1 : (1 : Int32).toInt = 1 := by decide
  have e2 : (a3 / 10).toInt = a3.toInt / 10 := by
    rw [Int32.toInt_div_of_ne_right _ _ (by decide), show (10 : Int32).toInt = 10 from by decide]
    exact Int.tdiv_eq_ediv_of_nonneg h3.1
  have e3 : (r3 - a3 / 10).toInt = r3.toInt - a3.toInt / 10 := by rw [subI (by omega) (by omega), e2]
  unfold s_limit
  by_cases c : 1 < r3 - a3 / 10
  · rw [if_pos c, e3]; rw [ltI, e3, e1] at c; omega
  · rw [if_neg c, e1]; omega
theorem wanted_eq_0 {nw : Nat → Int32} (ht : 1 ≤ (nw 3).toInt ∧ (nw 3).toInt ≤ 40) (hl : 0 ≤ (nw 10).toInt ∧ (nw 10).toInt ≤ 99) (hc : 1 ≤ (nw 2).toInt ∧ (nw 2).toInt ≤ 9) : s_wanted8_0 nw = s_speedNearerToWant (nw 8) (nw 10) (nw 13) (nw 2) (nw 3) := by
  have hb := limit_b ht hl
  unfold s_wanted8_0 s_speedNearerToWant
  rw [limit_eq_0]
  generalize s_limit (nw 10) (nw 3) = lim at *
  rw [clampEq (mo := nw 2) (by omega), clampEq (mo := lim) (by omega)]
  by_cases c1 : nw 13 ≤ lim
  · rw [if_pos c1, if_pos c1]
    by_cases c2 : -lim ≤ nw 13
    · rw [if_pos c2, if_pos c2]
      by_cases c3 : nw 13 - nw 8 ≤ nw 2
      · rw [if_pos c3, if_pos c3]
        by_cases c4 : -(nw 2) ≤ nw 13 - nw 8
        · rw [if_pos c4, if_pos c4]
        · rw [if_neg c4, if_neg c4]
      · rw [if_neg c3, if_neg c3]
    · rw [if_neg c2, if_neg c2]
      by_cases c3 : -lim - nw 8 ≤ nw 2
      · rw [if_pos c3, if_pos c3]
        by_cases c4 : -(nw 2) ≤ -lim - nw 8
        · rw [if_pos c4, if_pos c4]
        · rw [if_neg c4, if_neg c4]
      · rw [if_neg c3, if_neg c3]
  · rw [if_neg c1, if_neg c1]
    by_cases c3 : lim - nw 8 ≤ nw 2
    · rw [if_pos c3, if_pos c3]
      by_cases c4 : -(nw 2) ≤ lim - nw 8
      · rw [if_pos c4, if_pos c4]
      · rw [if_neg c4, if_neg c4]
    · rw [if_neg c3, if_neg c3]
theorem wanted_eq_1 {nw : Nat → Int32} (ht : 1 ≤ (nw 3).toInt ∧ (nw 3).toInt ≤ 40) (hl : 0 ≤ (nw 23).toInt ∧ (nw 23).toInt ≤ 99) (hc : 1 ≤ (nw 2).toInt ∧ (nw 2).toInt ≤ 9) : s_wanted8_1 nw = s_speedNearerToWant (nw 21) (nw 23) (nw 26) (nw 2) (nw 3) := by
  have hb := limit_b ht hl
  unfold s_wanted8_1 s_speedNearerToWant
  rw [limit_eq_1]
  generalize s_limit (nw 23) (nw 3) = lim at *
  rw [clampEq (mo := nw 2) (by omega), clampEq (mo := lim) (by omega)]
  by_cases c1 : nw 26 ≤ lim
  · rw [if_pos c1, if_pos c1]
    by_cases c2 : -lim ≤ nw 26
    · rw [if_pos c2, if_pos c2]
      by_cases c3 : nw 26 - nw 21 ≤ nw 2
      · rw [if_pos c3, if_pos c3]
        by_cases c4 : -(nw 2) ≤ nw 26 - nw 21
        · rw [if_pos c4, if_pos c4]
        · rw [if_neg c4, if_neg c4]
      · rw [if_neg c3, if_neg c3]
    · rw [if_neg c2, if_neg c2]
      by_cases c3 : -lim - nw 21 ≤ nw 2
      · rw [if_pos c3, if_pos c3]
        by_cases c4 : -(nw 2) ≤ -lim - nw 21
        · rw [if_pos c4, if_pos c4]
        · rw [if_neg c4, if_neg c4]
      · rw [if_neg c3, if_neg c3]
  · rw [if_neg c1, if_neg c1]
    by_cases c3 : lim - nw 21 ≤ nw 2
    · rw [if_pos c3, if_pos c3]
      by_cases c4 : -(nw 2) ≤ lim - nw 21
      · rw [if_pos c4, if_pos c4]
      · rw [if_neg c4, if_neg c4]
    · rw [if_neg c3, if_neg c3]
