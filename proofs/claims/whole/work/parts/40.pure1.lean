/-! PURE: the class's numbers against the reference's -/
theorem zI : (0 : Int32).toInt = 0 := Int32.toInt_zero
theorem leI {a b : Int32} : a ≤ b ↔ a.toInt ≤ b.toInt := Int32.le_iff_toInt_le
theorem ltI {a b : Int32} : a < b ↔ a.toInt < b.toInt := Int32.lt_iff_toInt_lt
theorem eqI {a b : Int32} : a = b ↔ a.toInt = b.toInt := Int32.toInt_inj.symm
theorem bmodS {y : Int} (h1 : -2147483648 ≤ y) (h2 : y ≤ 2147483647) : y.bmod (2 ^ 32) = y := by rw [Int.bmod_def]; omega
theorem addI {a b : Int32} (h1 : -2147483648 ≤ a.toInt + b.toInt) (h2 : a.toInt + b.toInt ≤ 2147483647) : (a + b).toInt = a.toInt + b.toInt := by rw [Int32.toInt_add, bmodS h1 h2]
theorem subI {a b : Int32} (h1 : -2147483648 ≤ a.toInt - b.toInt) (h2 : a.toInt - b.toInt ≤ 2147483647) : (a - b).toInt = a.toInt - b.toInt := by rw [Int32.toInt_sub, bmodS h1 h2]
theorem negI {a : Int32} (h1 : -2147483647 ≤ a.toInt) : (-a).toInt = -a.toInt := by
  rw [Int32.toInt_neg, bmodS (by have := a.toInt_lt; omega) (by omega)]
theorem in8_eq (n lo hi : Int32) : s_in8 n lo hi = s_isWithin n lo hi := rfl
theorem isCrane8_eq (c : Int32) : s_isCrane8 c = s_isCrane c := rfl
theorem size_eq (v : Int32) : s_size8 v = (if 0 ≤ v then v else 0 - v) := by
  unfold s_size8
  by_cases h : 0 ≤ v
  · rw [if_pos h, if_pos h]
  · rw [if_neg h, if_neg h, Int32.zero_sub]
theorem kept_eq (x : Int32) : s_kept8 x = s_keptWithin x 9999 := by
  have e1 : (9999 : Int32).toInt = 9999 := by decide
  have e2 : (-9999 : Int32).toInt = -9999 := by decide
  unfold s_kept8 s_keptWithin
  simp only [leI, ltI, e1, e2]
  repeat' split
  all_goals first | rfl | (rw [eqI]; simp only [e1, e2]; omega) | omega
theorem g_stopBy8_c (nw : Nat → Int32) : ∀ (n : Nat) (su k : Int32), g_stopBy8 nw n su k = g_stopBy8 (fun _ => nw 2) n su k := by
  intro n
  induction n with
  | zero => intro su k; rfl
  | succ n ih => intro su k; rw [g_stopBy8, g_stopBy8, ih]
theorem stopBy8_c (nw : Nat → Int32) (v : Int32) : s_stopBy8 nw v = s_stopBy8 (fun _ => nw 2) v := g_stopBy8_c nw _ _ _
theorem stop_fin : ∀ i : Nat, i < 81 → ∀ j : Nat, j < 9 → s_stopBy8 (fun _ => Int32.ofInt ((j : Int) + 1)) (Int32.ofInt ((i : Int) - 40)) = s_wayToStop (Int32.ofInt ((i : Int) - 40)) (Int32.ofInt ((j : Int) + 1)) := by decide +kernel
theorem half_fin : ∀ i : Nat, i < 51 → s_halfOf8 (Int32.ofInt ((i : Int) + 10)) = s_halfSwing (Int32.ofInt ((i : Int) + 10)) := by decide +kernel
