/-! PURE: the class's numbers against the reference's -/
theorem zI : (0 : Int32).toInt = 0 := Int32.toInt_zero
theorem leI {a b : Int32} : a ≤ b ↔ a.toInt ≤ b.toInt := Int32.le_iff_toInt_le
theorem ltI {a b : Int32} : a < b ↔ a.toInt < b.toInt := Int32.lt_iff_toInt_lt
theorem eqI {a b : Int32} : a = b ↔ a.toInt = b.toInt := Int32.toInt_inj.symm
theorem bmodS {y : Int} (h1 : -2147483648 ≤ y) (h2 : y ≤ 2147483647) : y.bmod (2 ^ 32) = y := by rw [Int.bmod_def]; omega
theorem addI {a b : Int32} (h1 : -2147483648 ≤ a.toInt + b.toInt) (h2 : a.toInt + b.toInt ≤ 2147483647) : (a + b).toInt = a.toInt + b.toInt := by rw [Int32.toInt_add, bmodS h1 h2]
theorem subI {a b : Int32} (h1 : -2147483648 ≤ a.toInt - b.toInt) (h2 : a.toInt - b.toInt ≤ 2147483647) : (a - b).toInt = a.toInt - b.toInt := by rw [Int32.toInt_sub, bmodS h1 h2]
theorem negI {a : Int32} (h1 : -2147483647 ≤ a.toInt) : (-a).toInt = -a.toInt := by
  rw [Int32.toInt_neg, bmodS (by have := a.toInt_lt; omega) (by omega)]
theorem ofI (x : Int32) {n : Int} (h : x.toInt = n) : x = Int32.ofInt n := by rw [← h, Int32.ofInt_toInt]
theorem stop_fin2 : ∀ i : Nat, i < 81 → ∀ j : Nat, j < 9 → s_wayToStop (-(Int32.ofInt ((i : Int) - 40))) (Int32.ofInt ((j : Int) + 1)) = s_wayToStop (Int32.ofInt ((i : Int) - 40)) (Int32.ofInt ((j : Int) + 1)) ∧ (Int32.ofInt ((i : Int) - 40)) ≤ s_wayToStop (Int32.ofInt ((i : Int) - 40)) (Int32.ofInt ((j : Int) + 1)) ∧ s_wayToStop 0 (Int32.ofInt ((j : Int) + 1)) = 0 := by decide +kernel
theorem stop_ev {v ch : Int32} (hv : -40 ≤ v.toInt ∧ v.toInt ≤ 40) (hc : 1 ≤ ch.toInt ∧ ch.toInt ≤ 9) : s_wayToStop (-v) ch = s_wayToStop v ch ∧ v ≤ s_wayToStop v ch ∧ s_wayToStop 0 ch = 0 := by
  have h := stop_fin2 (v.toInt + 40).toNat (by omega) (ch.toInt - 1).toNat (by omega)
  have e1 : ((ch.toInt - 1).toNat : Int) + 1 = ch.toInt := by omega
  have e2 : ((v.toInt + 40).toNat : Int) - 40 = v.toInt := by omega
  rw [e1, e2, Int32.ofInt_toInt, Int32.ofInt_toInt] at h
  exact h
/-- what is left of a speed by a room, from k down -/
def brP (st : Int32 → Int32) (ro : Int32) : Nat → Int32
  | 0 => 0
  | k + 1 => if st (nI (k + 1)) ≤ ro then nI (k + 1) else brP st ro k
theorem nIt {k : Nat} (h : k ≤ 1000) : (nI k).toInt = k := nI_toInt (by omega)
theorem nI_dn {k : Nat} (h : k ≤ 900) : nI (k + 1) + (-1) = nI k := by
  rw [eqI, addI (by rw [nIt (by omega), show (-1 : Int32).toInt = -1 from by decide]; omega) (by rw [nIt (by omega), show (-1 : Int32).toInt = -1 from by decide]; omega), nIt (by omega), nIt (by omega), show (-1 : Int32).toInt = -1 from by decide]
  omega
theorem nI_ndn {k : Nat} (h : k ≤ 900) : -(nI (k + 1)) + 1 = -(nI k) := by
  have e1 : (-(nI (k + 1))).toInt = -((k : Int) + 1) := by rw [negI (by rw [nIt (by omega)]; omega), nIt (by omega)]; omega
  have e2 : (-(nI k)).toInt = -(k : Int) := by rw [negI (by rw [nIt (by omega)]; omega), nIt (by omega)]
  rw [eqI, addI (by rw [e1, show (1 : Int32).toInt = 1 from by decide]; omega) (by rw [e1, show (1 : Int32).toInt = 1 from by decide]; omega), e1, e2, show (1 : Int32).toInt = 1 from by decide]
  omega
theorem neg0 {x : Int32} (h : -x = 0) : x = 0 := by
  have := congrArg (fun z => -z) h
  simpa using this
theorem sfr_pos (ro ch sg : Int32) : ∀ (k n : Nat), k ≤ 40 → k < n → g_speedForRoom ro ch n sg (nI k) = sg * brP (fun s => s_wayToStop s ch) ro k := by
  intro k
  induction k with
  | zero =>
    intro n hk hn
    obtain ⟨n, rfl⟩ : ∃ q, n = q + 1 := ⟨n - 1, by omega⟩
    rw [g_speedForRoom, if_pos (by rw [leI, nIt (by omega), zI]; omega)]
    show (0 : Int32) = sg * 0
    rw [Int32.mul_zero]
  | succ k ih =>
    intro n hk hn
    obtain ⟨n, rfl⟩ : ∃ q, n = q + 1 := ⟨n - 1, by omega⟩
    rw [g_speedForRoom, if_neg (by rw [leI, nIt (by omega), zI]; omega), brP]
    by_cases h : s_wayToStop (nI (k + 1)) ch ≤ ro
    · rw [if_neg (by rw [ltI]; rw [leI] at h; omega), if_pos h]
    · rw [if_pos (by rw [ltI]; rw [leI] at h; omega), if_neg h, nI_dn (by omega)]
      exact ih n (by omega) (by omega)
/-- a speed is a number with a sign -/
theorem asNat {v : Int32} (h : 0 ≤ v.toInt ∧ v.toInt ≤ 40) : ∃ k : Nat, k ≤ 40 ∧ v = nI k := ⟨v.toInt.toNat, by omega, by rw [eqI, nIt (by omega)]; omega⟩
theorem asNeg {v : Int32} (h : -40 ≤ v.toInt ∧ v.toInt < 0) : ∃ k : Nat, k ≤ 40 ∧ 0 < k ∧ v = -(nI k) := ⟨(-v.toInt).toNat, by omega, by omega, by rw [eqI, negI (by rw [nIt (by omega)]; omega), nIt (by omega)]; omega⟩
theorem absP {k : Nat} (h : k ≤ 40) : (if 0 ≤ nI k then nI k else 0 - nI k) = nI k := if_pos (by rw [leI, nIt (by omega), zI]; omega)
theorem absN {k : Nat} (h : k ≤ 40) (h0 : 0 < k) : (if 0 ≤ -(nI k) then -(nI k) else 0 - -(nI k)) = nI k := by
  have e : (-(nI k)).toInt = -(k : Int) := by rw [negI (by rw [nIt (by omega)]; omega), nIt (by omega)]
  rw [if_neg (by rw [leI, e, zI]; omega), Int32.zero_sub, Int32.neg_neg]
theorem nI_dn1 {k : Nat} (h : k ≤ 900) : nI (k + 1) - 1 = nI k := by
  rw [eqI, subI (by rw [nIt (by omega), show (1 : Int32).toInt = 1 from by decide]; omega) (by rw [nIt (by omega), show (1 : Int32).toInt = 1 from by decide]; omega), nIt (by omega), nIt (by omega), show (1 : Int32).toInt = 1 from by decide]
  omega
/-- the class's braking of a speed v by a room -/
def bkC (v ro ch : Int32) : Int32 := if s_wayToStop v ch ≤ ro then v else s_speedForRoom v ro ch
theorem bkC_pos {k : Nat} {ro ch : Int32} (hk : k + 1 ≤ 40) : bkC (nI (k + 1)) ro ch = brP (fun s => s_wayToStop s ch) ro (k + 1) := by
  unfold bkC
  rw [brP]
  by_cases h : s_wayToStop (nI (k + 1)) ch ≤ ro
  · rw [if_pos h, if_pos h]
  · rw [if_neg h, if_neg h]
    unfold s_speedForRoom
    rw [absP hk, if_pos (by rw [leI, nIt (by omega), zI]; omega), nI_dn1 (by omega), nIt (by omega), sfr_pos ro ch 1 k _ (by omega) (by omega), Int32.one_mul]
theorem bkC_neg {k : Nat} {ro ch : Int32} (hk : k + 1 ≤ 40) (hc : 1 ≤ ch.toInt ∧ ch.toInt ≤ 9) : bkC (-(nI (k + 1))) ro ch = -(brP (fun s => s_wayToStop s ch) ro (k + 1)) := by
  have e : (-(nI (k + 1))).toInt = -((k : Int) + 1) := by rw [negI (by rw [nIt (by omega)]; omega), nIt (by omega)]; omega
  unfold bkC
  rw [brP, (stop_ev (v := nI (k + 1)) (by rw [nIt (by omega)]; omega) hc).1]
  by_cases h : s_wayToStop (nI (k + 1)) ch ≤ ro
  · rw [if_pos h, if_pos h]
  · rw [if_neg h, if_neg h]
    unfold s_speedForRoom
    rw [absN hk (by omega), if_neg (by rw [leI, e, zI]; omega), nI_dn1 (by omega), nIt (by omega), sfr_pos ro ch (-1) k _ (by omega) (by omega), Int32.neg_mul, Int32.one_mul]
theorem clampEq {x mo : Int32} (h : 0 ≤ mo.toInt ∧ mo.toInt ≤ 1000000) : s_keptWithin x mo = (if x ≤ mo then if -mo ≤ x then x else -mo else mo) := by
  have e : (-mo).toInt = -mo.toInt := negI (by omega)
  unfold s_keptWithin
  by_cases c1 : x ≤ mo
  · rw [if_pos c1, if_neg (c := mo < x) (by rw [ltI]; rw [leI] at c1; omega)]
    by_cases c2 : -mo ≤ x
    · rw [if_pos c2]
      by_cases c3 : -mo < x
      · rw [if_pos c3]
      · rw [if_neg c3, eqI]; rw [leI] at c2; rw [ltI] at c3; omega
    · rw [if_neg c2, if_neg (by rw [ltI]; rw [leI] at c2; omega)]
  · rw [if_neg c1, if_pos (c := mo < x) (by rw [ltI]; rw [leI] at c1; omega)]
    by_cases c3 : -mo < mo
    · rw [if_pos c3]
    · rw [if_neg c3, eqI]; rw [ltI] at c3; omega
theorem limit_b {a3 r3 : Int32} (h : 1 ≤ r3.toInt ∧ r3.toInt ≤ 40) (h3 : 0 ≤ a3.toInt ∧ a3.toInt ≤ 99) : 1 ≤ (s_limit a3 r3).toInt ∧ (s_limit a3 r3).toInt ≤ 40 := by
  have e1 : (1 : Int32).toInt = 1 := by decide
  have e2 : (a3 / 10).toInt = a3.toInt / 10 := by
    rw [Int32.toInt_div_of_ne_right _ _ (by decide), show (10 : Int32).toInt = 10 from by decide]
    exact Int.tdiv_eq_ediv_of_nonneg h3.1
  have e3 : (r3 - a3 / 10).toInt = r3.toInt - a3.toInt / 10 := by rw [subI (by omega) (by omega), e2]
  unfold s_limit
  by_cases c : 1 < r3 - a3 / 10
  · rw [if_pos c, e3]; rw [ltI, e3, e1] at c; omega
  · rw [if_neg c, e1]; omega
/-- the steps that are to come: the class's two pairs, the reference's list from b on (tk: the ticks gone) -/
def stN (a9 a11 : Int32) : Int32 := if a9 = 0 then (if a11 = 0 then 0 else 1) else (if a11 = 0 then 1 else 2)
def StR (n0 n1 n2 n3 n4 : Int32) (tk a8 a9 a10 a11 : Int32) : Prop := n0 = stN a9 a11 ∧ (a9 ≠ 0 → n1 = tk + a8 ∧ n2 = a9) ∧ (a9 = 0 → a11 ≠ 0 → n1 = tk + a10 ∧ n2 = a11) ∧ (a9 ≠ 0 → a11 ≠ 0 → n3 = tk + a10 ∧ n4 = a11) ∧ (a9 ≠ 0 → 1 ≤ a8.toInt ∧ a8.toInt ≤ 100) ∧ (a11 ≠ 0 → 1 ≤ a10.toInt ∧ a10.toInt ≤ 100)
theorem stN_00 : stN 0 0 = 0 := rfl
theorem stN_01 {a : Int32} (h : a ≠ 0) : stN 0 a = 1 := by unfold stN; rw [if_pos rfl, if_neg h]
theorem stN_10 {a : Int32} (h : a ≠ 0) : stN a 0 = 1 := by unfold stN; rw [if_neg h, if_pos rfl]
theorem stN_11 {a b : Int32} (h : a ≠ 0) (h2 : b ≠ 0) : stN a b = 2 := by unfold stN; rw [if_neg h, if_neg h2]
theorem stN_cases (a b : Int32) : stN a b = 0 ∨ stN a b = 1 ∨ stN a b = 2 := by
  unfold stN
  repeat' split
  all_goals first | exact Or.inl rfl | exact Or.inr (Or.inl rfl) | exact Or.inr (Or.inr rfl)
theorem come_iff {tk a : Int32} (h : 1 ≤ a.toInt ∧ a.toInt ≤ 100) : (tk + a = tk + 1) ↔ ¬ (1 ≤ a - 1) := by
  have e1 : (1 : Int32).toInt = 1 := by decide
  have e : (a - 1).toInt = a.toInt - 1 := by rw [subI (by omega) (by omega), e1]
  rw [Int32.add_right_inj, leI, e, e1, eqI, e1]
  omega
theorem later_eq {tk a : Int32} : tk + a = (tk + 1) + (a - 1) := by
  rw [Int32.add_assoc, Int32.add_comm 1 (a - 1), Int32.sub_add_cancel]
theorem later_b {a : Int32} (h : 1 ≤ a.toInt ∧ a.toInt ≤ 100) (h2 : 1 ≤ a - 1) : 1 ≤ (a - 1).toInt ∧ (a - 1).toInt ≤ 100 := by
  have e1 : (1 : Int32).toInt = 1 := by decide
  have e : (a - 1).toInt = a.toInt - 1 := by rw [subI (by omega) (by omega), e1]
  rw [leI, e, e1] at h2
  omega
/-- a crane's tick in one line -/
theorem roll_eq (a0 a1 a2 a3 a4 a5 a6 a8 a9 a10 a11 r2 r3 lo hi : Int32) : s_roll a0 a1 a2 a3 a4 a5 a6 a8 a9 a10 a11 r2 r3 lo hi =
    (a0 + bkC (s_speedNearerToWant a1 a3 (s_takeSteps a6 a8 a9 a10 a11).1 r2 r3) (if 0 ≤ s_speedNearerToWant a1 a3 (s_takeSteps a6 a8 a9 a10 a11).1 r2 r3 then hi else lo) r2,
     bkC (s_speedNearerToWant a1 a3 (s_takeSteps a6 a8 a9 a10 a11).1 r2 r3) (if 0 ≤ s_speedNearerToWant a1 a3 (s_takeSteps a6 a8 a9 a10 a11).1 r2 r3 then hi else lo) r2,
     (s_swingOut a2 a4 a5 (bkC (s_speedNearerToWant a1 a3 (s_takeSteps a6 a8 a9 a10 a11).1 r2 r3) (if 0 ≤ s_speedNearerToWant a1 a3 (s_takeSteps a6 a8 a9 a10 a11).1 r2 r3 then hi else lo) r2 - a1)).1,
     (s_swingOut a2 a4 a5 (bkC (s_speedNearerToWant a1 a3 (s_takeSteps a6 a8 a9 a10 a11).1 r2 r3) (if 0 ≤ s_speedNearerToWant a1 a3 (s_takeSteps a6 a8 a9 a10 a11).1 r2 r3 then hi else lo) r2 - a1)).2,
     (s_takeSteps a6 a8 a9 a10 a11).1, (s_takeSteps a6 a8 a9 a10 a11).2.1, (s_takeSteps a6 a8 a9 a10 a11).2.2,
     if s_wayToStop (s_speedNearerToWant a1 a3 (s_takeSteps a6 a8 a9 a10 a11).1 r2 r3) r2 ≤ (if 0 ≤ s_speedNearerToWant a1 a3 (s_takeSteps a6 a8 a9 a10 a11).1 r2 r3 then hi else lo) then false else true) := by
  unfold s_roll
  obtain ⟨w, b9, b11, e⟩ := bEx3 (s_takeSteps a6 a8 a9 a10 a11)
  rw [e]
  dsimp only
  generalize s_speedNearerToWant a1 a3 w r2 r3 = v
  unfold bkC
  by_cases c1 : 0 ≤ v
  · simp only [if_pos c1]
    by_cases c2 : s_wayToStop v r2 ≤ hi
    · simp only [if_pos c2]
    · simp only [if_neg c2]
  · simp only [if_neg c1]
    by_cases c2 : s_wayToStop v r2 ≤ lo
    · simp only [if_pos c2]
    · simp only [if_neg c2]
theorem brP_b {ro ch : Int32} (hc : 1 ≤ ch.toInt ∧ ch.toInt ≤ 9) : ∀ k : Nat, k ≤ 40 → 0 ≤ (brP (fun s => s_wayToStop s ch) ro k).toInt ∧ (brP (fun s => s_wayToStop s ch) ro k).toInt ≤ k ∧ (0 ≤ ro.toInt → (brP (fun s => s_wayToStop s ch) ro k).toInt ≤ ro.toInt) := by
  intro k
  induction k with
  | zero => intro _; show 0 ≤ (0 : Int32).toInt ∧ (0 : Int32).toInt ≤ ((0 : Nat) : Int) ∧ (0 ≤ ro.toInt → (0 : Int32).toInt ≤ ro.toInt); rw [zI]; omega
  | succ k ih =>
    intro hk
    rw [brP]
    have e := nIt (k := k + 1) (by omega)
    have hs := (stop_ev (v := nI (k + 1)) (by rw [e]; omega) hc).2.1
    by_cases h : s_wayToStop (nI (k + 1)) ch ≤ ro
    · rw [if_pos h, e]
      rw [leI, e] at hs
      rw [leI] at h
      omega
    · rw [if_neg h]
      have := ih (by omega)
      omega
/-- a braked speed: no farther from 0, of its sign, and no more than the room -/
theorem bkC_b {v ro ch : Int32} (hv : -40 ≤ v.toInt ∧ v.toInt ≤ 40) (hc : 1 ≤ ch.toInt ∧ ch.toInt ≤ 9) (hr : 0 ≤ ro.toInt) : (0 ≤ v.toInt → 0 ≤ (bkC v ro ch).toInt ∧ (bkC v ro ch).toInt ≤ v.toInt ∧ (bkC v ro ch).toInt ≤ ro.toInt) ∧ (v.toInt < 0 → v.toInt ≤ (bkC v ro ch).toInt ∧ (bkC v ro ch).toInt ≤ 0 ∧ -ro.toInt ≤ (bkC v ro ch).toInt) := by
  constructor
  · intro h
    obtain ⟨k, hk, rfl⟩ := asNat ⟨h, hv.2⟩
    cases k with
    | zero =>
      have e : bkC (nI 0) ro ch = 0 := by
        show bkC 0 ro ch = 0
        unfold bkC
        rw [(stop_ev (v := 0) (by decide) hc).2.2, if_pos (by rw [leI, zI]; exact hr)]
      rw [e, zI, nIt (by omega)]; omega
    | succ k =>
      rw [bkC_pos hk, nIt (by omega)]
      have := brP_b (ro := ro) hc (k + 1) hk
      omega
  · intro h
    obtain ⟨k, hk, hk0, rfl⟩ := asNeg ⟨hv.1, h⟩
    cases k with
    | zero => omega
    | succ k =>
      have hb := brP_b (ro := ro) hc (k + 1) hk
      have en : (-(nI (k + 1))).toInt = -((k : Int) + 1) := by rw [negI (by rw [nIt (by omega)]; omega), nIt (by omega)]; omega
      have eb : (-(brP (fun s => s_wayToStop s ch) ro (k + 1))).toInt = -(brP (fun s => s_wayToStop s ch) ro (k + 1)).toInt := negI (by omega)
      rw [bkC_neg hk hc, eb, en]
      omega
theorem clampB {x mo : Int32} (h : 0 ≤ mo.toInt ∧ mo.toInt ≤ 1000000) : -mo.toInt ≤ (s_keptWithin x mo).toInt ∧ (s_keptWithin x mo).toInt ≤ mo.toInt ∧ (0 ≤ x.toInt → 0 ≤ (s_keptWithin x mo).toInt ∧ (s_keptWithin x mo).toInt ≤ x.toInt) ∧ (x.toInt ≤ 0 → x.toInt ≤ (s_keptWithin x mo).toInt ∧ (s_keptWithin x mo).toInt ≤ 0) := by
  have e : (-mo).toInt = -mo.toInt := negI (by omega)
  rw [clampEq h]
  by_cases c1 : x ≤ mo
  · rw [if_pos c1]
    by_cases c2 : -mo ≤ x
    · rw [if_pos c2]; rw [leI] at c1 c2; omega
    · rw [if_neg c2, e]; rw [leI] at c1 c2; omega
  · rw [if_neg c1]; rw [leI] at c1; omega
/-- a speed nearer to what is wanted stays within 40 -/
theorem speed_b {a1 a3 a6 r2 r3 : Int32} (hv : -40 ≤ a1.toInt ∧ a1.toInt ≤ 40) (h3 : 0 ≤ a3.toInt ∧ a3.toInt ≤ 99) (hc : 1 ≤ r2.toInt ∧ r2.toInt ≤ 9) (ht : 1 ≤ r3.toInt ∧ r3.toInt ≤ 40) : -40 ≤ (s_speedNearerToWant a1 a3 a6 r2 r3).toInt ∧ (s_speedNearerToWant a1 a3 a6 r2 r3).toInt ≤ 40 := by
  unfold s_speedNearerToWant
  have hb := limit_b ht h3
  generalize s_limit a3 r3 = lim at *
  have c1 := clampB (x := a6) (mo := lim) (by omega)
  generalize s_keptWithin a6 lim = x at *
  have e1 : (x - a1).toInt = x.toInt - a1.toInt := subI (by omega) (by omega)
  have c2 := clampB (x := x - a1) (mo := r2) (by omega)
  generalize s_keptWithin (x - a1) r2 = y at *
  rw [e1] at c2
  have e2 : (a1 + y).toInt = a1.toInt + y.toInt := addI (by omega) (by omega)
  rw [e2]
  omega

theorem bkC_id {v ro ch : Int32} (hv : -40 ≤ v.toInt ∧ v.toInt ≤ 40) (hc : 1 ≤ ch.toInt ∧ ch.toInt ≤ 9) (hr : 0 ≤ ro.toInt) : bkC v ro ch = v ↔ s_wayToStop v ch ≤ ro := by
  constructor
  · intro h
    by_cases c1 : s_wayToStop v ch ≤ ro
    · exact c1
    · exfalso
      by_cases h0 : 0 ≤ v.toInt
      · obtain ⟨k, hk, rfl⟩ := asNat ⟨h0, hv.2⟩
        cases k with
        | zero => exact c1 (by show s_wayToStop 0 ch ≤ ro; rw [(stop_ev (v := 0) (by decide) hc).2.2, leI, zI]; exact hr)
        | succ k =>
          rw [bkC_pos hk, brP, if_neg c1] at h
          have h1 := brP_b (ro := ro) hc k (by omega)
          rw [h, nIt (by omega)] at h1
          omega
      · obtain ⟨k, hk, hk0, rfl⟩ := asNeg ⟨hv.1, by omega⟩
        cases k with
        | zero => omega
        | succ k =>
          rw [(stop_ev (v := nI (k + 1)) (by rw [nIt (by omega)]; omega) hc).1] at c1
          rw [bkC_neg hk hc, brP, if_neg c1] at h
          have h1 := brP_b (ro := ro) hc k (by omega)
          have en : (-(nI (k + 1))).toInt = -((k : Int) + 1) := by rw [negI (by rw [nIt (by omega)]; omega), nIt (by omega)]; omega
          have eb : (-(brP (fun s => s_wayToStop s ch) ro k)).toInt = -(brP (fun s => s_wayToStop s ch) ro k).toInt := negI (by omega)
          rw [eqI, eb, en] at h
          omega
  · intro h
    unfold bkC
    rw [if_pos h]
theorem bkC_0 {ro ch : Int32} (hc : 1 ≤ ch.toInt ∧ ch.toInt ≤ 9) (hr : 0 ≤ ro.toInt) : bkC 0 ro ch = 0 := (bkC_id (by decide) hc hr).mpr (by rw [(stop_ev (v := 0) (by decide) hc).2.2, leI, zI]; exact hr)
/-- a crane's numbers in a row, from b on -/
def CrR (nw : Nat → Int32) (b : Nat) (tk a0 a1 a2 a3 a4 a5 a6 a7 a8 a9 a10 a11 : Int32) : Prop := nw b = a0 ∧ nw (b + 1) = a1 ∧ nw (b + 2) = a2 ∧ nw (b + 3) = a3 ∧ nw (b + 4) = a4 ∧ nw (b + 5) = a5 ∧ nw (b + 6) = a6 ∧ nw (b + 7) = a7 ∧ StR (nw (b + 8)) (nw (b + 9)) (nw (b + 10)) (nw (b + 11)) (nw (b + 12)) tk a8 a9 a10 a11
def RuR (nw : Nat → Int32) (r0 r1 r2 r3 r4 pv tk : Int32) : Prop := nw 0 = r0 ∧ nw 1 = r1 ∧ nw 2 = r2 ∧ nw 3 = r3 ∧ nw 4 = r4 ∧ nw 5 = pv ∧ nw 6 = tk
def RuB (r0 r1 r2 r3 r4 pv : Int32) : Prop := (200 ≤ r0.toInt ∧ r0.toInt ≤ 999) ∧ (10 ≤ r1.toInt ∧ r1.toInt ≤ 99) ∧ (1 ≤ r2.toInt ∧ r2.toInt ≤ 9) ∧ (1 ≤ r3.toInt ∧ r3.toInt ≤ 40) ∧ (0 ≤ r4.toInt ∧ r4.toInt ≤ 40) ∧ (pv = -4 ∨ 0 ≤ pv.toInt ∧ pv.toInt ≤ 20)
def CrB (a1 a2 a3 a7 : Int32) : Prop := (-40 ≤ a1.toInt ∧ a1.toInt ≤ 40) ∧ (10 ≤ a2.toInt ∧ a2.toInt ≤ 60) ∧ (0 ≤ a3.toInt ∧ a3.toInt ≤ 99) ∧ (10 ≤ a7.toInt ∧ a7.toInt ≤ 60)
def XB (r0 r1 x y : Int32) : Prop := 0 ≤ x.toInt ∧ x.toInt + r1.toInt ≤ y.toInt ∧ y.toInt ≤ r0.toInt
theorem half2 {x : Int32} (h : 0 ≤ x.toInt) : (x / 2).toInt = x.toInt / 2 := by
  rw [Int32.toInt_div_of_ne_right _ _ (by decide), show (2 : Int32).toInt = 2 from by decide]
  exact Int.tdiv_eq_ediv_of_nonneg h

theorem free_b {r0 r1 x y : Int32} (hr0 : 200 ≤ r0.toInt ∧ r0.toInt ≤ 999) (hr1 : 10 ≤ r1.toInt ∧ r1.toInt ≤ 99) (hx : XB r0 r1 x y) : ((y - x) - r1).toInt = y.toInt - x.toInt - r1.toInt ∧ (((y - x) - r1) / 2).toInt = (y.toInt - x.toInt - r1.toInt) / 2 := by
  obtain ⟨h1, h2, h3⟩ := hx
  have e1 : (y - x).toInt = y.toInt - x.toInt := subI (by omega) (by omega)
  have e2 : ((y - x) - r1).toInt = y.toInt - x.toInt - r1.toInt := by rw [subI (by omega) (by omega), e1]
  exact ⟨e2, by rw [half2 (by omega), e2]⟩
/-- where both are behind a tick -/
theorem move_b {r0 r1 r2 x y v w : Int32} (hr0 : 200 ≤ r0.toInt ∧ r0.toInt ≤ 999) (hr1 : 10 ≤ r1.toInt ∧ r1.toInt ≤ 99) (hc : 1 ≤ r2.toInt ∧ r2.toInt ≤ 9) (hx : XB r0 r1 x y) (hv : -40 ≤ v.toInt ∧ v.toInt ≤ 40) (hw : -40 ≤ w.toInt ∧ w.toInt ≤ 40) :
    XB r0 r1 (x + bkC v (if 0 ≤ v then (s_freeBetween x y r1) / 2 else x) r2) (y + bkC w (if 0 ≤ w then r0 - y else (s_freeBetween x y r1) / 2) r2) ∧ (-40 ≤ (bkC v (if 0 ≤ v then (s_freeBetween x y r1) / 2 else x) r2).toInt ∧ (bkC v (if 0 ≤ v then (s_freeBetween x y r1) / 2 else x) r2).toInt ≤ 40) ∧ (-40 ≤ (bkC w (if 0 ≤ w then r0 - y else (s_freeBetween x y r1) / 2) r2).toInt ∧ (bkC w (if 0 ≤ w then r0 - y else (s_freeBetween x y r1) / 2) r2).toInt ≤ 40) ∧
    (s_wayToStop v r2 ≤ (if 0 ≤ v then (s_freeBetween x y r1) / 2 else x) ↔ bkC v (if 0 ≤ v then (s_freeBetween x y r1) / 2 else x) r2 = v) ∧ (s_wayToStop w r2 ≤ (if 0 ≤ w then r0 - y else (s_freeBetween x y r1) / 2) ↔ bkC w (if 0 ≤ w then r0 - y else (s_freeBetween x y r1) / 2) r2 = w) := by
  have hf := free_b hr0 hr1 hx
  have hs : (s_freeBetween x y r1 / 2).toInt = (y.toInt - x.toInt - r1.toInt) / 2 := hf.2
  obtain ⟨g1, g2, g3⟩ := hx
  have he : (r0 - y).toInt = r0.toInt - y.toInt := subI (by omega) (by omega)
  generalize s_freeBetween x y r1 / 2 = sh at *
  generalize r0 - y = en at *
  have rv : 0 ≤ (if 0 ≤ v then sh else x).toInt := by split <;> omega
  have rw' : 0 ≤ (if 0 ≤ w then en else sh).toInt := by split <;> omega
  have bv := bkC_b (v := v) (ro := if 0 ≤ v then sh else x) (ch := r2) hv hc rv
  have bw := bkC_b (v := w) (ro := if 0 ≤ w then en else sh) (ch := r2) hw hc rw'
  have iv := bkC_id (v := v) (ro := if 0 ≤ v then sh else x) (ch := r2) hv hc rv
  have iw := bkC_id (v := w) (ro := if 0 ≤ w then en else sh) (ch := r2) hw hc rw'
  have cv : (0 ≤ v.toInt → (bkC v (if 0 ≤ v then sh else x) r2).toInt ≤ sh.toInt) ∧ (v.toInt < 0 → -x.toInt ≤ (bkC v (if 0 ≤ v then sh else x) r2).toInt) := by
    constructor
    · intro h; have := (bv.1 h).2.2; rw [if_pos (by rw [leI, zI]; exact h)] at this ⊢; exact this
    · intro h; have := (bv.2 h).2.2; rw [if_neg (by rw [leI, zI]; omega)] at this ⊢; exact this
  have cw : (0 ≤ w.toInt → (bkC w (if 0 ≤ w then en else sh) r2).toInt ≤ en.toInt) ∧ (w.toInt < 0 → -sh.toInt ≤ (bkC w (if 0 ≤ w then en else sh) r2).toInt) := by
    constructor
    · intro h; have := (bw.1 h).2.2; rw [if_pos (by rw [leI, zI]; exact h)] at this ⊢; exact this
    · intro h; have := (bw.2 h).2.2; rw [if_neg (by rw [leI, zI]; omega)] at this ⊢; exact this
  generalize bkC v (if 0 ≤ v then sh else x) r2 = v2 at *
  generalize bkC w (if 0 ≤ w then en else sh) r2 = w2 at *
  have e1 : (x + v2).toInt = x.toInt + v2.toInt := addI (by omega) (by omega)
  have e2 : (y + w2).toInt = y.toInt + w2.toInt := addI (by omega) (by omega)
  refine ⟨⟨by rw [e1]; omega, by rw [e1, e2]; omega, by rw [e2]; omega⟩, by omega, by omega, iv.symm, iw.symm⟩

theorem isOne {b : Bool} : (if b = true then (1 : Int32) else 0) = bB b := by cases b <;> rfl
/-- a rope's length stays where ropes are -/
theorem hoR_b {a1 a2 a7 sl ot lv : Int32} (h2 : 10 ≤ a2.toInt ∧ a2.toInt ≤ 60) (h7 : 10 ≤ a7.toInt ∧ a7.toInt ≤ 60) : 10 ≤ (s_hoistRope a1 a2 a7 sl ot lv).1.toInt ∧ (s_hoistRope a1 a2 a7 sl ot lv).1.toInt ≤ 60 := by
  have e1 : (1 : Int32).toInt = 1 := by decide
  have em : (a2 - 1).toInt = a2.toInt - 1 := by rw [subI (by omega) (by omega), e1]
  have ep : (a2 + 1).toInt = a2.toInt + 1 := by rw [addI (by omega) (by omega), e1]
  unfold s_hoistRope
  by_cases c1 : a7 = a2
  · rw [if_pos c1]; exact h2
  rw [if_neg c1]
  have c1' : a7.toInt ≠ a2.toInt := fun q => c1 (eqI.mpr q)
  by_cases c2 : (if 0 ≤ a1 then a1 else 0 - a1) ≤ sl
  · rw [if_pos c2]
    by_cases c3 : a7 ≤ a2
    · rw [if_pos c3]
      rw [leI] at c3
      repeat' split
      all_goals first | exact h2 | (show 10 ≤ (a2 - 1).toInt ∧ (a2 - 1).toInt ≤ 60; omega)
    · rw [if_neg c3]
      rw [leI] at c3
      repeat' split
      all_goals first | exact h2 | (show 10 ≤ (a2 + 1).toInt ∧ (a2 + 1).toInt ≤ 60; omega)
  · rw [if_neg c2]; exact h2
/-! SPOTS: the class's two rows against the reference's one -/
theorem pigeon : ∀ (m n : Nat) (f : Nat → Nat), (∀ k, k < n → f k < m) → (∀ j k, j < k → k < n → f j ≠ f k) → n ≤ m := by
  intro m
  induction m with
  | zero =>
    intro n f h1 _
    rcases Nat.eq_zero_or_pos n with q | q
    · omega
    · have := h1 0 q; omega
  | succ m ih =>
    intro n f h1 h2
    cases n with
    | zero => omega
    | succ n =>
      refine Nat.succ_le_succ (ih n (fun k => if f k = m then f n else f k) ?_ ?_)
      · intro k hk
        show (if f k = m then f n else f k) < m
        have a1 := h1 k (by omega)
        have a2 := h1 n (by omega)
        have a3 := h2 k n hk (by omega)
        split <;> omega
      · intro j k hj hk
        show (if f j = m then f n else f j) ≠ (if f k = m then f n else f k)
        have a1 := h2 j n (by omega) (by omega)
        have a2 := h2 k n (by omega) (by omega)
        have a3 := h2 j k hj (by omega)
        split <;> split <;> omega
/-- the name of a spot -/
def spCode (c : Int32) : Prop := 0 ≤ c.toInt ∧ c.toInt / 100 < 20 ∧ 1 ≤ c.toInt % 100 ∧ c.toInt % 100 ≤ 6
def spIx (c : Int32) : Nat := ((c.toInt / 100) * 6 + (c.toInt % 100 - 1)).toNat
theorem spIx_lt {c : Int32} (h : spCode c) : spIx c < 120 := by
  obtain ⟨h1, h2, h3, h4⟩ := h
  unfold spIx
  omega
theorem spIx_inj {c d : Int32} (h : spCode c) (k : spCode d) (e : spIx c = spIx d) : c = d := by
  obtain ⟨h1, h2, h3, h4⟩ := h
  obtain ⟨k1, k2, k3, k4⟩ := k
  unfold spIx at e
  rw [eqI]
  omega
/-- a crane's spots: the class's (many, names, ticks) and the reference's row from b on -/
def SpR (nw : Nat → Int32) (b mm : Nat) (am : Int32) (af ag : Nat → Int32) : Prop :=
  mm ≤ 120 ∧ am = nI mm ∧ nw b = nI mm ∧ (∀ k, k < mm → nw (k + (b + 1)) = af k ∧ nw (k + (b + 121)) = ag k) ∧ (∀ k, k < mm → spCode (af k)) ∧ (∀ j k, j < k → k < mm → af j ≠ af k)
theorem SpR_room {nw : Nat → Int32} {b mm : Nat} {am : Int32} {af ag : Nat → Int32} {c : Int32} (h : SpR nw b mm am af ag) (hc : spCode c) (hn : ∀ k, k < mm → af k ≠ c) : mm < 120 := by
  obtain ⟨h1, h2, h3, h4, h5, h6⟩ := h
  have hp := pigeon 120 (mm + 1) (fun k => spIx (if k < mm then af k else c)) ?_ ?_
  · omega
  · intro k hk
    show spIx (if k < mm then af k else c) < 120
    split
    · rename_i q; exact spIx_lt (h5 k q)
    · exact spIx_lt hc
  · intro j k hj hk
    show spIx (if j < mm then af j else c) ≠ spIx (if k < mm then af k else c)
    rw [if_pos (show j < mm by omega)]
    by_cases q : k < mm
    · rw [if_pos q]
      intro e
      exact h6 j k hj q (spIx_inj (h5 j (by omega)) (h5 k q) e)
    · rw [if_neg q]
      intro e
      exact hn j (by omega) (spIx_inj (h5 j (by omega)) hc e)
/-- looking a name up -/
def gIx (nw : Nat → Int32) (o mm : Nat) (cd : Int32) : Nat → Nat → Nat
  | 0, _ => 0
  | n + 1, j => if nI mm ≤ nI j then j else if nw (j + o) = cd then j else gIx nw o mm cd n (j + 1)
theorem gIx_p {nw : Nat → Int32} {o mm : Nat} {cd : Int32} (hm : mm ≤ 120) : ∀ n j : Nat, 121 ≤ j + n → j ≤ mm → (∀ i, i < j → nw (i + o) ≠ cd) → gIx nw o mm cd n j ≤ mm ∧ (gIx nw o mm cd n j < mm → nw (gIx nw o mm cd n j + o) = cd) ∧ (∀ i, i < gIx nw o mm cd n j → nw (i + o) ≠ cd) := by
  intro n
  induction n with
  | zero => intro j h1 h2; omega
  | succ n ih =>
    intro j h1 h2 h3
    rw [gIx]
    by_cases c1 : nI mm ≤ nI j
    · have c2 : mm ≤ j := Nat.le_of_not_lt fun q => nI_ge q (by omega) c1
      rw [if_pos c1]
      exact ⟨h2, fun q => absurd q (by omega), h3⟩
    · have c2 := (bLtN (by omega) (by omega)).mp (bLtN2 c1)
      rw [if_neg c1]
      by_cases c3 : nw (j + o) = cd
      · rw [if_pos c3]; exact ⟨h2, fun _ => c3, h3⟩
      · rw [if_neg c3]
        refine ih (j + 1) (by omega) (by omega) ?_
        intro i hi
        rcases Nat.lt_or_ge i j with q | q
        · exact h3 i q
        · have : i = j := by omega
          rw [this]; exact c3
theorem nameAt_n {af : Nat → Int32} {j : Nat} (h : j < 120) : s_nameAt af (nI j) = af j := by
  unfold s_nameAt
  rw [if_neg (by rw [ltI, zI, nIt (by omega)]; omega), if_neg (by rw [leI, nIt (by omega), show (120 : Int32).toInt = 120 from by decide]; omega), nI_clamp (by omega)]
theorem find_ix {nw : Nat → Int32} {b mm : Nat} {am : Int32} {af ag : Nat → Int32} {c : Int32} (h : SpR nw b mm am af ag) : ∀ n j : Nat, 121 ≤ j + n → j ≤ mm → g_find am af c n j = nI (gIx nw (b + 1) mm c n j) := by
  obtain ⟨h1, h2, h3, h4, h5, h6⟩ := h
  intro n
  induction n with
  | zero => intro j k1 k2; omega
  | succ n ih =>
    intro j k1 k2
    rw [g_find, gIx]
    by_cases c1 : nI mm ≤ nI j
    · have c2 : mm ≤ j := Nat.le_of_not_lt fun q => nI_ge q (by omega) c1
      rw [if_pos (by rw [h2]; exact c1), if_pos c1, h2, show j = mm by omega]
    · have c2 := (bLtN (by omega) (by omega)).mp (bLtN2 c1)
      rw [if_neg (by rw [h2]; exact c1), if_neg c1, if_neg (by rw [leI, nIt (by omega), show (120 : Int32).toInt = 120 from by decide]; omega), nameAt_n (by omega), (h4 j c2).1]
      by_cases c3 : af j = c
      · rw [if_pos c3, if_pos c3]
      · rw [if_neg c3, if_neg c3]
        exact ih (j + 1) (by omega) (by omega)
theorem find_eq {nw : Nat → Int32} {b mm : Nat} {am : Int32} {af ag : Nat → Int32} (h : SpR nw b mm am af ag) (c : Int32) : s_find am af c = nI (gIx nw (b + 1) mm c 121 0) := find_ix h 121 0 (by omega) (by omega)
theorem ticksAt_old {am : Int32} {ag : Nat → Int32} {k mm : Nat} (h : am = nI mm) (hk : k < mm) (hm : mm ≤ 120) : s_ticksAt am ag (nI k) = ag k := by
  unfold s_ticksAt
  rw [if_neg (by rw [ltI, zI, nIt (by omega)]; omega), if_neg (by rw [h, leI, nIt (by omega), nIt (by omega)]; omega), if_neg (by rw [leI, nIt (by omega), show (120 : Int32).toInt = 120 from by decide]; omega), nI_clamp (by omega)]
theorem ticksAt_new {am : Int32} {ag : Nat → Int32} {mm : Nat} (h : am = nI mm) (hm : mm ≤ 120) : s_ticksAt am ag (nI mm) = 0 := by
  unfold s_ticksAt
  rw [if_neg (by rw [ltI, zI, nIt (by omega)]; omega), if_pos (by rw [h, leI]; omega)]
theorem put_n {af ag : Nat → Int32} {k : Nat} {nm tt : Int32} (h : k < 120) : s_put af ag (nI k) nm tt = (upd af k nm, upd ag k tt) := by
  unfold s_put
  rw [if_neg (by rw [ltI, zI, nIt (by omega)]; omega), if_neg (by rw [leI, nIt (by omega), show (120 : Int32).toInt = 120 from by decide]; omega), nI_clamp (by omega)]
theorem nI1 {k : Nat} (h : k ≤ 900) : nI k + 1 = nI (k + 1) := by
  rw [eqI, addI (by rw [nIt (by omega), show (1 : Int32).toInt = 1 from by decide]; omega) (by rw [nIt (by omega), show (1 : Int32).toInt = 1 from by decide]; omega), nIt (by omega), nIt (by omega), show (1 : Int32).toInt = 1 from by decide]
  omega
theorem SpR_new {nw A : Nat → Int32} {b mm : Nat} {am : Int32} {af ag : Nat → Int32} {c : Int32} (h : SpR nw b mm am af ag) (hc : spCode c) (hn : ∀ k, k < mm → af k ≠ c) (hm : mm < 120) (a1 : A b = nI (mm + 1)) (a2 : A (mm + (b + 1)) = c) (a3 : A (mm + (b + 121)) = 0 + 1) (a4 : ∀ k, k < mm → A (k + (b + 1)) = nw (k + (b + 1)) ∧ A (k + (b + 121)) = nw (k + (b + 121))) : SpR A b (mm + 1) (am + 1) (upd af mm c) (upd ag mm (0 + 1)) := by
  obtain ⟨h1, h2, h3, h4, h5, h6⟩ := h
  refine ⟨by omega, by rw [h2, nI1 (by omega)], a1, ?_, ?_, ?_⟩
  · intro k hk
    by_cases q : k = mm
    · subst q; rw [upd_eq, upd_eq]; exact ⟨a2, a3⟩
    · rw [upd_ne q, upd_ne q, (a4 k (by omega)).1, (a4 k (by omega)).2]; exact h4 k (by omega)
  · intro k hk
    by_cases q : k = mm
    · subst q; rw [upd_eq]; exact hc
    · rw [upd_ne q]; exact h5 k (by omega)
  · intro j k hj hk
    rw [upd_ne (by omega)]
    by_cases q : k = mm
    · subst q; rw [upd_eq]; exact hn j (by omega)
    · rw [upd_ne q]; exact h6 j k hj (by omega)
theorem SpR_old {nw A : Nat → Int32} {b mm k : Nat} {am : Int32} {af ag : Nat → Int32} {c : Int32} (h : SpR nw b mm am af ag) (hk : k < mm) (hc : af k = c) (a1 : A b = nw b) (a2 : A (k + (b + 121)) = nw (k + (b + 121)) + 1) (a3 : ∀ i, i < mm → A (i + (b + 1)) = nw (i + (b + 1))) (a4 : ∀ i, i < mm → i ≠ k → A (i + (b + 121)) = nw (i + (b + 121))) : SpR A b mm am (upd af k c) (upd ag k (ag k + 1)) := by
  obtain ⟨h1, h2, h3, h4, h5, h6⟩ := h
  have e : upd af k c = af := by
    funext i
    by_cases q : i = k
    · subst q; rw [upd_eq, hc]
    · rw [upd_ne q]
  rw [e]
  refine ⟨h1, h2, by rw [a1]; exact h3, ?_, h5, h6⟩
  intro i hi
  refine ⟨by rw [a3 i hi]; exact (h4 i hi).1, ?_⟩
  by_cases q : i = k
  · subst q; rw [upd_eq, a2, (h4 i hi).2]
  · rw [upd_ne q, a4 i hi q]; exact (h4 i hi).2
theorem code_ok {x r : Int32} (hx : 0 ≤ x.toInt ∧ x.toInt ≤ 999) (hr : 10 ≤ r.toInt ∧ r.toInt ≤ 60) : spCode ((100 * (x / 50)) + (r / 10)) := by
  have e1 : (x / 50).toInt = x.toInt / 50 := by
    rw [Int32.toInt_div_of_ne_right _ _ (by decide), show (50 : Int32).toInt = 50 from by decide]
    exact Int.tdiv_eq_ediv_of_nonneg hx.1
  have e2 : (r / 10).toInt = r.toInt / 10 := by
    rw [Int32.toInt_div_of_ne_right _ _ (by decide), show (10 : Int32).toInt = 10 from by decide]
    exact Int.tdiv_eq_ediv_of_nonneg (by omega)
  have e3 : (100 * (x / 50)).toInt = 100 * (x.toInt / 50) := by
    rw [Int32.toInt_mul, show (100 : Int32).toInt = 100 from by decide, e1, bmodS (by omega) (by omega)]
  have e4 : ((100 * (x / 50)) + (r / 10)).toInt = 100 * (x.toInt / 50) + r.toInt / 10 := by rw [addI (by omega) (by omega), e3, e2]
  unfold spCode
  rw [e4]
  omega
theorem nI_ne {j k : Nat} (hj : j ≤ 1000) (hk : k ≤ 1000) (h : nI j = nI k) : j = k := by
  have := congrArg Int32.toInt h
  rw [nIt hj, nIt hk] at this
  omega
