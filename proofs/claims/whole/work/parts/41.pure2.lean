theorem ofI (x : Int32) {n : Int} (h : x.toInt = n) : x = Int32.ofInt n := by rw [← h, Int32.ofInt_toInt]
theorem stop_eq {nw : Nat → Int32} {v : Int32} (hv : -40 ≤ v.toInt ∧ v.toInt ≤ 40) (hc : 1 ≤ (nw 2).toInt ∧ (nw 2).toInt ≤ 9) : s_stopBy8 nw v = s_wayToStop v (nw 2) := by
  have h := stop_fin (v.toInt + 40).toNat (by omega) ((nw 2).toInt - 1).toNat (by omega)
  have e1 : (((nw 2).toInt - 1).toNat : Int) + 1 = (nw 2).toInt := by omega
  have e2 : ((v.toInt + 40).toNat : Int) - 40 = v.toInt := by omega
  rw [e1, e2, Int32.ofInt_toInt, Int32.ofInt_toInt] at h
  rw [stopBy8_c]
  exact h
theorem stop_fin2 : ∀ i : Nat, i < 81 → ∀ j : Nat, j < 9 → s_wayToStop (-(Int32.ofInt ((i : Int) - 40))) (Int32.ofInt ((j : Int) + 1)) = s_wayToStop (Int32.ofInt ((i : Int) - 40)) (Int32.ofInt ((j : Int) + 1)) ∧ (Int32.ofInt ((i : Int) - 40)) ≤ s_wayToStop (Int32.ofInt ((i : Int) - 40)) (Int32.ofInt ((j : Int) + 1)) ∧ s_wayToStop 0 (Int32.ofInt ((j : Int) + 1)) = 0 := by decide +kernel
theorem stop_ev {v ch : Int32} (hv : -40 ≤ v.toInt ∧ v.toInt ≤ 40) (hc : 1 ≤ ch.toInt ∧ ch.toInt ≤ 9) : s_wayToStop (-v) ch = s_wayToStop v ch ∧ v ≤ s_wayToStop v ch ∧ s_wayToStop 0 ch = 0 := by
  have h := stop_fin2 (v.toInt + 40).toNat (by omega) (ch.toInt - 1).toNat (by omega)
  have e1 : ((ch.toInt - 1).toNat : Int) + 1 = ch.toInt := by omega
  have e2 : ((v.toInt + 40).toNat : Int) - 40 = v.toInt := by omega
  rw [e1, e2, Int32.ofInt_toInt, Int32.ofInt_toInt] at h
  exact h
theorem half_eq {rp : Int32} (h : 10 ≤ rp.toInt ∧ rp.toInt ≤ 60) : s_halfOf8 rp = s_halfSwing rp := by
  have h1 := half_fin (rp.toInt - 10).toNat (by omega)
  have e : ((rp.toInt - 10).toNat : Int) + 10 = rp.toInt := by omega
  rw [e, Int32.ofInt_toInt] at h1
  exact h1
/-- what is left of a speed by a room, from k down -/
def brP (st : Int32 → Int32) (ro : Int32) : Nat → Int32
  | 0 => 0
  | k + 1 => if st (nI (k + 1)) ≤ ro then nI (k + 1) else brP st ro k
theorem nIt {k : Nat} (h : k ≤ 1000) : (nI k).toInt = k := nI_toInt (by omega)
theorem nI_dn {k : Nat} (h : k ≤ 900) : nI (k + 1) + (-1) = nI k := by
  rw [eqI, addI (by rw [nIt (by omega), show (-1 : Int32).toInt = -1 from by decide]; omega) (by rw [nIt (by omega), show (-1 : Int32).toInt = -1 from by decide]; omega), nIt (by omega), nIt (by omega), show (-1 : Int32).toInt = -1 from by decide]
  omega
theorem nI_ndn {k : Nat} (h : k ≤ 900) : -(nI (k + 1)) + 1 = -(nI k) := by
  have e1 : (-(nI (k + 1))).toInt = -((k : Int) + 1) := by rw [negI (by rw [nIt (by omega)]; omega), nIt (by omega)]; omega
  have e2 : (-(nI k)).toInt = -(k : Int) := by rw [negI (by rw [nIt (by omega)]; omega), nIt (by omega)]
  rw [eqI, addI (by rw [e1, show (1 : Int32).toInt = 1 from by decide]; omega) (by rw [e1, show (1 : Int32).toInt = 1 from by decide]; omega), e1, e2, show (1 : Int32).toInt = 1 from by decide]
  omega
theorem neg0 {x : Int32} (h : -x = 0) : x = 0 := by
  have := congrArg (fun z => -z) h
  simpa using this
theorem sfr_pos (ro ch sg : Int32) : ∀ (k n : Nat), k ≤ 40 → k < n → g_speedForRoom ro ch n sg (nI k) = sg * brP (fun s => s_wayToStop s ch) ro k := by
  intro k
  induction k with
  | zero =>
    intro n hk hn
    obtain ⟨n, rfl⟩ : ∃ q, n = q + 1 := ⟨n - 1, by omega⟩
    rw [g_speedForRoom, if_pos (by rw [leI, nIt (by omega), zI]; omega)]
    show (0 : Int32) = sg * 0
    rw [Int32.mul_zero]
  | succ k ih =>
    intro n hk hn
    obtain ⟨n, rfl⟩ : ∃ q, n = q + 1 := ⟨n - 1, by omega⟩
    rw [g_speedForRoom, if_neg (by rw [leI, nIt (by omega), zI]; omega), brP]
    by_cases h : s_wayToStop (nI (k + 1)) ch ≤ ro
    · rw [if_neg (by rw [ltI]; rw [leI] at h; omega), if_pos h]
    · rw [if_pos (by rw [ltI]; rw [leI] at h; omega), if_neg h, nI_dn (by omega)]
      exact ih n (by omega) (by omega)
theorem br_pos_0 {nw : Nat → Int32} (ro : Int32) (hc : 1 ≤ (nw 2).toInt ∧ (nw 2).toInt ≤ 9) : ∀ (k n : Nat), k ≤ 40 → k < n → g_braked8_0 nw n ro (nI k) = brP (fun s => s_wayToStop s (nw 2)) ro k := by
  intro k
  induction k with
  | zero =>
    intro n hk hn
    obtain ⟨n, rfl⟩ : ∃ q, n = q + 1 := ⟨n - 1, by omega⟩
    rw [g_braked8_0, if_pos (show nI 0 = 0 from rfl)]
    rfl
  | succ k ih =>
    intro n hk hn
    obtain ⟨n, rfl⟩ : ∃ q, n = q + 1 := ⟨n - 1, by omega⟩
    have e := nIt (k := k + 1) (by omega)
    rw [g_braked8_0, if_neg (by rw [eqI, e, zI]; omega), stop_eq (by omega) hc, brP]
    by_cases h : s_wayToStop (nI (k + 1)) (nw 2) ≤ ro
    · rw [if_pos h, if_pos h]
    · rw [if_neg h, if_neg h, if_neg (by rw [leI, e, zI]; omega), nI_dn (by omega)]
      exact ih n (by omega) (by omega)
theorem br_neg_0 {nw : Nat → Int32} (ro : Int32) (hc : 1 ≤ (nw 2).toInt ∧ (nw 2).toInt ≤ 9) : ∀ (k n : Nat), k ≤ 40 → k < n → g_braked8_0 nw n ro (-(nI k)) = -(brP (fun s => s_wayToStop s (nw 2)) ro k) := by
  intro k
  induction k with
  | zero =>
    intro n hk hn
    obtain ⟨n, rfl⟩ : ∃ q, n = q + 1 := ⟨n - 1, by omega⟩
    rw [g_braked8_0, if_pos (by decide)]
    rfl
  | succ k ih =>
    intro n hk hn
    obtain ⟨n, rfl⟩ : ∃ q, n = q + 1 := ⟨n - 1, by omega⟩
    have e := nIt (k := k + 1) (by omega)
    have e1 : (-(nI (k + 1))).toInt = -((k : Int) + 1) := by rw [negI (by rw [e]; omega), e]; omega
    rw [g_braked8_0, if_neg (by rw [eqI, e1, zI]; omega), stop_eq (by omega) hc, (stop_ev (v := nI (k + 1)) (by omega) hc).1, brP]
    by_cases h : s_wayToStop (nI (k + 1)) (nw 2) ≤ ro
    · rw [if_pos h, if_pos h]
    · rw [if_neg h, if_neg h, if_pos (by rw [leI, e1, zI]; omega), nI_ndn (by omega)]
      exact ih n (by omega) (by omega)
theorem br_pos_1 {nw : Nat → Int32} (ro : Int32) (hc : 1 ≤ (nw 2).toInt ∧ (nw 2).toInt ≤ 9) : ∀ (k n : Nat), k ≤ 40 → k < n → g_braked8_1 nw n ro (nI k) = brP (fun s => s_wayToStop s (nw 2)) ro k := by
  intro k
  induction k with
  | zero =>
    intro n hk hn
    obtain ⟨n, rfl⟩ : ∃ q, n = q + 1 := ⟨n - 1, by omega⟩
    rw [g_braked8_1, if_pos (show nI 0 = 0 from rfl)]
    rfl
  | succ k ih =>
    intro n hk hn
    obtain ⟨n, rfl⟩ : ∃ q, n = q + 1 := ⟨n - 1, by omega⟩
    have e := nIt (k := k + 1) (by omega)
    rw [g_braked8_1, if_neg (by rw [eqI, e, zI]; omega), stop_eq (by omega) hc, brP]
    by_cases h : s_wayToStop (nI (k + 1)) (nw 2) ≤ ro
    · rw [if_pos h, if_pos h]
    · rw [if_neg h, if_neg h, if_neg (by rw [leI, e, zI]; omega), nI_dn (by omega)]
      exact ih n (by omega) (by omega)
theorem br_neg_1 {nw : Nat → Int32} (ro : Int32) (hc : 1 ≤ (nw 2).toInt ∧ (nw 2).toInt ≤ 9) : ∀ (k n : Nat), k ≤ 40 → k < n → g_braked8_1 nw n ro (-(nI k)) = -(brP (fun s => s_wayToStop s (nw 2)) ro k) := by
  intro k
  induction k with
  | zero =>
    intro n hk hn
    obtain ⟨n, rfl⟩ : ∃ q, n = q + 1 := ⟨n - 1, by omega⟩
    rw [g_braked8_1, if_pos (by decide)]
    rfl
  | succ k ih =>
    intro n hk hn
    obtain ⟨n, rfl⟩ : ∃ q, n = q + 1 := ⟨n - 1, by omega⟩
    have e := nIt (k := k + 1) (by omega)
    have e1 : (-(nI (k + 1))).toInt = -((k : Int) + 1) := by rw [negI (by rw [e]; omega), e]; omega
    rw [g_braked8_1, if_neg (by rw [eqI, e1, zI]; omega), stop_eq (by omega) hc, (stop_ev (v := nI (k + 1)) (by omega) hc).1, brP]
    by_cases h : s_wayToStop (nI (k + 1)) (nw 2) ≤ ro
    · rw [if_pos h, if_pos h]
    · rw [if_neg h, if_neg h, if_pos (by rw [leI, e1, zI]; omega), nI_ndn (by omega)]
      exact ih n (by omega) (by omega)
/-- a speed is a number with a sign -/
theorem asNat {v : Int32} (h : 0 ≤ v.toInt ∧ v.toInt ≤ 40) : ∃ k : Nat, k ≤ 40 ∧ v = nI k := ⟨v.toInt.toNat, by omega, by rw [eqI, nIt (by omega)]; omega⟩
theorem asNeg {v : Int32} (h : -40 ≤ v.toInt ∧ v.toInt < 0) : ∃ k : Nat, k ≤ 40 ∧ 0 < k ∧ v = -(nI k) := ⟨(-v.toInt).toNat, by omega, by omega, by rw [eqI, negI (by rw [nIt (by omega)]; omega), nIt (by omega)]; omega⟩
theorem absP {k : Nat} (h : k ≤ 40) : (if 0 ≤ nI k then nI k else 0 - nI k) = nI k := if_pos (by rw [leI, nIt (by omega), zI]; omega)
theorem absN {k : Nat} (h : k ≤ 40) (h0 : 0 < k) : (if 0 ≤ -(nI k) then -(nI k) else 0 - -(nI k)) = nI k := by
  have e : (-(nI k)).toInt = -(k : Int) := by rw [negI (by rw [nIt (by omega)]; omega), nIt (by omega)]
  rw [if_neg (by rw [leI, e, zI]; omega), Int32.zero_sub, Int32.neg_neg]
theorem nI_dn1 {k : Nat} (h : k ≤ 900) : nI (k + 1) - 1 = nI k := by
  rw [eqI, subI (by rw [nIt (by omega), show (1 : Int32).toInt = 1 from by decide]; omega) (by rw [nIt (by omega), show (1 : Int32).toInt = 1 from by decide]; omega), nIt (by omega), nIt (by omega), show (1 : Int32).toInt = 1 from by decide]
  omega
/-- the class's braking of a speed v by a room -/
def bkC (v ro ch : Int32) : Int32 := if s_wayToStop v ch ≤ ro then v else s_speedForRoom v ro ch
theorem bkC_pos {k : Nat} {ro ch : Int32} (hk : k + 1 ≤ 40) : bkC (nI (k + 1)) ro ch = brP (fun s => s_wayToStop s ch) ro (k + 1) := by
  unfold bkC
  rw [brP]
  by_cases h : s_wayToStop (nI (k + 1)) ch ≤ ro
  · rw [if_pos h, if_pos h]
  · rw [if_neg h, if_neg h]
    unfold s_speedForRoom
    rw [absP hk, if_pos (by rw [leI, nIt (by omega), zI]; omega), nI_dn1 (by omega), nIt (by omega), sfr_pos ro ch 1 k _ (by omega) (by omega), Int32.one_mul]
theorem bkC_neg {k : Nat} {ro ch : Int32} (hk : k + 1 ≤ 40) (hc : 1 ≤ ch.toInt ∧ ch.toInt ≤ 9) : bkC (-(nI (k + 1))) ro ch = -(brP (fun s => s_wayToStop s ch) ro (k + 1)) := by
  have e : (-(nI (k + 1))).toInt = -((k : Int) + 1) := by rw [negI (by rw [nIt (by omega)]; omega), nIt (by omega)]; omega
  unfold bkC
  rw [brP, (stop_ev (v := nI (k + 1)) (by rw [nIt (by omega)]; omega) hc).1]
  by_cases h : s_wayToStop (nI (k + 1)) ch ≤ ro
  · rw [if_pos h, if_pos h]
  · rw [if_neg h, if_neg h]
    unfold s_speedForRoom
    rw [absN hk (by omega), if_neg (by rw [leI, e, zI]; omega), nI_dn1 (by omega), nIt (by omega), sfr_pos ro ch (-1) k _ (by omega) (by omega), Int32.neg_mul, Int32.one_mul]
theorem brake_eq_0 {nw : Nat → Int32} {v : Int32} (hv : -40 ≤ v.toInt ∧ v.toInt ≤ 40) (hc : 1 ≤ (nw 2).toInt ∧ (nw 2).toInt ≤ 9) (h0 : v = 0 → 0 ≤ s_roomFor8_0 nw v) : s_braked8_0 nw v = bkC v (s_roomFor8_0 nw v) (nw 2) := by
  generalize hro : s_roomFor8_0 nw v = ro at *
  unfold s_braked8_0
  rw [hro]
  by_cases h : 0 ≤ v.toInt
  · obtain ⟨k, hk, rfl⟩ := asNat ⟨h, hv.2⟩
    rw [br_pos_0 ro hc k _ hk (by rw [nIt (by omega)]; omega)]
    cases k with
    | zero =>
      show (0 : Int32) = bkC 0 ro (nw 2)
      unfold bkC
      rw [(stop_ev (v := 0) (by decide) hc).2.2, if_pos (h0 rfl)]
    | succ k => rw [bkC_pos hk]
  · obtain ⟨k, hk, hk0, rfl⟩ := asNeg ⟨hv.1, by omega⟩
    have e : (-(nI k)).toInt = -(k : Int) := by rw [negI (by rw [nIt (by omega)]; omega), nIt (by omega)]
    rw [br_neg_0 ro hc k _ hk (by rw [e]; omega)]
    cases k with
    | zero => omega
    | succ k => rw [bkC_neg hk hc]
theorem brake_eq_1 {nw : Nat → Int32} {v : Int32} (hv : -40 ≤ v.toInt ∧ v.toInt ≤ 40) (hc : 1 ≤ (nw 2).toInt ∧ (nw 2).toInt ≤ 9) (h0 : v = 0 → 0 ≤ s_roomFor8_1 nw v) : s_braked8_1 nw v = bkC v (s_roomFor8_1 nw v) (nw 2) := by
  generalize hro : s_roomFor8_1 nw v = ro at *
  unfold s_braked8_1
  rw [hro]
  by_cases h : 0 ≤ v.toInt
  · obtain ⟨k, hk, rfl⟩ := asNat ⟨h, hv.2⟩
    rw [br_pos_1 ro hc k _ hk (by rw [nIt (by omega)]; omega)]
    cases k with
    | zero =>
      show (0 : Int32) = bkC 0 ro (nw 2)
      unfold bkC
      rw [(stop_ev (v := 0) (by decide) hc).2.2, if_pos (h0 rfl)]
    | succ k => rw [bkC_pos hk]
  · obtain ⟨k, hk, hk0, rfl⟩ := asNeg ⟨hv.1, by omega⟩
    have e : (-(nI k)).toInt = -(k : Int) := by rw [negI (by rw [nIt (by omega)]; omega), nIt (by omega)]
    rw [br_neg_1 ro hc k _ hk (by rw [e]; omega)]
    cases k with
    | zero => omega
    | succ k => rw [bkC_neg hk hc]
