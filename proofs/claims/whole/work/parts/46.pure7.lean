theorem bkC_id {v ro ch : Int32} (hv : -40 ≤ v.toInt ∧ v.toInt ≤ 40) (hc : 1 ≤ ch.toInt ∧ ch.toInt ≤ 9) (hr : 0 ≤ ro.toInt) : bkC v ro ch = v ↔ s_wayToStop v ch ≤ ro := by
  constructor
  · intro h
    by_cases c1 : s_wayToStop v ch ≤ ro
    · exact c1
    · exfalso
      by_cases h0 : 0 ≤ v.toInt
      · obtain ⟨k, hk, rfl⟩ := asNat ⟨h0, hv.2⟩
        cases k with
        | zero => exact c1 (by show s_wayToStop 0 ch ≤ ro; rw [(stop_ev (v := 0) (by decide) hc).2.2, leI, zI]; exact hr)
        | succ k =>
          rw [bkC_pos hk, brP, if_neg c1] at h
          have h1 := brP_b (ro := ro) hc k (by omega)
          rw [h, nIt (by omega)] at h1
          omega
      · obtain ⟨k, hk, hk0, rfl⟩ := asNeg ⟨hv.1, by omega⟩
        cases k with
        | zero => omega
        | succ k =>
          rw [(stop_ev (v := nI (k + 1)) (by rw [nIt (by omega)]; omega) hc).1] at c1
          rw [bkC_neg hk hc, brP, if_neg c1] at h
          have h1 := brP_b (ro := ro) hc k (by omega)
          have en : (-(nI (k + 1))).toInt = -((k : Int) + 1) := by rw [negI (by rw [nIt (by omega)]; omega), nIt (by omega)]; omega
          have eb : (-(brP (fun s => s_wayToStop s ch) ro k)).toInt = -(brP (fun s => s_wayToStop s ch) ro k).toInt := negI (by omega)
          rw [eqI, eb, en] at h
          omega
  · intro h
    unfold bkC
    rw [if_pos h]
theorem bkC_0 {ro ch : Int32} (hc : 1 ≤ ch.toInt ∧ ch.toInt ≤ 9) (hr : 0 ≤ ro.toInt) : bkC 0 ro ch = 0 := (bkC_id (by decide) hc hr).mpr (by rw [(stop_ev (v := 0) (by decide) hc).2.2, leI, zI]; exact hr)
/-- a crane's numbers in a row, from b on -/
def CrR (nw : Nat → Int32) (b : Nat) (tk a0 a1 a2 a3 a4 a5 a6 a7 a8 a9 a10 a11 : Int32) : Prop := nw b = a0 ∧ nw (b + 1) = a1 ∧ nw (b + 2) = a2 ∧ nw (b + 3) = a3 ∧ nw (b + 4) = a4 ∧ nw (b + 5) = a5 ∧ nw (b + 6) = a6 ∧ nw (b + 7) = a7 ∧ StR (nw (b + 8)) (nw (b + 9)) (nw (b + 10)) (nw (b + 11)) (nw (b + 12)) tk a8 a9 a10 a11
def RuR (nw : Nat → Int32) (r0 r1 r2 r3 r4 pv tk : Int32) : Prop := nw 0 = r0 ∧ nw 1 = r1 ∧ nw 2 = r2 ∧ nw 3 = r3 ∧ nw 4 = r4 ∧ nw 5 = pv ∧ nw 6 = tk
def RuB (r0 r1 r2 r3 r4 pv : Int32) : Prop := (200 ≤ r0.toInt ∧ r0.toInt ≤ 999) ∧ (10 ≤ r1.toInt ∧ r1.toInt ≤ 99) ∧ (1 ≤ r2.toInt ∧ r2.toInt ≤ 9) ∧ (1 ≤ r3.toInt ∧ r3.toInt ≤ 40) ∧ (0 ≤ r4.toInt ∧ r4.toInt ≤ 40) ∧ (pv = -4 ∨ 0 ≤ pv.toInt ∧ pv.toInt ≤ 20)
def CrB (a1 a2 a3 a7 : Int32) : Prop := (-40 ≤ a1.toInt ∧ a1.toInt ≤ 40) ∧ (10 ≤ a2.toInt ∧ a2.toInt ≤ 60) ∧ (0 ≤ a3.toInt ∧ a3.toInt ≤ 99) ∧ (10 ≤ a7.toInt ∧ a7.toInt ≤ 60)
def XB (r0 r1 x y : Int32) : Prop := 0 ≤ x.toInt ∧ x.toInt + r1.toInt ≤ y.toInt ∧ y.toInt ≤ r0.toInt
theorem half2 {x : Int32} (h : 0 ≤ x.toInt) : (x / 2).toInt = x.toInt / 2 := by
  rw [Int32.toInt_div_of_ne_right _ _ (by decide), show (2 : Int32).toInt = 2 from by decide]
  exact Int.tdiv_eq_ediv_of_nonneg h
