theorem brP_b {ro ch : Int32} (hc : 1 ≤ ch.toInt ∧ ch.toInt ≤ 9) : ∀ k : Nat, k ≤ 40 → 0 ≤ (brP (fun s => s_wayToStop s ch) ro k).toInt ∧ (brP (fun s => s_wayToStop s ch) ro k).toInt ≤ k ∧ (0 ≤ ro.toInt → (brP (fun s => s_wayToStop s ch) ro k).toInt ≤ ro.toInt) := by
  intro k
  induction k with
  | zero => intro _; show 0 ≤ (0 : Int32).toInt ∧ (0 : Int32).toInt ≤ ((0 : Nat) : Int) ∧ (0 ≤ ro.toInt → (0 : Int32).toInt ≤ ro.toInt); rw [zI]; omega
  | succ k ih =>
    intro hk
    rw [brP]
    have e := nIt (k := k + 1) (by omega)
    have hs := (stop_ev (v := nI (k + 1)) (by rw [e]; omega) hc).2.1
    by_cases h : s_wayToStop (nI (k + 1)) ch ≤ ro
    · rw [if_pos h, e]
      rw [leI, e] at hs
      rw [leI] at h
      omega
    · rw [if_neg h]
      have := ih (by omega)
      omega
/-- a braked speed: no farther from 0, of its sign, and no more than the room -/
theorem bkC_b {v ro ch : Int32} (hv : -40 ≤ v.toInt ∧ v.toInt ≤ 40) (hc : 1 ≤ ch.toInt ∧ ch.toInt ≤ 9) (hr : 0 ≤ ro.toInt) : (0 ≤ v.toInt → 0 ≤ (bkC v ro ch).toInt ∧ (bkC v ro ch).toInt ≤ v.toInt ∧ (bkC v ro ch).toInt ≤ ro.toInt) ∧ (v.toInt < 0 → v.toInt ≤ (bkC v ro ch).toInt ∧ (bkC v ro ch).toInt ≤ 0 ∧ -ro.toInt ≤ (bkC v ro ch).toInt) := by
  constructor
  · intro h
    obtain ⟨k, hk, rfl⟩ := asNat ⟨h, hv.2⟩
    cases k with
    | zero =>
      have e : bkC (nI 0) ro ch = 0 := by
        show bkC 0 ro ch = 0
        unfold bkC
        rw [(stop_ev (v := 0) (by decide) hc).2.2, if_pos (by rw [leI, zI]; exact hr)]
      rw [e, zI, nIt (by omega)]; omega
    | succ k =>
      rw [bkC_pos hk, nIt (by omega)]
      have := brP_b (ro := ro) hc (k + 1) hk
      omega
  · intro h
    obtain ⟨k, hk, hk0, rfl⟩ := asNeg ⟨hv.1, h⟩
    cases k with
    | zero => omega
    | succ k =>
      have hb := brP_b (ro := ro) hc (k + 1) hk
      have en : (-(nI (k + 1))).toInt = -((k : Int) + 1) := by rw [negI (by rw [nIt (by omega)]; omega), nIt (by omega)]; omega
      have eb : (-(brP (fun s => s_wayToStop s ch) ro (k + 1))).toInt = -(brP (fun s => s_wayToStop s ch) ro (k + 1)).toInt := negI (by omega)
      rw [bkC_neg hk hc, eb, en]
      omega
theorem clampB {x mo : Int32} (h : 0 ≤ mo.toInt ∧ mo.toInt ≤ 1000000) : -mo.toInt ≤ (s_keptWithin x mo).toInt ∧ (s_keptWithin x mo).toInt ≤ mo.toInt ∧ (0 ≤ x.toInt → 0 ≤ (s_keptWithin x mo).toInt ∧ (s_keptWithin x mo).toInt ≤ x.toInt) ∧ (x.toInt ≤ 0 → x.toInt ≤ (s_keptWithin x mo).toInt ∧ (s_keptWithin x mo).toInt ≤ 0) := by
  have e : (-mo).toInt = -mo.toInt := negI (by omega)
  rw [clampEq h]
  by_cases c1 : x ≤ mo
  · rw [if_pos c1]
    by_cases c2 : -mo ≤ x
    · rw [if_pos c2]; rw [leI] at c1 c2; omega
    · rw [if_neg c2, e]; rw [leI] at c1 c2; omega
  · rw [if_neg c1]; rw [leI] at c1; omega
/-- a speed nearer to what is wanted stays within 40 -/
theorem speed_b {a1 a3 a6 r2 r3 : Int32} (hv : -40 ≤ a1.toInt ∧ a1.toInt ≤ 40) (h3 : 0 ≤ a3.toInt ∧ a3.toInt ≤ 99) (hc : 1 ≤ r2.toInt ∧ r2.toInt ≤ 9) (ht : 1 ≤ r3.toInt ∧ r3.toInt ≤ 40) : -40 ≤ (s_speedNearerToWant a1 a3 a6 r2 r3).toInt ∧ (s_speedNearerToWant a1 a3 a6 r2 r3).toInt ≤ 40 := by
  unfold s_speedNearerToWant
  have hb := limit_b ht h3
  generalize s_limit a3 r3 = lim at *
  have c1 := clampB (x := a6) (mo := lim) (by omega)
  generalize s_keptWithin a6 lim = x at *
  have e1 : (x - a1).toInt = x.toInt - a1.toInt := subI (by omega) (by omega)
  have c2 := clampB (x := x - a1) (mo := r2) (by omega)
  generalize s_keptWithin (x - a1) r2 = y at *
  rw [e1] at c2
  have e2 : (a1 + y).toInt = a1.toInt + y.toInt := addI (by omega) (by omega)
  rw [e2]
  omega
