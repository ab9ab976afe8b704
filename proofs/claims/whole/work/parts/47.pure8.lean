theorem free_b {r0 r1 x y : Int32} (hr0 : 200 ≤ r0.toInt ∧ r0.toInt ≤ 999) (hr1 : 10 ≤ r1.toInt ∧ r1.toInt ≤ 99) (hx : XB r0 r1 x y) : ((y - x) - r1).toInt = y.toInt - x.toInt - r1.toInt ∧ (((y - x) - r1) / 2).toInt = (y.toInt - x.toInt - r1.toInt) / 2 := by
  obtain ⟨h1, h2, h3⟩ := hx
  have e1 : (y - x).toInt = y.toInt - x.toInt := subI (by omega) (by omega)
  have e2 : ((y - x) - r1).toInt = y.toInt - x.toInt - r1.toInt := by rw [subI (by omega) (by omega), e1]
  exact ⟨e2, by rw [half2 (by omega), e2]⟩
theorem brk_0 {A : Nat → Int32} {r0 r1 r2 x y v : Int32} (h1 : A 1 = r1) (h2 : A 2 = r2) (h7 : A 7 = x) (h20 : A 20 = y) (hr0 : 200 ≤ r0.toInt ∧ r0.toInt ≤ 999) (hr1 : 10 ≤ r1.toInt ∧ r1.toInt ≤ 99) (hc : 1 ≤ r2.toInt ∧ r2.toInt ≤ 9) (hx : XB r0 r1 x y) (hv : -40 ≤ v.toInt ∧ v.toInt ≤ 40) : s_braked8_0 A v = bkC v (if 0 ≤ v then (s_freeBetween x y r1) / 2 else x) r2 := by
  have hf := free_b hr0 hr1 hx
  have hx' := hx
  obtain ⟨g1, g2, g3⟩ := hx
  rw [brake_eq_0 hv (by rw [h2]; exact hc) (fun q => by unfold s_roomFor8_0; rw [q, if_pos (by decide), h7, leI, zI]; exact g1), h2]
  unfold s_roomFor8_0 s_free8 s_freeBetween
  rw [h1, h7, h20]
  by_cases c0 : v = 0
  · subst c0
    rw [bkC_0 hc (by rw [if_pos (by decide)]; exact g1), bkC_0 hc (by rw [if_pos (by decide), hf.2]; omega)]
  · have c0' : v.toInt ≠ 0 := fun q => c0 (eqI.mpr (by rw [q, zI]))
    by_cases c1 : v ≤ 0
    · rw [if_pos c1, if_neg (by rw [leI, zI]; rw [leI, zI] at c1; omega)]
    · rw [if_neg c1, if_pos (by rw [leI, zI]; rw [leI, zI] at c1; omega)]
theorem brk_1 {A : Nat → Int32} {r0 r1 r2 x y v : Int32} (h0 : A 0 = r0) (h1 : A 1 = r1) (h2 : A 2 = r2) (h7 : A 7 = x) (h20 : A 20 = y) (hr0 : 200 ≤ r0.toInt ∧ r0.toInt ≤ 999) (hr1 : 10 ≤ r1.toInt ∧ r1.toInt ≤ 99) (hc : 1 ≤ r2.toInt ∧ r2.toInt ≤ 9) (hx : XB r0 r1 x y) (hv : -40 ≤ v.toInt ∧ v.toInt ≤ 40) : s_braked8_1 A v = bkC v (if 0 ≤ v then r0 - y else (s_freeBetween x y r1) / 2) r2 := by
  have hf := free_b hr0 hr1 hx
  obtain ⟨g1, g2, g3⟩ := hx
  have he : (r0 - y).toInt = r0.toInt - y.toInt := subI (by omega) (by omega)
  rw [brake_eq_1 hv (by rw [h2]; exact hc) (fun q => by unfold s_roomFor8_1 s_free8; rw [q, if_pos (by decide), h1, h7, h20, leI, zI, hf.2]; omega), h2]
  unfold s_roomFor8_1 s_free8 s_freeBetween
  rw [h0, h1, h7, h20]
  by_cases c0 : v = 0
  · subst c0
    rw [bkC_0 hc (by rw [if_pos (by decide), hf.2]; omega), bkC_0 hc (by rw [if_pos (by decide), he]; omega)]
  · have c0' : v.toInt ≠ 0 := fun q => c0 (eqI.mpr (by rw [q, zI]))
    by_cases c1 : v ≤ 0
    · rw [if_pos c1, if_neg (by rw [leI, zI]; rw [leI, zI] at c1; omega)]
    · rw [if_neg c1, if_pos (by rw [leI, zI]; rw [leI, zI] at c1; omega)]
/-- where both are behind a tick -/
theorem move_b {r0 r1 r2 x y v w : Int32} (hr0 : 200 ≤ r0.toInt ∧ r0.toInt ≤ 999) (hr1 : 10 ≤ r1.toInt ∧ r1.toInt ≤ 99) (hc : 1 ≤ r2.toInt ∧ r2.toInt ≤ 9) (hx : XB r0 r1 x y) (hv : -40 ≤ v.toInt ∧ v.toInt ≤ 40) (hw : -40 ≤ w.toInt ∧ w.toInt ≤ 40) :
    XB r0 r1 (x + bkC v (if 0 ≤ v then (s_freeBetween x y r1) / 2 else x) r2) (y + bkC w (if 0 ≤ w then r0 - y else (s_freeBetween x y r1) / 2) r2) ∧ (-40 ≤ (bkC v (if 0 ≤ v then (s_freeBetween x y r1) / 2 else x) r2).toInt ∧ (bkC v (if 0 ≤ v then (s_freeBetween x y r1) / 2 else x) r2).toInt ≤ 40) ∧ (-40 ≤ (bkC w (if 0 ≤ w then r0 - y else (s_freeBetween x y r1) / 2) r2).toInt ∧ (bkC w (if 0 ≤ w then r0 - y else (s_freeBetween x y r1) / 2) r2).toInt ≤ 40) ∧
    (s_wayToStop v r2 ≤ (if 0 ≤ v then (s_freeBetween x y r1) / 2 else x) ↔ bkC v (if 0 ≤ v then (s_freeBetween x y r1) / 2 else x) r2 = v) ∧ (s_wayToStop w r2 ≤ (if 0 ≤ w then r0 - y else (s_freeBetween x y r1) / 2) ↔ bkC w (if 0 ≤ w then r0 - y else (s_freeBetween x y r1) / 2) r2 = w) := by
  have hf := free_b hr0 hr1 hx
  have hs : (s_freeBetween x y r1 / 2).toInt = (y.toInt - x.toInt - r1.toInt) / 2 := hf.2
  obtain ⟨g1, g2, g3⟩ := hx
  have he : (r0 - y).toInt = r0.toInt - y.toInt := subI (by omega) (by omega)
  generalize s_freeBetween x y r1 / 2 = sh at *
  generalize r0 - y = en at *
  have rv : 0 ≤ (if 0 ≤ v then sh else x).toInt := by split <;> omega
  have rw' : 0 ≤ (if 0 ≤ w then en else sh).toInt := by split <;> omega
  have bv := bkC_b (v := v) (ro := if 0 ≤ v then sh else x) (ch := r2) hv hc rv
  have bw := bkC_b (v := w) (ro := if 0 ≤ w then en else sh) (ch := r2) hw hc rw'
  have iv := bkC_id (v := v) (ro := if 0 ≤ v then sh else x) (ch := r2) hv hc rv
  have iw := bkC_id (v := w) (ro := if 0 ≤ w then en else sh) (ch := r2) hw hc rw'
  have cv : (0 ≤ v.toInt → (bkC v (if 0 ≤ v then sh else x) r2).toInt ≤ sh.toInt) ∧ (v.toInt < 0 → -x.toInt ≤ (bkC v (if 0 ≤ v then sh else x) r2).toInt) := by
    constructor
    · intro h; have := (bv.1 h).2.2; rw [if_pos (by rw [leI, zI]; exact h)] at this ⊢; exact this
    · intro h; have := (bv.2 h).2.2; rw [if_neg (by rw [leI, zI]; omega)] at this ⊢; exact this
  have cw : (0 ≤ w.toInt → (bkC w (if 0 ≤ w then en else sh) r2).toInt ≤ en.toInt) ∧ (w.toInt < 0 → -sh.toInt ≤ (bkC w (if 0 ≤ w then en else sh) r2).toInt) := by
    constructor
    · intro h; have := (bw.1 h).2.2; rw [if_pos (by rw [leI, zI]; exact h)] at this ⊢; exact this
    · intro h; have := (bw.2 h).2.2; rw [if_neg (by rw [leI, zI]; omega)] at this ⊢; exact this
  generalize bkC v (if 0 ≤ v then sh else x) r2 = v2 at *
  generalize bkC w (if 0 ≤ w then en else sh) r2 = w2 at *
  have e1 : (x + v2).toInt = x.toInt + v2.toInt := addI (by omega) (by omega)
  have e2 : (y + w2).toInt = y.toInt + w2.toInt := addI (by omega) (by omega)
  refine ⟨⟨by rw [e1]; omega, by rw [e1, e2]; omega, by rw [e2]; omega⟩, by omega, by omega, iv.symm, iw.symm⟩
