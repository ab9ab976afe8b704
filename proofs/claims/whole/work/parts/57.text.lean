/-! THE TEXT -/
/-- what is told in letters -/
def TxR (k : Nat) (xn le : Int32) (xc tx : Nat → Int32) : Prop := k ≤ 200 ∧ xn = nI k ∧ le = nI k ∧ ∀ i, i < k → xc i = tx i
theorem letter_in {k si : Nat} {xn le : Int32} {xc tx : Nat → Int32} (h : TxR k xn le xc tx) (hs : si < k) : s_letterAt xn xc (nI si) = tx si := by
  obtain ⟨h1, h2, h3, h4⟩ := h
  unfold s_letterAt
  rw [if_neg (by rw [ltI, zI, nIt (by omega)]; omega), if_neg (by rw [h2, leI, nIt (by omega), nIt (by omega)]; omega), if_pos (by rw [ltI, nIt (by omega), show (200 : Int32).toInt = 200 from by decide]; omega), nI_clamp (by omega)]
  exact h4 si hs
theorem letter_out {k si : Nat} {xn le : Int32} {xc tx : Nat → Int32} (h : TxR k xn le xc tx) (hs : k ≤ si) (hb : si ≤ 1000) : s_letterAt xn xc (nI si) = (-4) := by
  obtain ⟨h1, h2, h3, h4⟩ := h
  unfold s_letterAt
  rw [if_neg (by rw [ltI, zI, nIt (by omega)]; omega), if_pos (by rw [h2, leI, nIt (by omega), nIt (by omega)]; omega)]
theorem isAt_in {k si : Nat} {xn le lo hi : Int32} {xc tx : Nat → Int32} (h : TxR k xn le xc tx) (hs : si < k) : s_isAt8 le si tx lo hi = s_isWithin (tx si) lo hi := by
  obtain ⟨h1, h2, h3, h4⟩ := h
  unfold s_isAt8
  rw [if_neg (by rw [h3, leI, nIt (by omega), nIt (by omega)]; omega), in8_eq]
  cases s_isWithin (tx si) lo hi <;> rfl
theorem isAt_out {k si : Nat} {xn le lo hi : Int32} {xc tx : Nat → Int32} (h : TxR k xn le xc tx) (hs : k ≤ si) (hb : si ≤ 1000) : s_isAt8 le si tx lo hi = false := by
  obtain ⟨h1, h2, h3, h4⟩ := h
  unfold s_isAt8
  rw [if_pos (by rw [h3, leI, nIt (by omega), nIt (by omega)]; omega)]
/-- digits -/
theorem isAt_dig {k si : Nat} {xn le : Int32} {xc tx : Nat → Int32} (h : TxR k xn le xc tx) (hb : si ≤ 1000) : s_isWithin (s_letterAt xn xc (nI si)) 48 57 = s_isAt8 le si tx 48 57 := by
  rcases Nat.lt_or_ge si k with q | q
  · rw [letter_in h q, isAt_in h q]
  · rw [letter_out h q hb, isAt_out h q hb]; decide
theorem within1 {x m : Int32} : s_isWithin x m m = true ↔ x = m := by
  rw [← in8_eq, in8_iff, leI, leI, eqI]
  omega
/-- a mark -/
theorem isAt_mark {k si : Nat} {xn le mk : Int32} {xc tx : Nat → Int32} (h : TxR k xn le xc tx) (hb : si ≤ 1000) (hm : ¬ mk = (-4)) : s_letterAt xn xc (nI si) = mk ↔ s_isAt8 le si tx mk mk = true := by
  rcases Nat.lt_or_ge si k with q | q
  · rw [letter_in h q, isAt_in h q, within1]
  · rw [letter_out h q hb, isAt_out h q hb]
    constructor
    · intro z; exact absurd z.symm hm
    · intro z; cases z
theorem isAt_lt {k si : Nat} {xn le lo hi : Int32} {xc tx : Nat → Int32} (h : TxR k xn le xc tx) (hb : si ≤ 1000) (hm : s_isAt8 le si tx lo hi = true) : si < k := by
  rcases Nat.lt_or_ge si k with q | q
  · exact q
  · rw [isAt_out h q hb] at hm; cases hm
theorem digit_b {x : Int32} (h : s_isWithin x 48 57 = true) : 48 ≤ x.toInt ∧ x.toInt ≤ 57 := by
  rw [← in8_eq, in8_iff, leI, leI, show (48 : Int32).toInt = 48 from by decide, show (57 : Int32).toInt = 57 from by decide] at h
  exact h
theorem tenI {nu x : Int32} (h : 0 ≤ nu.toInt ∧ nu.toInt ≤ 99) (hx : 48 ≤ x.toInt ∧ x.toInt ≤ 57) : (((10 * nu) + x) - 48).toInt = 10 * nu.toInt + x.toInt - 48 := by
  have e10 : (10 : Int32).toInt = 10 := by decide
  have e48 : (48 : Int32).toInt = 48 := by decide
  have e1 : (10 * nu).toInt = 10 * nu.toInt := by rw [Int32.toInt_mul, e10, bmodS (by omega) (by omega)]
  have e2 : ((10 * nu) + x).toInt = 10 * nu.toInt + x.toInt := by rw [addI (by omega) (by omega), e1]
  rw [subI (by omega) (by omega), e2, e48]
/-- a number of j figures -/
def FigB (j : Nat) (x : Int) : Prop := 0 ≤ x ∧ (j = 0 → x = 0) ∧ (j = 1 → x ≤ 9) ∧ (j = 2 → x ≤ 99) ∧ (j = 3 → x ≤ 999)
theorem num_0 {k sa : Nat} {xn le mk : Int32} {xc tx : Nat → Int32} (h : TxR k xn le xc tx) (hsa : sa ≤ 800) (hm : ¬ mk = (-4)) {ok : Bool} {so : Nat} {tg' : Nat → Int32} : ∀ (n j : Nat) (nu : Int32) (tg : Nat → Int32), 4 ≤ j + n → j ≤ 3 → tg 0 = nu → FigB j nu.toInt → g_takesNumber8_0 le sa tx n (sa + j) tg = (ok, so, tg') →
    g_readNumber xn xc mk n j nu (nI (sa + j)) = (if ok = true then (if s_isAt8 le so tx mk mk = true then tg' 0 else (-4)) else (-4), nI (so + 1)) ∧ sa ≤ so ∧ so ≤ sa + 3 ∧ (∀ i, i ≠ 0 → tg' i = tg i) ∧ 0 ≤ (tg' 0).toInt ∧ (tg' 0).toInt ≤ 999 := by
  intro n
  induction n with
  | zero => intro j nu tg h1 h2; omega
  | succ n ih =>
    intro j nu tg h1 h2 h3 h4 h5
    have hj : (nI (sa + j)) + 1 = nI (sa + j + 1) := nI1 (by omega)
    -- what comes when the figures end here
    have fin : (if nI (sa + j) ≤ (nI sa) then (false, sa + j, tg) else (true, sa + j, tg)) = (ok, so, tg') → (if (s_letterAt xn xc (nI (sa + j))) = mk then (if nI j ≤ 0 then ((-4), (nI (sa + j)) + 1) else (nu, (nI (sa + j)) + 1)) else (if nI j ≤ 0 then ((-4), (nI (sa + j)) + 1) else ((-4), (nI (sa + j)) + 1))) = (if ok = true then (if s_isAt8 le so tx mk mk = true then tg' 0 else (-4)) else (-4), nI (so + 1)) ∧ sa ≤ so ∧ so ≤ sa + 3 ∧ (∀ i, i ≠ 0 → tg' i = tg i) ∧ 0 ≤ (tg' 0).toInt ∧ (tg' 0).toInt ≤ 999 := by
      intro h6
      have hb : 0 ≤ nu.toInt ∧ nu.toInt ≤ 999 := by
        obtain ⟨b0, b1, b2, b3, b4⟩ := h4
        rcases (show j = 0 ∨ j = 1 ∨ j = 2 ∨ j = 3 by omega) with q | q | q | q
        · have := b1 q; omega
        · have := b2 q; omega
        · have := b3 q; omega
        · have := b4 q; omega
      by_cases z : j = 0
      · rw [if_pos (by rw [leI, nIt (by omega), nIt (by omega)]; omega)] at h6
        simp only [Prod.mk.injEq] at h6
        obtain ⟨e1, e2, e3⟩ := h6
        subst e1 e2 e3
        have hle : nI j ≤ 0 := by rw [leI, nIt (by omega), zI]; omega
        simp only [if_pos hle, ite_self, hj, Bool.false_eq_true, if_false]
        exact ⟨trivial, by omega, by omega, fun i _ => trivial, by rw [h3]; exact hb.1, by rw [h3]; exact hb.2⟩
      · rw [if_neg (by rw [leI, nIt (by omega), nIt (by omega)]; omega)] at h6
        simp only [Prod.mk.injEq] at h6
        obtain ⟨e1, e2, e3⟩ := h6
        subst e1 e2 e3
        have hle : ¬ nI j ≤ 0 := by rw [leI, nIt (by omega), zI]; omega
        rw [if_pos rfl]
        simp only [if_neg hle, hj]
        refine ⟨?_, by omega, by omega, fun i _ => trivial, by rw [h3]; exact hb.1, by rw [h3]; exact hb.2⟩
        by_cases y : s_letterAt xn xc (nI (sa + j)) = mk
        · rw [if_pos y, if_pos ((isAt_mark h (by omega) hm).mp y), h3]
        · rw [if_neg y, if_neg (fun q => y ((isAt_mark h (by omega) hm).mpr q))]
    rw [g_takesNumber8_0] at h5
    rw [g_readNumber]
    by_cases c1 : j = 3
    · rw [if_pos (by rw [leI, nIt (by omega), nIt (by omega)]; omega)] at h5
      rw [if_pos (by rw [leI, nIt (by omega), show (3 : Int32).toInt = 3 from by decide]; omega)]
      exact fin h5
    · rw [if_neg (by rw [leI, nIt (by omega), nIt (by omega)]; omega)] at h5
      rw [if_neg (by rw [leI, nIt (by omega), show (3 : Int32).toInt = 3 from by decide]; omega)]
      rw [isAt_dig h (by omega)]
      by_cases c2 : s_isAt8 le (sa + j) tx 48 57 = true
      · rw [if_pos c2] at h5
        rw [if_pos c2]
        have hlt := isAt_lt h (by omega) c2
        rw [isAt_in h hlt] at c2
        have hd := digit_b c2
        rw [letter_in h hlt, hj]
        have hb : 0 ≤ nu.toInt ∧ nu.toInt ≤ 99 := by
          obtain ⟨b0, b1, b2, b3, b4⟩ := h4
          rcases (show j = 0 ∨ j = 1 ∨ j = 2 by omega) with q | q | q
          · have := b1 q; omega
          · have := b2 q; omega
          · have := b3 q; omega
        have e := tenI hb hd
        have r := ih (j + 1) (((10 * nu) + tx (sa + j)) - 48) (upd tg 0 (((10 * (tg 0)) + (tx (sa + j))) - 48)) (by omega) (by omega) (by rw [upd_eq, h3]) (by
          rw [e]
          obtain ⟨b0, b1, b2, b3, b4⟩ := h4
          refine ⟨by omega, fun q => by omega, fun q => ?_, fun q => ?_, fun q => ?_⟩
          · have := b1 (by omega); omega
          · have := b2 (by omega); omega
          · have := b3 (by omega); omega) (by rw [show sa + (j + 1) = sa + j + 1 by omega]; exact h5)
        rw [show sa + (j + 1) = sa + j + 1 by omega] at r
        obtain ⟨r1, r2, r3, r4, r5⟩ := r
        exact ⟨r1, r2, r3, fun i hi => (r4 i hi).trans (upd_ne hi), r5⟩
      · rw [if_neg c2] at h5
        rw [if_neg c2]
        exact fin h5
theorem num'_0 {k sa : Nat} {xn le mk : Int32} {xc tx td tg' : Nat → Int32} {ok : Bool} {so : Nat} (h : TxR k xn le xc tx) (hsa : sa ≤ 800) (hm : ¬ mk = (-4)) (h5 : s_takesNumber8_0 le sa tx td = (ok, so, tg')) :
    s_readNumber xn (nI sa) xc mk = (if ok = true then (if s_isAt8 le so tx mk mk = true then tg' 0 else (-4)) else (-4), nI (so + 1)) ∧ sa ≤ so ∧ so ≤ sa + 3 ∧ (∀ i, i ≠ 0 → tg' i = td i) ∧ 0 ≤ (tg' 0).toInt ∧ (tg' 0).toInt ≤ 999 := by
  have r := num_0 (mk := mk) h hsa hm 4 0 0 (upd td 0 0) (by omega) (by omega) upd_eq ⟨by decide, fun _ => by decide, fun q => by omega, fun q => by omega, fun q => by omega⟩ h5
  obtain ⟨r1, r2, r3, r4, r5⟩ := r
  exact ⟨r1, r2, r3, fun i hi => (r4 i hi).trans (upd_ne hi), r5⟩
theorem num_1 {k sa : Nat} {xn le mk : Int32} {xc tx : Nat → Int32} (h : TxR k xn le xc tx) (hsa : sa ≤ 800) (hm : ¬ mk = (-4)) {ok : Bool} {so : Nat} {tg' : Nat → Int32} : ∀ (n j : Nat) (nu : Int32) (tg : Nat → Int32), 4 ≤ j + n → j ≤ 3 → tg 1 = nu → FigB j nu.toInt → g_takesNumber8_1 le sa tx n (sa + j) tg = (ok, so, tg') →
    g_readNumber xn xc mk n j nu (nI (sa + j)) = (if ok = true then (if s_isAt8 le so tx mk mk = true then tg' 1 else (-4)) else (-4), nI (so + 1)) ∧ sa ≤ so ∧ so ≤ sa + 3 ∧ (∀ i, i ≠ 1 → tg' i = tg i) ∧ 0 ≤ (tg' 1).toInt ∧ (tg' 1).toInt ≤ 999 := by
  intro n
  induction n with
  | zero => intro j nu tg h1 h2; omega
  | succ n ih =>
    intro j nu tg h1 h2 h3 h4 h5
    have hj : (nI (sa + j)) + 1 = nI (sa + j + 1) := nI1 (by omega)
    -- what comes when the figures end here
    have fin : (if nI (sa + j) ≤ (nI sa) then (false, sa + j, tg) else (true, sa + j, tg)) = (ok, so, tg') → (if (s_letterAt xn xc (nI (sa + j))) = mk then (if nI j ≤ 0 then ((-4), (nI (sa + j)) + 1) else (nu, (nI (sa + j)) + 1)) else (if nI j ≤ 0 then ((-4), (nI (sa + j)) + 1) else ((-4), (nI (sa + j)) + 1))) = (if ok = true then (if s_isAt8 le so tx mk mk = true then tg' 1 else (-4)) else (-4), nI (so + 1)) ∧ sa ≤ so ∧ so ≤ sa + 3 ∧ (∀ i, i ≠ 1 → tg' i = tg i) ∧ 0 ≤ (tg' 1).toInt ∧ (tg' 1).toInt ≤ 999 := by
      intro h6
      have hb : 0 ≤ nu.toInt ∧ nu.toInt ≤ 999 := by
        obtain ⟨b0, b1, b2, b3, b4⟩ := h4
        rcases (show j = 0 ∨ j = 1 ∨ j = 2 ∨ j = 3 by omega) with q | q | q | q
        · have := b1 q; omega
        · have := b2 q; omega
        · have := b3 q; omega
        · have := b4 q; omega
      by_cases z : j = 0
      · rw [if_pos (by rw [leI, nIt (by omega), nIt (by omega)]; omega)] at h6
        simp only [Prod.mk.injEq] at h6
        obtain ⟨e1, e2, e3⟩ := h6
        subst e1 e2 e3
        have hle : nI j ≤ 0 := by rw [leI, nIt (by omega), zI]; omega
        simp only [if_pos hle, ite_self, hj, Bool.false_eq_true, if_false]
        exact ⟨trivial, by omega, by omega, fun i _ => trivial, by rw [h3]; exact hb.1, by rw [h3]; exact hb.2⟩
      · rw [if_neg (by rw [leI, nIt (by omega), nIt (by omega)]; omega)] at h6
        simp only [Prod.mk.injEq] at h6
        obtain ⟨e1, e2, e3⟩ := h6
        subst e1 e2 e3
        have hle : ¬ nI j ≤ 0 := by rw [leI, nIt (by omega), zI]; omega
        rw [if_pos rfl]
        simp only [if_neg hle, hj]
        refine ⟨?_, by omega, by omega, fun i _ => trivial, by rw [h3]; exact hb.1, by rw [h3]; exact hb.2⟩
        by_cases y : s_letterAt xn xc (nI (sa + j)) = mk
        · rw [if_pos y, if_pos ((isAt_mark h (by omega) hm).mp y), h3]
        · rw [if_neg y, if_neg (fun q => y ((isAt_mark h (by omega) hm).mpr q))]
    rw [g_takesNumber8_1] at h5
    rw [g_readNumber]
    by_cases c1 : j = 3
    · rw [if_pos (by rw [leI, nIt (by omega), nIt (by omega)]; omega)] at h5
      rw [if_pos (by rw [leI, nIt (by omega), show (3 : Int32).toInt = 3 from by decide]; omega)]
      exact fin h5
    · rw [if_neg (by rw [leI, nIt (by omega), nIt (by omega)]; omega)] at h5
      rw [if_neg (by rw [leI, nIt (by omega), show (3 : Int32).toInt = 3 from by decide]; omega)]
      rw [isAt_dig h (by omega)]
      by_cases c2 : s_isAt8 le (sa + j) tx 48 57 = true
      · rw [if_pos c2] at h5
        rw [if_pos c2]
        have hlt := isAt_lt h (by omega) c2
        rw [isAt_in h hlt] at c2
        have hd := digit_b c2
        rw [letter_in h hlt, hj]
        have hb : 0 ≤ nu.toInt ∧ nu.toInt ≤ 99 := by
          obtain ⟨b0, b1, b2, b3, b4⟩ := h4
          rcases (show j = 0 ∨ j = 1 ∨ j = 2 by omega) with q | q | q
          · have := b1 q; omega
          · have := b2 q; omega
          · have := b3 q; omega
        have e := tenI hb hd
        have r := ih (j + 1) (((10 * nu) + tx (sa + j)) - 48) (upd tg 1 (((10 * (tg 1)) + (tx (sa + j))) - 48)) (by omega) (by omega) (by rw [upd_eq, h3]) (by
          rw [e]
          obtain ⟨b0, b1, b2, b3, b4⟩ := h4
          refine ⟨by omega, fun q => by omega, fun q => ?_, fun q => ?_, fun q => ?_⟩
          · have := b1 (by omega); omega
          · have := b2 (by omega); omega
          · have := b3 (by omega); omega) (by rw [show sa + (j + 1) = sa + j + 1 by omega]; exact h5)
        rw [show sa + (j + 1) = sa + j + 1 by omega] at r
        obtain ⟨r1, r2, r3, r4, r5⟩ := r
        exact ⟨r1, r2, r3, fun i hi => (r4 i hi).trans (upd_ne hi), r5⟩
      · rw [if_neg c2] at h5
        rw [if_neg c2]
        exact fin h5
theorem num'_1 {k sa : Nat} {xn le mk : Int32} {xc tx td tg' : Nat → Int32} {ok : Bool} {so : Nat} (h : TxR k xn le xc tx) (hsa : sa ≤ 800) (hm : ¬ mk = (-4)) (h5 : s_takesNumber8_1 le sa tx td = (ok, so, tg')) :
    s_readNumber xn (nI sa) xc mk = (if ok = true then (if s_isAt8 le so tx mk mk = true then tg' 1 else (-4)) else (-4), nI (so + 1)) ∧ sa ≤ so ∧ so ≤ sa + 3 ∧ (∀ i, i ≠ 1 → tg' i = td i) ∧ 0 ≤ (tg' 1).toInt ∧ (tg' 1).toInt ≤ 999 := by
  have r := num_1 (mk := mk) h hsa hm 4 0 0 (upd td 1 0) (by omega) (by omega) upd_eq ⟨by decide, fun _ => by decide, fun q => by omega, fun q => by omega, fun q => by omega⟩ h5
  obtain ⟨r1, r2, r3, r4, r5⟩ := r
  exact ⟨r1, r2, r3, fun i hi => (r4 i hi).trans (upd_ne hi), r5⟩
theorem num_2 {k sa : Nat} {xn le mk : Int32} {xc tx : Nat → Int32} (h : TxR k xn le xc tx) (hsa : sa ≤ 800) (hm : ¬ mk = (-4)) {ok : Bool} {so : Nat} {tg' : Nat → Int32} : ∀ (n j : Nat) (nu : Int32) (tg : Nat → Int32), 4 ≤ j + n → j ≤ 3 → tg 2 = nu → FigB j nu.toInt → g_takesNumber8_2 le sa tx n (sa + j) tg = (ok, so, tg') →
    g_readNumber xn xc mk n j nu (nI (sa + j)) = (if ok = true then (if s_isAt8 le so tx mk mk = true then tg' 2 else (-4)) else (-4), nI (so + 1)) ∧ sa ≤ so ∧ so ≤ sa + 3 ∧ (∀ i, i ≠ 2 → tg' i = tg i) ∧ 0 ≤ (tg' 2).toInt ∧ (tg' 2).toInt ≤ 999 := by
  intro n
  induction n with
  | zero => intro j nu tg h1 h2; omega
  | succ n ih =>
    intro j nu tg h1 h2 h3 h4 h5
    have hj : (nI (sa + j)) + 1 = nI (sa + j + 1) := nI1 (by omega)
    -- what comes when the figures end here
    have fin : (if nI (sa + j) ≤ (nI sa) then (false, sa + j, tg) else (true, sa + j, tg)) = (ok, so, tg') → (if (s_letterAt xn xc (nI (sa + j))) = mk then (if nI j ≤ 0 then ((-4), (nI (sa + j)) + 1) else (nu, (nI (sa + j)) + 1)) else (if nI j ≤ 0 then ((-4), (nI (sa + j)) + 1) else ((-4), (nI (sa + j)) + 1))) = (if ok = true then (if s_isAt8 le so tx mk mk = true then tg' 2 else (-4)) else (-4), nI (so + 1)) ∧ sa ≤ so ∧ so ≤ sa + 3 ∧ (∀ i, i ≠ 2 → tg' i = tg i) ∧ 0 ≤ (tg' 2).toInt ∧ (tg' 2).toInt ≤ 999 := by
      intro h6
      have hb : 0 ≤ nu.toInt ∧ nu.toInt ≤ 999 := by
        obtain ⟨b0, b1, b2, b3, b4⟩ := h4
        rcases (show j = 0 ∨ j = 1 ∨ j = 2 ∨ j = 3 by omega) with q | q | q | q
        · have := b1 q; omega
        · have := b2 q; omega
        · have := b3 q; omega
        · have := b4 q; omega
      by_cases z : j = 0
      · rw [if_pos (by rw [leI, nIt (by omega), nIt (by omega)]; omega)] at h6
        simp only [Prod.mk.injEq] at h6
        obtain ⟨e1, e2, e3⟩ := h6
        subst e1 e2 e3
        have hle : nI j ≤ 0 := by rw [leI, nIt (by omega), zI]; omega
        simp only [if_pos hle, ite_self, hj, Bool.false_eq_true, if_false]
        exact ⟨trivial, by omega, by omega, fun i _ => trivial, by rw [h3]; exact hb.1, by rw [h3]; exact hb.2⟩
      · rw [if_neg (by rw [leI, nIt (by omega), nIt (by omega)]; omega)] at h6
        simp only [Prod.mk.injEq] at h6
        obtain ⟨e1, e2, e3⟩ := h6
        subst e1 e2 e3
        have hle : ¬ nI j ≤ 0 := by rw [leI, nIt (by omega), zI]; omega
        rw [if_pos rfl]
        simp only [if_neg hle, hj]
        refine ⟨?_, by omega, by omega, fun i _ => trivial, by rw [h3]; exact hb.1, by rw [h3]; exact hb.2⟩
        by_cases y : s_letterAt xn xc (nI (sa + j)) = mk
        · rw [if_pos y, if_pos ((isAt_mark h (by omega) hm).mp y), h3]
        · rw [if_neg y, if_neg (fun q => y ((isAt_mark h (by omega) hm).mpr q))]
    rw [g_takesNumber8_2] at h5
    rw [g_readNumber]
    by_cases c1 : j = 3
    · rw [if_pos (by rw [leI, nIt (by omega), nIt (by omega)]; omega)] at h5
      rw [if_pos (by rw [leI, nIt (by omega), show (3 : Int32).toInt = 3 from by decide]; omega)]
      exact fin h5
    · rw [if_neg (by rw [leI, nIt (by omega), nIt (by omega)]; omega)] at h5
      rw [if_neg (by rw [leI, nIt (by omega), show (3 : Int32).toInt = 3 from by decide]; omega)]
      rw [isAt_dig h (by omega)]
      by_cases c2 : s_isAt8 le (sa + j) tx 48 57 = true
      · rw [if_pos c2] at h5
        rw [if_pos c2]
        have hlt := isAt_lt h (by omega) c2
        rw [isAt_in h hlt] at c2
        have hd := digit_b c2
        rw [letter_in h hlt, hj]
        have hb : 0 ≤ nu.toInt ∧ nu.toInt ≤ 99 := by
          obtain ⟨b0, b1, b2, b3, b4⟩ := h4
          rcases (show j = 0 ∨ j = 1 ∨ j = 2 by omega) with q | q | q
          · have := b1 q; omega
          · have := b2 q; omega
          · have := b3 q; omega
        have e := tenI hb hd
        have r := ih (j + 1) (((10 * nu) + tx (sa + j)) - 48) (upd tg 2 (((10 * (tg 2)) + (tx (sa + j))) - 48)) (by omega) (by omega) (by rw [upd_eq, h3]) (by
          rw [e]
          obtain ⟨b0, b1, b2, b3, b4⟩ := h4
          refine ⟨by omega, fun q => by omega, fun q => ?_, fun q => ?_, fun q => ?_⟩
          · have := b1 (by omega); omega
          · have := b2 (by omega); omega
          · have := b3 (by omega); omega) (by rw [show sa + (j + 1) = sa + j + 1 by omega]; exact h5)
        rw [show sa + (j + 1) = sa + j + 1 by omega] at r
        obtain ⟨r1, r2, r3, r4, r5⟩ := r
        exact ⟨r1, r2, r3, fun i hi => (r4 i hi).trans (upd_ne hi), r5⟩
      · rw [if_neg c2] at h5
        rw [if_neg c2]
        exact fin h5
theorem num'_2 {k sa : Nat} {xn le mk : Int32} {xc tx td tg' : Nat → Int32} {ok : Bool} {so : Nat} (h : TxR k xn le xc tx) (hsa : sa ≤ 800) (hm : ¬ mk = (-4)) (h5 : s_takesNumber8_2 le sa tx td = (ok, so, tg')) :
    s_readNumber xn (nI sa) xc mk = (if ok = true then (if s_isAt8 le so tx mk mk = true then tg' 2 else (-4)) else (-4), nI (so + 1)) ∧ sa ≤ so ∧ so ≤ sa + 3 ∧ (∀ i, i ≠ 2 → tg' i = td i) ∧ 0 ≤ (tg' 2).toInt ∧ (tg' 2).toInt ≤ 999 := by
  have r := num_2 (mk := mk) h hsa hm 4 0 0 (upd td 2 0) (by omega) (by omega) upd_eq ⟨by decide, fun _ => by decide, fun q => by omega, fun q => by omega, fun q => by omega⟩ h5
  obtain ⟨r1, r2, r3, r4, r5⟩ := r
  exact ⟨r1, r2, r3, fun i hi => (r4 i hi).trans (upd_ne hi), r5⟩
theorem num_3 {k sa : Nat} {xn le mk : Int32} {xc tx : Nat → Int32} (h : TxR k xn le xc tx) (hsa : sa ≤ 800) (hm : ¬ mk = (-4)) {ok : Bool} {so : Nat} {tg' : Nat → Int32} : ∀ (n j : Nat) (nu : Int32) (tg : Nat → Int32), 4 ≤ j + n → j ≤ 3 → tg 3 = nu → FigB j nu.toInt → g_takesNumber8_3 le sa tx n (sa + j) tg = (ok, so, tg') →
    g_readNumber xn xc mk n j nu (nI (sa + j)) = (if ok = true then (if s_isAt8 le so tx mk mk = true then tg' 3 else (-4)) else (-4), nI (so + 1)) ∧ sa ≤ so ∧ so ≤ sa + 3 ∧ (∀ i, i ≠ 3 → tg' i = tg i) ∧ 0 ≤ (tg' 3).toInt ∧ (tg' 3).toInt ≤ 999 := by
  intro n
  induction n with
  | zero => intro j nu tg h1 h2; omega
  | succ n ih =>
    intro j nu tg h1 h2 h3 h4 h5
    have hj : (nI (sa + j)) + 1 = nI (sa + j + 1) := nI1 (by omega)
    -- what comes when the figures end here
    have fin : (if nI (sa + j) ≤ (nI sa) then (false, sa + j, tg) else (true, sa + j, tg)) = (ok, so, tg') → (if (s_letterAt xn xc (nI (sa + j))) = mk then (if nI j ≤ 0 then ((-4), (nI (sa + j)) + 1) else (nu, (nI (sa + j)) + 1)) else (if nI j ≤ 0 then ((-4), (nI (sa + j)) + 1) else ((-4), (nI (sa + j)) + 1))) = (if ok = true then (if s_isAt8 le so tx mk mk = true then tg' 3 else (-4)) else (-4), nI (so + 1)) ∧ sa ≤ so ∧ so ≤ sa + 3 ∧ (∀ i, i ≠ 3 → tg' i = tg i) ∧ 0 ≤ (tg' 3).toInt ∧ (tg' 3).toInt ≤ 999 := by
      intro h6
      have hb : 0 ≤ nu.toInt ∧ nu.toInt ≤ 999 := by
        obtain ⟨b0, b1, b2, b3, b4⟩ := h4
        rcases (show j = 0 ∨ j = 1 ∨ j = 2 ∨ j = 3 by omega) with q | q | q | q
        · have := b1 q; omega
        · have := b2 q; omega
        · have := b3 q; omega
        · have := b4 q; omega
      by_cases z : j = 0
      · rw [if_pos (by rw [leI, nIt (by omega), nIt (by omega)]; omega)] at h6
        simp only [Prod.mk.injEq] at h6
        obtain ⟨e1, e2, e3⟩ := h6
        subst e1 e2 e3
        have hle : nI j ≤ 0 := by rw [leI, nIt (by omega), zI]; omega
        simp only [if_pos hle, ite_self, hj, Bool.false_eq_true, if_false]
        exact ⟨trivial, by omega, by omega, fun i _ => trivial, by rw [h3]; exact hb.1, by rw [h3]; exact hb.2⟩
      · rw [if_neg (by rw [leI, nIt (by omega), nIt (by omega)]; omega)] at h6
        simp only [Prod.mk.injEq] at h6
        obtain ⟨e1, e2, e3⟩ := h6
        subst e1 e2 e3
        have hle : ¬ nI j ≤ 0 := by rw [leI, nIt (by omega), zI]; omega
        rw [if_pos rfl]
        simp only [if_neg hle, hj]
        refine ⟨?_, by omega, by omega, fun i _ => trivial, by rw [h3]; exact hb.1, by rw [h3]; exact hb.2⟩
        by_cases y : s_letterAt xn xc (nI (sa + j)) = mk
        · rw [if_pos y, if_pos ((isAt_mark h (by omega) hm).mp y), h3]
        · rw [if_neg y, if_neg (fun q => y ((isAt_mark h (by omega) hm).mpr q))]
    rw [g_takesNumber8_3] at h5
    rw [g_readNumber]
    by_cases c1 : j = 3
    · rw [if_pos (by rw [leI, nIt (by omega), nIt (by omega)]; omega)] at h5
      rw [if_pos (by rw [leI, nIt (by omega), show (3 : Int32).toInt = 3 from by decide]; omega)]
      exact fin h5
    · rw [if_neg (by rw [leI, nIt (by omega), nIt (by omega)]; omega)] at h5
      rw [if_neg (by rw [leI, nIt (by omega), show (3 : Int32).toInt = 3 from by decide]; omega)]
      rw [isAt_dig h (by omega)]
      by_cases c2 : s_isAt8 le (sa + j) tx 48 57 = true
      · rw [if_pos c2] at h5
        rw [if_pos c2]
        have hlt := isAt_lt h (by omega) c2
        rw [isAt_in h hlt] at c2
        have hd := digit_b c2
        rw [letter_in h hlt, hj]
        have hb : 0 ≤ nu.toInt ∧ nu.toInt ≤ 99 := by
          obtain ⟨b0, b1, b2, b3, b4⟩ := h4
          rcases (show j = 0 ∨ j = 1 ∨ j = 2 by omega) with q | q | q
          · have := b1 q; omega
          · have := b2 q; omega
          · have := b3 q; omega
        have e := tenI hb hd
        have r := ih (j + 1) (((10 * nu) + tx (sa + j)) - 48) (upd tg 3 (((10 * (tg 3)) + (tx (sa + j))) - 48)) (by omega) (by omega) (by rw [upd_eq, h3]) (by
          rw [e]
          obtain ⟨b0, b1, b2, b3, b4⟩ := h4
          refine ⟨by omega, fun q => by omega, fun q => ?_, fun q => ?_, fun q => ?_⟩
          · have := b1 (by omega); omega
          · have := b2 (by omega); omega
          · have := b3 (by omega); omega) (by rw [show sa + (j + 1) = sa + j + 1 by omega]; exact h5)
        rw [show sa + (j + 1) = sa + j + 1 by omega] at r
        obtain ⟨r1, r2, r3, r4, r5⟩ := r
        exact ⟨r1, r2, r3, fun i hi => (r4 i hi).trans (upd_ne hi), r5⟩
      · rw [if_neg c2] at h5
        rw [if_neg c2]
        exact fin h5
theorem num'_3 {k sa : Nat} {xn le mk : Int32} {xc tx td tg' : Nat → Int32} {ok : Bool} {so : Nat} (h : TxR k xn le xc tx) (hsa : sa ≤ 800) (hm : ¬ mk = (-4)) (h5 : s_takesNumber8_3 le sa tx td = (ok, so, tg')) :
    s_readNumber xn (nI sa) xc mk = (if ok = true then (if s_isAt8 le so tx mk mk = true then tg' 3 else (-4)) else (-4), nI (so + 1)) ∧ sa ≤ so ∧ so ≤ sa + 3 ∧ (∀ i, i ≠ 3 → tg' i = td i) ∧ 0 ≤ (tg' 3).toInt ∧ (tg' 3).toInt ≤ 999 := by
  have r := num_3 (mk := mk) h hsa hm 4 0 0 (upd td 3 0) (by omega) (by omega) upd_eq ⟨by decide, fun _ => by decide, fun q => by omega, fun q => by omega, fun q => by omega⟩ h5
  obtain ⟨r1, r2, r3, r4, r5⟩ := r
  exact ⟨r1, r2, r3, fun i hi => (r4 i hi).trans (upd_ne hi), r5⟩
/-- what a text tells: the class's layout, the reference's row -/
def LyR (w : Nat → Int32) (z0 z1 z2 z3 z4 x0 x1 x2 y0 y1 y2 : Int32) : Prop :=
  (w 0 = z0 ∧ w 1 = z1 ∧ w 2 = z2 ∧ w 3 = z3 ∧ w 4 = z4 ∧ w 5 = -4) ∧ (w 7 = x0 ∧ w 9 = x1 ∧ w 10 = x2 ∧ w 14 = x1) ∧ (w 20 = y0 ∧ w 22 = y1 ∧ w 23 = y2 ∧ w 27 = y1) ∧
  (∀ i, i < 515 → (i = 6 ∨ i = 8 ∨ (10 < i ∧ i < 14) ∨ (14 < i ∧ i < 20) ∨ i = 21 ∨ (23 < i ∧ i < 27) ∨ 27 < i) → w i = 0) ∧
  (200 ≤ z0.toInt ∧ z0.toInt ≤ 999) ∧ (10 ≤ z1.toInt ∧ z1.toInt ≤ 99) ∧ (1 ≤ z2.toInt ∧ z2.toInt ≤ 9) ∧ (1 ≤ z3.toInt ∧ z3.toInt ≤ 40) ∧ (0 ≤ z4.toInt ∧ z4.toInt ≤ 40) ∧ ((0 ≤ x0.toInt ∧ x0.toInt ≤ 999) ∧ (10 ≤ x1.toInt ∧ x1.toInt ≤ 60) ∧ (0 ≤ x2.toInt ∧ x2.toInt ≤ 99)) ∧ ((0 ≤ y0.toInt ∧ y0.toInt ≤ 999) ∧ (10 ≤ y1.toInt ∧ y1.toInt ≤ 60) ∧ (0 ≤ y2.toInt ∧ y2.toInt ≤ 99))
theorem LyR_0 {w : Nat → Int32} {z0 z1 z2 z3 z4 x0 x1 x2 y0 y1 y2 v : Int32} (h : LyR w z0 z1 z2 z3 z4 x0 x1 x2 y0 y1 y2) (hv : 200 ≤ v.toInt ∧ v.toInt ≤ 999) : LyR (upd w 0 v) v z1 z2 z3 z4 x0 x1 x2 y0 y1 y2 := by
  obtain ⟨⟨a0, a1, a2, a3, a4, a5⟩, ⟨b0, b1, b2, b3⟩, ⟨c0, c1, c2, c3⟩, hz, -, g1, g2, g3, g4, g5, g6⟩ := h
  have n : ∀ i, i ≠ 0 → upd w 0 v i = w i := fun i q => upd_ne q
  exact ⟨⟨upd_eq, (n 1 (by decide)).trans a1, (n 2 (by decide)).trans a2, (n 3 (by decide)).trans a3, (n 4 (by decide)).trans a4, (n 5 (by decide)).trans a5⟩, ⟨(n 7 (by decide)).trans b0, (n 9 (by decide)).trans b1, (n 10 (by decide)).trans b2, (n 14 (by decide)).trans b3⟩, ⟨(n 20 (by decide)).trans c0, (n 22 (by decide)).trans c1, (n 23 (by decide)).trans c2, (n 27 (by decide)).trans c3⟩, fun i h1 h2 => (n i (by omega)).trans (hz i h1 h2), hv, g1, g2, g3, g4, g5, g6⟩
theorem LyR_1 {w : Nat → Int32} {z0 z1 z2 z3 z4 x0 x1 x2 y0 y1 y2 v : Int32} (h : LyR w z0 z1 z2 z3 z4 x0 x1 x2 y0 y1 y2) (hv : 10 ≤ v.toInt ∧ v.toInt ≤ 99) : LyR (upd w 1 v) z0 v z2 z3 z4 x0 x1 x2 y0 y1 y2 := by
  obtain ⟨⟨a0, a1, a2, a3, a4, a5⟩, ⟨b0, b1, b2, b3⟩, ⟨c0, c1, c2, c3⟩, hz, g0, -, g2, g3, g4, g5, g6⟩ := h
  have n : ∀ i, i ≠ 1 → upd w 1 v i = w i := fun i q => upd_ne q
  exact ⟨⟨(n 0 (by decide)).trans a0, upd_eq, (n 2 (by decide)).trans a2, (n 3 (by decide)).trans a3, (n 4 (by decide)).trans a4, (n 5 (by decide)).trans a5⟩, ⟨(n 7 (by decide)).trans b0, (n 9 (by decide)).trans b1, (n 10 (by decide)).trans b2, (n 14 (by decide)).trans b3⟩, ⟨(n 20 (by decide)).trans c0, (n 22 (by decide)).trans c1, (n 23 (by decide)).trans c2, (n 27 (by decide)).trans c3⟩, fun i h1 h2 => (n i (by omega)).trans (hz i h1 h2), g0, hv, g2, g3, g4, g5, g6⟩
theorem LyR_k {w : Nat → Int32} {z0 z1 z2 z3 z4 x0 x1 x2 y0 y1 y2 v2 v3 v4 : Int32} (h : LyR w z0 z1 z2 z3 z4 x0 x1 x2 y0 y1 y2) (h2 : 1 ≤ v2.toInt ∧ v2.toInt ≤ 9) (h3 : 1 ≤ v3.toInt ∧ v3.toInt ≤ 40) (h4 : 0 ≤ v4.toInt ∧ v4.toInt ≤ 40) : LyR (upd (upd (upd w 2 v2) 3 v3) 4 v4) z0 z1 v2 v3 v4 x0 x1 x2 y0 y1 y2 := by
  obtain ⟨⟨a0, a1, a2, a3, a4, a5⟩, ⟨b0, b1, b2, b3⟩, ⟨c0, c1, c2, c3⟩, hz, g0, g1, -, -, -, g5, g6⟩ := h
  have n : ∀ i, i ≠ 2 → i ≠ 3 → i ≠ 4 → upd (upd (upd w 2 v2) 3 v3) 4 v4 i = w i := fun i q2 q3 q4 => by rw [upd_ne q4, upd_ne q3, upd_ne q2]
  exact ⟨⟨(n 0 (by decide) (by decide) (by decide)).trans a0, (n 1 (by decide) (by decide) (by decide)).trans a1, by rw [upd_ne (by decide), upd_ne (by decide), upd_eq], by rw [upd_ne (by decide), upd_eq], upd_eq, (n 5 (by decide) (by decide) (by decide)).trans a5⟩, ⟨(n 7 (by decide) (by decide) (by decide)).trans b0, (n 9 (by decide) (by decide) (by decide)).trans b1, (n 10 (by decide) (by decide) (by decide)).trans b2, (n 14 (by decide) (by decide) (by decide)).trans b3⟩, ⟨(n 20 (by decide) (by decide) (by decide)).trans c0, (n 22 (by decide) (by decide) (by decide)).trans c1, (n 23 (by decide) (by decide) (by decide)).trans c2, (n 27 (by decide) (by decide) (by decide)).trans c3⟩, fun i h1 h2 => (n i (by omega) (by omega) (by omega)).trans (hz i h1 h2), g0, g1, h2, h3, h4, g5, g6⟩
theorem LyR_c0 {w A : Nat → Int32} {z0 z1 z2 z3 z4 x0 x1 x2 y0 y1 y2 v0 v1 v2 : Int32} (h : LyR w z0 z1 z2 z3 z4 x0 x1 x2 y0 y1 y2) (hA : s_puts8_0 w v0 v1 v2 = (A, ())) (h2 : 0 ≤ v0.toInt ∧ v0.toInt ≤ 999) (h3 : 10 ≤ v1.toInt ∧ v1.toInt ≤ 60) (h4 : 0 ≤ v2.toInt ∧ v2.toInt ≤ 99) : LyR A z0 z1 z2 z3 z4 v0 v1 v2 y0 y1 y2 := by
  unfold s_puts8_0 at hA
  have hA := (Prod.mk.inj hA).1
  subst hA
  obtain ⟨⟨a0, a1, a2, a3, a4, a5⟩, ⟨b0, b1, b2, b3⟩, ⟨c0, c1, c2, c3⟩, hz, g0, g1, g2, g3, g4, g5, g6⟩ := h
  have n : ∀ i, i ≠ 7 → i ≠ 9 → i ≠ 10 → i ≠ 14 → upd (upd (upd (upd w 7 v0) 9 v1) 10 v2) 14 v1 i = w i := fun i q1 q2 q3 q4 => by rw [upd_ne q4, upd_ne q3, upd_ne q2, upd_ne q1]
  exact ⟨⟨(n 0 (by decide) (by decide) (by decide) (by decide)).trans a0, (n 1 (by decide) (by decide) (by decide) (by decide)).trans a1, (n 2 (by decide) (by decide) (by decide) (by decide)).trans a2, (n 3 (by decide) (by decide) (by decide) (by decide)).trans a3, (n 4 (by decide) (by decide) (by decide) (by decide)).trans a4, (n 5 (by decide) (by decide) (by decide) (by decide)).trans a5⟩, ⟨by rw [upd_ne (by decide), upd_ne (by decide), upd_ne (by decide), upd_eq], by rw [upd_ne (by decide), upd_ne (by decide), upd_eq], by rw [upd_ne (by decide), upd_eq], upd_eq⟩, ⟨(n 20 (by decide) (by decide) (by decide) (by decide)).trans c0, (n 22 (by decide) (by decide) (by decide) (by decide)).trans c1, (n 23 (by decide) (by decide) (by decide) (by decide)).trans c2, (n 27 (by decide) (by decide) (by decide) (by decide)).trans c3⟩, fun i h1 h2 => (n i (by omega) (by omega) (by omega) (by omega)).trans (hz i h1 h2), g0, g1, g2, g3, g4, ⟨h2, h3, h4⟩, g6⟩
theorem LyR_c1 {w A : Nat → Int32} {z0 z1 z2 z3 z4 x0 x1 x2 y0 y1 y2 v0 v1 v2 : Int32} (h : LyR w z0 z1 z2 z3 z4 x0 x1 x2 y0 y1 y2) (hA : s_puts8_1 w v0 v1 v2 = (A, ())) (h2 : 0 ≤ v0.toInt ∧ v0.toInt ≤ 999) (h3 : 10 ≤ v1.toInt ∧ v1.toInt ≤ 60) (h4 : 0 ≤ v2.toInt ∧ v2.toInt ≤ 99) : LyR A z0 z1 z2 z3 z4 x0 x1 x2 v0 v1 v2 := by
  unfold s_puts8_1 at hA
  have hA := (Prod.mk.inj hA).1
  subst hA
  obtain ⟨⟨a0, a1, a2, a3, a4, a5⟩, ⟨b0, b1, b2, b3⟩, ⟨c0, c1, c2, c3⟩, hz, g0, g1, g2, g3, g4, g5, g6⟩ := h
  have n : ∀ i, i ≠ 20 → i ≠ 22 → i ≠ 23 → i ≠ 27 → upd (upd (upd (upd w 20 v0) 22 v1) 23 v2) 27 v1 i = w i := fun i q1 q2 q3 q4 => by rw [upd_ne q4, upd_ne q3, upd_ne q2, upd_ne q1]
  exact ⟨⟨(n 0 (by decide) (by decide) (by decide) (by decide)).trans a0, (n 1 (by decide) (by decide) (by decide) (by decide)).trans a1, (n 2 (by decide) (by decide) (by decide) (by decide)).trans a2, (n 3 (by decide) (by decide) (by decide) (by decide)).trans a3, (n 4 (by decide) (by decide) (by decide) (by decide)).trans a4, (n 5 (by decide) (by decide) (by decide) (by decide)).trans a5⟩, ⟨(n 7 (by decide) (by decide) (by decide) (by decide)).trans b0, (n 9 (by decide) (by decide) (by decide) (by decide)).trans b1, (n 10 (by decide) (by decide) (by decide) (by decide)).trans b2, (n 14 (by decide) (by decide) (by decide) (by decide)).trans b3⟩, ⟨by rw [upd_ne (by decide), upd_ne (by decide), upd_ne (by decide), upd_eq], by rw [upd_ne (by decide), upd_ne (by decide), upd_eq], by rw [upd_ne (by decide), upd_eq], upd_eq⟩, fun i h1 h2 => (n i (by omega) (by omega) (by omega) (by omega)).trans (hz i h1 h2), g0, g1, g2, g3, g4, g5, ⟨h2, h3, h4⟩⟩
theorem wiI {x : Int32} {lo hi : Int32} {a b : Int} (h : s_isWithin x lo hi = true) (e1 : lo.toInt = a) (e2 : hi.toInt = b) : a ≤ x.toInt ∧ x.toInt ≤ b := by
  rw [← in8_eq, in8_iff, leI, leI, e1, e2] at h
  exact h
theorem wiN {x : Int32} {lo hi : Int32} {a b : Int} (h : ¬ s_isWithin x lo hi = true) (e1 : lo.toInt = a) (e2 : hi.toInt = b) : ¬ (a ≤ x.toInt ∧ x.toInt ≤ b) := by
  intro q
  apply h
  rw [← in8_eq, in8_iff, leI, leI, e1, e2]
  exact q
theorem m44 : ¬ (44 : Int32) = (-4) := by decide
theorem m59 : ¬ (59 : Int32) = (-4) := by decide
theorem bad4 {lo hi : Int32} (h : ¬ lo ≤ (-4)) : ¬ s_isWithin (-4) lo hi = true := by
  rw [← in8_eq, in8_iff]
  exact fun q => h q.1
theorem one_0 {k sa so : Nat} {xn le : Int32} {xc tx rd td rd' td' : Nat → Int32} {ok ok8 : Bool} {p v z0 z1 z2 z3 z4 x0 x1 x2 y0 y1 y2 : Int32} (h : TxR k xn le xc tx) (hsa : sa ≤ 800) (hL : LyR rd z0 z1 z2 z3 z4 x0 x1 x2 y0 y1 y2) (h8 : s_takesOne8_0 le sa rd tx td 200 999 = (ok8, so, rd', td')) (hc : s_readEnd xn (nI sa) xc = (ok, p, v)) : ok = ok8 ∧ (ok = true → p = nI so ∧ sa < so ∧ so ≤ k ∧ LyR rd' v z1 z2 z3 z4 x0 x1 x2 y0 y1 y2) := by
  unfold s_takesOne8_0 s_takesNumbers8_1 at h8
  obtain ⟨a0, a1, a2, ea⟩ := bEx3 (s_takesNumber8_0 le sa tx td)
  rw [ea] at h8
  dsimp only at h8
  obtain ⟨r1, r2, r3, r4, r5, r6⟩ := num'_0 (mk := 59) h hsa m59 ea
  unfold s_readEnd at hc
  rw [r1] at hc
  dsimp only at hc
  simp only [Prod.mk.injEq] at hc
  obtain ⟨hc1, hc2, hc3⟩ := hc
  by_cases c1 : a0 = true
  · rw [if_pos c1] at h8 hc1 hc3
    by_cases c2 : s_isAt8 le a1 tx 59 59 = true
    · rw [if_pos c2] at h8 hc1 hc3
      dsimp only at h8
      rw [if_pos rfl] at h8
      have hlt := isAt_lt h (by omega) c2
      by_cases c3 : s_isWithin (a2 0) 200 999 = true
      · rw [in8_eq, if_pos c3] at h8
        simp only [Prod.mk.injEq] at h8
        obtain ⟨e1, e2, e3, e4⟩ := h8
        subst e1 e2 e3 hc3
        exact ⟨hc1.symm.trans c3, fun _ => ⟨hc2.symm, by omega, by omega, LyR_0 hL (wiI c3 (by decide) (by decide))⟩⟩
      · rw [in8_eq, if_neg c3] at h8
        have e1 := (Prod.mk.inj h8).1
        have e0 : ok = false := by rw [← hc1]; exact Bool.eq_false_iff.mpr c3
        rw [e0, ← e1]
        exact ⟨rfl, fun q => by cases q⟩
    · rw [if_neg c2] at h8 hc1
      dsimp only at h8
      rw [if_neg (by decide)] at h8
      have e1 := (Prod.mk.inj h8).1
      have e0 : ok = false := by rw [← hc1]; decide
      rw [e0, ← e1]
      exact ⟨rfl, fun q => by cases q⟩
  · rw [if_neg c1] at h8 hc1
    dsimp only at h8
    rw [if_neg (by decide)] at h8
    have e1 := (Prod.mk.inj h8).1
    have e0 : ok = false := by rw [← hc1]; decide
    rw [e0, ← e1]
    exact ⟨rfl, fun q => by cases q⟩
theorem one_1 {k sa so : Nat} {xn le : Int32} {xc tx rd td rd' td' : Nat → Int32} {ok ok8 : Bool} {p v z0 z1 z2 z3 z4 x0 x1 x2 y0 y1 y2 : Int32} (h : TxR k xn le xc tx) (hsa : sa ≤ 800) (hL : LyR rd z0 z1 z2 z3 z4 x0 x1 x2 y0 y1 y2) (h8 : s_takesOne8_1 le sa rd tx td 10 99 = (ok8, so, rd', td')) (hc : s_readGap xn (nI sa) xc = (ok, p, v)) : ok = ok8 ∧ (ok = true → p = nI so ∧ sa < so ∧ so ≤ k ∧ LyR rd' z0 v z2 z3 z4 x0 x1 x2 y0 y1 y2) := by
  unfold s_takesOne8_1 s_takesNumbers8_1 at h8
  obtain ⟨a0, a1, a2, ea⟩ := bEx3 (s_takesNumber8_0 le sa tx td)
  rw [ea] at h8
  dsimp only at h8
  obtain ⟨r1, r2, r3, r4, r5, r6⟩ := num'_0 (mk := 59) h hsa m59 ea
  unfold s_readGap at hc
  rw [r1] at hc
  dsimp only at hc
  simp only [Prod.mk.injEq] at hc
  obtain ⟨hc1, hc2, hc3⟩ := hc
  by_cases c1 : a0 = true
  · rw [if_pos c1] at h8 hc1 hc3
    by_cases c2 : s_isAt8 le a1 tx 59 59 = true
    · rw [if_pos c2] at h8 hc1 hc3
      dsimp only at h8
      rw [if_pos rfl] at h8
      have hlt := isAt_lt h (by omega) c2
      by_cases c3 : s_isWithin (a2 0) 10 99 = true
      · rw [in8_eq, if_pos c3] at h8
        simp only [Prod.mk.injEq] at h8
        obtain ⟨e1, e2, e3, e4⟩ := h8
        subst e1 e2 e3 hc3
        exact ⟨hc1.symm.trans c3, fun _ => ⟨hc2.symm, by omega, by omega, LyR_1 hL (wiI c3 (by decide) (by decide))⟩⟩
      · rw [in8_eq, if_neg c3] at h8
        have e1 := (Prod.mk.inj h8).1
        have e0 : ok = false := by rw [← hc1]; exact Bool.eq_false_iff.mpr c3
        rw [e0, ← e1]
        exact ⟨rfl, fun q => by cases q⟩
    · rw [if_neg c2] at h8 hc1
      dsimp only at h8
      rw [if_neg (by decide)] at h8
      have e1 := (Prod.mk.inj h8).1
      have e0 : ok = false := by rw [← hc1]; decide
      rw [e0, ← e1]
      exact ⟨rfl, fun q => by cases q⟩
  · rw [if_neg c1] at h8 hc1
    dsimp only at h8
    rw [if_neg (by decide)] at h8
    have e1 := (Prod.mk.inj h8).1
    have e0 : ok = false := by rw [← hc1]; decide
    rw [e0, ← e1]
    exact ⟨rfl, fun q => by cases q⟩
theorem drive_c {xn p v0 v1 v2 w0 w1 w2 q0 q1 q2 xi : Int32} {xc : Nat → Int32} {ok : Bool} (e0 : s_readNumber xn xi xc 44 = (w0, q0)) (e1 : s_readNumber xn q0 xc 44 = (w1, q1)) (e2 : s_readNumber xn q1 xc 59 = (w2, q2)) (hc : s_readDrive xn xi xc = (ok, p, v0, v1, v2)) : v0 = w0 ∧ v1 = w1 ∧ v2 = w2 ∧ p = q2 ∧ ((ok = true ∧ s_isWithin w0 1 9 = true ∧ s_isWithin w1 1 40 = true ∧ s_isWithin w2 0 40 = true) ∨ (ok = false ∧ ¬ (s_isWithin w0 1 9 = true ∧ s_isWithin w1 1 40 = true ∧ s_isWithin w2 0 40 = true))) := by
  unfold s_readDrive at hc
  rw [e0] at hc
  dsimp only at hc
  rw [e1] at hc
  dsimp only at hc
  rw [e2] at hc
  dsimp only at hc
  by_cases c0 : s_isWithin w0 1 9 = true
  · rw [if_pos c0] at hc
    by_cases c1 : s_isWithin w1 1 40 = true
    · rw [if_pos c1] at hc
      by_cases c2 : s_isWithin w2 0 40 = true
      · rw [if_pos c2] at hc
        simp only [Prod.mk.injEq] at hc
        obtain ⟨a, b, c, d, e⟩ := hc
        exact ⟨c.symm, d.symm, e.symm, b.symm, Or.inl ⟨a.symm, c0, c1, c2⟩⟩
      · rw [if_neg c2] at hc
        simp only [Prod.mk.injEq] at hc
        obtain ⟨a, b, c, d, e⟩ := hc
        exact ⟨c.symm, d.symm, e.symm, b.symm, Or.inr ⟨a.symm, fun q => c2 q.2.2⟩⟩
    · rw [if_neg c1] at hc
      simp only [Prod.mk.injEq] at hc
      obtain ⟨a, b, c, d, e⟩ := hc
      exact ⟨c.symm, d.symm, e.symm, b.symm, Or.inr ⟨a.symm, fun q => c1 q.2.1⟩⟩
  · rw [if_neg c0] at hc
    simp only [Prod.mk.injEq] at hc
    obtain ⟨a, b, c, d, e⟩ := hc
    exact ⟨c.symm, d.symm, e.symm, b.symm, Or.inr ⟨a.symm, fun q => c0 q.1⟩⟩
theorem most_R {k sa so : Nat} {xn le : Int32} {xc tx rd td rd' td' : Nat → Int32} {ok ok8 : Bool} {p v0 v1 v2 z0 z1 z2 z3 z4 x0 x1 x2 y0 y1 y2 : Int32} (h : TxR k xn le xc tx) (hsa : sa ≤ 300) (hL : LyR rd z0 z1 z2 z3 z4 x0 x1 x2 y0 y1 y2) (h8 : s_takesMost8 le sa rd tx td = (ok8, so, rd', td')) (hc : s_readDrive xn (nI sa) xc = (ok, p, v0, v1, v2)) : ok = ok8 ∧ (ok = true → p = nI so ∧ sa < so ∧ so ≤ k ∧ LyR rd' z0 z1 v0 v1 v2 x0 x1 x2 y0 y1 y2) := by
  obtain ⟨w0, q0, n0⟩ := bEx2 (s_readNumber xn (nI sa) xc 44)
  obtain ⟨w1, q1, n1⟩ := bEx2 (s_readNumber xn q0 xc 44)
  obtain ⟨w2, q2, n2⟩ := bEx2 (s_readNumber xn q1 xc 59)
  obtain ⟨f0, f1, f2, f3, hd⟩ := drive_c n0 n1 n2 hc
  subst f0 f1 f2 f3
  unfold s_takesMost8 s_takesNumbers8_3 at h8
  have bad : ok8 = false → ¬ (s_isWithin v0 1 9 = true ∧ s_isWithin v1 1 40 = true ∧ s_isWithin v2 0 40 = true) → ok = ok8 ∧ (ok = true → p = nI so ∧ sa < so ∧ so ≤ k ∧ LyR rd' z0 z1 v0 v1 v2 x0 x1 x2 y0 y1 y2) := by
    intro g1 g2
    rcases hd with ⟨-, g3⟩ | ⟨g3, -⟩
    · exact absurd g3 g2
    · rw [g1, g3]; exact ⟨rfl, fun q => by cases q⟩
  have fls : ∀ {X : Nat × (Nat → Int32) × (Nat → Int32)}, (false, X) = (ok8, so, rd', td') → ok8 = false := fun q => (Prod.mk.inj q).1.symm
  obtain ⟨a0, a1, a2, ea⟩ := bEx3 (s_takesNumber8_0 le sa tx td)
  rw [ea] at h8
  dsimp only at h8
  obtain ⟨ar1, ar2, ar3, ar4, ar5, ar6⟩ := num'_0 (mk := 44) h (by omega) m44 ea
  rw [ar1] at n0
  obtain ⟨g0, g1⟩ := Prod.mk.inj n0
  subst g1
  by_cases c1 : a0 = true
  · rw [if_pos c1] at h8 g0
    by_cases c2 : s_isAt8 le a1 tx 44 44 = true
    · rw [if_pos c2] at h8 g0
      obtain ⟨b0, b1, b2, eb⟩ := bEx3 (s_takesNumber8_1 le (a1 + 1) tx a2)
      rw [eb] at h8
      dsimp only at h8
      obtain ⟨br1, br2, br3, br4, br5, br6⟩ := num'_1 (mk := 44) h (by omega) m44 eb
      rw [br1] at n1
      obtain ⟨g2, g3⟩ := Prod.mk.inj n1
      subst g3
      by_cases c3 : b0 = true
      · rw [if_pos c3] at h8 g2
        by_cases c4 : s_isAt8 le b1 tx 44 44 = true
        · rw [if_pos c4] at h8 g2
          obtain ⟨d0, d1, d2, ec⟩ := bEx3 (s_takesNumber8_2 le (b1 + 1) tx b2)
          rw [ec] at h8
          dsimp only at h8
          obtain ⟨cr1, cr2, cr3, cr4, cr5, cr6⟩ := num'_2 (mk := 59) h (by omega) m59 ec
          rw [cr1] at n2
          obtain ⟨g4, g5⟩ := Prod.mk.inj n2
          subst g5
          by_cases c5 : d0 = true
          · rw [if_pos c5] at h8 g4
            by_cases c6 : s_isAt8 le d1 tx 59 59 = true
            · rw [if_pos c6] at h8 g4
              dsimp only at h8
              rw [if_pos rfl] at h8
              have t0 : d2 0 = v0 := by rw [cr4 0 (by decide), br4 0 (by decide)]; exact g0
              have t1 : d2 1 = v1 := by rw [cr4 1 (by decide)]; exact g2
              have t2 : d2 2 = v2 := g4
              have hlt := isAt_lt h (by omega) c6
              simp only [in8_eq, t0, t1, t2] at h8
              by_cases k0 : s_isWithin v0 1 9 = true
              · rw [if_pos k0] at h8
                by_cases k1 : s_isWithin v1 1 40 = true
                · rw [if_pos k1] at h8
                  rw [t2] at cr5 cr6
                  by_cases k2 : 40 < v2
                  · rw [if_pos k2] at h8
                    refine bad (fls h8) (fun q => ?_)
                    have := wiI q.2.2 (show (0 : Int32).toInt = 0 by decide) (show (40 : Int32).toInt = 40 by decide)
                    rw [ltI, show (40 : Int32).toInt = 40 by decide] at k2
                    omega
                  · rw [if_neg k2] at h8
                    rw [ltI, show (40 : Int32).toInt = 40 by decide] at k2
                    have k3 : s_isWithin v2 0 40 = true := by
                      rw [← in8_eq, in8_iff, leI, leI, zI, show (40 : Int32).toInt = 40 by decide]; omega
                    rcases hd with ⟨e, -⟩ | ⟨-, e⟩
                    · simp only [Prod.mk.injEq] at h8
                      obtain ⟨u1, u2, u3, u4⟩ := h8
                      subst u1 u2 u3
                      exact ⟨e, fun _ => ⟨rfl, by omega, by omega, LyR_k hL (wiI k0 (by decide) (by decide)) (wiI k1 (by decide) (by decide)) (wiI k3 (by decide) (by decide))⟩⟩
                    · exact absurd ⟨k0, k1, k3⟩ e
                · rw [if_neg k1] at h8
                  exact bad (fls h8) (fun q => k1 q.2.1)
              · rw [if_neg k0] at h8
                exact bad (fls h8) (fun q => k0 q.1)
            · rw [if_neg c6] at h8 g4
              dsimp only at h8
              rw [if_neg (by decide)] at h8
              exact bad (fls h8) (fun q => by rw [← g4] at q; exact bad4 (by decide) q.2.2)
          · rw [if_neg c5] at h8 g4
            dsimp only at h8
            rw [if_neg (by decide)] at h8
            exact bad (fls h8) (fun q => by rw [← g4] at q; exact bad4 (by decide) q.2.2)
        · rw [if_neg c4] at h8 g2
          dsimp only at h8
          rw [if_neg (by decide)] at h8
          exact bad (fls h8) (fun q => by rw [← g2] at q; exact bad4 (by decide) q.2.1)
      · rw [if_neg c3] at h8 g2
        dsimp only at h8
        rw [if_neg (by decide)] at h8
        exact bad (fls h8) (fun q => by rw [← g2] at q; exact bad4 (by decide) q.2.1)
    · rw [if_neg c2] at h8 g0
      dsimp only at h8
      rw [if_neg (by decide)] at h8
      exact bad (fls h8) (fun q => by rw [← g0] at q; exact bad4 (by decide) q.1)
  · rw [if_neg c1] at h8 g0
    dsimp only at h8
    rw [if_neg (by decide)] at h8
    exact bad (fls h8) (fun q => by rw [← g0] at q; exact bad4 (by decide) q.1)
theorem start_c {xn xi p w0 w1 w2 w3 q0 q1 q2 q3 x0 x1 x2 y0 y1 y2 u0 u1 u2 u3 u4 u5 : Int32} {xc : Nat → Int32} {ok : Bool} (e0 : s_readNumber xn xi xc 44 = (w0, q0)) (e1 : s_readNumber xn q0 xc 44 = (w1, q1)) (e2 : s_readNumber xn q1 xc 44 = (w2, q2)) (e3 : s_readNumber xn q2 xc 59 = (w3, q3)) (hc : s_readStart xn xi xc x0 x1 x2 y0 y1 y2 = (ok, p, u0, u1, u2, u3, u4, u5)) :
    (ok = true ∧ p = q3 ∧ s_isCrane w0 = true ∧ s_isWithin w1 0 999 = true ∧ s_isRope w2 = true ∧ s_isWithin w3 0 99 = true ∧ ((w0 = 0 ∧ u0 = w1 ∧ u1 = w2 ∧ u2 = w3 ∧ u3 = y0 ∧ u4 = y1 ∧ u5 = y2) ∨ (¬ w0 = 0 ∧ u0 = x0 ∧ u1 = x1 ∧ u2 = x2 ∧ u3 = w1 ∧ u4 = w2 ∧ u5 = w3))) ∨ (ok = false ∧ ¬ (s_isCrane w0 = true ∧ s_isWithin w1 0 999 = true ∧ s_isRope w2 = true ∧ s_isWithin w3 0 99 = true)) := by
  unfold s_readStart at hc
  rw [e0] at hc
  dsimp only at hc
  rw [e1] at hc
  dsimp only at hc
  rw [e2] at hc
  dsimp only at hc
  rw [e3] at hc
  dsimp only at hc
  by_cases k0 : s_isCrane w0 = true
  · rw [if_pos k0] at hc
    by_cases kz : w0 = 0
    · rw [if_pos kz] at hc
      by_cases k1 : s_isWithin w1 0 999 = true
      · rw [if_pos k1] at hc
        by_cases k2 : s_isRope w2 = true
        · rw [if_pos k2] at hc
          by_cases k3 : s_isWithin w3 0 99 = true
          · rw [if_pos k3] at hc
            simp only [Prod.mk.injEq] at hc
            obtain ⟨a, b, c, d, e, f, g, i⟩ := hc
            exact Or.inl ⟨a.symm, b.symm, k0, k1, k2, k3, Or.inl ⟨kz, c.symm, d.symm, e.symm, f.symm, g.symm, i.symm⟩⟩
          · rw [if_neg k3] at hc
            exact Or.inr ⟨(Prod.mk.inj hc).1.symm, fun q => k3 q.2.2.2⟩
        · rw [if_neg k2] at hc
          exact Or.inr ⟨(Prod.mk.inj hc).1.symm, fun q => k2 q.2.2.1⟩
      · rw [if_neg k1] at hc
        exact Or.inr ⟨(Prod.mk.inj hc).1.symm, fun q => k1 q.2.1⟩
    · rw [if_neg kz] at hc
      by_cases k1 : s_isWithin w1 0 999 = true
      · rw [if_pos k1] at hc
        by_cases k2 : s_isRope w2 = true
        · rw [if_pos k2] at hc
          by_cases k3 : s_isWithin w3 0 99 = true
          · rw [if_pos k3] at hc
            simp only [Prod.mk.injEq] at hc
            obtain ⟨a, b, c, d, e, f, g, i⟩ := hc
            exact Or.inl ⟨a.symm, b.symm, k0, k1, k2, k3, Or.inr ⟨kz, c.symm, d.symm, e.symm, f.symm, g.symm, i.symm⟩⟩
          · rw [if_neg k3] at hc
            exact Or.inr ⟨(Prod.mk.inj hc).1.symm, fun q => k3 q.2.2.2⟩
        · rw [if_neg k2] at hc
          exact Or.inr ⟨(Prod.mk.inj hc).1.symm, fun q => k2 q.2.2.1⟩
      · rw [if_neg k1] at hc
        exact Or.inr ⟨(Prod.mk.inj hc).1.symm, fun q => k1 q.2.1⟩
  · rw [if_neg k0] at hc
    exact Or.inr ⟨(Prod.mk.inj hc).1.symm, fun q => k0 q.1⟩
theorem crane_lt {x : Int32} (h : 0 ≤ x.toInt) : s_isCrane x = true ↔ ¬ 2 ≤ x := by
  unfold s_isCrane
  have e0 : (0 : Int32).toInt = 0 := by decide
  have e1 : (1 : Int32).toInt = 1 := by decide
  have e2 : (2 : Int32).toInt = 2 := by decide
  by_cases c0 : x = 0
  · rw [c0]; decide
  · rw [if_neg c0]
    by_cases c1 : x = 1
    · rw [c1]; decide
    · rw [if_neg c1, leI, e2]
      have d0 : x.toInt ≠ 0 := fun q => c0 (eqI.mpr (by rw [q, e0]))
      have d1 : x.toInt ≠ 1 := fun q => c1 (eqI.mpr (by rw [q, e1]))
      constructor
      · intro q; cases q
      · intro q; omega
theorem crane_R {k sa so : Nat} {xn le : Int32} {xc tx rd td rd' td' : Nat → Int32} {ok ok8 : Bool} {p z0 z1 z2 z3 z4 x0 x1 x2 y0 y1 y2 u0 u1 u2 u3 u4 u5 : Int32} (h : TxR k xn le xc tx) (hsa : sa ≤ 300) (hL : LyR rd z0 z1 z2 z3 z4 x0 x1 x2 y0 y1 y2) (h8 : s_takesCrane8 le sa rd tx td = (ok8, so, rd', td')) (hc : s_readStart xn (nI sa) xc x0 x1 x2 y0 y1 y2 = (ok, p, u0, u1, u2, u3, u4, u5)) : ok = ok8 ∧ (ok = true → p = nI so ∧ sa < so ∧ so ≤ k ∧ LyR rd' z0 z1 z2 z3 z4 u0 u1 u2 u3 u4 u5) := by
  obtain ⟨v0, q0, n0⟩ := bEx2 (s_readNumber xn (nI sa) xc 44)
  obtain ⟨v1, q1, n1⟩ := bEx2 (s_readNumber xn q0 xc 44)
  obtain ⟨v2, q2, n2⟩ := bEx2 (s_readNumber xn q1 xc 44)
  obtain ⟨v3, q3, n3⟩ := bEx2 (s_readNumber xn q2 xc 59)
  have hd := start_c n0 n1 n2 n3 hc
  unfold s_takesCrane8 s_takesNumbers8_4 at h8
  have bad : ok8 = false → ¬ (s_isCrane v0 = true ∧ s_isWithin v1 0 999 = true ∧ s_isRope v2 = true ∧ s_isWithin v3 0 99 = true) → ok = ok8 ∧ (ok = true → p = nI so ∧ sa < so ∧ so ≤ k ∧ LyR rd' z0 z1 z2 z3 z4 u0 u1 u2 u3 u4 u5) := by
    intro g1 g2
    rcases hd with ⟨-, -, g3, g4, g5, g6, -⟩ | ⟨g3, -⟩
    · exact absurd ⟨g3, g4, g5, g6⟩ g2
    · rw [g1, g3]; exact ⟨rfl, fun q => by cases q⟩
  have fls : ∀ {X : Nat × (Nat → Int32) × (Nat → Int32)}, (false, X) = (ok8, so, rd', td') → ok8 = false := fun q => (Prod.mk.inj q).1.symm
  obtain ⟨a0, a1, a2, ea⟩ := bEx3 (s_takesNumber8_0 le sa tx td)
  rw [ea] at h8
  dsimp only at h8
  obtain ⟨ar1, ar2, ar3, ar4, ar5, ar6⟩ := num'_0 (mk := 44) h (by omega) m44 ea
  rw [ar1] at n0
  obtain ⟨g0, g1⟩ := Prod.mk.inj n0
  subst g1
  by_cases c1 : a0 = true
  · rw [if_pos c1] at h8 g0
    by_cases c2 : s_isAt8 le a1 tx 44 44 = true
    · rw [if_pos c2] at h8 g0
      obtain ⟨b0, b1, b2, eb⟩ := bEx3 (s_takesNumber8_1 le (a1 + 1) tx a2)
      rw [eb] at h8
      dsimp only at h8
      obtain ⟨br1, br2, br3, br4, br5, br6⟩ := num'_1 (mk := 44) h (by omega) m44 eb
      rw [br1] at n1
      obtain ⟨g2, g3⟩ := Prod.mk.inj n1
      subst g3
      by_cases c3 : b0 = true
      · rw [if_pos c3] at h8 g2
        by_cases c4 : s_isAt8 le b1 tx 44 44 = true
        · rw [if_pos c4] at h8 g2
          obtain ⟨d0, d1, d2, ed⟩ := bEx3 (s_takesNumber8_2 le (b1 + 1) tx b2)
          rw [ed] at h8
          dsimp only at h8
          obtain ⟨dr1, dr2, dr3, dr4, dr5, dr6⟩ := num'_2 (mk := 44) h (by omega) m44 ed
          rw [dr1] at n2
          obtain ⟨g4, g5⟩ := Prod.mk.inj n2
          subst g5
          by_cases c5 : d0 = true
          · rw [if_pos c5] at h8 g4
            by_cases c6 : s_isAt8 le d1 tx 44 44 = true
            · rw [if_pos c6] at h8 g4
              obtain ⟨f0, f1, f2, ef⟩ := bEx3 (s_takesNumber8_3 le (d1 + 1) tx d2)
              rw [ef] at h8
              dsimp only at h8
              obtain ⟨fr1, fr2, fr3, fr4, fr5, fr6⟩ := num'_3 (mk := 59) h (by omega) m59 ef
              rw [fr1] at n3
              obtain ⟨g6, g7⟩ := Prod.mk.inj n3
              subst g7
              by_cases c7 : f0 = true
              · rw [if_pos c7] at h8 g6
                by_cases c8 : s_isAt8 le f1 tx 59 59 = true
                · rw [if_pos c8] at h8 g6
                  dsimp only at h8
                  rw [if_pos rfl] at h8
                  have t0 : f2 0 = v0 := by rw [fr4 0 (by decide), dr4 0 (by decide), br4 0 (by decide)]; exact g0
                  have t1 : f2 1 = v1 := by rw [fr4 1 (by decide), dr4 1 (by decide)]; exact g2
                  have t2 : f2 2 = v2 := by rw [fr4 2 (by decide)]; exact g4
                  have t3 : f2 3 = v3 := g6
                  have hlt := isAt_lt h (by omega) c8
                  have hk1 : s_isWithin v1 0 999 = true := by
                    rw [← in8_eq, in8_iff, leI, leI, zI, show (999 : Int32).toInt = 999 by decide, ← g2]
                    exact ⟨br5, br6⟩
                  rw [g0] at ar5
                  rw [t3] at fr5 fr6
                  have hcr := crane_lt ar5
                  simp only [in8_eq, t0, t1, t2, t3] at h8
                  by_cases k0 : 2 ≤ v0
                  · rw [if_pos k0] at h8
                    exact bad (fls h8) (fun q => hcr.mp q.1 k0)
                  · rw [if_neg k0] at h8
                    by_cases k2 : s_isWithin v2 10 60 = true
                    · rw [if_pos k2] at h8
                      by_cases k3 : 100 ≤ v3
                      · rw [if_pos k3] at h8
                        refine bad (fls h8) (fun q => ?_)
                        have := wiI q.2.2.2 (show (0 : Int32).toInt = 0 by decide) (show (99 : Int32).toInt = 99 by decide)
                        rw [leI, show (100 : Int32).toInt = 100 by decide] at k3
                        omega
                      · rw [if_neg k3] at h8
                        rw [leI, show (100 : Int32).toInt = 100 by decide] at k3
                        have k4 : s_isWithin v3 0 99 = true := by
                          rw [← in8_eq, in8_iff, leI, leI, zI, show (99 : Int32).toInt = 99 by decide]; omega
                        rcases hd with ⟨e, ep, -, -, -, -, hv⟩ | ⟨-, e⟩
                        · rcases hv with ⟨kz, i0, i1, i2, i3, i4, i5⟩ | ⟨kz, i0, i1, i2, i3, i4, i5⟩
                          · rw [if_pos kz] at h8
                            obtain ⟨A, eA⟩ := bEx1 (s_puts8_0 rd v1 v2 v3)
                            rw [eA] at h8
                            dsimp only at h8
                            simp only [Prod.mk.injEq] at h8
                            obtain ⟨j1, j2, j3, j4⟩ := h8
                            subst j1 j2 j3 i0 i1 i2 i3 i4 i5
                            exact ⟨e, fun _ => ⟨ep, by omega, by omega, LyR_c0 hL eA (wiI hk1 (by decide) (by decide)) (wiI k2 (by decide) (by decide)) (wiI k4 (by decide) (by decide))⟩⟩
                          · rw [if_neg kz] at h8
                            obtain ⟨A, eA⟩ := bEx1 (s_puts8_1 rd v1 v2 v3)
                            rw [eA] at h8
                            dsimp only at h8
                            simp only [Prod.mk.injEq] at h8
                            obtain ⟨j1, j2, j3, j4⟩ := h8
                            subst j1 j2 j3 i0 i1 i2 i3 i4 i5
                            exact ⟨e, fun _ => ⟨ep, by omega, by omega, LyR_c1 hL eA (wiI hk1 (by decide) (by decide)) (wiI k2 (by decide) (by decide)) (wiI k4 (by decide) (by decide))⟩⟩
                        · exact absurd ⟨hcr.mpr k0, hk1, k2, k4⟩ e
                    · rw [if_neg k2] at h8
                      exact bad (fls h8) (fun q => k2 q.2.2.1)
                · rw [if_neg c8] at h8 g6
                  dsimp only at h8
                  rw [if_neg (by decide)] at h8
                  exact bad (fls h8) (fun q => by rw [← g6] at q; exact bad4 (by decide) q.2.2.2)
              · rw [if_neg c7] at h8 g6
                dsimp only at h8
                rw [if_neg (by decide)] at h8
                exact bad (fls h8) (fun q => by rw [← g6] at q; exact bad4 (by decide) q.2.2.2)
            · rw [if_neg c6] at h8 g4
              dsimp only at h8
              rw [if_neg (by decide)] at h8
              exact bad (fls h8) (fun q => by rw [← g4] at q; exact absurd q.2.2.1 (by decide))
          · rw [if_neg c5] at h8 g4
            dsimp only at h8
            rw [if_neg (by decide)] at h8
            exact bad (fls h8) (fun q => by rw [← g4] at q; exact absurd q.2.2.1 (by decide))
        · rw [if_neg c4] at h8 g2
          dsimp only at h8
          rw [if_neg (by decide)] at h8
          exact bad (fls h8) (fun q => by rw [← g2] at q; exact bad4 (by decide) q.2.1)
      · rw [if_neg c3] at h8 g2
        dsimp only at h8
        rw [if_neg (by decide)] at h8
        exact bad (fls h8) (fun q => by rw [← g2] at q; exact bad4 (by decide) q.2.1)
    · rw [if_neg c2] at h8 g0
      dsimp only at h8
      rw [if_neg (by decide)] at h8
      exact bad (fls h8) (fun q => by rw [← g0] at q; exact absurd q.1 (by decide))
  · rw [if_neg c1] at h8 g0
    dsimp only at h8
    rw [if_neg (by decide)] at h8
    exact bad (fls h8) (fun q => by rw [← g0] at q; exact absurd q.1 (by decide))
theorem item_R {k sa so : Nat} {xn le : Int32} {xc tx rd td rd' td' : Nat → Int32} {ok ok8 : Bool} {p z0 z1 z2 z3 z4 x0 x1 x2 y0 y1 y2 v0 v1 v2 v3 v4 u0 u1 u2 u3 u4 u5 : Int32} (h : TxR k xn le xc tx) (hsa : sa < k) (hL : LyR rd z0 z1 z2 z3 z4 x0 x1 x2 y0 y1 y2) (h8 : s_takesItem8 le sa rd tx td = (ok8, so, rd', td')) (hc : s_readItem xn (nI sa) xc z0 z1 z2 z3 z4 x0 x1 x2 y0 y1 y2 = (ok, p, v0, v1, v2, v3, v4, u0, u1, u2, u3, u4, u5)) : ok = ok8 ∧ (ok = true → p = nI so ∧ sa < so ∧ so ≤ k ∧ LyR rd' v0 v1 v2 v3 v4 u0 u1 u2 u3 u4 u5) := by
  have hk : k ≤ 200 := h.1
  unfold s_takesItem8 at h8
  unfold s_readItem at hc
  rw [letter_in h hsa, nI1 (k := sa) (by omega)] at hc
  by_cases c1 : tx sa = 99
  · rw [if_pos c1] at h8 hc
    obtain ⟨a0, a1, a2, a3, ea⟩ := bEx4 (s_takesCrane8 le (sa + 1) rd tx td)
    rw [ea] at h8
    dsimp only at h8
    obtain ⟨b0, b1, b2, b3, b4, b5, b6, b7, eb⟩ := bEx8 (s_readStart xn (nI (sa + 1)) xc x0 x1 x2 y0 y1 y2)
    rw [eb] at hc
    dsimp only at hc
    obtain ⟨r1, r2⟩ := crane_R h (by omega) hL ea eb
    simp only [Prod.mk.injEq] at h8 hc
    obtain ⟨j1, j2, j3, j4⟩ := h8
    obtain ⟨i1, i2, i3, i4, i5, i6, i7, i8, i9, i10, i11, i12, i13⟩ := hc
    subst j1 j2 j3 j4 i1 i2 i3 i4 i5 i6 i7 i8 i9 i10 i11 i12 i13
    exact ⟨r1, fun q => ⟨(r2 q).1, by have := (r2 q).2.1; omega, (r2 q).2.2.1, (r2 q).2.2.2⟩⟩
  · rw [if_neg c1] at h8 hc
    by_cases c2 : tx sa = 101
    · rw [if_pos c2] at h8 hc
      obtain ⟨a0, a1, a2, a3, ea⟩ := bEx4 (s_takesOne8_0 le (sa + 1) rd tx td 200 999)
      rw [ea] at h8
      dsimp only at h8
      obtain ⟨b0, b1, b2, eb⟩ := bEx3 (s_readEnd xn (nI (sa + 1)) xc)
      rw [eb] at hc
      dsimp only at hc
      obtain ⟨r1, r2⟩ := one_0 h (by omega) hL ea eb
      simp only [Prod.mk.injEq] at h8 hc
      obtain ⟨j1, j2, j3, j4⟩ := h8
      obtain ⟨i1, i2, i3, i4, i5, i6, i7, i8, i9, i10, i11, i12, i13⟩ := hc
      subst j1 j2 j3 j4 i1 i2 i3 i4 i5 i6 i7 i8 i9 i10 i11 i12 i13
      exact ⟨r1, fun q => ⟨(r2 q).1, by have := (r2 q).2.1; omega, (r2 q).2.2.1, (r2 q).2.2.2⟩⟩
    · rw [if_neg c2] at h8 hc
      by_cases c3 : tx sa = 103
      · rw [if_pos c3] at h8 hc
        obtain ⟨a0, a1, a2, a3, ea⟩ := bEx4 (s_takesOne8_1 le (sa + 1) rd tx td 10 99)
        rw [ea] at h8
        dsimp only at h8
        obtain ⟨b0, b1, b2, eb⟩ := bEx3 (s_readGap xn (nI (sa + 1)) xc)
        rw [eb] at hc
        dsimp only at hc
        obtain ⟨r1, r2⟩ := one_1 h (by omega) hL ea eb
        simp only [Prod.mk.injEq] at h8 hc
        obtain ⟨j1, j2, j3, j4⟩ := h8
        obtain ⟨i1, i2, i3, i4, i5, i6, i7, i8, i9, i10, i11, i12, i13⟩ := hc
        subst j1 j2 j3 j4 i1 i2 i3 i4 i5 i6 i7 i8 i9 i10 i11 i12 i13
        exact ⟨r1, fun q => ⟨(r2 q).1, by have := (r2 q).2.1; omega, (r2 q).2.2.1, (r2 q).2.2.2⟩⟩
      · rw [if_neg c3] at h8 hc
        by_cases c4 : tx sa = 107
        · rw [if_pos c4] at h8 hc
          obtain ⟨a0, a1, a2, a3, ea⟩ := bEx4 (s_takesMost8 le (sa + 1) rd tx td)
          rw [ea] at h8
          dsimp only at h8
          obtain ⟨b0, b1, b2, b3, b4, eb⟩ := bEx5 (s_readDrive xn (nI (sa + 1)) xc)
          rw [eb] at hc
          dsimp only at hc
          obtain ⟨r1, r2⟩ := most_R h (by omega) hL ea eb
          simp only [Prod.mk.injEq] at h8 hc
          obtain ⟨j1, j2, j3, j4⟩ := h8
          obtain ⟨i1, i2, i3, i4, i5, i6, i7, i8, i9, i10, i11, i12, i13⟩ := hc
          subst j1 j2 j3 j4 i1 i2 i3 i4 i5 i6 i7 i8 i9 i10 i11 i12 i13
          exact ⟨r1, fun q => ⟨(r2 q).1, by have := (r2 q).2.1; omega, (r2 q).2.2.1, (r2 q).2.2.2⟩⟩
        · rw [if_neg c4] at h8 hc
          have e1 := (Prod.mk.inj h8).1
          have e2 := (Prod.mk.inj hc).1
          rw [← e1, ← e2]
          exact ⟨rfl, fun q => by cases q⟩
theorem begins_G {rd A : Nat → Int32} : ∀ (n j : Nat) (rg : Nat → Int32), 516 ≤ j + n → j ≤ 515 → (∀ i, i < j → rg i = 0) → g_begins8 n j rg = (A, ()) → LyR A 600 40 2 12 6 100 30 0 500 30 0 := by
  intro n
  induction n with
  | zero => intro j rg h1 h2; omega
  | succ n ih =>
    intro j rg h1 h2 h3 h
    rw [g_begins8] at h
    by_cases c1 : 515 ≤ nI j
    · rw [if_pos c1] at h
      have c2 : 515 ≤ j := Nat.le_of_not_lt fun q => nI_ge q (by decide) c1
      have hz : ∀ i, i < 515 → rg i = 0 := fun i hi => h3 i (by omega)
      unfold s_puts8_0 s_puts8_1 at h
      dsimp only at h
      have h9 := (Prod.mk.inj h).1
      subst h9
      have n : ∀ i, i < 515 → i ≠ 0 → i ≠ 1 → i ≠ 2 → i ≠ 3 → i ≠ 4 → i ≠ 5 → i ≠ 7 → i ≠ 9 → i ≠ 10 → i ≠ 14 → i ≠ 20 → i ≠ 22 → i ≠ 23 → i ≠ 27 → upd (upd (upd (upd (upd (upd (upd (upd (upd (upd (upd (upd (upd (upd rg 0 600) 1 40) 2 2) 3 12) 4 6) 5 (-4)) 7 100) 9 30) 10 0) 14 30) 20 500) 22 30) 23 0) 27 30 i = 0 := by
        intro i hi a0 a1 a2 a3 a4 a5 a7 a9 a10 a14 a20 a22 a23 a27
        rw [upd_ne a27, upd_ne a23, upd_ne a22, upd_ne a20, upd_ne a14, upd_ne a10, upd_ne a9, upd_ne a7, upd_ne a5, upd_ne a4, upd_ne a3, upd_ne a2, upd_ne a1, upd_ne a0]
        exact hz i hi
      refine ⟨⟨rfl, rfl, rfl, rfl, rfl, rfl⟩, ⟨rfl, rfl, rfl, rfl⟩, ⟨rfl, rfl, rfl, rfl⟩, ?_, by decide, by decide, by decide, by decide, by decide, by decide, by decide⟩
      intro i hi hq
      exact n i hi (by omega) (by omega) (by omega) (by omega) (by omega) (by omega) (by omega) (by omega) (by omega) (by omega) (by omega) (by omega) (by omega) (by omega)
    · rw [if_neg c1] at h
      have c2 := bNle (k := 515) rfl (by omega) (by decide) c1
      refine ih (j + 1) _ (by omega) (by omega) ?_ h
      intro i hi
      by_cases q : i = j
      · subst q; exact upd_eq
      · rw [upd_ne q]; exact h3 i (by omega)
theorem reads_G {k : Nat} {xn le p res res8 sp8 v0 v1 v2 v3 v4 u0 u1 u2 u3 u4 u5 : Int32} {xc tx rd' td' : Nat → Int32} (h : TxR k xn le xc tx) : ∀ (n n8 j si : Nat) (rg tg : Nat → Int32) (z0 z1 z2 z3 z4 x0 x1 x2 y0 y1 y2 : Int32), 201 ≤ j + n → 222 ≤ si + n8 → j ≤ si → si ≤ k → j ≤ 200 → LyR rg z0 z1 z2 z3 z4 x0 x1 x2 y0 y1 y2 → g_readInto xn xc n j (nI si) z0 z1 z2 z3 z4 x0 x1 x2 y0 y1 y2 = (res, p, v0, v1, v2, v3, v4, u0, u1, u2, u3, u4, u5) → g_reads8 le tx n8 si rg tg = (res8, sp8, rd', td') → res = res8 ∧ (res = (-4) → LyR rd' v0 v1 v2 v3 v4 u0 u1 u2 u3 u4 u5) := by
  have hk : k ≤ 200 := h.1
  intro n
  induction n with
  | zero => intro n8 j si rg tg z0 z1 z2 z3 z4 x0 x1 x2 y0 y1 y2 h1 h2 h3 h4 h5; omega
  | succ n ih =>
    intro n8 j si rg tg z0 z1 z2 z3 z4 x0 x1 x2 y0 y1 y2 h1 h2 h3 h4 h5 hL hc h8
    obtain ⟨n8, rfl⟩ : ∃ q, n8 = q + 1 := ⟨n8 - 1, by omega⟩
    rw [g_readInto] at hc
    rw [g_reads8] at h8
    have hle : le = nI k := h.2.2.1
    have hxn : xn = nI k := h.2.1
    by_cases c1 : si = k
    · have d1 : le ≤ nI si := by rw [hle, c1, leI]; omega
      have d2 : xn ≤ nI si := by rw [hxn, c1, leI]; omega
      rw [if_pos d1] at h8
      simp only [if_pos d2, ite_self] at hc
      simp only [Prod.mk.injEq] at hc h8
      obtain ⟨j1, j2, j3, j4⟩ := h8
      obtain ⟨i1, i2, i3, i4, i5, i6, i7, i8, i9, i10, i11, i12, i13⟩ := hc
      subst j1 j3 i1 i3 i4 i5 i6 i7 i8 i9 i10 i11 i12 i13
      exact ⟨rfl, fun _ => hL⟩
    · rw [if_neg (by rw [hle, leI, nIt (by omega), nIt (by omega)]; omega)] at h8
      rw [if_neg (by rw [leI, nIt (by omega), show (200 : Int32).toInt = 200 by decide]; omega), if_neg (by rw [hxn, leI, nIt (by omega), nIt (by omega)]; omega)] at hc
      obtain ⟨a0, a1, a2, a3, ea⟩ := bEx4 (s_takesItem8 le si rg tx tg)
      rw [ea] at h8
      dsimp only at h8
      obtain ⟨b0, b1, b2, b3, b4, b5, b6, b7, b8, b9, b10, b11, b12, eb⟩ := bEx13 (s_readItem xn (nI si) xc z0 z1 z2 z3 z4 x0 x1 x2 y0 y1 y2)
      rw [eb] at hc
      dsimp only at hc
      obtain ⟨r1, r2⟩ := item_R h (by omega) hL ea eb
      by_cases c2 : b0 = true
      · rw [if_pos c2] at hc
        rw [if_pos (r1.symm.trans c2)] at h8
        obtain ⟨s1, s2, s3, s4⟩ := r2 c2
        subst s1
        exact ih n8 (j + 1) a1 a2 a3 b2 b3 b4 b5 b6 b7 b8 b9 b10 b11 b12 (by omega) (by omega) (by omega) s3 (by omega) s4 hc h8
      · rw [if_neg c2] at hc
        rw [if_neg (fun q => c2 (r1.trans q))] at h8
        have e1 := (Prod.mk.inj hc).1
        have e2 := (Prod.mk.inj h8).1
        rw [← e1, ← e2]
        refine ⟨rfl, fun q => ?_⟩
        have := congrArg Int32.toInt q
        rw [nIt (by omega), show (-4 : Int32).toInt = -4 by decide] at this
        omega
/-- the text read: one answer, and where it is well one layout -/
theorem reads_R {k : Nat} {xn le p res res8 sp8 v0 v1 v2 v3 v4 u0 u1 u2 u3 u4 u5 : Int32} {xc tx rd td rd' td' : Nat → Int32} (h : TxR k xn le xc tx) (hc : s_readInto xn xc = (res, p, v0, v1, v2, v3, v4, u0, u1, u2, u3, u4, u5)) (h8 : s_reads8 le rd tx td = (res8, sp8, rd', td')) : res = res8 ∧ (res = (-4) → LyR rd' v0 v1 v2 v3 v4 u0 u1 u2 u3 u4 u5) := by
  unfold s_readInto at hc
  unfold s_reads8 s_begins8 at h8
  obtain ⟨A, eA⟩ := bEx1 (g_begins8 516 0 rd)
  rw [eA] at h8
  dsimp only at h8
  have hL := begins_G (rd := rd) 516 0 rd (by omega) (by omega) (fun i hi => by omega) eA
  exact reads_G h 201 222 0 0 A td 600 40 2 12 6 100 30 0 500 30 0 (by omega) (by omega) (by omega) (by omega) (by omega) hL hc h8
