/-! reading a text that was put together of items -/
theorem letter_p {N p : Nat} {xc : Nat → Int32} (hp : p < N) (hN : N ≤ 200) : s_letterAt (nI N) xc (nI p) = xc p := by
  unfold s_letterAt
  rw [if_neg (by rw [ltI, zI, nIt (by omega)]; omega), if_neg (by rw [leI, nIt (by omega), nIt (by omega)]; omega), if_pos (by rw [ltI, nIt (by omega), show (200 : Int32).toInt = 200 by decide]; omega), nI_clamp (by omega)]
theorem letter_j {Z T1 R : List Int32} {j : Nat} {x : Int32} (hZ : Z = T1 ++ R) (hj : R[j]? = some x) (hl : Z.length ≤ 200) : s_letterAt (nI Z.length) (fun i => Z.getD i 0) (nI (T1.length + j)) = x := by
  have hjl : j < R.length := (List.getElem?_eq_some_iff.mp hj).1
  have hzl : Z.length = T1.length + R.length := by rw [hZ, List.length_append]
  rw [letter_p (by omega) hl, List.getD_eq_getElem?_getD, hZ, List.getElem?_append_right (by omega), show T1.length + j - T1.length = j by omega, hj]
  rfl
theorem step_digit {xn : Int32} {xc : Nat → Int32} {mk d nu : Int32} {n j q : Nat} (hq : q ≤ 900) (hj : j < 3) (hd : 48 ≤ d.toInt ∧ d.toInt ≤ 57) (hl : s_letterAt xn xc (nI q) = d) : g_readNumber xn xc mk (n + 1) j nu (nI q) = g_readNumber xn xc mk n (j + 1) (((10 * nu) + d) - 48) (nI (q + 1)) := by
  rw [g_readNumber, if_neg (by rw [leI, nIt (by omega), show (3 : Int32).toInt = 3 by decide]; omega), hl, if_pos (isWithin_y (by rw [show (48 : Int32).toInt = 48 by decide]; exact hd.1) (by rw [show (57 : Int32).toInt = 57 by decide]; exact hd.2)), nI1 (by omega)]
theorem step_mark {xn : Int32} {xc : Nat → Int32} {mk nu : Int32} {n j q : Nat} (hq : q ≤ 900) (hj : 1 ≤ j ∧ j ≤ 3) (hm : ¬ s_isWithin mk 48 57 = true) (hl : s_letterAt xn xc (nI q) = mk) : g_readNumber xn xc mk (n + 1) j nu (nI q) = (nu, nI (q + 1)) := by
  have h0 : ¬ (nI j ≤ 0) := by rw [leI, nIt (by omega), zI]; omega
  rw [g_readNumber, hl]
  by_cases c : (3 : Int32) ≤ nI j
  · rw [if_pos c, if_pos rfl, if_neg h0, nI1 (by omega)]
  · rw [if_neg c, if_neg hm, if_pos rfl, if_neg h0, nI1 (by omega)]
theorem dval_fin : ∀ k : Nat, k < 1000 → (nI k ≤ 9 → ((10 * 0) + (48 + (nI k - nI k / 10 * 10))) - 48 = nI k) ∧ (nI k ≤ 99 → ((10 * (((10 * 0) + (48 + (nI k / 10 - nI k / 10 / 10 * 10))) - 48)) + (48 + (nI k - nI k / 10 * 10))) - 48 = nI k) ∧ ((10 * (((10 * (((10 * 0) + (48 + nI k / 100)) - 48)) + (48 + (nI k / 10 - nI k / 10 / 10 * 10))) - 48)) + (48 + (nI k - nI k / 10 * 10))) - 48 = nI k := by decide +kernel
theorem num_ok {Z T1 M : List Int32} {v mk : Int32} (hv : 0 ≤ v.toInt ∧ v.toInt ≤ 999) (hm : ¬ s_isWithin mk 48 57 = true) (hZ : Z = T1 ++ dg v ++ [mk] ++ M) (hl : Z.length ≤ 200) : s_readNumber (nI Z.length) (nI T1.length) (fun i => Z.getD i 0) mk = (v, nI (T1 ++ dg v ++ [mk]).length) := by
  have hb := dg_b hv
  have e := asNI (v := v) (by omega)
  have hd := dval_fin v.toInt.toNat (by omega)
  rw [← e] at hd
  obtain ⟨-, b1, b2, b3⟩ := hb
  obtain ⟨d1, d2, d3⟩ := hd
  have hT : T1.length ≤ 200 := by
    have hzl := congrArg List.length hZ
    simp only [List.length_append] at hzl
    omega
  unfold s_readNumber
  by_cases c1 : v ≤ 9
  · have c2 : v ≤ 99 := by rw [leI, show (9 : Int32).toInt = 9 by decide] at c1; rw [leI, show (99 : Int32).toInt = 99 by decide]; omega
    have eD : dg v = [48 + (v - v / 10 * 10)] := by unfold dg; rw [if_pos c1, if_pos c2]; rfl
    have hZ2 : Z = T1 ++ ((48 + (v - v / 10 * 10)) :: mk :: M) := by rw [hZ, eD]; simp only [List.append_assoc, List.cons_append, List.nil_append]
    rw [step_digit (by omega) (by omega) b3 (by have := letter_j (j := 0) hZ2 rfl hl; exact this), step_mark (by omega) (by omega) hm (letter_j (j := 1) hZ2 rfl hl), d1 c1, eD]
    simp only [List.length_append, List.length_cons, List.length_nil]
  · by_cases c2 : v ≤ 99
    · have eD : dg v = [48 + (v / 10 - v / 10 / 10 * 10), 48 + (v - v / 10 * 10)] := by unfold dg; rw [if_neg c1, if_pos c2]; rfl
      have hZ2 : Z = T1 ++ ((48 + (v / 10 - v / 10 / 10 * 10)) :: (48 + (v - v / 10 * 10)) :: mk :: M) := by rw [hZ, eD]; simp only [List.append_assoc, List.cons_append, List.nil_append]
      rw [step_digit (by omega) (by omega) b2 (by have := letter_j (j := 0) hZ2 rfl hl; exact this), step_digit (by omega) (by omega) b3 (letter_j (j := 1) hZ2 rfl hl), step_mark (by omega) (by omega) hm (letter_j (j := 2) hZ2 rfl hl), d2 c2, eD]
      simp only [List.length_append, List.length_cons, List.length_nil]
    · have eD : dg v = [48 + v / 100, 48 + (v / 10 - v / 10 / 10 * 10), 48 + (v - v / 10 * 10)] := by unfold dg; rw [if_neg c1, if_neg c2]; rfl
      have hZ2 : Z = T1 ++ ((48 + v / 100) :: (48 + (v / 10 - v / 10 / 10 * 10)) :: (48 + (v - v / 10 * 10)) :: mk :: M) := by rw [hZ, eD]; simp only [List.append_assoc, List.cons_append, List.nil_append]
      rw [step_digit (by omega) (by omega) b1 (by have := letter_j (j := 0) hZ2 rfl hl; exact this), step_digit (by omega) (by omega) b2 (letter_j (j := 1) hZ2 rfl hl), step_digit (by omega) (by omega) b3 (letter_j (j := 2) hZ2 rfl hl), step_mark (by omega) (by omega) hm (letter_j (j := 3) hZ2 rfl hl), d3, eD]
      simp only [List.length_append, List.length_cons, List.length_nil]
/-- the text so far reads as k items that tell this -/
def PRd (T : List Int32) (k : Nat) (z0 z1 z2 z3 z4 a0 a1 a2 b0 b1 b2 : Int32) : Prop := k ≤ 100 ∧ ∀ M : List Int32, (T ++ M).length ≤ 200 → g_readInto (nI (T ++ M).length) (fun i => (T ++ M).getD i 0) 201 0 0 600 40 2 12 6 100 30 0 500 30 0 = g_readInto (nI (T ++ M).length) (fun i => (T ++ M).getD i 0) (201 - k) k (nI T.length) z0 z1 z2 z3 z4 a0 a1 a2 b0 b1 b2
theorem PRd_0 : PRd [] 0 600 40 2 12 6 100 30 0 500 30 0 := ⟨by omega, fun M _ => rfl⟩
theorem PRd_s {T I : List Int32} {k : Nat} {z0 z1 z2 z3 z4 a0 a1 a2 b0 b1 b2 y0 y1 y2 y3 y4 c0 c1 c2 d0 d1 d2 : Int32} (h : PRd T k z0 z1 z2 z3 z4 a0 a1 a2 b0 b1 b2) (hk : k ≤ 90) (hI : 1 ≤ I.length) (hr : ∀ M : List Int32, (T ++ I ++ M).length ≤ 200 → s_readItem (nI (T ++ I ++ M).length) (nI T.length) (fun i => (T ++ I ++ M).getD i 0) z0 z1 z2 z3 z4 a0 a1 a2 b0 b1 b2 = (true, nI (T ++ I).length, y0, y1, y2, y3, y4, c0, c1, c2, d0, d1, d2)) : PRd (T ++ I) (k + 1) y0 y1 y2 y3 y4 c0 c1 c2 d0 d1 d2 := by
  obtain ⟨h1, h2⟩ := h
  refine ⟨by omega, fun M hM => ?_⟩
  have e := h2 (I ++ M) (by rw [← List.append_assoc]; exact hM)
  rw [← List.append_assoc] at e
  rw [e]
  have hr' := hr M hM
  have hlen : (T ++ I ++ M).length = T.length + I.length + M.length := by rw [List.length_append, List.length_append]
  rw [show 201 - k = (201 - (k + 1)) + 1 by omega, g_readInto, if_neg (by rw [leI, nIt (by omega), show (200 : Int32).toInt = 200 by decide]; omega), if_neg (by rw [leI, nIt (by omega), nIt (by omega)]; omega), hr']
  dsimp only
  rw [if_pos rfl]
theorem PRd_e {T : List Int32} {k : Nat} {z0 z1 z2 z3 z4 a0 a1 a2 b0 b1 b2 : Int32} (h : PRd T k z0 z1 z2 z3 z4 a0 a1 a2 b0 b1 b2) (hl : T.length ≤ 200) : RD T = (-4, nI T.length, z0, z1, z2, z3, z4, a0, a1, a2, b0, b1, b2) := by
  obtain ⟨h1, h2⟩ := h
  have e := h2 [] (by rw [List.append_nil]; exact hl)
  rw [List.append_nil] at e
  unfold RD s_readInto
  rw [e, show 201 - k = (201 - (k + 1)) + 1 by omega, g_readInto, if_neg (by rw [leI, nIt (by omega), show (200 : Int32).toInt = 200 by decide]; omega), if_pos (by rw [leI]; omega)]
theorem letter_h {T I M : List Int32} {c : Int32} {R : List Int32} (hI : I = c :: R) (hl : (T ++ I ++ M).length ≤ 200) : s_letterAt (nI (T ++ I ++ M).length) (fun i => (T ++ I ++ M).getD i 0) (nI T.length) = c :=
  letter_j (j := 0) (R := I ++ M) (by rw [List.append_assoc]) (by rw [hI]; rfl) hl
theorem m59 : ¬ s_isWithin 59 48 57 = true := by decide
theorem m44 : ¬ s_isWithin 44 48 57 = true := by decide
theorem nextP {T : List Int32} {c : Int32} (h : T.length ≤ 800) : nI T.length + 1 = nI (T ++ [c]).length := by rw [nI1 (by omega), List.length_append]; rfl
theorem wy {v lo hi : Int32} {a b : Int} (ha : lo.toInt = a) (hb : hi.toInt = b) (h : a ≤ v.toInt ∧ v.toInt ≤ b) : s_isWithin v lo hi = true := isWithin_y (by omega) (by omega)
theorem PRd_end {T : List Int32} {k : Nat} {z0 z1 z2 z3 z4 a0 a1 a2 b0 b1 b2 v : Int32} (h : PRd T k z0 z1 z2 z3 z4 a0 a1 a2 b0 b1 b2) (hk : k ≤ 90) (hT : T.length ≤ 190) (hv : 200 ≤ v.toInt ∧ v.toInt ≤ 999) : PRd (T ++ [101] ++ dg v ++ [59]) (k + 1) v z1 z2 z3 z4 a0 a1 a2 b0 b1 b2 := by
  have e : T ++ [101] ++ dg v ++ [59] = T ++ ([101] ++ dg v ++ [59]) := by simp only [List.append_assoc]
  rw [e]
  refine PRd_s h hk (by simp) (fun M hM => ?_)
  have n1 := num_ok (Z := T ++ ([101] ++ dg v ++ [59]) ++ M) (T1 := T ++ [101]) (M := M) (v := v) (mk := 59) (by omega) m59 (by simp only [List.append_assoc]) hM
  unfold s_readItem
  rw [letter_h (T := T) (I := [101] ++ dg v ++ [59]) (M := M) (c := 101) (R := dg v ++ [59]) rfl hM, if_neg (by decide), if_pos rfl, nextP (c := 101) (by omega)]
  unfold s_readEnd
  rw [n1]
  dsimp only
  rw [wy (v := v) (lo := 200) (hi := 999) rfl rfl hv]
  simp only [List.append_assoc]
theorem PRd_gap {T : List Int32} {k : Nat} {z0 z1 z2 z3 z4 a0 a1 a2 b0 b1 b2 v : Int32} (h : PRd T k z0 z1 z2 z3 z4 a0 a1 a2 b0 b1 b2) (hk : k ≤ 90) (hT : T.length ≤ 190) (hv : 10 ≤ v.toInt ∧ v.toInt ≤ 99) : PRd (T ++ [103] ++ dg v ++ [59]) (k + 1) z0 v z2 z3 z4 a0 a1 a2 b0 b1 b2 := by
  have e : T ++ [103] ++ dg v ++ [59] = T ++ ([103] ++ dg v ++ [59]) := by simp only [List.append_assoc]
  rw [e]
  refine PRd_s h hk (by simp) (fun M hM => ?_)
  have n1 := num_ok (Z := T ++ ([103] ++ dg v ++ [59]) ++ M) (T1 := T ++ [103]) (M := M) (v := v) (mk := 59) (by omega) m59 (by simp only [List.append_assoc]) hM
  unfold s_readItem
  rw [letter_h (T := T) (I := [103] ++ dg v ++ [59]) (M := M) (c := 103) (R := dg v ++ [59]) rfl hM, if_neg (by decide), if_neg (by decide), if_pos rfl, nextP (c := 103) (by omega)]
  unfold s_readGap
  rw [n1]
  dsimp only
  rw [wy (v := v) (lo := 10) (hi := 99) rfl rfl hv]
  simp only [List.append_assoc]
theorem PRd_drive {T : List Int32} {k : Nat} {z0 z1 z2 z3 z4 a0 a1 a2 b0 b1 b2 u v w : Int32} (h : PRd T k z0 z1 z2 z3 z4 a0 a1 a2 b0 b1 b2) (hk : k ≤ 90) (hT : T.length ≤ 180) (hu : 1 ≤ u.toInt ∧ u.toInt ≤ 9) (hv : 1 ≤ v.toInt ∧ v.toInt ≤ 40) (hw : 0 ≤ w.toInt ∧ w.toInt ≤ 40) : PRd (T ++ [107] ++ dg u ++ [44] ++ dg v ++ [44] ++ dg w ++ [59]) (k + 1) z0 z1 u v w a0 a1 a2 b0 b1 b2 := by
  have e : T ++ [107] ++ dg u ++ [44] ++ dg v ++ [44] ++ dg w ++ [59] = T ++ ([107] ++ dg u ++ [44] ++ dg v ++ [44] ++ dg w ++ [59]) := by simp only [List.append_assoc]
  rw [e]
  refine PRd_s h hk (by simp) (fun M hM => ?_)
  have n1 := num_ok (Z := T ++ ([107] ++ dg u ++ [44] ++ dg v ++ [44] ++ dg w ++ [59]) ++ M) (T1 := T ++ [107]) (M := dg v ++ [44] ++ dg w ++ [59] ++ M) (v := u) (mk := 44) (by omega) m44 (by simp only [List.append_assoc]) hM
  have n2 := num_ok (Z := T ++ ([107] ++ dg u ++ [44] ++ dg v ++ [44] ++ dg w ++ [59]) ++ M) (T1 := T ++ [107] ++ dg u ++ [44]) (M := dg w ++ [59] ++ M) (v := v) (mk := 44) (by omega) m44 (by simp only [List.append_assoc]) hM
  have n3 := num_ok (Z := T ++ ([107] ++ dg u ++ [44] ++ dg v ++ [44] ++ dg w ++ [59]) ++ M) (T1 := T ++ [107] ++ dg u ++ [44] ++ dg v ++ [44]) (M := M) (v := w) (mk := 59) (by omega) m59 (by simp only [List.append_assoc]) hM
  unfold s_readItem
  rw [letter_h (T := T) (I := [107] ++ dg u ++ [44] ++ dg v ++ [44] ++ dg w ++ [59]) (M := M) (c := 107) (R := dg u ++ [44] ++ dg v ++ [44] ++ dg w ++ [59]) rfl hM, if_neg (by decide), if_neg (by decide), if_neg (by decide), if_pos rfl, nextP (c := 107) (by omega)]
  unfold s_readDrive
  rw [n1]
  dsimp only
  rw [n2]
  dsimp only
  rw [n3]
  dsimp only
  rw [if_pos (wy (v := u) (lo := 1) (hi := 9) rfl rfl hu), if_pos (wy (v := v) (lo := 1) (hi := 40) rfl rfl hv), if_pos (wy (v := w) (lo := 0) (hi := 40) rfl rfl hw)]
  simp only [List.append_assoc]
theorem PRd_left {T : List Int32} {k : Nat} {z0 z1 z2 z3 z4 a0 a1 a2 b0 b1 b2 u v w : Int32} (h : PRd T k z0 z1 z2 z3 z4 a0 a1 a2 b0 b1 b2) (hk : k ≤ 90) (hT : T.length ≤ 180) (hu : 0 ≤ u.toInt ∧ u.toInt ≤ 999) (hv : 10 ≤ v.toInt ∧ v.toInt ≤ 60) (hw : 0 ≤ w.toInt ∧ w.toInt ≤ 99) : PRd (T ++ [99] ++ dg 0 ++ [44] ++ dg u ++ [44] ++ dg v ++ [44] ++ dg w ++ [59]) (k + 1) z0 z1 z2 z3 z4 u v w b0 b1 b2 := by
  have e : T ++ [99] ++ dg 0 ++ [44] ++ dg u ++ [44] ++ dg v ++ [44] ++ dg w ++ [59] = T ++ ([99] ++ dg 0 ++ [44] ++ dg u ++ [44] ++ dg v ++ [44] ++ dg w ++ [59]) := by simp only [List.append_assoc]
  rw [e]
  refine PRd_s h hk (by simp) (fun M hM => ?_)
  have n0 := num_ok (Z := T ++ ([99] ++ dg 0 ++ [44] ++ dg u ++ [44] ++ dg v ++ [44] ++ dg w ++ [59]) ++ M) (T1 := T ++ [99]) (M := dg u ++ [44] ++ dg v ++ [44] ++ dg w ++ [59] ++ M) (v := 0) (mk := 44) (by decide) m44 (by simp only [List.append_assoc]) hM
  have n1 := num_ok (Z := T ++ ([99] ++ dg 0 ++ [44] ++ dg u ++ [44] ++ dg v ++ [44] ++ dg w ++ [59]) ++ M) (T1 := T ++ [99] ++ dg 0 ++ [44]) (M := dg v ++ [44] ++ dg w ++ [59] ++ M) (v := u) (mk := 44) (by omega) m44 (by simp only [List.append_assoc]) hM
  have n2 := num_ok (Z := T ++ ([99] ++ dg 0 ++ [44] ++ dg u ++ [44] ++ dg v ++ [44] ++ dg w ++ [59]) ++ M) (T1 := T ++ [99] ++ dg 0 ++ [44] ++ dg u ++ [44]) (M := dg w ++ [59] ++ M) (v := v) (mk := 44) (by omega) m44 (by simp only [List.append_assoc]) hM
  have n3 := num_ok (Z := T ++ ([99] ++ dg 0 ++ [44] ++ dg u ++ [44] ++ dg v ++ [44] ++ dg w ++ [59]) ++ M) (T1 := T ++ [99] ++ dg 0 ++ [44] ++ dg u ++ [44] ++ dg v ++ [44]) (M := M) (v := w) (mk := 59) (by omega) m59 (by simp only [List.append_assoc]) hM
  unfold s_readItem
  rw [letter_h (T := T) (I := [99] ++ dg 0 ++ [44] ++ dg u ++ [44] ++ dg v ++ [44] ++ dg w ++ [59]) (M := M) (c := 99) (R := dg 0 ++ [44] ++ dg u ++ [44] ++ dg v ++ [44] ++ dg w ++ [59]) rfl hM, if_pos rfl, nextP (c := 99) (by omega)]
  unfold s_readStart
  rw [n0]
  dsimp only
  rw [if_pos (show s_isCrane 0 = true by decide), if_pos rfl, n1]
  dsimp only
  rw [n2]
  dsimp only
  rw [n3]
  dsimp only
  rw [if_pos (wy (v := u) (lo := 0) (hi := 999) rfl rfl hu), if_pos (isRope_iff.mpr hv), if_pos (wy (v := w) (lo := 0) (hi := 99) rfl rfl hw)]
  simp only [List.append_assoc]
theorem PRd_right {T : List Int32} {k : Nat} {z0 z1 z2 z3 z4 a0 a1 a2 b0 b1 b2 u v w : Int32} (h : PRd T k z0 z1 z2 z3 z4 a0 a1 a2 b0 b1 b2) (hk : k ≤ 90) (hT : T.length ≤ 180) (hu : 0 ≤ u.toInt ∧ u.toInt ≤ 999) (hv : 10 ≤ v.toInt ∧ v.toInt ≤ 60) (hw : 0 ≤ w.toInt ∧ w.toInt ≤ 99) : PRd (T ++ [99] ++ dg 1 ++ [44] ++ dg u ++ [44] ++ dg v ++ [44] ++ dg w ++ [59]) (k + 1) z0 z1 z2 z3 z4 a0 a1 a2 u v w := by
  have e : T ++ [99] ++ dg 1 ++ [44] ++ dg u ++ [44] ++ dg v ++ [44] ++ dg w ++ [59] = T ++ ([99] ++ dg 1 ++ [44] ++ dg u ++ [44] ++ dg v ++ [44] ++ dg w ++ [59]) := by simp only [List.append_assoc]
  rw [e]
  refine PRd_s h hk (by simp) (fun M hM => ?_)
  have n0 := num_ok (Z := T ++ ([99] ++ dg 1 ++ [44] ++ dg u ++ [44] ++ dg v ++ [44] ++ dg w ++ [59]) ++ M) (T1 := T ++ [99]) (M := dg u ++ [44] ++ dg v ++ [44] ++ dg w ++ [59] ++ M) (v := 1) (mk := 44) (by decide) m44 (by simp only [List.append_assoc]) hM
  have n1 := num_ok (Z := T ++ ([99] ++ dg 1 ++ [44] ++ dg u ++ [44] ++ dg v ++ [44] ++ dg w ++ [59]) ++ M) (T1 := T ++ [99] ++ dg 1 ++ [44]) (M := dg v ++ [44] ++ dg w ++ [59] ++ M) (v := u) (mk := 44) (by omega) m44 (by simp only [List.append_assoc]) hM
  have n2 := num_ok (Z := T ++ ([99] ++ dg 1 ++ [44] ++ dg u ++ [44] ++ dg v ++ [44] ++ dg w ++ [59]) ++ M) (T1 := T ++ [99] ++ dg 1 ++ [44] ++ dg u ++ [44]) (M := dg w ++ [59] ++ M) (v := v) (mk := 44) (by omega) m44 (by simp only [List.append_assoc]) hM
  have n3 := num_ok (Z := T ++ ([99] ++ dg 1 ++ [44] ++ dg u ++ [44] ++ dg v ++ [44] ++ dg w ++ [59]) ++ M) (T1 := T ++ [99] ++ dg 1 ++ [44] ++ dg u ++ [44] ++ dg v ++ [44]) (M := M) (v := w) (mk := 59) (by omega) m59 (by simp only [List.append_assoc]) hM
  unfold s_readItem
  rw [letter_h (T := T) (I := [99] ++ dg 1 ++ [44] ++ dg u ++ [44] ++ dg v ++ [44] ++ dg w ++ [59]) (M := M) (c := 99) (R := dg 1 ++ [44] ++ dg u ++ [44] ++ dg v ++ [44] ++ dg w ++ [59]) rfl hM, if_pos rfl, nextP (c := 99) (by omega)]
  unfold s_readStart
  rw [n0]
  dsimp only
  rw [if_pos (show s_isCrane 1 = true by decide), if_neg (by decide), n1]
  dsimp only
  rw [n2]
  dsimp only
  rw [n3]
  dsimp only
  rw [if_pos (wy (v := u) (lo := 0) (hi := 999) rfl rfl hu), if_pos (isRope_iff.mpr hv), if_pos (wy (v := w) (lo := 0) (hi := 99) rfl rfl hw)]
  simp only [List.append_assoc]
