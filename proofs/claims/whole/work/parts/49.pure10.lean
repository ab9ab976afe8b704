/-! SPOTS: the class's two rows against the reference's one -/
theorem pigeon : ∀ (m n : Nat) (f : Nat → Nat), (∀ k, k < n → f k < m) → (∀ j k, j < k → k < n → f j ≠ f k) → n ≤ m := by
  intro m
  induction m with
  | zero =>
    intro n f h1 _
    rcases Nat.eq_zero_or_pos n with q | q
    · omega
    · have := h1 0 q; omega
  | succ m ih =>
    intro n f h1 h2
    cases n with
    | zero => omega
    | succ n =>
      refine Nat.succ_le_succ (ih n (fun k => if f k = m then f n else f k) ?_ ?_)
      · intro k hk
        show (if f k = m then f n else f k) < m
        have a1 := h1 k (by omega)
        have a2 := h1 n (by omega)
        have a3 := h2 k n hk (by omega)
        split <;> omega
      · intro j k hj hk
        show (if f j = m then f n else f j) ≠ (if f k = m then f n else f k)
        have a1 := h2 j n (by omega) (by omega)
        have a2 := h2 k n (by omega) (by omega)
        have a3 := h2 j k hj (by omega)
        split <;> split <;> omega
/-- the name of a spot -/
def spCode (c : Int32) : Prop := 0 ≤ c.toInt ∧ c.toInt / 100 < 20 ∧ 1 ≤ c.toInt % 100 ∧ c.toInt % 100 ≤ 6
def spIx (c : Int32) : Nat := ((c.toInt / 100) * 6 + (c.toInt % 100 - 1)).toNat
theorem spIx_lt {c : Int32} (h : spCode c) : spIx c < 120 := by
  obtain ⟨h1, h2, h3, h4⟩ := h
  unfold spIx
  omega
theorem spIx_inj {c d : Int32} (h : spCode c) (k : spCode d) (e : spIx c = spIx d) : c = d := by
  obtain ⟨h1, h2, h3, h4⟩ := h
  obtain ⟨k1, k2, k3, k4⟩ := k
  unfold spIx at e
  rw [eqI]
  omega
/-- a crane's spots: the class's (many, names, ticks) and the reference's row from b on -/
def SpR (nw : Nat → Int32) (b mm : Nat) (am : Int32) (af ag : Nat → Int32) : Prop :=
  mm ≤ 120 ∧ am = nI mm ∧ nw b = nI mm ∧ (∀ k, k < mm → nw (k + (b + 1)) = af k ∧ nw (k + (b + 121)) = ag k) ∧ (∀ k, k < mm → spCode (af k)) ∧ (∀ j k, j < k → k < mm → af j ≠ af k)
theorem SpR_room {nw : Nat → Int32} {b mm : Nat} {am : Int32} {af ag : Nat → Int32} {c : Int32} (h : SpR nw b mm am af ag) (hc : spCode c) (hn : ∀ k, k < mm → af k ≠ c) : mm < 120 := by
  obtain ⟨h1, h2, h3, h4, h5, h6⟩ := h
  have hp := pigeon 120 (mm + 1) (fun k => spIx (if k < mm then af k else c)) ?_ ?_
  · omega
  · intro k hk
    show spIx (if k < mm then af k else c) < 120
    split
    · rename_i q; exact spIx_lt (h5 k q)
    · exact spIx_lt hc
  · intro j k hj hk
    show spIx (if j < mm then af j else c) ≠ spIx (if k < mm then af k else c)
    rw [if_pos (show j < mm by omega)]
    by_cases q : k < mm
    · rw [if_pos q]
      intro e
      exact h6 j k hj q (spIx_inj (h5 j (by omega)) (h5 k q) e)
    · rw [if_neg q]
      intro e
      exact hn j (by omega) (spIx_inj (h5 j (by omega)) hc e)
/-- looking a name up -/
def gIx (nw : Nat → Int32) (o mm : Nat) (cd : Int32) : Nat → Nat → Nat
  | 0, _ => 0
  | n + 1, j => if nI mm ≤ nI j then j else if nw (j + o) = cd then j else gIx nw o mm cd n (j + 1)
theorem gIx_0 (nw : Nat → Int32) (mm : Nat) (cd : Int32) : ∀ n j : Nat, g_spotIndex8_0 nw mm cd n j = gIx nw 34 mm cd n j := by
  intro n
  induction n with
  | zero => intro j; rfl
  | succ n ih => intro j; rw [g_spotIndex8_0, gIx, ih]
theorem gIx_1 (nw : Nat → Int32) (mm : Nat) (cd : Int32) : ∀ n j : Nat, g_spotIndex8_1 nw mm cd n j = gIx nw 275 mm cd n j := by
  intro n
  induction n with
  | zero => intro j; rfl
  | succ n ih => intro j; rw [g_spotIndex8_1, gIx, ih]
theorem six_0 (nw : Nat → Int32) (mm : Nat) (cd : Int32) : s_spotIndex8_0 nw mm cd = gIx nw 34 mm cd 121 0 := gIx_0 nw mm cd 121 0
theorem six_1 (nw : Nat → Int32) (mm : Nat) (cd : Int32) : s_spotIndex8_1 nw mm cd = gIx nw 275 mm cd 121 0 := gIx_1 nw mm cd 121 0
theorem gIx_p {nw : Nat → Int32} {o mm : Nat} {cd : Int32} (hm : mm ≤ 120) : ∀ n j : Nat, 121 ≤ j + n → j ≤ mm → (∀ i, i < j → nw (i + o) ≠ cd) → gIx nw o mm cd n j ≤ mm ∧ (gIx nw o mm cd n j < mm → nw (gIx nw o mm cd n j + o) = cd) ∧ (∀ i, i < gIx nw o mm cd n j → nw (i + o) ≠ cd) := by
  intro n
  induction n with
  | zero => intro j h1 h2; omega
  | succ n ih =>
    intro j h1 h2 h3
    rw [gIx]
    by_cases c1 : nI mm ≤ nI j
    · have c2 : mm ≤ j := Nat.le_of_not_lt fun q => nI_ge q (by omega) c1
      rw [if_pos c1]
      exact ⟨h2, fun q => absurd q (by omega), h3⟩
    · have c2 := (bLtN (by omega) (by omega)).mp (bLtN2 c1)
      rw [if_neg c1]
      by_cases c3 : nw (j + o) = cd
      · rw [if_pos c3]; exact ⟨h2, fun _ => c3, h3⟩
      · rw [if_neg c3]
        refine ih (j + 1) (by omega) (by omega) ?_
        intro i hi
        rcases Nat.lt_or_ge i j with q | q
        · exact h3 i q
        · have : i = j := by omega
          rw [this]; exact c3
theorem nameAt_n {af : Nat → Int32} {j : Nat} (h : j < 120) : s_nameAt af (nI j) = af j := by
  unfold s_nameAt
  rw [if_neg (by rw [ltI, zI, nIt (by omega)]; omega), if_neg (by rw [leI, nIt (by omega), show (120 : Int32).toInt = 120 from by decide]; omega), nI_clamp (by omega)]
theorem find_ix {nw : Nat → Int32} {b mm : Nat} {am : Int32} {af ag : Nat → Int32} {c : Int32} (h : SpR nw b mm am af ag) : ∀ n j : Nat, 121 ≤ j + n → j ≤ mm → g_find am af c n j = nI (gIx nw (b + 1) mm c n j) := by
  obtain ⟨h1, h2, h3, h4, h5, h6⟩ := h
  intro n
  induction n with
  | zero => intro j k1 k2; omega
  | succ n ih =>
    intro j k1 k2
    rw [g_find, gIx]
    by_cases c1 : nI mm ≤ nI j
    · have c2 : mm ≤ j := Nat.le_of_not_lt fun q => nI_ge q (by omega) c1
      rw [if_pos (by rw [h2]; exact c1), if_pos c1, h2, show j = mm by omega]
    · have c2 := (bLtN (by omega) (by omega)).mp (bLtN2 c1)
      rw [if_neg (by rw [h2]; exact c1), if_neg c1, if_neg (by rw [leI, nIt (by omega), show (120 : Int32).toInt = 120 from by decide]; omega), nameAt_n (by omega), (h4 j c2).1]
      by_cases c3 : af j = c
      · rw [if_pos c3, if_pos c3]
      · rw [if_neg c3, if_neg c3]
        exact ih (j + 1) (by omega) (by omega)
theorem find_eq {nw : Nat → Int32} {b mm : Nat} {am : Int32} {af ag : Nat → Int32} (h : SpR nw b mm am af ag) (c : Int32) : s_find am af c = nI (gIx nw (b + 1) mm c 121 0) := find_ix h 121 0 (by omega) (by omega)
theorem ticksAt_old {am : Int32} {ag : Nat → Int32} {k mm : Nat} (h : am = nI mm) (hk : k < mm) (hm : mm ≤ 120) : s_ticksAt am ag (nI k) = ag k := by
  unfold s_ticksAt
  rw [if_neg (by rw [ltI, zI, nIt (by omega)]; omega), if_neg (by rw [h, leI, nIt (by omega), nIt (by omega)]; omega), if_neg (by rw [leI, nIt (by omega), show (120 : Int32).toInt = 120 from by decide]; omega), nI_clamp (by omega)]
theorem ticksAt_new {am : Int32} {ag : Nat → Int32} {mm : Nat} (h : am = nI mm) (hm : mm ≤ 120) : s_ticksAt am ag (nI mm) = 0 := by
  unfold s_ticksAt
  rw [if_neg (by rw [ltI, zI, nIt (by omega)]; omega), if_pos (by rw [h, leI]; omega)]
theorem put_n {af ag : Nat → Int32} {k : Nat} {nm tt : Int32} (h : k < 120) : s_put af ag (nI k) nm tt = (upd af k nm, upd ag k tt) := by
  unfold s_put
  rw [if_neg (by rw [ltI, zI, nIt (by omega)]; omega), if_neg (by rw [leI, nIt (by omega), show (120 : Int32).toInt = 120 from by decide]; omega), nI_clamp (by omega)]
theorem nI1 {k : Nat} (h : k ≤ 900) : nI k + 1 = nI (k + 1) := by
  rw [eqI, addI (by rw [nIt (by omega), show (1 : Int32).toInt = 1 from by decide]; omega) (by rw [nIt (by omega), show (1 : Int32).toInt = 1 from by decide]; omega), nIt (by omega), nIt (by omega), show (1 : Int32).toInt = 1 from by decide]
  omega
theorem SpR_new {nw A : Nat → Int32} {b mm : Nat} {am : Int32} {af ag : Nat → Int32} {c : Int32} (h : SpR nw b mm am af ag) (hc : spCode c) (hn : ∀ k, k < mm → af k ≠ c) (hm : mm < 120) (a1 : A b = nI (mm + 1)) (a2 : A (mm + (b + 1)) = c) (a3 : A (mm + (b + 121)) = 0 + 1) (a4 : ∀ k, k < mm → A (k + (b + 1)) = nw (k + (b + 1)) ∧ A (k + (b + 121)) = nw (k + (b + 121))) : SpR A b (mm + 1) (am + 1) (upd af mm c) (upd ag mm (0 + 1)) := by
  obtain ⟨h1, h2, h3, h4, h5, h6⟩ := h
  refine ⟨by omega, by rw [h2, nI1 (by omega)], a1, ?_, ?_, ?_⟩
  · intro k hk
    by_cases q : k = mm
    · subst q; rw [upd_eq, upd_eq]; exact ⟨a2, a3⟩
    · rw [upd_ne q, upd_ne q, (a4 k (by omega)).1, (a4 k (by omega)).2]; exact h4 k (by omega)
  · intro k hk
    by_cases q : k = mm
    · subst q; rw [upd_eq]; exact hc
    · rw [upd_ne q]; exact h5 k (by omega)
  · intro j k hj hk
    rw [upd_ne (by omega)]
    by_cases q : k = mm
    · subst q; rw [upd_eq]; exact hn j (by omega)
    · rw [upd_ne q]; exact h6 j k hj (by omega)
theorem SpR_old {nw A : Nat → Int32} {b mm k : Nat} {am : Int32} {af ag : Nat → Int32} {c : Int32} (h : SpR nw b mm am af ag) (hk : k < mm) (hc : af k = c) (a1 : A b = nw b) (a2 : A (k + (b + 121)) = nw (k + (b + 121)) + 1) (a3 : ∀ i, i < mm → A (i + (b + 1)) = nw (i + (b + 1))) (a4 : ∀ i, i < mm → i ≠ k → A (i + (b + 121)) = nw (i + (b + 121))) : SpR A b mm am (upd af k c) (upd ag k (ag k + 1)) := by
  obtain ⟨h1, h2, h3, h4, h5, h6⟩ := h
  have e : upd af k c = af := by
    funext i
    by_cases q : i = k
    · subst q; rw [upd_eq, hc]
    · rw [upd_ne q]
  rw [e]
  refine ⟨h1, h2, by rw [a1]; exact h3, ?_, h5, h6⟩
  intro i hi
  refine ⟨by rw [a3 i hi]; exact (h4 i hi).1, ?_⟩
  by_cases q : i = k
  · subst q; rw [upd_eq, a2, (h4 i hi).2]
  · rw [upd_ne q, a4 i hi q]; exact (h4 i hi).2
theorem code_ok {x r : Int32} (hx : 0 ≤ x.toInt ∧ x.toInt ≤ 999) (hr : 10 ≤ r.toInt ∧ r.toInt ≤ 60) : spCode ((100 * (x / 50)) + (r / 10)) := by
  have e1 : (x / 50).toInt = x.toInt / 50 := by
    rw [Int32.toInt_div_of_ne_right _ _ (by decide), show (50 : Int32).toInt = 50 from by decide]
    exact Int.tdiv_eq_ediv_of_nonneg hx.1
  have e2 : (r / 10).toInt = r.toInt / 10 := by
    rw [Int32.toInt_div_of_ne_right _ _ (by decide), show (10 : Int32).toInt = 10 from by decide]
    exact Int.tdiv_eq_ediv_of_nonneg (by omega)
  have e3 : (100 * (x / 50)).toInt = 100 * (x.toInt / 50) := by
    rw [Int32.toInt_mul, show (100 : Int32).toInt = 100 from by decide, e1, bmodS (by omega) (by omega)]
  have e4 : ((100 * (x / 50)) + (r / 10)).toInt = 100 * (x.toInt / 50) + r.toInt / 10 := by rw [addI (by omega) (by omega), e3, e2]
  unfold spCode
  rw [e4]
  omega
theorem nI_ne {j k : Nat} (hj : j ≤ 1000) (hk : k ≤ 1000) (h : nI j = nI k) : j = k := by
  have := congrArg Int32.toInt h
  rw [nIt hj, nIt hk] at this
  omega
/-- a tick's spot: class and reference alike -/
theorem counts_eq_0 {nw A : Nat → Int32} {mm : Nat} {am : Int32} {af ag : Nat → Int32} {b0 b2 o0 : Int32} {o1 o2 : Nat → Int32} (hs : SpR nw 33 mm am af ag) (h0 : nw 7 = b0) (h2 : nw 9 = b2) (hx : 0 ≤ b0.toInt ∧ b0.toInt ≤ 999) (hr : 10 ≤ b2.toInt ∧ b2.toInt ≤ 60) :
    s_spotIndex8_0 nw mm (s_spotCode8_0 nw) < 120 ∧ (s_counts8_0 nw mm = (A, ()) → s_addTick am af ag b0 b2 = (o0, o1, o2) → (∃ m2, SpR A 33 m2 o0 o1 o2) ∧ (∀ i, i < 33 ∨ 33 + 241 ≤ i → A i = nw i)) := by
  have hcd : s_spotCode8_0 nw = s_nameOf (b0 / 50) (b2 / 10) := by
    unfold s_spotCode8_0 s_nameOf
    rw [h0, h2, Int32.mul_comm]
  have hok : spCode (s_nameOf (b0 / 50) (b2 / 10)) := by
    rw [← hcd]
    unfold s_spotCode8_0
    rw [h0, h2]
    exact code_ok hx hr
  have hf := find_eq hs (s_nameOf (b0 / 50) (b2 / 10))
  have hm : mm ≤ 120 := hs.1
  have hp := gIx_p (nw := nw) (o := 33 + 1) (mm := mm) (cd := s_nameOf (b0 / 50) (b2 / 10)) hm 121 0 (by omega) (by omega) (fun i hi => by omega)
  unfold s_addTick
  rw [hf]
  unfold s_counts8_0
  rw [six_0, hcd]
  rw [show (33 + 1 : Nat) = 34 from rfl] at *
  generalize s_nameOf (b0 / 50) (b2 / 10) = cd at *
  generalize gIx nw 34 mm cd 121 0 = ix at *
  obtain ⟨p1, p2, p3⟩ := hp
  have hsv := hs
  obtain ⟨q1, q2, q3, q4, q5, q6⟩ := hs
  by_cases hk : ix < mm
  · refine ⟨by omega, ?_⟩
    intro ha hc
    rw [ticksAt_old q2 hk hm, put_n (by omega)] at hc
    dsimp only at hc
    rw [if_neg (by rw [q2]; intro q; have := nI_ne (by omega) (by omega) q; omega)] at hc
    rw [if_neg (by intro q; have := nI_ne (by omega) (by omega) q; omega)] at ha
    have ha := (Prod.mk.inj ha).1
    simp only [Prod.mk.injEq] at hc
    obtain ⟨u1, u2, u3⟩ := hc
    subst u1 u2 u3 ha
    refine ⟨⟨mm, SpR_old hsv hk ?_ ?_ ?_ ?_ ?_⟩, ?_⟩
    · exact (q4 ix hk).1.symm.trans (p2 hk)
    · exact upd_ne (by omega)
    · exact upd_eq
    · intro i hi; exact upd_ne (by omega)
    · intro i hi hne; exact upd_ne (by omega)
    · intro i hi; exact upd_ne (by omega)
  · have hk2 : ix = mm := by omega
    subst hk2
    have hno : ∀ k, k < ix → af k ≠ cd := fun k h' q => p3 k h' ((q4 k h').1.trans q)
    have hroom : ix < 120 := SpR_room hsv hok hno
    refine ⟨hroom, ?_⟩
    intro ha hc
    rw [ticksAt_new q2 hm, put_n (by omega)] at hc
    dsimp only at hc
    rw [if_pos q2.symm, if_neg (by rw [q2, leI, nIt (by omega), show (120 : Int32).toInt = 120 from by decide]; omega)] at hc
    rw [if_pos rfl] at ha
    have ha := (Prod.mk.inj ha).1
    simp only [Prod.mk.injEq] at hc
    obtain ⟨u1, u2, u3⟩ := hc
    subst u1 u2 u3 ha
    refine ⟨⟨ix + 1, SpR_new hsv hok hno hroom ?_ ?_ ?_ ?_⟩, ?_⟩
    · rw [upd_ne (by omega), upd_eq, upd_ne (by omega), upd_ne (by omega), q3, nI1 (by omega)]
    · rw [upd_ne (by omega), upd_ne (by omega), upd_ne (by omega)]; exact upd_eq
    · show upd _ (ix + 154) _ (ix + 154) = 0 + 1
      rw [upd_eq, upd_ne (by omega), upd_eq]
    · intro k hk
      refine ⟨?_, ?_⟩
      · rw [upd_ne (by omega), upd_ne (by omega), upd_ne (by omega), upd_ne (by omega)]
      · rw [upd_ne (by omega), upd_ne (by omega), upd_ne (by omega), upd_ne (by omega)]
    · intro i hi
      rw [upd_ne (by omega), upd_ne (by omega), upd_ne (by omega), upd_ne (by omega)]
/-- a tick's spot: class and reference alike -/
theorem counts_eq_1 {nw A : Nat → Int32} {mm : Nat} {am : Int32} {af ag : Nat → Int32} {b0 b2 o0 : Int32} {o1 o2 : Nat → Int32} (hs : SpR nw 274 mm am af ag) (h0 : nw 20 = b0) (h2 : nw 22 = b2) (hx : 0 ≤ b0.toInt ∧ b0.toInt ≤ 999) (hr : 10 ≤ b2.toInt ∧ b2.toInt ≤ 60) :
    s_spotIndex8_1 nw mm (s_spotCode8_1 nw) < 120 ∧ (s_counts8_1 nw mm = (A, ()) → s_addTick am af ag b0 b2 = (o0, o1, o2) → (∃ m2, SpR A 274 m2 o0 o1 o2) ∧ (∀ i, i < 274 ∨ 274 + 241 ≤ i → A i = nw i)) := by
  have hcd : s_spotCode8_1 nw = s_nameOf (b0 / 50) (b2 / 10) := by
    unfold s_spotCode8_1 s_nameOf
    rw [h0, h2, Int32.mul_comm]
  have hok : spCode (s_nameOf (b0 / 50) (b2 / 10)) := by
    rw [← hcd]
    unfold s_spotCode8_1
    rw [h0, h2]
    exact code_ok hx hr
  have hf := find_eq hs (s_nameOf (b0 / 50) (b2 / 10))
  have hm : mm ≤ 120 := hs.1
  have hp := gIx_p (nw := nw) (o := 274 + 1) (mm := mm) (cd := s_nameOf (b0 / 50) (b2 / 10)) hm 121 0 (by omega) (by omega) (fun i hi => by omega)
  unfold s_addTick
  rw [hf]
  unfold s_counts8_1
  rw [six_1, hcd]
  rw [show (274 + 1 : Nat) = 275 from rfl] at *
  generalize s_nameOf (b0 / 50) (b2 / 10) = cd at *
  generalize gIx nw 275 mm cd 121 0 = ix at *
  obtain ⟨p1, p2, p3⟩ := hp
  have hsv := hs
  obtain ⟨q1, q2, q3, q4, q5, q6⟩ := hs
  by_cases hk : ix < mm
  · refine ⟨by omega, ?_⟩
    intro ha hc
    rw [ticksAt_old q2 hk hm, put_n (by omega)] at hc
    dsimp only at hc
    rw [if_neg (by rw [q2]; intro q; have := nI_ne (by omega) (by omega) q; omega)] at hc
    rw [if_neg (by intro q; have := nI_ne (by omega) (by omega) q; omega)] at ha
    have ha := (Prod.mk.inj ha).1
    simp only [Prod.mk.injEq] at hc
    obtain ⟨u1, u2, u3⟩ := hc
    subst u1 u2 u3 ha
    refine ⟨⟨mm, SpR_old hsv hk ?_ ?_ ?_ ?_ ?_⟩, ?_⟩
    · exact (q4 ix hk).1.symm.trans (p2 hk)
    · exact upd_ne (by omega)
    · exact upd_eq
    · intro i hi; exact upd_ne (by omega)
    · intro i hi hne; exact upd_ne (by omega)
    · intro i hi; exact upd_ne (by omega)
  · have hk2 : ix = mm := by omega
    subst hk2
    have hno : ∀ k, k < ix → af k ≠ cd := fun k h' q => p3 k h' ((q4 k h').1.trans q)
    have hroom : ix < 120 := SpR_room hsv hok hno
    refine ⟨hroom, ?_⟩
    intro ha hc
    rw [ticksAt_new q2 hm, put_n (by omega)] at hc
    dsimp only at hc
    rw [if_pos q2.symm, if_neg (by rw [q2, leI, nIt (by omega), show (120 : Int32).toInt = 120 from by decide]; omega)] at hc
    rw [if_pos rfl] at ha
    have ha := (Prod.mk.inj ha).1
    simp only [Prod.mk.injEq] at hc
    obtain ⟨u1, u2, u3⟩ := hc
    subst u1 u2 u3 ha
    refine ⟨⟨ix + 1, SpR_new hsv hok hno hroom ?_ ?_ ?_ ?_⟩, ?_⟩
    · rw [upd_ne (by omega), upd_eq, upd_ne (by omega), upd_ne (by omega), q3, nI1 (by omega)]
    · rw [upd_ne (by omega), upd_ne (by omega), upd_ne (by omega)]; exact upd_eq
    · show upd _ (ix + 395) _ (ix + 395) = 0 + 1
      rw [upd_eq, upd_ne (by omega), upd_eq]
    · intro k hk
      refine ⟨?_, ?_⟩
      · rw [upd_ne (by omega), upd_ne (by omega), upd_ne (by omega), upd_ne (by omega)]
      · rw [upd_ne (by omega), upd_ne (by omega), upd_ne (by omega), upd_ne (by omega)]
    · intro i hi
      rw [upd_ne (by omega), upd_ne (by omega), upd_ne (by omega), upd_ne (by omega)]
