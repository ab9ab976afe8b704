/-! THE RELATION: a story of the class against a row of the reference -/
/-- what a try needs: rules, both cranes -/
def PaR (w : Nat → Int32) (r0 r1 r2 r3 r4 pv tk l0 l1 l2 l3 l4 l5 l6 l7 l8 l9 l10 l11 q0 q1 q2 q3 q4 q5 q6 q7 q8 q9 q10 q11 : Int32) : Prop :=
  RuR w r0 r1 r2 r3 r4 pv tk ∧ CrR w 7 tk l0 l1 l2 l3 l4 l5 l6 l7 l8 l9 l10 l11 ∧ CrR w 20 tk q0 q1 q2 q3 q4 q5 q6 q7 q8 q9 q10 q11 ∧ RuB r0 r1 r2 r3 r4 pv ∧ CrB l1 l2 l3 l7 ∧ CrB q1 q2 q3 q7 ∧ XB r0 r1 l0 q0
def PaS (w : Nat → Int32) (r : Nat → Int32) (f : Nat → Int32) : Prop := PaR w (r 0) (r 1) (r 2) (r 3) (r 4) (f 1) (f 0) (f 2) (f 3) (f 4) (f 5) (f 6) (f 7) (f 8) (f 9) (f 10) (f 11) (f 12) (f 13) (f 14) (f 15) (f 16) (f 17) (f 18) (f 19) (f 20) (f 21) (f 22) (f 23) (f 24) (f 25)
def StoR (w : Nat → Int32) (s : Sto) (r : Nat → Int32) : Prop := PaS w r s.1 ∧ (∃ m1, SpR w 33 m1 (s.1 26) (s.2.2 0) (s.2.2 1)) ∧ (∃ m2, SpR w 274 m2 (s.1 27) (s.2.2 2) (s.2.2 3))
theorem CrR_congr {w A : Nat → Int32} {b : Nat} {tk a0 a1 a2 a3 a4 a5 a6 a7 a8 a9 a10 a11 : Int32} (h : CrR w b tk a0 a1 a2 a3 a4 a5 a6 a7 a8 a9 a10 a11) (e : ∀ i, b ≤ i → i ≤ b + 12 → A i = w i) : CrR A b tk a0 a1 a2 a3 a4 a5 a6 a7 a8 a9 a10 a11 := by
  obtain ⟨h0, h1, h2, h3, h4, h5, h6, h7, h8⟩ := h
  refine ⟨(e _ (by omega) (by omega)).trans h0, (e _ (by omega) (by omega)).trans h1, (e _ (by omega) (by omega)).trans h2, (e _ (by omega) (by omega)).trans h3, (e _ (by omega) (by omega)).trans h4, (e _ (by omega) (by omega)).trans h5, (e _ (by omega) (by omega)).trans h6, (e _ (by omega) (by omega)).trans h7, ?_⟩
  rw [e (b + 8) (by omega) (by omega), e (b + 9) (by omega) (by omega), e (b + 10) (by omega) (by omega), e (b + 11) (by omega) (by omega), e (b + 12) (by omega) (by omega)]
  exact h8
theorem RuR_congr {w A : Nat → Int32} {r0 r1 r2 r3 r4 pv tk : Int32} (h : RuR w r0 r1 r2 r3 r4 pv tk) (e : ∀ i, i < 7 → A i = w i) : RuR A r0 r1 r2 r3 r4 pv tk := by
  obtain ⟨h0, h1, h2, h3, h4, h5, h6⟩ := h
  exact ⟨(e _ (by omega)).trans h0, (e _ (by omega)).trans h1, (e _ (by omega)).trans h2, (e _ (by omega)).trans h3, (e _ (by omega)).trans h4, (e _ (by omega)).trans h5, (e _ (by omega)).trans h6⟩
theorem PaR_congr {w A : Nat → Int32} {r0 r1 r2 r3 r4 pv tk l0 l1 l2 l3 l4 l5 l6 l7 l8 l9 l10 l11 q0 q1 q2 q3 q4 q5 q6 q7 q8 q9 q10 q11 : Int32} (h : PaR w r0 r1 r2 r3 r4 pv tk l0 l1 l2 l3 l4 l5 l6 l7 l8 l9 l10 l11 q0 q1 q2 q3 q4 q5 q6 q7 q8 q9 q10 q11) (e : ∀ i, i < 33 → A i = w i) : PaR A r0 r1 r2 r3 r4 pv tk l0 l1 l2 l3 l4 l5 l6 l7 l8 l9 l10 l11 q0 q1 q2 q3 q4 q5 q6 q7 q8 q9 q10 q11 := by
  obtain ⟨h1, h2, h3, h4⟩ := h
  exact ⟨RuR_congr h1 (fun i hi => e i (by omega)), CrR_congr h2 (fun i _ hi => e i (by omega)), CrR_congr h3 (fun i _ hi => e i (by omega)), h4⟩
theorem SpR_congr {w A : Nat → Int32} {b mm : Nat} {am : Int32} {af ag : Nat → Int32} (h : SpR w b mm am af ag) (e : ∀ i, b ≤ i → i < b + 241 → A i = w i) : SpR A b mm am af ag := by
  obtain ⟨h1, h2, h3, h4, h5, h6⟩ := h
  refine ⟨h1, h2, (e _ (by omega) (by omega)).trans h3, fun k hk => ?_, h5, h6⟩
  rw [e _ (by omega) (by omega), e _ (by omega) (by omega)]
  exact h4 k hk
theorem StoR_congr {w A : Nat → Int32} {s : Sto} {r : Nat → Int32} (h : StoR w s r) (e : ∀ i, i < 515 → A i = w i) : StoR A s r := by
  obtain ⟨h1, ⟨m1, h2⟩, ⟨m2, h3⟩⟩ := h
  exact ⟨PaR_congr h1 (fun i hi => e i (by omega)), ⟨m1, SpR_congr h2 (fun i _ hi => e i (by omega))⟩, ⟨m2, SpR_congr h3 (fun i _ hi => e i (by omega))⟩⟩
/-- a row's spots copied -/
theorem gsc_R {bm : Int32} {bf bg o0 o1 : Nat → Int32} {mm : Nat} (hb : bm = nI mm) (hm : mm ≤ 120) : ∀ (n j : Nat) (fn ft : Nat → Int32), 121 ≤ j + n → j ≤ mm → (∀ k, k < j → fn k = bf k ∧ ft k = bg k) → g_spotsCopy bm bf bg n j fn ft = (o0, o1) → ∀ k, k < mm → o0 k = bf k ∧ o1 k = bg k := by
  intro n
  induction n with
  | zero => intro j fn ft h1 h2; omega
  | succ n ih =>
    intro j fn ft h1 h2 h3 h
    rw [g_spotsCopy] at h
    by_cases c1 : nI mm ≤ nI j
    · have c2 : mm ≤ j := Nat.le_of_not_lt fun q => nI_ge q (by omega) c1
      rw [if_pos (by rw [hb]; exact c1)] at h
      have e1 := (Prod.mk.inj h).1
      have e2 := (Prod.mk.inj h).2
      subst e1 e2
      exact fun k hk => h3 k (by omega)
    · have c2 := (bLtN (by omega) (by omega)).mp (bLtN2 c1)
      rw [if_neg (by rw [hb]; exact c1), if_neg (by rw [leI, nIt (by omega), show (120 : Int32).toInt = 120 from by decide]; omega), put_n (by omega), nameAt_n (by omega), ticksAt_old hb c2 hm] at h
      dsimp only at h
      refine ih (j + 1) _ _ (by omega) (by omega) ?_ h
      intro k hk
      by_cases q : k = j
      · subst q; rw [upd_eq, upd_eq]; exact ⟨rfl, rfl⟩
      · rw [upd_ne q, upd_ne q]; exact h3 k (by omega)
theorem SpR_copy {w : Nat → Int32} {b mm : Nat} {bm : Int32} {af ag bf bg o0 o1 : Nat → Int32} (h : SpR w b mm bm bf bg) (hu : s_spotsCopy af ag bm bf bg = (o0, o1)) : SpR w b mm bm o0 o1 := by
  obtain ⟨h1, h2, h3, h4, h5, h6⟩ := h
  have e := gsc_R h2 h1 121 0 af ag (by omega) (by omega) (fun k hk => by omega) hu
  refine ⟨h1, h2, h3, fun k hk => ?_, fun k hk => ?_, fun j k hj hk => ?_⟩
  · rw [(e k hk).1, (e k hk).2]; exact h4 k hk
  · rw [(e k hk).1]; exact h5 k hk
  · rw [(e k hk).1, (e j (by omega)).1]; exact h6 j k hj hk
/-- a story copied -/
theorem StoR_copy {w r : Nat → Int32} {n p4 : Sto} {o0 o1 o2 o3 : Nat → Int32} {x : Nat → Bool} {y : Nat → Int32} (h : StoR w n r) (hu : s_keepForUndo (n.1 26) (n.2.2 0) (n.2.2 1) (n.1 27) (n.2.2 2) (n.2.2 3) (p4.2.2 0) (p4.2.2 1) (p4.2.2 2) (p4.2.2 3) = (o0, o1, o2, o3)) (hy : ∀ i, i < 28 → y i = n.1 i) : StoR w (y, x, mk4 o0 o1 o2 o3) r := by
  obtain ⟨h1, ⟨m1, h2⟩, ⟨m2, h3⟩⟩ := h
  unfold s_keepForUndo s_storyCopy at hu
  obtain ⟨a0, a1, ea⟩ := bEx2 (s_spotsCopy (p4.2.2 0) (p4.2.2 1) (n.1 26) (n.2.2 0) (n.2.2 1))
  obtain ⟨b0, b1, eb⟩ := bEx2 (s_spotsCopy (p4.2.2 2) (p4.2.2 3) (n.1 27) (n.2.2 2) (n.2.2 3))
  rw [ea] at hu
  dsimp only at hu
  rw [eb] at hu
  dsimp only at hu
  simp only [Prod.mk.injEq] at hu
  obtain ⟨u0, u1, u2, u3⟩ := hu
  subst u0 u1 u2 u3
  refine ⟨?_, ⟨m1, ?_⟩, ⟨m2, ?_⟩⟩
  · show PaR w (r 0) (r 1) (r 2) (r 3) (r 4) (y 1) (y 0) (y 2) (y 3) (y 4) (y 5) (y 6) (y 7) (y 8) (y 9) (y 10) (y 11) (y 12) (y 13) (y 14) (y 15) (y 16) (y 17) (y 18) (y 19) (y 20) (y 21) (y 22) (y 23) (y 24) (y 25)
    rw [hy 0 (by omega), hy 1 (by omega), hy 2 (by omega), hy 3 (by omega), hy 4 (by omega), hy 5 (by omega), hy 6 (by omega), hy 7 (by omega), hy 8 (by omega), hy 9 (by omega), hy 10 (by omega), hy 11 (by omega), hy 12 (by omega), hy 13 (by omega), hy 14 (by omega), hy 15 (by omega), hy 16 (by omega), hy 17 (by omega), hy 18 (by omega), hy 19 (by omega), hy 20 (by omega), hy 21 (by omega), hy 22 (by omega), hy 23 (by omega), hy 24 (by omega), hy 25 (by omega)]
    exact h1
  · show SpR w 33 m1 (y 26) a0 a1
    rw [hy 26 (by omega)]
    exact SpR_copy h2 ea
  · show SpR w 274 m2 (y 27) b0 b1
    rw [hy 27 (by omega)]
    exact SpR_copy h3 eb
/-- the rows kept -/
def off (ps : Nat → Int32) (o : Nat) : Nat → Int32 := fun i => ps (i + o)
def PastR (ch : Int32) (ps r : Nat → Int32) (p1 p2 p3 p4 : Sto) : Prop :=
  ch = 0 ∨ (ch = 1 ∧ StoR (off ps 0) p1 r) ∨ (ch = 2 ∧ StoR (off ps 515) p1 r ∧ StoR (off ps 0) p2 r) ∨ (ch = 3 ∧ StoR (off ps 1030) p1 r ∧ StoR (off ps 515) p2 r ∧ StoR (off ps 0) p3 r) ∨ (ch = 4 ∧ StoR (off ps 1545) p1 r ∧ StoR (off ps 1030) p2 r ∧ StoR (off ps 515) p3 r ∧ StoR (off ps 0) p4 r)
theorem PastR_ch {ch : Int32} {ps r : Nat → Int32} {p1 p2 p3 p4 : Sto} (h : PastR ch ps r p1 p2 p3 p4) : ch = 0 ∨ ch = 1 ∨ ch = 2 ∨ ch = 3 ∨ ch = 4 := by
  rcases h with h | ⟨h, -⟩ | ⟨h, -⟩ | ⟨h, -⟩ | ⟨h, -⟩
  · exact Or.inl h
  · exact Or.inr (Or.inl h)
  · exact Or.inr (Or.inr (Or.inl h))
  · exact Or.inr (Or.inr (Or.inr (Or.inl h)))
  · exact Or.inr (Or.inr (Or.inr (Or.inr h)))
theorem kG_0 {nw ps0 P : Nat → Int32} {c : Int32} : ∀ (n j : Nat) (pg : Nat → Int32), 516 ≤ j + n → j ≤ 515 → (∀ i, (i < 0 ∨ 0 + 515 ≤ i) → pg i = ps0 i) → (∀ i, i < j → pg (i + 0) = nw i) → g_keeps8_0b nw n j pg = (c, P) → c = 1 ∧ (∀ i, (i < 0 ∨ 0 + 515 ≤ i) → P i = ps0 i) ∧ (∀ i, i < 515 → P (i + 0) = nw i) := by
  intro n
  induction n with
  | zero => intro j pg h1 h2; omega
  | succ n ih =>
    intro j pg h1 h2 h3 h4 h
    rw [g_keeps8_0b] at h
    by_cases c1 : 515 ≤ nI j
    · rw [if_pos c1] at h
      have c2 : 515 ≤ j := Nat.le_of_not_lt fun q => nI_ge q (by decide) c1
      have e1 := (Prod.mk.inj h).1
      have e2 := (Prod.mk.inj h).2
      subst e1 e2
      exact ⟨rfl, h3, fun i hi => h4 i (by omega)⟩
    · rw [if_neg c1] at h
      have c2 := bNle (k := 515) rfl (by omega) (by decide) c1
      refine ih (j + 1) _ (by omega) (by omega) ?_ ?_ h
      · intro i hi; rw [upd_ne (by omega)]; exact h3 i hi
      · intro i hi
        by_cases q : i = j
        · subst q; exact upd_eq
        · rw [upd_ne (by omega)]; exact h4 i (by omega)
theorem kG_1 {nw ps0 P : Nat → Int32} {c : Int32} : ∀ (n j : Nat) (pg : Nat → Int32), 516 ≤ j + n → j ≤ 515 → (∀ i, (i < 515 ∨ 515 + 515 ≤ i) → pg i = ps0 i) → (∀ i, i < j → pg (i + 515) = nw i) → g_keeps8_1b nw n j pg = (c, P) → c = 2 ∧ (∀ i, (i < 515 ∨ 515 + 515 ≤ i) → P i = ps0 i) ∧ (∀ i, i < 515 → P (i + 515) = nw i) := by
  intro n
  induction n with
  | zero => intro j pg h1 h2; omega
  | succ n ih =>
    intro j pg h1 h2 h3 h4 h
    rw [g_keeps8_1b] at h
    by_cases c1 : 515 ≤ nI j
    · rw [if_pos c1] at h
      have c2 : 515 ≤ j := Nat.le_of_not_lt fun q => nI_ge q (by decide) c1
      have e1 := (Prod.mk.inj h).1
      have e2 := (Prod.mk.inj h).2
      subst e1 e2
      exact ⟨rfl, h3, fun i hi => h4 i (by omega)⟩
    · rw [if_neg c1] at h
      have c2 := bNle (k := 515) rfl (by omega) (by decide) c1
      refine ih (j + 1) _ (by omega) (by omega) ?_ ?_ h
      · intro i hi; rw [upd_ne (by omega)]; exact h3 i hi
      · intro i hi
        by_cases q : i = j
        · subst q; exact upd_eq
        · rw [upd_ne (by omega)]; exact h4 i (by omega)
theorem kG_2 {nw ps0 P : Nat → Int32} {c : Int32} : ∀ (n j : Nat) (pg : Nat → Int32), 516 ≤ j + n → j ≤ 515 → (∀ i, (i < 1030 ∨ 1030 + 515 ≤ i) → pg i = ps0 i) → (∀ i, i < j → pg (i + 1030) = nw i) → g_keeps8_2b nw n j pg = (c, P) → c = 3 ∧ (∀ i, (i < 1030 ∨ 1030 + 515 ≤ i) → P i = ps0 i) ∧ (∀ i, i < 515 → P (i + 1030) = nw i) := by
  intro n
  induction n with
  | zero => intro j pg h1 h2; omega
  | succ n ih =>
    intro j pg h1 h2 h3 h4 h
    rw [g_keeps8_2b] at h
    by_cases c1 : 515 ≤ nI j
    · rw [if_pos c1] at h
      have c2 : 515 ≤ j := Nat.le_of_not_lt fun q => nI_ge q (by decide) c1
      have e1 := (Prod.mk.inj h).1
      have e2 := (Prod.mk.inj h).2
      subst e1 e2
      exact ⟨rfl, h3, fun i hi => h4 i (by omega)⟩
    · rw [if_neg c1] at h
      have c2 := bNle (k := 515) rfl (by omega) (by decide) c1
      refine ih (j + 1) _ (by omega) (by omega) ?_ ?_ h
      · intro i hi; rw [upd_ne (by omega)]; exact h3 i hi
      · intro i hi
        by_cases q : i = j
        · subst q; exact upd_eq
        · rw [upd_ne (by omega)]; exact h4 i (by omega)
theorem kG_3 {nw ps0 P : Nat → Int32} {c : Int32} : ∀ (n j : Nat) (pg : Nat → Int32), 516 ≤ j + n → j ≤ 515 → (∀ i, (i < 1545 ∨ 1545 + 515 ≤ i) → pg i = ps0 i) → (∀ i, i < j → pg (i + 1545) = nw i) → g_keeps8_3b nw n j pg = (c, P) → c = 4 ∧ (∀ i, (i < 1545 ∨ 1545 + 515 ≤ i) → P i = ps0 i) ∧ (∀ i, i < 515 → P (i + 1545) = nw i) := by
  intro n
  induction n with
  | zero => intro j pg h1 h2; omega
  | succ n ih =>
    intro j pg h1 h2 h3 h4 h
    rw [g_keeps8_3b] at h
    by_cases c1 : 515 ≤ nI j
    · rw [if_pos c1] at h
      have c2 : 515 ≤ j := Nat.le_of_not_lt fun q => nI_ge q (by decide) c1
      have e1 := (Prod.mk.inj h).1
      have e2 := (Prod.mk.inj h).2
      subst e1 e2
      exact ⟨rfl, h3, fun i hi => h4 i (by omega)⟩
    · rw [if_neg c1] at h
      have c2 := bNle (k := 515) rfl (by omega) (by decide) c1
      refine ih (j + 1) _ (by omega) (by omega) ?_ ?_ h
      · intro i hi; rw [upd_ne (by omega)]; exact h3 i hi
      · intro i hi
        by_cases q : i = j
        · subst q; exact upd_eq
        · rw [upd_ne (by omega)]; exact h4 i (by omega)
theorem kG_4b {nw ps0 P : Nat → Int32} {c : Int32} : ∀ (n j : Nat) (pg : Nat → Int32), 516 ≤ j + n → j ≤ 515 → (∀ i, (i < 1545 ∨ 1545 + 515 ≤ i) → pg i = ps0 i) → (∀ i, i < j → pg (i + 1545) = nw i) → g_keeps8_4b nw n j pg = (c, P) → c = 4 ∧ (∀ i, (i < 1545 ∨ 1545 + 515 ≤ i) → P i = ps0 i) ∧ (∀ i, i < 515 → P (i + 1545) = nw i) := by
  intro n
  induction n with
  | zero => intro j pg h1 h2; omega
  | succ n ih =>
    intro j pg h1 h2 h3 h4 h
    rw [g_keeps8_4b] at h
    by_cases c1 : 515 ≤ nI j
    · rw [if_pos c1] at h
      have c2 : 515 ≤ j := Nat.le_of_not_lt fun q => nI_ge q (by decide) c1
      have e1 := (Prod.mk.inj h).1
      have e2 := (Prod.mk.inj h).2
      subst e1 e2
      exact ⟨rfl, h3, fun i hi => h4 i (by omega)⟩
    · rw [if_neg c1] at h
      have c2 := bNle (k := 515) rfl (by omega) (by decide) c1
      refine ih (j + 1) _ (by omega) (by omega) ?_ ?_ h
      · intro i hi; rw [upd_ne (by omega)]; exact h3 i hi
      · intro i hi
        by_cases q : i = j
        · subst q; exact upd_eq
        · rw [upd_ne (by omega)]; exact h4 i (by omega)
theorem kG_4a {nw ps0 P : Nat → Int32} {c : Int32} : ∀ (n j : Nat) (pg : Nat → Int32), 1546 ≤ j + n → j ≤ 1545 → (∀ i, j ≤ i → pg i = ps0 i) → (∀ i, i < j → pg i = ps0 (i + 515)) → g_keeps8_4a nw n j pg = (c, P) → c = 4 ∧ (∀ i, i < 1545 → P i = ps0 (i + 515)) ∧ (∀ i, i < 515 → P (i + 1545) = nw i) := by
  intro n
  induction n with
  | zero => intro j pg h1 h2; omega
  | succ n ih =>
    intro j pg h1 h2 h3 h4 h
    rw [g_keeps8_4a] at h
    by_cases c1 : 1545 ≤ nI j
    · rw [if_pos c1] at h
      have c2 : 1545 ≤ j := Nat.le_of_not_lt fun q => nI_ge q (by decide) c1
      have hb := kG_4b (ps0 := pg) 516 0 pg (by omega) (by omega) (fun i hi => rfl) (fun i hi => by omega) h
      refine ⟨hb.1, fun i hi => ?_, hb.2.2⟩
      rw [hb.2.1 i (Or.inl hi)]
      exact h4 i (by omega)
    · rw [if_neg c1] at h
      have c2 := bNle (k := 1545) rfl (by omega) (by decide) c1
      refine ih (j + 1) _ (by omega) (by omega) ?_ ?_ h
      · intro i hi; rw [upd_ne (by omega)]; exact h3 i (by omega)
      · intro i hi
        by_cases q : i = j
        · subst q; rw [upd_eq]; exact h3 _ (by omega)
        · rw [upd_ne (by omega)]; exact h4 i (by omega)
theorem uG_1 {ps N : Nat → Int32} {c c2 : Int32} : ∀ (n j : Nat) (ng : Nat → Int32), 516 ≤ j + n → j ≤ 515 → (∀ i, i < j → ng i = ps (i + 0)) → g_undo8_1 ps n j ng = (c, c2, N) → c = 0 ∧ c2 = 0 ∧ (∀ i, i < 515 → N i = ps (i + 0)) := by
  intro n
  induction n with
  | zero => intro j ng h1 h2; omega
  | succ n ih =>
    intro j ng h1 h2 h4 h
    rw [g_undo8_1] at h
    by_cases c1 : 515 ≤ nI j
    · rw [if_pos c1] at h
      have c2 : 515 ≤ j := Nat.le_of_not_lt fun q => nI_ge q (by decide) c1
      simp only [Prod.mk.injEq] at h
      obtain ⟨e1, e2, e3⟩ := h
      subst e1 e2 e3
      exact ⟨rfl, rfl, fun i hi => h4 i (by omega)⟩
    · rw [if_neg c1] at h
      have c2 := bNle (k := 515) rfl (by omega) (by decide) c1
      refine ih (j + 1) _ (by omega) (by omega) ?_ h
      intro i hi
      by_cases q : i = j
      · subst q; exact upd_eq
      · rw [upd_ne (by omega)]; exact h4 i (by omega)
theorem uG_2 {ps N : Nat → Int32} {c c2 : Int32} : ∀ (n j : Nat) (ng : Nat → Int32), 516 ≤ j + n → j ≤ 515 → (∀ i, i < j → ng i = ps (i + 515)) → g_undo8_2 ps n j ng = (c, c2, N) → c = 1 ∧ c2 = 1 ∧ (∀ i, i < 515 → N i = ps (i + 515)) := by
  intro n
  induction n with
  | zero => intro j ng h1 h2; omega
  | succ n ih =>
    intro j ng h1 h2 h4 h
    rw [g_undo8_2] at h
    by_cases c1 : 515 ≤ nI j
    · rw [if_pos c1] at h
      have c2 : 515 ≤ j := Nat.le_of_not_lt fun q => nI_ge q (by decide) c1
      simp only [Prod.mk.injEq] at h
      obtain ⟨e1, e2, e3⟩ := h
      subst e1 e2 e3
      exact ⟨rfl, rfl, fun i hi => h4 i (by omega)⟩
    · rw [if_neg c1] at h
      have c2 := bNle (k := 515) rfl (by omega) (by decide) c1
      refine ih (j + 1) _ (by omega) (by omega) ?_ h
      intro i hi
      by_cases q : i = j
      · subst q; exact upd_eq
      · rw [upd_ne (by omega)]; exact h4 i (by omega)
theorem uG_3 {ps N : Nat → Int32} {c c2 : Int32} : ∀ (n j : Nat) (ng : Nat → Int32), 516 ≤ j + n → j ≤ 515 → (∀ i, i < j → ng i = ps (i + 1030)) → g_undo8_3 ps n j ng = (c, c2, N) → c = 2 ∧ c2 = 2 ∧ (∀ i, i < 515 → N i = ps (i + 1030)) := by
  intro n
  induction n with
  | zero => intro j ng h1 h2; omega
  | succ n ih =>
    intro j ng h1 h2 h4 h
    rw [g_undo8_3] at h
    by_cases c1 : 515 ≤ nI j
    · rw [if_pos c1] at h
      have c2 : 515 ≤ j := Nat.le_of_not_lt fun q => nI_ge q (by decide) c1
      simp only [Prod.mk.injEq] at h
      obtain ⟨e1, e2, e3⟩ := h
      subst e1 e2 e3
      exact ⟨rfl, rfl, fun i hi => h4 i (by omega)⟩
    · rw [if_neg c1] at h
      have c2 := bNle (k := 515) rfl (by omega) (by decide) c1
      refine ih (j + 1) _ (by omega) (by omega) ?_ h
      intro i hi
      by_cases q : i = j
      · subst q; exact upd_eq
      · rw [upd_ne (by omega)]; exact h4 i (by omega)
theorem uG_4 {ps N : Nat → Int32} {c c2 : Int32} : ∀ (n j : Nat) (ng : Nat → Int32), 516 ≤ j + n → j ≤ 515 → (∀ i, i < j → ng i = ps (i + 1545)) → g_undo8_4 ps n j ng = (c, c2, N) → c = 3 ∧ c2 = 3 ∧ (∀ i, i < 515 → N i = ps (i + 1545)) := by
  intro n
  induction n with
  | zero => intro j ng h1 h2; omega
  | succ n ih =>
    intro j ng h1 h2 h4 h
    rw [g_undo8_4] at h
    by_cases c1 : 515 ≤ nI j
    · rw [if_pos c1] at h
      have c2 : 515 ≤ j := Nat.le_of_not_lt fun q => nI_ge q (by decide) c1
      simp only [Prod.mk.injEq] at h
      obtain ⟨e1, e2, e3⟩ := h
      subst e1 e2 e3
      exact ⟨rfl, rfl, fun i hi => h4 i (by omega)⟩
    · rw [if_neg c1] at h
      have c2 := bNle (k := 515) rfl (by omega) (by decide) c1
      refine ih (j + 1) _ (by omega) (by omega) ?_ h
      intro i hi
      by_cases q : i = j
      · subst q; exact upd_eq
      · rw [upd_ne (by omega)]; exact h4 i (by omega)
/-- a change kept: the reference's rows and the class's stories turned round -/
theorem keep_R {nw ps P r : Nat → Int32} {ch c2 : Int32} {n' p1 p2 p3 p4 : Sto} (h : PastR ch ps r p1 p2 p3 p4) (hn : StoR nw n' r) (hk : s_keeps8 ch nw ps = (c2, P)) : PastR c2 P r n' p1 p2 p3 ∧ (if 4 < ch + 1 then 4 else ch + 1) = c2 := by
  unfold s_keeps8 at hk
  rcases h with h | ⟨h, a1⟩ | ⟨h, a1, a2⟩ | ⟨h, a1, a2, a3⟩ | ⟨h, a1, a2, a3, a4⟩
  · subst h
    rw [if_pos rfl] at hk
    have hb := kG_0 (ps0 := ps) 516 0 ps (by omega) (by omega) (fun i hi => rfl) (fun i hi => by omega) hk
    obtain ⟨e, b1, b2⟩ := hb
    subst e
    exact ⟨Or.inr (Or.inl ⟨rfl, StoR_congr hn (fun i hi => b2 i hi)⟩), by decide⟩
  · subst h
    rw [if_neg (by decide), if_pos rfl] at hk
    have hb := kG_1 (ps0 := ps) 516 0 ps (by omega) (by omega) (fun i hi => rfl) (fun i hi => by omega) hk
    obtain ⟨e, b1, b2⟩ := hb
    subst e
    exact ⟨Or.inr (Or.inr (Or.inl ⟨rfl, StoR_congr hn (fun i hi => b2 i hi), StoR_congr a1 (fun i hi => b1 (i + 0) (by omega))⟩)), by decide⟩
  · subst h
    rw [if_neg (by decide), if_neg (by decide), if_pos rfl] at hk
    have hb := kG_2 (ps0 := ps) 516 0 ps (by omega) (by omega) (fun i hi => rfl) (fun i hi => by omega) hk
    obtain ⟨e, b1, b2⟩ := hb
    subst e
    exact ⟨Or.inr (Or.inr (Or.inr (Or.inl ⟨rfl, StoR_congr hn (fun i hi => b2 i hi), StoR_congr a1 (fun i hi => b1 (i + 515) (by omega)), StoR_congr a2 (fun i hi => b1 (i + 0) (by omega))⟩))), by decide⟩
  · subst h
    rw [if_neg (by decide), if_neg (by decide), if_neg (by decide), if_pos rfl] at hk
    have hb := kG_3 (ps0 := ps) 516 0 ps (by omega) (by omega) (fun i hi => rfl) (fun i hi => by omega) hk
    obtain ⟨e, b1, b2⟩ := hb
    subst e
    exact ⟨Or.inr (Or.inr (Or.inr (Or.inr ⟨rfl, StoR_congr hn (fun i hi => b2 i hi), StoR_congr a1 (fun i hi => b1 (i + 1030) (by omega)), StoR_congr a2 (fun i hi => b1 (i + 515) (by omega)), StoR_congr a3 (fun i hi => b1 (i + 0) (by omega))⟩))), by decide⟩
  · subst h
    rw [if_neg (by decide), if_neg (by decide), if_neg (by decide), if_neg (by decide)] at hk
    have hb := kG_4a (ps0 := ps) 1546 0 ps (by omega) (by omega) (fun i hi => rfl) (fun i hi => by omega) hk
    obtain ⟨e, b1, b2⟩ := hb
    subst e
    exact ⟨Or.inr (Or.inr (Or.inr (Or.inr ⟨rfl, StoR_congr hn (fun i hi => b2 i hi), StoR_congr a1 (fun i hi => b1 (i + 1030) (by omega)), StoR_congr a2 (fun i hi => b1 (i + 515) (by omega)), StoR_congr a3 (fun i hi => b1 (i + 0) (by omega))⟩))), by decide⟩
/-- undone -/
theorem undo_R {nw N ps r : Nat → Int32} {ch c2 o0 : Int32} {n p1 p2 p3 p4 : Sto} (h : PastR ch ps r p1 p2 p3 p4) (hn : StoR nw n r) (hk : s_undo8 ch nw ps = (o0, c2, N)) : (ch = 0 ∧ o0 = -2 ∧ c2 = 0 ∧ N = nw) ∨ (1 ≤ ch ∧ o0 = ch - 1 ∧ c2 = ch - 1 ∧ StoR N p1 r ∧ PastR c2 ps r p2 p3 p4 n) := by
  unfold s_undo8 at hk
  rcases h with h | ⟨h, a1⟩ | ⟨h, a1, a2⟩ | ⟨h, a1, a2, a3⟩ | ⟨h, a1, a2, a3, a4⟩
  · subst h
    rw [if_pos rfl] at hk
    unfold s_undo8_0 at hk
    simp only [Prod.mk.injEq] at hk
    obtain ⟨e1, e2, e3⟩ := hk
    exact Or.inl ⟨rfl, e1.symm, e2.symm, e3.symm⟩
  · subst h
    rw [if_neg (by decide), if_pos rfl] at hk
    obtain ⟨e1, e2, b⟩ := uG_1 516 0 nw (by omega) (by omega) (fun i hi => by omega) hk
    subst e1 e2
    exact Or.inr ⟨by decide, by decide, by decide, StoR_congr a1 b, Or.inl rfl⟩
  · subst h
    rw [if_neg (by decide), if_neg (by decide), if_pos rfl] at hk
    obtain ⟨e1, e2, b⟩ := uG_2 516 0 nw (by omega) (by omega) (fun i hi => by omega) hk
    subst e1 e2
    exact Or.inr ⟨by decide, by decide, by decide, StoR_congr a1 b, Or.inr (Or.inl ⟨rfl, a2⟩)⟩
  · subst h
    rw [if_neg (by decide), if_neg (by decide), if_neg (by decide), if_pos rfl] at hk
    obtain ⟨e1, e2, b⟩ := uG_3 516 0 nw (by omega) (by omega) (fun i hi => by omega) hk
    subst e1 e2
    exact Or.inr ⟨by decide, by decide, by decide, StoR_congr a1 b, Or.inr (Or.inr (Or.inl ⟨rfl, a2, a3⟩))⟩
  · subst h
    rw [if_neg (by decide), if_neg (by decide), if_neg (by decide), if_neg (by decide)] at hk
    obtain ⟨e1, e2, b⟩ := uG_4 516 0 nw (by omega) (by omega) (fun i hi => by omega) hk
    subst e1 e2
    exact Or.inr ⟨by decide, by decide, by decide, StoR_congr a1 b, Or.inr (Or.inr (Or.inr (Or.inl ⟨rfl, a2, a3, a4⟩)))⟩
