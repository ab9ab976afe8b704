/-- what a try of ticks needs of a row, and keeps -/
def GI (nw : Nat → Int32) : Prop := 1 ≤ nw 2 ∧ (nw 15 = 0 ∨ nw 15 = 1 ∨ nw 15 = 2) ∧ (nw 28 = 0 ∨ nw 28 = 1 ∨ nw 28 = 2) ∧ (10 ≤ nw 9 ∧ nw 9 ≤ 60) ∧ (10 ≤ nw 22 ∧ nw 22 ≤ 60) ∧ (10 ≤ nw 14 ∧ nw 14 ≤ 60) ∧ (10 ≤ nw 27 ∧ nw 27 ≤ 60)
theorem n10 {x : Int32} (h : 10 ≤ x) : ¬ x = 0 := fun q => absurd h (by rw [q]; decide)
theorem incR {x : Int32} (h : 10 ≤ x ∧ x ≤ 60) (t : Int32) (ht : t ≤ 60) (hx : x < t) : 10 ≤ x + 1 ∧ x + 1 ≤ 60 := by
  rw [Int32.le_iff_toInt_le, Int32.le_iff_toInt_le, show (10 : Int32).toInt = 10 from by decide, show (60 : Int32).toInt = 60 from by decide] at *
  rw [Int32.lt_iff_toInt_lt] at hx
  have e : (x + 1).toInt = x.toInt + 1 := by rw [Int32.toInt_add, show (1 : Int32).toInt = 1 from by decide, Int.bmod_def]; omega
  omega
theorem decR {x : Int32} (h : 10 ≤ x ∧ x ≤ 60) (t : Int32) (ht : 10 ≤ t) (hx : t ≤ x) (hn : ¬ t = x) : 10 ≤ x - 1 ∧ x - 1 ≤ 60 := by
  have hne : t.toInt ≠ x.toInt := fun q => hn (Int32.toInt_inj.mp q)
  rw [Int32.le_iff_toInt_le, Int32.le_iff_toInt_le, show (10 : Int32).toInt = 10 from by decide, show (60 : Int32).toInt = 60 from by decide] at *
  have e : (x - 1).toInt = x.toInt - 1 := by rw [Int32.toInt_sub, show (1 : Int32).toInt = 1 from by decide, Int.bmod_def]; omega
  omega
theorem stS_0 {nw A : Nat → Int32} (h : s_stepsCome8_0 nw = (A, ())) : A 15 = 0 ∨ A 15 = 1 ∨ A 15 = 2 := by
  have e : A = (s_stepsCome8_0 nw).1 := by rw [h]
  subst e
  unfold s_stepsCome8_0 s_stepsCome8_00 s_stepsCome8_01 s_stepsCome8_02
  repeat' split
  all_goals first | exact Or.inl rfl | exact Or.inr (Or.inl rfl) | exact Or.inr (Or.inr rfl)
theorem hoK_0 {nw A : Nat → Int32} (h : s_hoists8_0 nw = (A, ())) (i : Nat) (h1 : i ≠ 9) : A i = nw i := by
  have e : A = (s_hoists8_0 nw).1 := by rw [h]
  subst e
  unfold s_hoists8_0
  repeat' split
  all_goals first | rfl | exact upd_ne h1
theorem hoR_0 {nw A : Nat → Int32} (h : s_hoists8_0 nw = (A, ())) (hr : 10 ≤ nw 9 ∧ nw 9 ≤ 60) (ht : 10 ≤ nw 14 ∧ nw 14 ≤ 60) : 10 ≤ A 9 ∧ A 9 ≤ 60 := by
  unfold s_hoists8_0 at h
  by_cases k_1 : (nw 14) = (nw 9)
  · rw [if_pos k_1] at h
    have h9 := (Prod.mk.inj h).1
    subst h9
    exact hr
  · rw [if_neg k_1] at h
    by_cases k_2 : (s_size8 (nw 8)) ≤ (nw 4)
    · rw [if_pos k_2] at h
      by_cases k_3 : (nw 14) ≤ (nw 9)
      · rw [if_pos k_3] at h
        by_cases k_4 : nw 5 = (-4)
        · rw [if_pos k_4] at h
          have h9 := (Prod.mk.inj h).1
          subst h9
          rw [upd_eq]
          exact decR hr _ ht.1 k_3 k_1
        · rw [if_neg k_4] at h
          by_cases k_5 : (s_size8 (((nw 9) - 1) - (nw 22))) ≤ (nw 5)
          · rw [if_pos k_5] at h
            have h9 := (Prod.mk.inj h).1
            subst h9
            rw [upd_eq]
            exact decR hr _ ht.1 k_3 k_1
          · rw [if_neg k_5] at h
            by_cases k_6 : (s_size8 (((nw 9) - 1) - (nw 22))) ≤ (s_size8 ((nw 9) - (nw 22)))
            · rw [if_pos k_6] at h
              have h9 := (Prod.mk.inj h).1
              subst h9
              rw [upd_eq]
              exact decR hr _ ht.1 k_3 k_1
            · rw [if_neg k_6] at h
              have h9 := (Prod.mk.inj h).1
              subst h9
              exact hr
      · rw [if_neg k_3] at h
        by_cases k_7 : nw 5 = (-4)
        · rw [if_pos k_7] at h
          have h9 := (Prod.mk.inj h).1
          subst h9
          rw [upd_eq]
          exact incR hr _ ht.2 (bLtN2 k_3)
        · rw [if_neg k_7] at h
          by_cases k_8 : (s_size8 (((nw 9) + 1) - (nw 22))) ≤ (nw 5)
          · rw [if_pos k_8] at h
            have h9 := (Prod.mk.inj h).1
            subst h9
            rw [upd_eq]
            exact incR hr _ ht.2 (bLtN2 k_3)
          · rw [if_neg k_8] at h
            by_cases k_9 : (s_size8 (((nw 9) + 1) - (nw 22))) ≤ (s_size8 ((nw 9) - (nw 22)))
            · rw [if_pos k_9] at h
              have h9 := (Prod.mk.inj h).1
              subst h9
              rw [upd_eq]
              exact incR hr _ ht.2 (bLtN2 k_3)
            · rw [if_neg k_9] at h
              have h9 := (Prod.mk.inj h).1
              subst h9
              exact hr
    · rw [if_neg k_2] at h
      have h9 := (Prod.mk.inj h).1
      subst h9
      exact hr
theorem stS_1 {nw A : Nat → Int32} (h : s_stepsCome8_1 nw = (A, ())) : A 28 = 0 ∨ A 28 = 1 ∨ A 28 = 2 := by
  have e : A = (s_stepsCome8_1 nw).1 := by rw [h]
  subst e
  unfold s_stepsCome8_1 s_stepsCome8_10 s_stepsCome8_11 s_stepsCome8_12
  repeat' split
  all_goals first | exact Or.inl rfl | exact Or.inr (Or.inl rfl) | exact Or.inr (Or.inr rfl)
theorem hoK_1 {nw A : Nat → Int32} (h : s_hoists8_1 nw = (A, ())) (i : Nat) (h1 : i ≠ 22) : A i = nw i := by
  have e : A = (s_hoists8_1 nw).1 := by rw [h]
  subst e
  unfold s_hoists8_1
  repeat' split
  all_goals first | rfl | exact upd_ne h1
theorem hoR_1 {nw A : Nat → Int32} (h : s_hoists8_1 nw = (A, ())) (hr : 10 ≤ nw 22 ∧ nw 22 ≤ 60) (ht : 10 ≤ nw 27 ∧ nw 27 ≤ 60) : 10 ≤ A 22 ∧ A 22 ≤ 60 := by
  unfold s_hoists8_1 at h
  by_cases k_1 : (nw 27) = (nw 22)
  · rw [if_pos k_1] at h
    have h9 := (Prod.mk.inj h).1
    subst h9
    exact hr
  · rw [if_neg k_1] at h
    by_cases k_2 : (s_size8 (nw 21)) ≤ (nw 4)
    · rw [if_pos k_2] at h
      by_cases k_3 : (nw 27) ≤ (nw 22)
      · rw [if_pos k_3] at h
        by_cases k_4 : nw 5 = (-4)
        · rw [if_pos k_4] at h
          have h9 := (Prod.mk.inj h).1
          subst h9
          rw [upd_eq]
          exact decR hr _ ht.1 k_3 k_1
        · rw [if_neg k_4] at h
          by_cases k_5 : (s_size8 (((nw 22) - 1) - (nw 9))) ≤ (nw 5)
          · rw [if_pos k_5] at h
            have h9 := (Prod.mk.inj h).1
            subst h9
            rw [upd_eq]
            exact decR hr _ ht.1 k_3 k_1
          · rw [if_neg k_5] at h
            by_cases k_6 : (s_size8 (((nw 22) - 1) - (nw 9))) ≤ (s_size8 ((nw 22) - (nw 9)))
            · rw [if_pos k_6] at h
              have h9 := (Prod.mk.inj h).1
              subst h9
              rw [upd_eq]
              exact decR hr _ ht.1 k_3 k_1
            · rw [if_neg k_6] at h
              have h9 := (Prod.mk.inj h).1
              subst h9
              exact hr
      · rw [if_neg k_3] at h
        by_cases k_7 : nw 5 = (-4)
        · rw [if_pos k_7] at h
          have h9 := (Prod.mk.inj h).1
          subst h9
          rw [upd_eq]
          exact incR hr _ ht.2 (bLtN2 k_3)
        · rw [if_neg k_7] at h
          by_cases k_8 : (s_size8 (((nw 22) + 1) - (nw 9))) ≤ (nw 5)
          · rw [if_pos k_8] at h
            have h9 := (Prod.mk.inj h).1
            subst h9
            rw [upd_eq]
            exact incR hr _ ht.2 (bLtN2 k_3)
          · rw [if_neg k_8] at h
            by_cases k_9 : (s_size8 (((nw 22) + 1) - (nw 9))) ≤ (s_size8 ((nw 22) - (nw 9)))
            · rw [if_pos k_9] at h
              have h9 := (Prod.mk.inj h).1
              subst h9
              rw [upd_eq]
              exact incR hr _ ht.2 (bLtN2 k_3)
            · rw [if_neg k_9] at h
              have h9 := (Prod.mk.inj h).1
              subst h9
              exact hr
    · rw [if_neg k_2] at h
      have h9 := (Prod.mk.inj h).1
      subst h9
      exact hr
theorem GI_goes {nw A : Nat → Int32} {r : Int32} (h : s_goesBy8 nw = (r, A)) (g : GI nw) : GI A := by
  obtain ⟨g1, g2, g3, g4, g5, g6, g7⟩ := g
  unfold s_goesBy8 at h
  obtain ⟨u_1_0, hr_1⟩ := bEx1 (s_stepsCome8_0 (upd nw 6 ((nw 6) + 1)))
  rw [hr_1] at h
  dsimp only at h
  have a1 := stK_0 hr_1; have b1 := stS_0 hr_1
  obtain ⟨u_2_0, hr_2⟩ := bEx1 (s_stepsCome8_1 u_1_0)
  rw [hr_2] at h
  dsimp only at h
  have a2 := stK_1 hr_2; have b2 := stS_1 hr_2
  obtain ⟨u_3_0, hr_3⟩ := bEx1 (s_goes8_0 u_2_0 (s_braked8_0 u_2_0 (s_wanted8_0 u_2_0)))
  rw [hr_3] at h
  dsimp only at h
  have a3 := goK_0 hr_3
  obtain ⟨u_4_0, hr_4⟩ := bEx1 (s_goes8_1 u_3_0 (s_braked8_1 u_2_0 (s_wanted8_1 u_2_0)))
  rw [hr_4] at h
  dsimp only at h
  have a4 := goK_1 hr_4
  obtain ⟨u_5_0, hr_5⟩ := bEx1 (s_hoists8_0 u_4_0)
  rw [hr_5] at h
  dsimp only at h
  have a5 := hoK_0 hr_5; have b5 := hoR_0 hr_5
  obtain ⟨u_6_0, hr_6⟩ := bEx1 (s_hoists8_1 u_5_0)
  rw [hr_6] at h
  dsimp only at h
  have a6 := hoK_1 hr_6; have b6 := hoR_1 hr_6
  have f : ∀ i : Nat, i = 2 ∨ i = 14 ∨ i = 27 ∨ i = 9 ∨ i = 22 → u_4_0 i = nw i := by
    intro i hi
    rw [a4 i (by omega) (by omega) (by omega) (by omega), a3 i (by omega) (by omega) (by omega) (by omega), a2 i (by omega), a1 i (by omega), upd_ne (by omega)]
  have gi : GI u_6_0 := by
    refine ⟨?_, ?_, ?_, ?_, ?_, ?_, ?_⟩
    · rw [a6 2 (by omega), a5 2 (by omega), f 2 (by omega)]; exact g1
    · rw [a6 15 (by omega), a5 15 (by omega), a4 15 (by omega) (by omega) (by omega) (by omega), a3 15 (by omega) (by omega) (by omega) (by omega), a2 15 (by omega)]; exact b1
    · rw [a6 28 (by omega), a5 28 (by omega), a4 28 (by omega) (by omega) (by omega) (by omega), a3 28 (by omega) (by omega) (by omega) (by omega)]; exact b2
    · rw [a6 9 (by omega)]; exact b5 (by rw [f 9 (by omega)]; exact g4) (by rw [f 14 (by omega)]; exact g6)
    · exact b6 (by rw [a5 22 (by omega), f 22 (by omega)]; exact g5) (by rw [a5 27 (by omega), f 27 (by omega)]; exact g7)
    · rw [a6 14 (by omega), a5 14 (by omega), f 14 (by omega)]; exact g6
    · rw [a6 27 (by omega), a5 27 (by omega), f 27 (by omega)]; exact g7
  by_cases k_1 : (s_braked8_0 u_2_0 (s_wanted8_0 u_2_0)) = (s_wanted8_0 u_2_0)
  · rw [if_pos k_1] at h
    by_cases k_2 : (s_braked8_1 u_2_0 (s_wanted8_1 u_2_0)) = (s_wanted8_1 u_2_0)
    · rw [if_pos k_2] at h
      have h9 := (Prod.mk.inj h).2
      subst h9
      exact gi
    · rw [if_neg k_2] at h
      have h9 := (Prod.mk.inj h).2
      subst h9
      exact gi
  · rw [if_neg k_1] at h
    by_cases k_3 : (s_braked8_1 u_2_0 (s_wanted8_1 u_2_0)) = (s_wanted8_1 u_2_0)
    · rw [if_pos k_3] at h
      have h9 := (Prod.mk.inj h).2
      subst h9
      exact gi
    · rw [if_neg k_3] at h
      have h9 := (Prod.mk.inj h).2
      subst h9
      exact gi
