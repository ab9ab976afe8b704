/-- what a try of ticks needs of a row, and keeps -/
def GI (nw : Nat → Int32) : Prop := 1 ≤ nw 2 ∧ (nw 15 = 0 ∨ nw 15 = 1 ∨ nw 15 = 2) ∧ (nw 28 = 0 ∨ nw 28 = 1 ∨ nw 28 = 2) ∧ (10 ≤ nw 9 ∧ nw 9 ≤ 60) ∧ (10 ≤ nw 22 ∧ nw 22 ≤ 60) ∧ (10 ≤ nw 14 ∧ nw 14 ≤ 60) ∧ (10 ≤ nw 27 ∧ nw 27 ≤ 60)
theorem n10 {x : Int32} (h : 10 ≤ x) : ¬ x = 0 := fun q => absurd h (by rw [q]; decide)
theorem incR {x : Int32} (h : 10 ≤ x ∧ x ≤ 60) (t : Int32) (ht : t ≤ 60) (hx : x < t) : 10 ≤ x + 1 ∧ x + 1 ≤ 60 := by
  rw [Int32.le_iff_toInt_le, Int32.le_iff_toInt_le, show (10 : Int32).toInt = 10 from by decide, show (60 : Int32).toInt = 60 from by decide] at *
  rw [Int32.lt_iff_toInt_lt] at hx
  have e : (x + 1).toInt = x.toInt + 1 := by rw [Int32.toInt_add, show (1 : Int32).toInt = 1 from by decide, Int.bmod_def]; omega
  omega
theorem decR {x : Int32} (h : 10 ≤ x ∧ x ≤ 60) (t : Int32) (ht : 10 ≤ t) (hx : t ≤ x) (hn : ¬ t = x) : 10 ≤ x - 1 ∧ x - 1 ≤ 60 := by
  have hne : t.toInt ≠ x.toInt := fun q => hn (Int32.toInt_inj.mp q)
  rw [Int32.le_iff_toInt_le, Int32.le_iff_toInt_le, show (10 : Int32).toInt = 10 from by decide, show (60 : Int32).toInt = 60 from by decide] at *
  have e : (x - 1).toInt = x.toInt - 1 := by rw [Int32.toInt_sub, show (1 : Int32).toInt = 1 from by decide, Int.bmod_def]; omega
  omega
theorem stS_0 {nw A : Nat → Int32} (h : s_stepsCome8_0 nw = (A, ())) : A 15 = 0 ∨ A 15 = 1 ∨ A 15 = 2 := by
  have e : A = (s_stepsCome8_0 nw).1 := by rw [h]
  subst e
  unfold s_stepsCome8_0 s_stepsCome8_00 s_stepsCome8_01 s_stepsCome8_02
  repeat' split
  all_goals first | exact Or.inl rfl | exact Or.inr (Or.inl rfl) | exact Or.inr (Or.inr rfl)
theorem hoK_0 {nw A : Nat → Int32} (h : s_hoists8_0 nw = (A, ())) (i : Nat) (h1 : i ≠ 9) : A i = nw i := by
  have e : A = (s_hoists8_0 nw).1 := by rw [h]
  subst e
  unfold s_hoists8_0
  repeat' split
  all_goals first | rfl | exact upd_ne h1
theorem hoR_0 {nw A : Nat → Int32} (h : s_hoists8_0 nw = (A, ())) (hr : 10 ≤ nw 9 ∧ nw 9 ≤ 60) (ht : 10 ≤ nw 14 ∧ nw 14 ≤ 60) : 10 ≤ A 9 ∧ A 9 ≤ 60 := by
  unfold s_hoists8_0 at h
  by_cases k_1 : (nw 14) = (nw 9)
  · rw [if_pos k_1] at h
    have h9 := (Prod.mk.inj h).1
    subst h9
    exact hr
  · rw [if_neg k_1] at h
    by_cases k_2 : (s_size8 (nw 8)) ≤ (nw 4)
    · rw [if_pos k_2] at h
      by_cases k_3 : (nw 14) ≤ (nw 9)
      · rw [if_pos k_3] at h
        by_cases k_4 : nw 5 = (-4)
        · rw [if_pos k_4] at h
          have h9 := (Prod.mk.inj h).1
          subst h9
          rw [upd_eq]
          exact decR hr _ ht.1 k_3 k_1
        · rw [if_neg k_4] at h
          by_cases k_5 : (s_size8 (((nw 9) - 1) - (nw 22))) ≤ (nw 5)
          · rw [if_pos k_5] at h
            have h9 := (Prod.mk.inj h).1
            subst h9
            rw [upd_eq]
            exact decR hr _ ht.1 k_3 k_1
          · rw [if_neg k_5] at h
            by_cases k_6 : (s_size8 (((nw 9) - 1) - (nw 22))) ≤ (s_size8 ((nw 9) - (nw 22)))
            · rw [if_pos k_6] at h
              have h9 := (Prod.mk.inj h).1
              subst h9
              rw [upd_eq]
              exact decR hr _ ht.1 k_3 k_1
            · rw [if_neg k_6] at h
              have h9 := (Prod.mk.inj h).1
              subst h9
              exact hr
      · rw [if_neg k_3] at h
        by_cases k_7 : nw 5 = (-4)
        · rw [if_pos k_7] at h
          have h9 := (Prod.mk.inj h).1
          subst h9
          rw [upd_eq]
          exact incR hr _ ht.2 (bLtN2 k_3)
        · rw [if_neg k_7] at h
          by_cases k_8 : (s_size8 (((nw 9) + 1) - (nw 22))) ≤ (nw 5)
          · rw [if_pos k_8] at h
            have h9 := (Prod.mk.inj h).1
            subst h9
            rw [upd_eq]
            exact incR hr _ ht.2 (bLtN2 k_3)
          · rw [if_neg k_8] at h
            by_cases k_9 : (s_size8 (((nw 9) + 1) - (nw 22))) ≤ (s_size8 ((nw 9) - (nw 22)))
            · rw [if_pos k_9] at h
              have h9 := (Prod.mk.inj h).1
              subst h9
              rw [upd_eq]
              exact incR hr _ ht.2 (bLtN2 k_3)
            · rw [if_neg k_9] at h
              have h9 := (Prod.mk.inj h).1
              subst h9
              exact hr
    · rw [if_neg k_2] at h
      have h9 := (Prod.mk.inj h).1
      subst h9
      exact hr
theorem stS_1 {nw A : Nat → Int32} (h : s_stepsCome8_1 nw = (A, ())) : A 28 = 0 ∨ A 28 = 1 ∨ A 28 = 2 := by
  have e : A = (s_stepsCome8_1 nw).1 := by rw [h]
  subst e
  unfold s_stepsCome8_1 s_stepsCome8_10 s_stepsCome8_11 s_stepsCome8_12
  repeat' split
  all_goals first | exact Or.inl rfl | exact Or.inr (Or.inl rfl) | exact Or.inr (Or.inr rfl)
theorem hoK_1 {nw A : Nat → Int32} (h : s_hoists8_1 nw = (A, ())) (i : Nat) (h1 : i ≠ 22) : A i = nw i := by
  have e : A = (s_hoists8_1 nw).1 := by rw [h]
  subst e
  unfold s_hoists8_1
  repeat' split
  all_goals first | rfl | exact upd_ne h1
theorem hoR_1 {nw A : Nat → Int32} (h : s_hoists8_1 nw = (A, ())) (hr : 10 ≤ nw 22 ∧ nw 22 ≤ 60) (ht : 10 ≤ nw 27 ∧ nw 27 ≤ 60) : 10 ≤ A 22 ∧ A 22 ≤ 60 := by
  unfold s_hoists8_1 at h
  by_cases k_1 : (nw 27) = (nw 22)
  · rw [if_pos k_1] at h
    have h9 := (Prod.mk.inj h).1
    subst h9
    exact hr
  · rw [if_neg k_1] at h
    by_cases k_2 : (s_size8 (nw 21)) ≤ (nw 4)
    · rw [if_pos k_2] at h
      by_cases k_3 : (nw 27) ≤ (nw 22)
      · rw [if_pos k_3] at h
        by_cases k_4 : nw 5 = (-4)
        · rw [if_pos k_4] at h
          have h9 := (Prod.mk.inj h).1
          subst h9
          rw [upd_eq]
          exact decR hr _ ht.1 k_3 k_1
        · rw [if_neg k_4] at h
          by_cases k_5 : (s_size8 (((nw 22) - 1) - (nw 9))) ≤ (nw 5)
          · rw [if_pos k_5] at h
            have h9 := (Prod.mk.inj h).1
            subst h9
            rw [upd_eq]
            exact decR hr _ ht.1 k_3 k_1
          · rw [if_neg k_5] at h
            by_cases k_6 : (s_size8 (((nw 22) - 1) - (nw 9))) ≤ (s_size8 ((nw 22) - (nw 9)))
            · rw [if_pos k_6] at h
              have h9 := (Prod.mk.inj h).1
              subst h9
              rw [upd_eq]
              exact decR hr _ ht.1 k_3 k_1
            · rw [if_neg k_6] at h
              have h9 := (Prod.mk.inj h).1
              subst h9
              exact hr
      · rw [if_neg k_3] at h
        by_cases k_7 : nw 5 = (-4)
        · rw [if_pos k_7] at h
          have h9 := (Prod.mk.inj h).1
          subst h9
          rw [upd_eq]
          exact incR hr _ ht.2 (bLtN2 k_3)
        · rw [if_neg k_7] at h
          by_cases k_8 : (s_size8 (((nw 22) + 1) - (nw 9))) ≤ (nw 5)
          · rw [if_pos k_8] at h
            have h9 := (Prod.mk.inj h).1
            subst h9
            rw [upd_eq]
            exact incR hr _ ht.2 (bLtN2 k_3)
          · rw [if_neg k_8] at h
            by_cases k_9 : (s_size8 (((nw 22) + 1) - (nw 9))) ≤ (s_size8 ((nw 22) - (nw 9)))
            · rw [if_pos k_9] at h
              have h9 := (Prod.mk.inj h).1
              subst h9
              rw [upd_eq]
              exact incR hr _ ht.2 (bLtN2 k_3)
            · rw [if_neg k_9] at h
              have h9 := (Prod.mk.inj h).1
              subst h9
              exact hr
    · rw [if_neg k_2] at h
      have h9 := (Prod.mk.inj h).1
      subst h9
      exact hr
theorem GI_goes {nw A : Nat → Int32} {r : Int32} (h : s_goesBy8 nw = (r, A)) (g : GI nw) : GI A := by
  obtain ⟨g1, g2, g3, g4, g5, g6, g7⟩ := g
  unfold s_goesBy8 at h
  obtain ⟨u_1_0, hr_1⟩ := bEx1 (s_stepsCome8_0 (upd nw 6 ((nw 6) + 1)))
  rw [hr_1] at h
  dsimp only at h
  have a1 := stK_0 hr_1; have b1 := stS_0 hr_1
  obtain ⟨u_2_0, hr_2⟩ := bEx1 (s_stepsCome8_1 u_1_0)
  rw [hr_2] at h
  dsimp only at h
  have a2 := stK_1 hr_2; have b2 := stS_1 hr_2
  obtain ⟨u_3_0, hr_3⟩ := bEx1 (s_goes8_0 u_2_0 (s_braked8_0 u_2_0 (s_wanted8_0 u_2_0)))
  rw [hr_3] at h
  dsimp only at h
  have a3 := goK_0 hr_3
  obtain ⟨u_4_0, hr_4⟩ := bEx1 (s_goes8_1 u_3_0 (s_braked8_1 u_2_0 (s_wanted8_1 u_2_0)))
  rw [hr_4] at h
  dsimp only at h
  have a4 := goK_1 hr_4
  obtain ⟨u_5_0, hr_5⟩ := bEx1 (s_hoists8_0 u_4_0)
  rw [hr_5] at h
  dsimp only at h
  have a5 := hoK_0 hr_5; have b5 := hoR_0 hr_5
  obtain ⟨u_6_0, hr_6⟩ := bEx1 (s_hoists8_1 u_5_0)
  rw [hr_6] at h
  dsimp only at h
  have a6 := hoK_1 hr_6; have b6 := hoR_1 hr_6
  have f : ∀ i : Nat, i = 2 ∨ i = 14 ∨ i = 27 ∨ i = 9 ∨ i = 22 → u_4_0 i = nw i := by
    intro i hi
    rw [a4 i (by omega) (by omega) (by omega) (by omega), a3 i (by omega) (by omega) (by omega) (by omega), a2 i (by omega), a1 i (by omega), upd_ne (by omega)]
  have gi : GI u_6_0 := by
    refine ⟨?_, ?_, ?_, ?_, ?_, ?_, ?_⟩
    · rw [a6 2 (by omega), a5 2 (by omega), f 2 (by omega)]; exact g1
    · rw [a6 15 (by omega), a5 15 (by omega), a4 15 (by omega) (by omega) (by omega) (by omega), a3 15 (by omega) (by omega) (by omega) (by omega), a2 15 (by omega)]; exact b1
    · rw [a6 28 (by omega), a5 28 (by omega), a4 28 (by omega) (by omega) (by omega) (by omega), a3 28 (by omega) (by omega) (by omega) (by omega)]; exact b2
    · rw [a6 9 (by omega)]; exact b5 (by rw [f 9 (by omega)]; exact g4) (by rw [f 14 (by omega)]; exact g6)
    · exact b6 (by rw [a5 22 (by omega), f 22 (by omega)]; exact g5) (by rw [a5 27 (by omega), f 27 (by omega)]; exact g7)
    · rw [a6 14 (by omega), a5 14 (by omega), f 14 (by omega)]; exact g6
    · rw [a6 27 (by omega), a5 27 (by omega), f 27 (by omega)]; exact g7
  by_cases k_1 : (s_braked8_0 u_2_0 (s_wanted8_0 u_2_0)) = (s_wanted8_0 u_2_0)
  · rw [if_pos k_1] at h
    by_cases k_2 : (s_braked8_1 u_2_0 (s_wanted8_1 u_2_0)) = (s_wanted8_1 u_2_0)
    · rw [if_pos k_2] at h
      have h9 := (Prod.mk.inj h).2
      subst h9
      exact gi
    · rw [if_neg k_2] at h
      have h9 := (Prod.mk.inj h).2
      subst h9
      exact gi
  · rw [if_neg k_1] at h
    by_cases k_3 : (s_braked8_1 u_2_0 (s_wanted8_1 u_2_0)) = (s_wanted8_1 u_2_0)
    · rw [if_pos k_3] at h
      have h9 := (Prod.mk.inj h).2
      subst h9
      exact gi
    · rw [if_neg k_3] at h
      have h9 := (Prod.mk.inj h).2
      subst h9
      exact gi
theorem asR_0 {nw A : Nat → Int32} {t b : Int32} (h : s_addsStep8_0 nw t b = (A, ())) (i : Nat) (h1 : i < 15 ∨ 19 < i) : A i = nw i := by
  have e : A = (s_addsStep8_0 nw t b).1 := by rw [h]
  subst e
  unfold s_addsStep8_0 s_addsStep8_00 s_addsStep8_01
  repeat' split
  all_goals first | (dsimp only; done) | (dsimp only; simp only [upd]; repeat rw [if_neg (by omega)])
theorem asS_0 {nw A : Nat → Int32} {t b : Int32} (h : s_addsStep8_0 nw t b = (A, ())) (h0 : nw 15 = 0 ∨ nw 15 = 1) : A 15 = 0 ∨ A 15 = 1 ∨ A 15 = 2 := by
  have e : A = (s_addsStep8_0 nw t b).1 := by rw [h]
  subst e
  unfold s_addsStep8_0 s_addsStep8_00 s_addsStep8_01
  repeat' split
  all_goals first | exact Or.inl (by assumption) | exact Or.inr (Or.inl rfl) | exact Or.inr (Or.inr rfl) | exact h0.elim Or.inl (fun q => Or.inr (Or.inl q))
theorem asR_1 {nw A : Nat → Int32} {t b : Int32} (h : s_addsStep8_1 nw t b = (A, ())) (i : Nat) (h1 : i < 28 ∨ 32 < i) : A i = nw i := by
  have e : A = (s_addsStep8_1 nw t b).1 := by rw [h]
  subst e
  unfold s_addsStep8_1 s_addsStep8_10 s_addsStep8_11
  repeat' split
  all_goals first | (dsimp only; done) | (dsimp only; simp only [upd]; repeat rw [if_neg (by omega)])
theorem asS_1 {nw A : Nat → Int32} {t b : Int32} (h : s_addsStep8_1 nw t b = (A, ())) (h0 : nw 28 = 0 ∨ nw 28 = 1) : A 28 = 0 ∨ A 28 = 1 ∨ A 28 = 2 := by
  have e : A = (s_addsStep8_1 nw t b).1 := by rw [h]
  subst e
  unfold s_addsStep8_1 s_addsStep8_10 s_addsStep8_11
  repeat' split
  all_goals first | exact Or.inl (by assumption) | exact Or.inr (Or.inl rfl) | exact Or.inr (Or.inr rfl) | exact h0.elim Or.inl (fun q => Or.inr (Or.inl q))
theorem GI_cmdn_0 {nw A : Nat → Int32} {r w : Int32} (h : s_commands8n_0 nw w = (r, A)) (g : GI nw) : GI A := by
  obtain ⟨g1, g2, g3, g4, g5, g6, g7⟩ := g
  unfold s_commands8n_0 at h
  obtain ⟨u_1_0, hr_1⟩ := bEx1 (s_addsStep8_0 (upd (upd (upd (upd (upd nw 15 0) 16 0) 17 0) 18 0) 19 0) ((nw 6) + 1) (w - (nw 13)))
  rw [hr_1] at h
  dsimp only at h
  have a_1 := asR_0 hr_1
  try have b_1 := asK_0 hr_1 rfl
  obtain ⟨u_2_0, hr_2⟩ := bEx1 (s_addsStep8_0 u_1_0 (((u_1_0 6) + 1) + (-1)) ((w - (nw 13)) - (w - (nw 13))))
  rw [hr_2] at h
  dsimp only at h
  have a_2 := asR_0 hr_2
  try have b_2 := asK_0 hr_2 rfl
  by_cases k_1 : (s_heeds8_10 u_2_0) = true
  · rw [if_pos k_1] at h
    obtain ⟨u_4_0, hr_4⟩ := bEx1 (s_addsStep8_1 (upd (upd (upd (upd (upd u_2_0 28 0) 29 0) 30 0) 31 0) 32 0) ((u_2_0 6) + 1) (w - (u_2_0 26)))
    rw [hr_4] at h
    dsimp only at h
    have a_4 := asR_1 hr_4
    try have b_4 := asK_1 hr_4 rfl
    obtain ⟨u_5_0, hr_5⟩ := bEx1 (s_addsStep8_1 u_4_0 (((u_4_0 6) + 1) + (-1)) ((w - (u_2_0 26)) - (w - (u_2_0 26))))
    rw [hr_5] at h
    dsimp only at h
    have a_5 := asR_1 hr_5
    try have b_5 := asK_1 hr_5 rfl
    have h9 := (Prod.mk.inj h).2
    subst h9
    have d_2 := asS_0 hr_2 b_1
    have d_5 := asS_1 hr_5 b_4
    refine ⟨?_, ?_, ?_, ?_, ?_, ?_, ?_⟩
    · rw [a_5 2 (by omega), a_4 2 (by omega), upd_ne (by decide), upd_ne (by decide), upd_ne (by decide), upd_ne (by decide), upd_ne (by decide), a_2 2 (by omega), a_1 2 (by omega), upd_ne (by decide), upd_ne (by decide), upd_ne (by decide), upd_ne (by decide), upd_ne (by decide)]; exact g1
    · rw [a_5 15 (by omega), a_4 15 (by omega), upd_ne (by decide), upd_ne (by decide), upd_ne (by decide), upd_ne (by decide), upd_ne (by decide)]; exact d_2
    · exact d_5
    · rw [a_5 9 (by omega), a_4 9 (by omega), upd_ne (by decide), upd_ne (by decide), upd_ne (by decide), upd_ne (by decide), upd_ne (by decide), a_2 9 (by omega), a_1 9 (by omega), upd_ne (by decide), upd_ne (by decide), upd_ne (by decide), upd_ne (by decide), upd_ne (by decide)]; exact g4
    · rw [a_5 22 (by omega), a_4 22 (by omega), upd_ne (by decide), upd_ne (by decide), upd_ne (by decide), upd_ne (by decide), upd_ne (by decide), a_2 22 (by omega), a_1 22 (by omega), upd_ne (by decide), upd_ne (by decide), upd_ne (by decide), upd_ne (by decide), upd_ne (by decide)]; exact g5
    · rw [a_5 14 (by omega), a_4 14 (by omega), upd_ne (by decide), upd_ne (by decide), upd_ne (by decide), upd_ne (by decide), upd_ne (by decide), a_2 14 (by omega), a_1 14 (by omega), upd_ne (by decide), upd_ne (by decide), upd_ne (by decide), upd_ne (by decide), upd_ne (by decide)]; exact g6
    · rw [a_5 27 (by omega), a_4 27 (by omega), upd_ne (by decide), upd_ne (by decide), upd_ne (by decide), upd_ne (by decide), upd_ne (by decide), a_2 27 (by omega), a_1 27 (by omega), upd_ne (by decide), upd_ne (by decide), upd_ne (by decide), upd_ne (by decide), upd_ne (by decide)]; exact g7
  · rw [if_neg k_1] at h
    have h9 := (Prod.mk.inj h).2
    subst h9
    have d_2 := asS_0 hr_2 b_1
    refine ⟨?_, ?_, ?_, ?_, ?_, ?_, ?_⟩
    · rw [a_2 2 (by omega), a_1 2 (by omega), upd_ne (by decide), upd_ne (by decide), upd_ne (by decide), upd_ne (by decide), upd_ne (by decide)]; exact g1
    · exact d_2
    · rw [a_2 28 (by omega), a_1 28 (by omega), upd_ne (by decide), upd_ne (by decide), upd_ne (by decide), upd_ne (by decide), upd_ne (by decide)]; exact g3
    · rw [a_2 9 (by omega), a_1 9 (by omega), upd_ne (by decide), upd_ne (by decide), upd_ne (by decide), upd_ne (by decide), upd_ne (by decide)]; exact g4
    · rw [a_2 22 (by omega), a_1 22 (by omega), upd_ne (by decide), upd_ne (by decide), upd_ne (by decide), upd_ne (by decide), upd_ne (by decide)]; exact g5
    · rw [a_2 14 (by omega), a_1 14 (by omega), upd_ne (by decide), upd_ne (by decide), upd_ne (by decide), upd_ne (by decide), upd_ne (by decide)]; exact g6
    · rw [a_2 27 (by omega), a_1 27 (by omega), upd_ne (by decide), upd_ne (by decide), upd_ne (by decide), upd_ne (by decide), upd_ne (by decide)]; exact g7
theorem GI_cmdp_0 {nw A : Nat → Int32} {r w pa : Int32} (h : s_commands8p_0 nw w pa = (r, A)) (g : GI nw) : GI A := by
  obtain ⟨g1, g2, g3, g4, g5, g6, g7⟩ := g
  unfold s_commands8p_0 at h
  by_cases k_1 : 0 ≤ pa
  · rw [if_pos k_1] at h
    obtain ⟨u_2_0, hr_2⟩ := bEx1 (s_addsStep8_0 (upd (upd (upd (upd (upd nw 15 0) 16 0) 17 0) 18 0) 19 0) ((nw 6) + 1) ((w - (nw 13)) / 2))
    rw [hr_2] at h
    dsimp only at h
    have a_2 := asR_0 hr_2
    try have b_2 := asK_0 hr_2 rfl
    obtain ⟨u_3_0, hr_3⟩ := bEx1 (s_addsStep8_0 u_2_0 (((u_2_0 6) + 1) + pa) ((w - (nw 13)) - ((w - (nw 13)) / 2)))
    rw [hr_3] at h
    dsimp only at h
    have a_3 := asR_0 hr_3
    try have b_3 := asK_0 hr_3 rfl
    by_cases k_2 : (s_heeds8_10 u_3_0) = true
    · rw [if_pos k_2] at h
      obtain ⟨u_6_0, hr_6⟩ := bEx1 (s_addsStep8_1 (upd (upd (upd (upd (upd u_3_0 28 0) 29 0) 30 0) 31 0) 32 0) ((u_3_0 6) + 1) ((w - (u_3_0 26)) / 2))
      rw [hr_6] at h
      dsimp only at h
      have a_6 := asR_1 hr_6
      try have b_6 := asK_1 hr_6 rfl
      obtain ⟨u_7_0, hr_7⟩ := bEx1 (s_addsStep8_1 u_6_0 (((u_6_0 6) + 1) + pa) ((w - (u_3_0 26)) - ((w - (u_3_0 26)) / 2)))
      rw [hr_7] at h
      dsimp only at h
      have a_7 := asR_1 hr_7
      try have b_7 := asK_1 hr_7 rfl
      have h9 := (Prod.mk.inj h).2
      subst h9
      have d_3 := asS_0 hr_3 b_2
      have d_7 := asS_1 hr_7 b_6
      refine ⟨?_, ?_, ?_, ?_, ?_, ?_, ?_⟩
      · rw [a_7 2 (by omega), a_6 2 (by omega), upd_ne (by decide), upd_ne (by decide), upd_ne (by decide), upd_ne (by decide), upd_ne (by decide), a_3 2 (by omega), a_2 2 (by omega), upd_ne (by decide), upd_ne (by decide), upd_ne (by decide), upd_ne (by decide), upd_ne (by decide)]; exact g1
      · rw [a_7 15 (by omega), a_6 15 (by omega), upd_ne (by decide), upd_ne (by decide), upd_ne (by decide), upd_ne (by decide), upd_ne (by decide)]; exact d_3
      · exact d_7
      · rw [a_7 9 (by omega), a_6 9 (by omega), upd_ne (by decide), upd_ne (by decide), upd_ne (by decide), upd_ne (by decide), upd_ne (by decide), a_3 9 (by omega), a_2 9 (by omega), upd_ne (by decide), upd_ne (by decide), upd_ne (by decide), upd_ne (by decide), upd_ne (by decide)]; exact g4
      · rw [a_7 22 (by omega), a_6 22 (by omega), upd_ne (by decide), upd_ne (by decide), upd_ne (by decide), upd_ne (by decide), upd_ne (by decide), a_3 22 (by omega), a_2 22 (by omega), upd_ne (by decide), upd_ne (by decide), upd_ne (by decide), upd_ne (by decide), upd_ne (by decide)]; exact g5
      · rw [a_7 14 (by omega), a_6 14 (by omega), upd_ne (by decide), upd_ne (by decide), upd_ne (by decide), upd_ne (by decide), upd_ne (by decide), a_3 14 (by omega), a_2 14 (by omega), upd_ne (by decide), upd_ne (by decide), upd_ne (by decide), upd_ne (by decide), upd_ne (by decide)]; exact g6
      · rw [a_7 27 (by omega), a_6 27 (by omega), upd_ne (by decide), upd_ne (by decide), upd_ne (by decide), upd_ne (by decide), upd_ne (by decide), a_3 27 (by omega), a_2 27 (by omega), upd_ne (by decide), upd_ne (by decide), upd_ne (by decide), upd_ne (by decide), upd_ne (by decide)]; exact g7
    · rw [if_neg k_2] at h
      have h9 := (Prod.mk.inj h).2
      subst h9
      have d_3 := asS_0 hr_3 b_2
      refine ⟨?_, ?_, ?_, ?_, ?_, ?_, ?_⟩
      · rw [a_3 2 (by omega), a_2 2 (by omega), upd_ne (by decide), upd_ne (by decide), upd_ne (by decide), upd_ne (by decide), upd_ne (by decide)]; exact g1
      · exact d_3
      · rw [a_3 28 (by omega), a_2 28 (by omega), upd_ne (by decide), upd_ne (by decide), upd_ne (by decide), upd_ne (by decide), upd_ne (by decide)]; exact g3
      · rw [a_3 9 (by omega), a_2 9 (by omega), upd_ne (by decide), upd_ne (by decide), upd_ne (by decide), upd_ne (by decide), upd_ne (by decide)]; exact g4
      · rw [a_3 22 (by omega), a_2 22 (by omega), upd_ne (by decide), upd_ne (by decide), upd_ne (by decide), upd_ne (by decide), upd_ne (by decide)]; exact g5
      · rw [a_3 14 (by omega), a_2 14 (by omega), upd_ne (by decide), upd_ne (by decide), upd_ne (by decide), upd_ne (by decide), upd_ne (by decide)]; exact g6
      · rw [a_3 27 (by omega), a_2 27 (by omega), upd_ne (by decide), upd_ne (by decide), upd_ne (by decide), upd_ne (by decide), upd_ne (by decide)]; exact g7
  · rw [if_neg k_1] at h
    obtain ⟨u_8_0, hr_8⟩ := bEx1 (s_addsStep8_0 (upd (upd (upd (upd (upd nw 15 0) 16 0) 17 0) 18 0) 19 0) ((nw 6) + 1) (w - (nw 13)))
    rw [hr_8] at h
    dsimp only at h
    have a_8 := asR_0 hr_8
    try have b_8 := asK_0 hr_8 rfl
    obtain ⟨u_9_0, hr_9⟩ := bEx1 (s_addsStep8_0 u_8_0 (((u_8_0 6) + 1) + pa) ((w - (nw 13)) - (w - (nw 13))))
    rw [hr_9] at h
    dsimp only at h
    have a_9 := asR_0 hr_9
    try have b_9 := asK_0 hr_9 rfl
    by_cases k_3 : (s_heeds8_10 u_9_0) = true
    · rw [if_pos k_3] at h
      obtain ⟨u_12_0, hr_12⟩ := bEx1 (s_addsStep8_1 (upd (upd (upd (upd (upd u_9_0 28 0) 29 0) 30 0) 31 0) 32 0) ((u_9_0 6) + 1) (w - (u_9_0 26)))
      rw [hr_12] at h
      dsimp only at h
      have a_12 := asR_1 hr_12
      try have b_12 := asK_1 hr_12 rfl
      obtain ⟨u_13_0, hr_13⟩ := bEx1 (s_addsStep8_1 u_12_0 (((u_12_0 6) + 1) + pa) ((w - (u_9_0 26)) - (w - (u_9_0 26))))
      rw [hr_13] at h
      dsimp only at h
      have a_13 := asR_1 hr_13
      try have b_13 := asK_1 hr_13 rfl
      have h9 := (Prod.mk.inj h).2
      subst h9
      have d_9 := asS_0 hr_9 b_8
      have d_13 := asS_1 hr_13 b_12
      refine ⟨?_, ?_, ?_, ?_, ?_, ?_, ?_⟩
      · rw [a_13 2 (by omega), a_12 2 (by omega), upd_ne (by decide), upd_ne (by decide), upd_ne (by decide), upd_ne (by decide), upd_ne (by decide), a_9 2 (by omega), a_8 2 (by omega), upd_ne (by decide), upd_ne (by decide), upd_ne (by decide), upd_ne (by decide), upd_ne (by decide)]; exact g1
      · rw [a_13 15 (by omega), a_12 15 (by omega), upd_ne (by decide), upd_ne (by decide), upd_ne (by decide), upd_ne (by decide), upd_ne (by decide)]; exact d_9
      · exact d_13
      · rw [a_13 9 (by omega), a_12 9 (by omega), upd_ne (by decide), upd_ne (by decide), upd_ne (by decide), upd_ne (by decide), upd_ne (by decide), a_9 9 (by omega), a_8 9 (by omega), upd_ne (by decide), upd_ne (by decide), upd_ne (by decide), upd_ne (by decide), upd_ne (by decide)]; exact g4
      · rw [a_13 22 (by omega), a_12 22 (by omega), upd_ne (by decide), upd_ne (by decide), upd_ne (by decide), upd_ne (by decide), upd_ne (by decide), a_9 22 (by omega), a_8 22 (by omega), upd_ne (by decide), upd_ne (by decide), upd_ne (by decide), upd_ne (by decide), upd_ne (by decide)]; exact g5
      · rw [a_13 14 (by omega), a_12 14 (by omega), upd_ne (by decide), upd_ne (by decide), upd_ne (by decide), upd_ne (by decide), upd_ne (by decide), a_9 14 (by omega), a_8 14 (by omega), upd_ne (by decide), upd_ne (by decide), upd_ne (by decide), upd_ne (by decide), upd_ne (by decide)]; exact g6
      · rw [a_13 27 (by omega), a_12 27 (by omega), upd_ne (by decide), upd_ne (by decide), upd_ne (by decide), upd_ne (by decide), upd_ne (by decide), a_9 27 (by omega), a_8 27 (by omega), upd_ne (by decide), upd_ne (by decide), upd_ne (by decide), upd_ne (by decide), upd_ne (by decide)]; exact g7
    · rw [if_neg k_3] at h
      have h9 := (Prod.mk.inj h).2
      subst h9
      have d_9 := asS_0 hr_9 b_8
      refine ⟨?_, ?_, ?_, ?_, ?_, ?_, ?_⟩
      · rw [a_9 2 (by omega), a_8 2 (by omega), upd_ne (by decide), upd_ne (by decide), upd_ne (by decide), upd_ne (by decide), upd_ne (by decide)]; exact g1
      · exact d_9
      · rw [a_9 28 (by omega), a_8 28 (by omega), upd_ne (by decide), upd_ne (by decide), upd_ne (by decide), upd_ne (by decide), upd_ne (by decide)]; exact g3
      · rw [a_9 9 (by omega), a_8 9 (by omega), upd_ne (by decide), upd_ne (by decide), upd_ne (by decide), upd_ne (by decide), upd_ne (by decide)]; exact g4
      · rw [a_9 22 (by omega), a_8 22 (by omega), upd_ne (by decide), upd_ne (by decide), upd_ne (by decide), upd_ne (by decide), upd_ne (by decide)]; exact g5
      · rw [a_9 14 (by omega), a_8 14 (by omega), upd_ne (by decide), upd_ne (by decide), upd_ne (by decide), upd_ne (by decide), upd_ne (by decide)]; exact g6
      · rw [a_9 27 (by omega), a_8 27 (by omega), upd_ne (by decide), upd_ne (by decide), upd_ne (by decide), upd_ne (by decide), upd_ne (by decide)]; exact g7
theorem GI_cmdn_1 {nw A : Nat → Int32} {r w : Int32} (h : s_commands8n_1 nw w = (r, A)) (g : GI nw) : GI A := by
  obtain ⟨g1, g2, g3, g4, g5, g6, g7⟩ := g
  unfold s_commands8n_1 at h
  by_cases k_1 : (s_heeds8_01 nw) = true
  · rw [if_pos k_1] at h
    obtain ⟨u_4_0, hr_4⟩ := bEx1 (s_addsStep8_0 (upd (upd (upd (upd (upd nw 15 0) 16 0) 17 0) 18 0) 19 0) ((nw 6) + 1) (w - (nw 13)))
    rw [hr_4] at h
    dsimp only at h
    have a_4 := asR_0 hr_4
    try have b_4 := asK_0 hr_4 rfl
    obtain ⟨u_5_0, hr_5⟩ := bEx1 (s_addsStep8_0 u_4_0 (((u_4_0 6) + 1) + (-1)) ((w - (nw 13)) - (w - (nw 13))))
    rw [hr_5] at h
    dsimp only at h
    have a_5 := asR_0 hr_5
    try have b_5 := asK_0 hr_5 rfl
    obtain ⟨u_6_0, hr_6⟩ := bEx1 (s_addsStep8_1 (upd (upd (upd (upd (upd u_5_0 28 0) 29 0) 30 0) 31 0) 32 0) ((u_5_0 6) + 1) (w - (u_5_0 26)))
    rw [hr_6] at h
    dsimp only at h
    have a_6 := asR_1 hr_6
    try have b_6 := asK_1 hr_6 rfl
    obtain ⟨u_7_0, hr_7⟩ := bEx1 (s_addsStep8_1 u_6_0 (((u_6_0 6) + 1) + (-1)) ((w - (u_5_0 26)) - (w - (u_5_0 26))))
    rw [hr_7] at h
    dsimp only at h
    have a_7 := asR_1 hr_7
    try have b_7 := asK_1 hr_7 rfl
    have h9 := (Prod.mk.inj h).2
    subst h9
    have d_5 := asS_0 hr_5 b_4
    have d_7 := asS_1 hr_7 b_6
    refine ⟨?_, ?_, ?_, ?_, ?_, ?_, ?_⟩
    · rw [a_7 2 (by omega), a_6 2 (by omega), upd_ne (by decide), upd_ne (by decide), upd_ne (by decide), upd_ne (by decide), upd_ne (by decide), a_5 2 (by omega), a_4 2 (by omega), upd_ne (by decide), upd_ne (by decide), upd_ne (by decide), upd_ne (by decide), upd_ne (by decide)]; exact g1
    · rw [a_7 15 (by omega), a_6 15 (by omega), upd_ne (by decide), upd_ne (by decide), upd_ne (by decide), upd_ne (by decide), upd_ne (by decide)]; exact d_5
    · exact d_7
    · rw [a_7 9 (by omega), a_6 9 (by omega), upd_ne (by decide), upd_ne (by decide), upd_ne (by decide), upd_ne (by decide), upd_ne (by decide), a_5 9 (by omega), a_4 9 (by omega), upd_ne (by decide), upd_ne (by decide), upd_ne (by decide), upd_ne (by decide), upd_ne (by decide)]; exact g4
    · rw [a_7 22 (by omega), a_6 22 (by omega), upd_ne (by decide), upd_ne (by decide), upd_ne (by decide), upd_ne (by decide), upd_ne (by decide), a_5 22 (by omega), a_4 22 (by omega), upd_ne (by decide), upd_ne (by decide), upd_ne (by decide), upd_ne (by decide), upd_ne (by decide)]; exact g5
    · rw [a_7 14 (by omega), a_6 14 (by omega), upd_ne (by decide), upd_ne (by decide), upd_ne (by decide), upd_ne (by decide), upd_ne (by decide), a_5 14 (by omega), a_4 14 (by omega), upd_ne (by decide), upd_ne (by decide), upd_ne (by decide), upd_ne (by decide), upd_ne (by decide)]; exact g6
    · rw [a_7 27 (by omega), a_6 27 (by omega), upd_ne (by decide), upd_ne (by decide), upd_ne (by decide), upd_ne (by decide), upd_ne (by decide), a_5 27 (by omega), a_4 27 (by omega), upd_ne (by decide), upd_ne (by decide), upd_ne (by decide), upd_ne (by decide), upd_ne (by decide)]; exact g7
  · rw [if_neg k_1] at h
    obtain ⟨u_2_0, hr_2⟩ := bEx1 (s_addsStep8_1 (upd (upd (upd (upd (upd nw 28 0) 29 0) 30 0) 31 0) 32 0) ((nw 6) + 1) (w - (nw 26)))
    rw [hr_2] at h
    dsimp only at h
    have a_2 := asR_1 hr_2
    try have b_2 := asK_1 hr_2 rfl
    obtain ⟨u_3_0, hr_3⟩ := bEx1 (s_addsStep8_1 u_2_0 (((u_2_0 6) + 1) + (-1)) ((w - (nw 26)) - (w - (nw 26))))
    rw [hr_3] at h
    dsimp only at h
    have a_3 := asR_1 hr_3
    try have b_3 := asK_1 hr_3 rfl
    have h9 := (Prod.mk.inj h).2
    subst h9
    have d_3 := asS_1 hr_3 b_2
    refine ⟨?_, ?_, ?_, ?_, ?_, ?_, ?_⟩
    · rw [a_3 2 (by omega), a_2 2 (by omega), upd_ne (by decide), upd_ne (by decide), upd_ne (by decide), upd_ne (by decide), upd_ne (by decide)]; exact g1
    · rw [a_3 15 (by omega), a_2 15 (by omega), upd_ne (by decide), upd_ne (by decide), upd_ne (by decide), upd_ne (by decide), upd_ne (by decide)]; exact g2
    · exact d_3
    · rw [a_3 9 (by omega), a_2 9 (by omega), upd_ne (by decide), upd_ne (by decide), upd_ne (by decide), upd_ne (by decide), upd_ne (by decide)]; exact g4
    · rw [a_3 22 (by omega), a_2 22 (by omega), upd_ne (by decide), upd_ne (by decide), upd_ne (by decide), upd_ne (by decide), upd_ne (by decide)]; exact g5
    · rw [a_3 14 (by omega), a_2 14 (by omega), upd_ne (by decide), upd_ne (by decide), upd_ne (by decide), upd_ne (by decide), upd_ne (by decide)]; exact g6
    · rw [a_3 27 (by omega), a_2 27 (by omega), upd_ne (by decide), upd_ne (by decide), upd_ne (by decide), upd_ne (by decide), upd_ne (by decide)]; exact g7
theorem GI_cmdp_1 {nw A : Nat → Int32} {r w pa : Int32} (h : s_commands8p_1 nw w pa = (r, A)) (g : GI nw) : GI A := by
  obtain ⟨g1, g2, g3, g4, g5, g6, g7⟩ := g
  unfold s_commands8p_1 at h
  by_cases k_1 : (s_heeds8_01 nw) = true
  · rw [if_pos k_1] at h
    by_cases k_2 : 0 ≤ pa
    · rw [if_pos k_2] at h
      obtain ⟨u_8_0, hr_8⟩ := bEx1 (s_addsStep8_0 (upd (upd (upd (upd (upd nw 15 0) 16 0) 17 0) 18 0) 19 0) ((nw 6) + 1) ((w - (nw 13)) / 2))
      rw [hr_8] at h
      dsimp only at h
      have a_8 := asR_0 hr_8
      try have b_8 := asK_0 hr_8 rfl
      obtain ⟨u_9_0, hr_9⟩ := bEx1 (s_addsStep8_0 u_8_0 (((u_8_0 6) + 1) + pa) ((w - (nw 13)) - ((w - (nw 13)) / 2)))
      rw [hr_9] at h
      dsimp only at h
      have a_9 := asR_0 hr_9
      try have b_9 := asK_0 hr_9 rfl
      obtain ⟨u_11_0, hr_11⟩ := bEx1 (s_addsStep8_1 (upd (upd (upd (upd (upd u_9_0 28 0) 29 0) 30 0) 31 0) 32 0) ((u_9_0 6) + 1) ((w - (u_9_0 26)) / 2))
      rw [hr_11] at h
      dsimp only at h
      have a_11 := asR_1 hr_11
      try have b_11 := asK_1 hr_11 rfl
      obtain ⟨u_12_0, hr_12⟩ := bEx1 (s_addsStep8_1 u_11_0 (((u_11_0 6) + 1) + pa) ((w - (u_9_0 26)) - ((w - (u_9_0 26)) / 2)))
      rw [hr_12] at h
      dsimp only at h
      have a_12 := asR_1 hr_12
      try have b_12 := asK_1 hr_12 rfl
      have h9 := (Prod.mk.inj h).2
      subst h9
      have d_9 := asS_0 hr_9 b_8
      have d_12 := asS_1 hr_12 b_11
      refine ⟨?_, ?_, ?_, ?_, ?_, ?_, ?_⟩
      · rw [a_12 2 (by omega), a_11 2 (by omega), upd_ne (by decide), upd_ne (by decide), upd_ne (by decide), upd_ne (by decide), upd_ne (by decide), a_9 2 (by omega), a_8 2 (by omega), upd_ne (by decide), upd_ne (by decide), upd_ne (by decide), upd_ne (by decide), upd_ne (by decide)]; exact g1
      · rw [a_12 15 (by omega), a_11 15 (by omega), upd_ne (by decide), upd_ne (by decide), upd_ne (by decide), upd_ne (by decide), upd_ne (by decide)]; exact d_9
      · exact d_12
      · rw [a_12 9 (by omega), a_11 9 (by omega), upd_ne (by decide), upd_ne (by decide), upd_ne (by decide), upd_ne (by decide), upd_ne (by decide), a_9 9 (by omega), a_8 9 (by omega), upd_ne (by decide), upd_ne (by decide), upd_ne (by decide), upd_ne (by decide), upd_ne (by decide)]; exact g4
      · rw [a_12 22 (by omega), a_11 22 (by omega), upd_ne (by decide), upd_ne (by decide), upd_ne (by decide), upd_ne (by decide), upd_ne (by decide), a_9 22 (by omega), a_8 22 (by omega), upd_ne (by decide), upd_ne (by decide), upd_ne (by decide), upd_ne (by decide), upd_ne (by decide)]; exact g5
      · rw [a_12 14 (by omega), a_11 14 (by omega), upd_ne (by decide), upd_ne (by decide), upd_ne (by decide), upd_ne (by decide), upd_ne (by decide), a_9 14 (by omega), a_8 14 (by omega), upd_ne (by decide), upd_ne (by decide), upd_ne (by decide), upd_ne (by decide), upd_ne (by decide)]; exact g6
      · rw [a_12 27 (by omega), a_11 27 (by omega), upd_ne (by decide), upd_ne (by decide), upd_ne (by decide), upd_ne (by decide), upd_ne (by decide), a_9 27 (by omega), a_8 27 (by omega), upd_ne (by decide), upd_ne (by decide), upd_ne (by decide), upd_ne (by decide), upd_ne (by decide)]; exact g7
    · rw [if_neg k_2] at h
      obtain ⟨u_13_0, hr_13⟩ := bEx1 (s_addsStep8_0 (upd (upd (upd (upd (upd nw 15 0) 16 0) 17 0) 18 0) 19 0) ((nw 6) + 1) (w - (nw 13)))
      rw [hr_13] at h
      dsimp only at h
      have a_13 := asR_0 hr_13
      try have b_13 := asK_0 hr_13 rfl
      obtain ⟨u_14_0, hr_14⟩ := bEx1 (s_addsStep8_0 u_13_0 (((u_13_0 6) + 1) + pa) ((w - (nw 13)) - (w - (nw 13))))
      rw [hr_14] at h
      dsimp only at h
      have a_14 := asR_0 hr_14
      try have b_14 := asK_0 hr_14 rfl
      obtain ⟨u_16_0, hr_16⟩ := bEx1 (s_addsStep8_1 (upd (upd (upd (upd (upd u_14_0 28 0) 29 0) 30 0) 31 0) 32 0) ((u_14_0 6) + 1) (w - (u_14_0 26)))
      rw [hr_16] at h
      dsimp only at h
      have a_16 := asR_1 hr_16
      try have b_16 := asK_1 hr_16 rfl
      obtain ⟨u_17_0, hr_17⟩ := bEx1 (s_addsStep8_1 u_16_0 (((u_16_0 6) + 1) + pa) ((w - (u_14_0 26)) - (w - (u_14_0 26))))
      rw [hr_17] at h
      dsimp only at h
      have a_17 := asR_1 hr_17
      try have b_17 := asK_1 hr_17 rfl
      have h9 := (Prod.mk.inj h).2
      subst h9
      have d_14 := asS_0 hr_14 b_13
      have d_17 := asS_1 hr_17 b_16
      refine ⟨?_, ?_, ?_, ?_, ?_, ?_, ?_⟩
      · rw [a_17 2 (by omega), a_16 2 (by omega), upd_ne (by decide), upd_ne (by decide), upd_ne (by decide), upd_ne (by decide), upd_ne (by decide), a_14 2 (by omega), a_13 2 (by omega), upd_ne (by decide), upd_ne (by decide), upd_ne (by decide), upd_ne (by decide), upd_ne (by decide)]; exact g1
      · rw [a_17 15 (by omega), a_16 15 (by omega), upd_ne (by decide), upd_ne (by decide), upd_ne (by decide), upd_ne (by decide), upd_ne (by decide)]; exact d_14
      · exact d_17
      · rw [a_17 9 (by omega), a_16 9 (by omega), upd_ne (by decide), upd_ne (by decide), upd_ne (by decide), upd_ne (by decide), upd_ne (by decide), a_14 9 (by omega), a_13 9 (by omega), upd_ne (by decide), upd_ne (by decide), upd_ne (by decide), upd_ne (by decide), upd_ne (by decide)]; exact g4
      · rw [a_17 22 (by omega), a_16 22 (by omega), upd_ne (by decide), upd_ne (by decide), upd_ne (by decide), upd_ne (by decide), upd_ne (by decide), a_14 22 (by omega), a_13 22 (by omega), upd_ne (by decide), upd_ne (by decide), upd_ne (by decide), upd_ne (by decide), upd_ne (by decide)]; exact g5
      · rw [a_17 14 (by omega), a_16 14 (by omega), upd_ne (by decide), upd_ne (by decide), upd_ne (by decide), upd_ne (by decide), upd_ne (by decide), a_14 14 (by omega), a_13 14 (by omega), upd_ne (by decide), upd_ne (by decide), upd_ne (by decide), upd_ne (by decide), upd_ne (by decide)]; exact g6
      · rw [a_17 27 (by omega), a_16 27 (by omega), upd_ne (by decide), upd_ne (by decide), upd_ne (by decide), upd_ne (by decide), upd_ne (by decide), a_14 27 (by omega), a_13 27 (by omega), upd_ne (by decide), upd_ne (by decide), upd_ne (by decide), upd_ne (by decide), upd_ne (by decide)]; exact g7
  · rw [if_neg k_1] at h
    by_cases k_3 : 0 ≤ pa
    · rw [if_pos k_3] at h
      obtain ⟨u_3_0, hr_3⟩ := bEx1 (s_addsStep8_1 (upd (upd (upd (upd (upd nw 28 0) 29 0) 30 0) 31 0) 32 0) ((nw 6) + 1) ((w - (nw 26)) / 2))
      rw [hr_3] at h
      dsimp only at h
      have a_3 := asR_1 hr_3
      try have b_3 := asK_1 hr_3 rfl
      obtain ⟨u_4_0, hr_4⟩ := bEx1 (s_addsStep8_1 u_3_0 (((u_3_0 6) + 1) + pa) ((w - (nw 26)) - ((w - (nw 26)) / 2)))
      rw [hr_4] at h
      dsimp only at h
      have a_4 := asR_1 hr_4
      try have b_4 := asK_1 hr_4 rfl
      have h9 := (Prod.mk.inj h).2
      subst h9
      have d_4 := asS_1 hr_4 b_3
      refine ⟨?_, ?_, ?_, ?_, ?_, ?_, ?_⟩
      · rw [a_4 2 (by omega), a_3 2 (by omega), upd_ne (by decide), upd_ne (by decide), upd_ne (by decide), upd_ne (by decide), upd_ne (by decide)]; exact g1
      · rw [a_4 15 (by omega), a_3 15 (by omega), upd_ne (by decide), upd_ne (by decide), upd_ne (by decide), upd_ne (by decide), upd_ne (by decide)]; exact g2
      · exact d_4
      · rw [a_4 9 (by omega), a_3 9 (by omega), upd_ne (by decide), upd_ne (by decide), upd_ne (by decide), upd_ne (by decide), upd_ne (by decide)]; exact g4
      · rw [a_4 22 (by omega), a_3 22 (by omega), upd_ne (by decide), upd_ne (by decide), upd_ne (by decide), upd_ne (by decide), upd_ne (by decide)]; exact g5
      · rw [a_4 14 (by omega), a_3 14 (by omega), upd_ne (by decide), upd_ne (by decide), upd_ne (by decide), upd_ne (by decide), upd_ne (by decide)]; exact g6
      · rw [a_4 27 (by omega), a_3 27 (by omega), upd_ne (by decide), upd_ne (by decide), upd_ne (by decide), upd_ne (by decide), upd_ne (by decide)]; exact g7
    · rw [if_neg k_3] at h
      obtain ⟨u_5_0, hr_5⟩ := bEx1 (s_addsStep8_1 (upd (upd (upd (upd (upd nw 28 0) 29 0) 30 0) 31 0) 32 0) ((nw 6) + 1) (w - (nw 26)))
      rw [hr_5] at h
      dsimp only at h
      have a_5 := asR_1 hr_5
      try have b_5 := asK_1 hr_5 rfl
      obtain ⟨u_6_0, hr_6⟩ := bEx1 (s_addsStep8_1 u_5_0 (((u_5_0 6) + 1) + pa) ((w - (nw 26)) - (w - (nw 26))))
      rw [hr_6] at h
      dsimp only at h
      have a_6 := asR_1 hr_6
      try have b_6 := asK_1 hr_6 rfl
      have h9 := (Prod.mk.inj h).2
      subst h9
      have d_6 := asS_1 hr_6 b_5
      refine ⟨?_, ?_, ?_, ?_, ?_, ?_, ?_⟩
      · rw [a_6 2 (by omega), a_5 2 (by omega), upd_ne (by decide), upd_ne (by decide), upd_ne (by decide), upd_ne (by decide), upd_ne (by decide)]; exact g1
      · rw [a_6 15 (by omega), a_5 15 (by omega), upd_ne (by decide), upd_ne (by decide), upd_ne (by decide), upd_ne (by decide), upd_ne (by decide)]; exact g2
      · exact d_6
      · rw [a_6 9 (by omega), a_5 9 (by omega), upd_ne (by decide), upd_ne (by decide), upd_ne (by decide), upd_ne (by decide), upd_ne (by decide)]; exact g4
      · rw [a_6 22 (by omega), a_5 22 (by omega), upd_ne (by decide), upd_ne (by decide), upd_ne (by decide), upd_ne (by decide), upd_ne (by decide)]; exact g5
      · rw [a_6 14 (by omega), a_5 14 (by omega), upd_ne (by decide), upd_ne (by decide), upd_ne (by decide), upd_ne (by decide), upd_ne (by decide)]; exact g6
      · rw [a_6 27 (by omega), a_5 27 (by omega), upd_ne (by decide), upd_ne (by decide), upd_ne (by decide), upd_ne (by decide), upd_ne (by decide)]; exact g7
