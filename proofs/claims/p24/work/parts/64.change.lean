/-! each change at the law's level: refused and nothing has changed, or done and the story ahead of it kept -/
theorem bEx35 {α0 α1 α2 α3 α4 α5 α6 α7 α8 α9 α10 α11 α12 α13 α14 α15 α16 α17 α18 α19 α20 α21 α22 α23 α24 α25 α26 α27 α28 α29 α30 α31 α32 α33 α34 : Type} (t : α0 × α1 × α2 × α3 × α4 × α5 × α6 × α7 × α8 × α9 × α10 × α11 × α12 × α13 × α14 × α15 × α16 × α17 × α18 × α19 × α20 × α21 × α22 × α23 × α24 × α25 × α26 × α27 × α28 × α29 × α30 × α31 × α32 × α33 × α34) : ∃ a0 a1 a2 a3 a4 a5 a6 a7 a8 a9 a10 a11 a12 a13 a14 a15 a16 a17 a18 a19 a20 a21 a22 a23 a24 a25 a26 a27 a28 a29 a30 a31 a32 a33 a34, t = (a0, a1, a2, a3, a4, a5, a6, a7, a8, a9, a10, a11, a12, a13, a14, a15, a16, a17, a18, a19, a20, a21, a22, a23, a24, a25, a26, a27, a28, a29, a30, a31, a32, a33, a34) := ⟨t.1, t.2.1, t.2.2.1, t.2.2.2.1, t.2.2.2.2.1, t.2.2.2.2.2.1, t.2.2.2.2.2.2.1, t.2.2.2.2.2.2.2.1, t.2.2.2.2.2.2.2.2.1, t.2.2.2.2.2.2.2.2.2.1, t.2.2.2.2.2.2.2.2.2.2.1, t.2.2.2.2.2.2.2.2.2.2.2.1, t.2.2.2.2.2.2.2.2.2.2.2.2.1, t.2.2.2.2.2.2.2.2.2.2.2.2.2.1, t.2.2.2.2.2.2.2.2.2.2.2.2.2.2.1, t.2.2.2.2.2.2.2.2.2.2.2.2.2.2.2.1, t.2.2.2.2.2.2.2.2.2.2.2.2.2.2.2.2.1, t.2.2.2.2.2.2.2.2.2.2.2.2.2.2.2.2.2.1, t.2.2.2.2.2.2.2.2.2.2.2.2.2.2.2.2.2.2.1, t.2.2.2.2.2.2.2.2.2.2.2.2.2.2.2.2.2.2.2.1, t.2.2.2.2.2.2.2.2.2.2.2.2.2.2.2.2.2.2.2.2.1, t.2.2.2.2.2.2.2.2.2.2.2.2.2.2.2.2.2.2.2.2.2.1, t.2.2.2.2.2.2.2.2.2.2.2.2.2.2.2.2.2.2.2.2.2.2.1, t.2.2.2.2.2.2.2.2.2.2.2.2.2.2.2.2.2.2.2.2.2.2.2.1, t.2.2.2.2.2.2.2.2.2.2.2.2.2.2.2.2.2.2.2.2.2.2.2.2.1, t.2.2.2.2.2.2.2.2.2.2.2.2.2.2.2.2.2.2.2.2.2.2.2.2.2.1, t.2.2.2.2.2.2.2.2.2.2.2.2.2.2.2.2.2.2.2.2.2.2.2.2.2.2.1, t.2.2.2.2.2.2.2.2.2.2.2.2.2.2.2.2.2.2.2.2.2.2.2.2.2.2.2.1, t.2.2.2.2.2.2.2.2.2.2.2.2.2.2.2.2.2.2.2.2.2.2.2.2.2.2.2.2.1, t.2.2.2.2.2.2.2.2.2.2.2.2.2.2.2.2.2.2.2.2.2.2.2.2.2.2.2.2.2.1, t.2.2.2.2.2.2.2.2.2.2.2.2.2.2.2.2.2.2.2.2.2.2.2.2.2.2.2.2.2.2.1, t.2.2.2.2.2.2.2.2.2.2.2.2.2.2.2.2.2.2.2.2.2.2.2.2.2.2.2.2.2.2.2.1, t.2.2.2.2.2.2.2.2.2.2.2.2.2.2.2.2.2.2.2.2.2.2.2.2.2.2.2.2.2.2.2.2.1, t.2.2.2.2.2.2.2.2.2.2.2.2.2.2.2.2.2.2.2.2.2.2.2.2.2.2.2.2.2.2.2.2.2.1, t.2.2.2.2.2.2.2.2.2.2.2.2.2.2.2.2.2.2.2.2.2.2.2.2.2.2.2.2.2.2.2.2.2.2, rfl⟩
def Done (cyC cyI : ClassId) (Q : Nat → Nat) (r : Nat → Int32) (S : Nat → Sto) (u : Nat) (T : List Int32) (w : va_W) : Prop := ∃ n' c : Sto, QW cyC cyI Q r (pushS S n' c) (nI (if u < 4 then u + 1 else 4)) T w ∧ SE (S 0) c ∧ OkS r n'
def Chg (cyC cyI : ClassId) (Q : Nat → Nat) (r : Nat → Int32) (S : Nat → Sto) (u : Nat) (T : List Int32) (rr : Int32) (w : va_W) : Prop := ((rr.toInt < 0 ∧ -2 ≤ rr.toInt) ∧ QW cyC cyI Q r S (nI u) T w) ∨ (0 ≤ rr.toInt ∧ Done cyC cyI Q r S u T w)
def ChgC (cyC cyI : ClassId) (Q : Nat → Nat) (r : Nat → Int32) (S : Nat → Sto) (u : Nat) (T : List Int32) (rr : Int32) (w : va_W) : Prop := ((rr.toInt < 0 ∧ -2 ≤ rr.toInt) ∧ QW cyC cyI Q r S (nI u) T w) ∨ ((0 ≤ rr.toInt ∨ rr = -4) ∧ Done cyC cyI Q r S u T w)
theorem KI.imp {l : Launch} {D : va_G} {cyC cyI : ClassId} {y : MethodName} {wsy : List Cond} {F Lc : Nat} {av : List Value} {wa : va_W} {r : Int32} {p q : va_W → Prop} (h : KI l D cyC cyI y wsy F Lc av wa r p) (k : ∀ w, p w → q w) : KI l D cyC cyI y wsy F Lc av wa r q := by
  obtain ⟨rm, w1, a, b, c, d, e⟩ := h
  exact ⟨rm, w1, a, b, c, d, k w1 e⟩
theorem ud_up {u : Nat} (h : u ≤ 4) : (if (4 : Int32) < nI u + 1 then 4 else nI u + 1) = nI (if u < 4 then u + 1 else 4) := by
  rcases (show u = 0 ∨ u = 1 ∨ u = 2 ∨ u = 3 ∨ u = 4 by omega) with rfl | rfl | rfl | rfl | rfl <;> decide
theorem isRope_iff {v : Int32} : s_isRope v = true ↔ 10 ≤ v.toInt ∧ v.toInt ≤ 60 := by
  unfold s_isRope
  rw [isWithin_iff, show (10 : Int32).toInt = 10 by decide, show (60 : Int32).toInt = 60 by decide]
theorem heed_0 (pv : Int32) : 0 ≤ (s_heeding pv).toInt := by unfold s_heeding; split <;> decide
theorem tell_0 (pv a b c d e f g h i j cc w : Int32) : (s_tellAtOnce pv a b c d e f g h i j cc w).1 = s_heeding pv := by
  unfold s_tellAtOnce
  repeat' split
  all_goals rfl
theorem tellH_0 (pv a b c d e f g h i j k m cc w pa : Int32) : (s_tellByHalves pv a b c d e f g h i j k m cc w pa).1 = s_heeding pv := by
  unfold s_tellByHalves
  obtain ⟨x, ex⟩ := bEx1 (s_planByHalves a pa)
  obtain ⟨z, ez⟩ := bEx1 (s_planByHalves g pa)
  rw [ex, ez]
  dsimp only
  repeat' split
  all_goals rfl
theorem a_command {l : Launch} {D : va_G} {cyC cyI : ClassId} {Q : Nat → Nat} {r : Nat → Int32} {S : Nat → Sto} {u : Nat} {T : List Int32} {wa : va_W} (h : QW cyC cyI Q r S (nI u) T wa) (hu4 : u ≤ 4) (hok : OkS r (S 0)) (c w : Int32) : ∃ rr, KI l D cyC cyI yX7_command wsX7_command 4 87 [.ref (Q 0), .int c, .int w] wa rr (Chg cyC cyI Q r S u T rr) := by
  by_cases hb : s_isCrane c = true ∧ s_isSpeed w = true
  · obtain ⟨h0, h1⟩ := hb
    obtain ⟨v0, v1, v2, v3, ek⟩ := bEx4 (s_keepForUndo ((S 0).1 26) ((S 0).2.2 0) ((S 0).2.2 1) ((S 0).1 27) ((S 0).2.2 2) ((S 0).2.2 3) ((S 4).2.2 0) ((S 4).2.2 1) ((S 4).2.2 2) ((S 4).2.2 3))
    have se := SE_cp (r := r) ek
    obtain ⟨t0, t1, t2, t3, t4, t5, t6, t7, t8, et⟩ := bEx9 (s_tellAtOnce ((S 0).1 1) ((S 0).1 8) ((S 0).1 10) ((S 0).1 11) ((S 0).1 12) ((S 0).1 13) ((S 0).1 20) ((S 0).1 22) ((S 0).1 23) ((S 0).1 24) ((S 0).1 25) c w)
    have e0 : t0 = s_heeding ((S 0).1 1) := by rw [← tell_0, et]
    refine ⟨t0, (k_command_ok h c w t0 t1 t2 t3 t4 t5 t6 t7 t8 v0 v1 v2 v3 (by unfold s_command_ok; rw [ek]; dsimp only; rw [et]) h0 h1).imp (fun w2 q => by rw [ud_up hu4] at q; exact Or.inr ⟨by rw [e0]; exact heed_0 _, _, _, q, se, hok⟩)⟩
  · refine ⟨-1, (k_command_no h c w (-1) (by unfold s_command_no; split <;> rfl) (fun a b => hb ⟨a, b⟩)).imp (fun w2 q => Or.inl ⟨by decide, q⟩)⟩
theorem a_shape {l : Launch} {D : va_G} {cyC cyI : ClassId} {Q : Nat → Nat} {r : Nat → Int32} {S : Nat → Sto} {u : Nat} {T : List Int32} {wa : va_W} (h : QW cyC cyI Q r S (nI u) T wa) (hu4 : u ≤ 4) (hok : OkS r (S 0)) (c w pa : Int32) : ∃ rr, KI l D cyC cyI yX7_shape wsX7_shape 4 87 [.ref (Q 0), .int c, .int w, .int pa] wa rr (Chg cyC cyI Q r S u T rr) := by
  by_cases hb : s_isCrane c = true ∧ s_isSpeed w = true ∧ s_isWithin pa (-1) 20 = true
  · obtain ⟨h0, h1, h2⟩ := hb
    obtain ⟨v0, v1, v2, v3, ek⟩ := bEx4 (s_keepForUndo ((S 0).1 26) ((S 0).2.2 0) ((S 0).2.2 1) ((S 0).1 27) ((S 0).2.2 2) ((S 0).2.2 3) ((S 4).2.2 0) ((S 4).2.2 1) ((S 4).2.2 2) ((S 4).2.2 3))
    have se := SE_cp (r := r) ek
    obtain ⟨t0, t1, t2, t3, t4, t5, t6, t7, t8, et⟩ := bEx9 (s_tellByHalves ((S 0).1 1) ((S 0).1 4) ((S 0).1 8) ((S 0).1 10) ((S 0).1 11) ((S 0).1 12) ((S 0).1 13) ((S 0).1 16) ((S 0).1 20) ((S 0).1 22) ((S 0).1 23) ((S 0).1 24) ((S 0).1 25) c w pa)
    have e0 : t0 = s_heeding ((S 0).1 1) := by rw [← tellH_0, et]
    refine ⟨t0, (k_shape_ok h c w pa t0 t1 t2 t3 t4 t5 t6 t7 t8 v0 v1 v2 v3 (by unfold s_shape_ok; rw [ek]; dsimp only; rw [et]) h0 h1 h2).imp (fun w2 q => by rw [ud_up hu4] at q; exact Or.inr ⟨by rw [e0]; exact heed_0 _, _, _, q, se, hok⟩)⟩
  · refine ⟨-1, (k_shape_no h c w pa (-1) (by unfold s_shape_no; split <;> (try split) <;> rfl) (fun a b d => hb ⟨a, b, d⟩)).imp (fun w2 q => Or.inl ⟨by decide, q⟩)⟩
theorem a_target_0 {l : Launch} {D : va_G} {cyC cyI : ClassId} {Q : Nat → Nat} {r : Nat → Int32} {S : Nat → Sto} {u : Nat} {T : List Int32} {wa : va_W} (h : QW cyC cyI Q r S (nI u) T wa) (hu4 : u ≤ 4) (hok : OkS r (S 0)) (rp : Int32) : ∃ rr, KI l D cyC cyI yX7_target wsX7_target 4 87 [.ref (Q 0), .int 0, .int rp] wa rr (Chg cyC cyI Q r S u T rr) := by
  by_cases hb : s_isRope rp = true ∧ ¬ s_aimsAt ((S 0).1 1) ((S 0).1 9) ((S 0).1 21) 0 rp = true
  · obtain ⟨h1, h2⟩ := hb
    obtain ⟨v0, v1, v2, v3, ek⟩ := bEx4 (s_keepForUndo ((S 0).1 26) ((S 0).2.2 0) ((S 0).2.2 1) ((S 0).1 27) ((S 0).2.2 2) ((S 0).2.2 3) ((S 4).2.2 0) ((S 4).2.2 1) ((S 4).2.2 2) ((S 4).2.2 3))
    have se := SE_cp (r := r) ek
    obtain ⟨t0, t1, et⟩ := bEx2 (s_aim ((S 0).1 1) ((S 0).1 9) ((S 0).1 21) 0 rp)
    have hrp := isRope_iff.mp h1
    obtain ⟨⟨b0, b1, b2, b3⟩, hk⟩ := id hok
    have x1 : 10 ≤ ((S 0).1 9).toInt ∧ ((S 0).1 9).toInt ≤ 60 := b1.2.2.2.1
    have x2 : 10 ≤ ((S 0).1 21).toInt ∧ ((S 0).1 21).toInt ≤ 60 := b2.2.2.2.1
    have ht : (10 ≤ t0.toInt ∧ t0.toInt ≤ 60) ∧ (10 ≤ t1.toInt ∧ t1.toInt ≤ 60) := by
      have z1 : t0 = (s_aim ((S 0).1 1) ((S 0).1 9) ((S 0).1 21) 0 rp).1 := by rw [et]
      have z2 : t1 = (s_aim ((S 0).1 1) ((S 0).1 9) ((S 0).1 21) 0 rp).2 := by rw [et]
      rw [z1, z2]
      unfold s_aim
      repeat' split
      all_goals dsimp only
      all_goals omega
    refine ⟨(S 0).1 9, (k_target_0_ok h rp _ t0 t1 v0 v1 v2 v3 (by unfold s_target_0_ok; rw [ek]; dsimp only; rw [et]) (by decide) h1 h2).imp (fun w2 q => by rw [ud_up hu4] at q; exact Or.inr ⟨by omega, _, _, q, se, ⟨⟨b0, ⟨b1.1, b1.2.1, b1.2.2.1, ht.1, b1.2.2.2.2⟩, ⟨b2.1, b2.2.1, b2.2.2.1, ht.2, b2.2.2.2.2⟩, b3⟩, hk⟩⟩)⟩
  · have hr : s_target_0_no rp = -2 ∨ s_target_0_no rp = -1 := by
      unfold s_target_0_no
      repeat' split
      all_goals first | exact Or.inl rfl | exact Or.inr rfl
    refine ⟨s_target_0_no rp, (k_target_0_no h rp _ rfl (fun a b d => hb ⟨b, d⟩)).imp (fun w2 q => Or.inl ⟨⟨(by rcases hr with q | q <;> rw [q] <;> decide), (by rcases hr with q | q <;> rw [q] <;> decide)⟩, q⟩)⟩
theorem a_target_1 {l : Launch} {D : va_G} {cyC cyI : ClassId} {Q : Nat → Nat} {r : Nat → Int32} {S : Nat → Sto} {u : Nat} {T : List Int32} {wa : va_W} (h : QW cyC cyI Q r S (nI u) T wa) (hu4 : u ≤ 4) (hok : OkS r (S 0)) (rp : Int32) : ∃ rr, KI l D cyC cyI yX7_target wsX7_target 4 87 [.ref (Q 0), .int 1, .int rp] wa rr (Chg cyC cyI Q r S u T rr) := by
  by_cases hb : s_isRope rp = true ∧ ¬ s_aimsAt ((S 0).1 1) ((S 0).1 9) ((S 0).1 21) 1 rp = true
  · obtain ⟨h1, h2⟩ := hb
    obtain ⟨v0, v1, v2, v3, ek⟩ := bEx4 (s_keepForUndo ((S 0).1 26) ((S 0).2.2 0) ((S 0).2.2 1) ((S 0).1 27) ((S 0).2.2 2) ((S 0).2.2 3) ((S 4).2.2 0) ((S 4).2.2 1) ((S 4).2.2 2) ((S 4).2.2 3))
    have se := SE_cp (r := r) ek
    obtain ⟨t0, t1, et⟩ := bEx2 (s_aim ((S 0).1 1) ((S 0).1 9) ((S 0).1 21) 1 rp)
    have hrp := isRope_iff.mp h1
    obtain ⟨⟨b0, b1, b2, b3⟩, hk⟩ := id hok
    have x1 : 10 ≤ ((S 0).1 9).toInt ∧ ((S 0).1 9).toInt ≤ 60 := b1.2.2.2.1
    have x2 : 10 ≤ ((S 0).1 21).toInt ∧ ((S 0).1 21).toInt ≤ 60 := b2.2.2.2.1
    have ht : (10 ≤ t0.toInt ∧ t0.toInt ≤ 60) ∧ (10 ≤ t1.toInt ∧ t1.toInt ≤ 60) := by
      have z1 : t0 = (s_aim ((S 0).1 1) ((S 0).1 9) ((S 0).1 21) 1 rp).1 := by rw [et]
      have z2 : t1 = (s_aim ((S 0).1 1) ((S 0).1 9) ((S 0).1 21) 1 rp).2 := by rw [et]
      rw [z1, z2]
      unfold s_aim
      repeat' split
      all_goals dsimp only
      all_goals omega
    refine ⟨(S 0).1 21, (k_target_1_ok h rp _ t0 t1 v0 v1 v2 v3 (by unfold s_target_1_ok; rw [ek]; dsimp only; rw [et]) (by decide) h1 h2).imp (fun w2 q => by rw [ud_up hu4] at q; exact Or.inr ⟨by omega, _, _, q, se, ⟨⟨b0, ⟨b1.1, b1.2.1, b1.2.2.1, ht.1, b1.2.2.2.2⟩, ⟨b2.1, b2.2.1, b2.2.2.1, ht.2, b2.2.2.2.2⟩, b3⟩, hk⟩⟩)⟩
  · have hr : s_target_1_no rp = -2 ∨ s_target_1_no rp = -1 := by
      unfold s_target_1_no
      repeat' split
      all_goals first | exact Or.inl rfl | exact Or.inr rfl
    refine ⟨s_target_1_no rp, (k_target_1_no h rp _ rfl (fun a b d => hb ⟨b, d⟩)).imp (fun w2 q => Or.inl ⟨⟨(by rcases hr with q | q <;> rw [q] <;> decide), (by rcases hr with q | q <;> rw [q] <;> decide)⟩, q⟩)⟩
theorem a_target {l : Launch} {D : va_G} {cyC cyI : ClassId} {Q : Nat → Nat} {r : Nat → Int32} {S : Nat → Sto} {u : Nat} {T : List Int32} {wa : va_W} (h : QW cyC cyI Q r S (nI u) T wa) (hu4 : u ≤ 4) (hok : OkS r (S 0)) (c rp : Int32) : ∃ rr, KI l D cyC cyI yX7_target wsX7_target 4 87 [.ref (Q 0), .int c, .int rp] wa rr (Chg cyC cyI Q r S u T rr) := by
  by_cases h0 : c = 0
  · subst h0; exact a_target_0 h hu4 hok rp
  by_cases h1 : c = 1
  · subst h1; exact a_target_1 h hu4 hok rp
  exact ⟨-1, (k_target_b h c rp (-1) rfl h0 h1).imp (fun w2 q => Or.inl ⟨by decide, q⟩)⟩
theorem a_load_0 {l : Launch} {D : va_G} {cyC cyI : ClassId} {Q : Nat → Nat} {r : Nat → Int32} {S : Nat → Sto} {u : Nat} {T : List Int32} {wa : va_W} (h : QW cyC cyI Q r S (nI u) T wa) (hu4 : u ≤ 4) (hok : OkS r (S 0)) (m : Int32) : ∃ rr, KI l D cyC cyI yX7_load wsX7_load 4 87 [.ref (Q 0), .int 0, .int m] wa rr (Chg cyC cyI Q r S u T rr) := by
  by_cases hb : s_isWithin m 0 99 = true ∧ ¬ ((S 0).1 5) = m
  · obtain ⟨h1, h2⟩ := hb
    obtain ⟨v0, v1, v2, v3, ek⟩ := bEx4 (s_keepForUndo ((S 0).1 26) ((S 0).2.2 0) ((S 0).2.2 1) ((S 0).1 27) ((S 0).2.2 2) ((S 0).2.2 3) ((S 4).2.2 0) ((S 4).2.2 1) ((S 4).2.2 2) ((S 4).2.2 3))
    have se := SE_cp (r := r) ek
    have hm := isWithin_iff.mp h1
    rw [zI, show (99 : Int32).toInt = 99 by decide] at hm
    obtain ⟨⟨b0, b1, b2, b3⟩, hk⟩ := id hok
    have x1 : 0 ≤ ((S 0).1 5).toInt ∧ ((S 0).1 5).toInt ≤ 99 := b1.2.2.1
    refine ⟨(S 0).1 5, (k_load_0_ok h m _ v0 v1 v2 v3 (by unfold s_load_0_ok; rw [ek]) (by decide) h1 h2).imp (fun w2 q => by rw [ud_up hu4] at q; exact Or.inr ⟨x1.1, _, _, q, se, ⟨⟨b0, ⟨b1.1, b1.2.1, hm, b1.2.2.2⟩, b2, b3⟩, hk⟩⟩)⟩
  · have hr : s_load_0_no m = -2 ∨ s_load_0_no m = -1 := by
      unfold s_load_0_no
      repeat' split
      all_goals first | exact Or.inl rfl | exact Or.inr rfl
    refine ⟨s_load_0_no m, (k_load_0_no h m _ rfl (fun a b d => hb ⟨b, d⟩)).imp (fun w2 q => Or.inl ⟨⟨(by rcases hr with q | q <;> rw [q] <;> decide), (by rcases hr with q | q <;> rw [q] <;> decide)⟩, q⟩)⟩
theorem a_load_1 {l : Launch} {D : va_G} {cyC cyI : ClassId} {Q : Nat → Nat} {r : Nat → Int32} {S : Nat → Sto} {u : Nat} {T : List Int32} {wa : va_W} (h : QW cyC cyI Q r S (nI u) T wa) (hu4 : u ≤ 4) (hok : OkS r (S 0)) (m : Int32) : ∃ rr, KI l D cyC cyI yX7_load wsX7_load 4 87 [.ref (Q 0), .int 1, .int m] wa rr (Chg cyC cyI Q r S u T rr) := by
  by_cases hb : s_isWithin m 0 99 = true ∧ ¬ ((S 0).1 17) = m
  · obtain ⟨h1, h2⟩ := hb
    obtain ⟨v0, v1, v2, v3, ek⟩ := bEx4 (s_keepForUndo ((S 0).1 26) ((S 0).2.2 0) ((S 0).2.2 1) ((S 0).1 27) ((S 0).2.2 2) ((S 0).2.2 3) ((S 4).2.2 0) ((S 4).2.2 1) ((S 4).2.2 2) ((S 4).2.2 3))
    have se := SE_cp (r := r) ek
    have hm := isWithin_iff.mp h1
    rw [zI, show (99 : Int32).toInt = 99 by decide] at hm
    obtain ⟨⟨b0, b1, b2, b3⟩, hk⟩ := id hok
    have x1 : 0 ≤ ((S 0).1 17).toInt ∧ ((S 0).1 17).toInt ≤ 99 := b2.2.2.1
    refine ⟨(S 0).1 17, (k_load_1_ok h m _ v0 v1 v2 v3 (by unfold s_load_1_ok; rw [ek]) (by decide) h1 h2).imp (fun w2 q => by rw [ud_up hu4] at q; exact Or.inr ⟨x1.1, _, _, q, se, ⟨⟨b0, b1, ⟨b2.1, b2.2.1, hm, b2.2.2.2⟩, b3⟩, hk⟩⟩)⟩
  · have hr : s_load_1_no m = -2 ∨ s_load_1_no m = -1 := by
      unfold s_load_1_no
      repeat' split
      all_goals first | exact Or.inl rfl | exact Or.inr rfl
    refine ⟨s_load_1_no m, (k_load_1_no h m _ rfl (fun a b d => hb ⟨b, d⟩)).imp (fun w2 q => Or.inl ⟨⟨(by rcases hr with q | q <;> rw [q] <;> decide), (by rcases hr with q | q <;> rw [q] <;> decide)⟩, q⟩)⟩
theorem a_load {l : Launch} {D : va_G} {cyC cyI : ClassId} {Q : Nat → Nat} {r : Nat → Int32} {S : Nat → Sto} {u : Nat} {T : List Int32} {wa : va_W} (h : QW cyC cyI Q r S (nI u) T wa) (hu4 : u ≤ 4) (hok : OkS r (S 0)) (c m : Int32) : ∃ rr, KI l D cyC cyI yX7_load wsX7_load 4 87 [.ref (Q 0), .int c, .int m] wa rr (Chg cyC cyI Q r S u T rr) := by
  by_cases h0 : c = 0
  · subst h0; exact a_load_0 h hu4 hok m
  by_cases h1 : c = 1
  · subst h1; exact a_load_1 h hu4 hok m
  exact ⟨-1, (k_load_b h c m (-1) rfl h0 h1).imp (fun w2 q => Or.inl ⟨by decide, q⟩)⟩
theorem a_coupleOff {l : Launch} {D : va_G} {cyC cyI : ClassId} {Q : Nat → Nat} {r : Nat → Int32} {S : Nat → Sto} {u : Nat} {T : List Int32} {wa : va_W} (h : QW cyC cyI Q r S (nI u) T wa) (hu4 : u ≤ 4) (hok : OkS r (S 0)) (lv : Int32) (hs : ¬ (0 ≤ lv)) : ∃ rr, KI l D cyC cyI yX7_couple wsX7_couple 4 87 [.ref (Q 0), .int lv] wa rr (ChgC cyC cyI Q r S u T rr) := by
  by_cases hb : s_isWithin lv (-1) 20 = true ∧ ¬ ((S 0).1 1) = -4
  · obtain ⟨h1, h2⟩ := hb
    obtain ⟨v0, v1, v2, v3, ek⟩ := bEx4 (s_keepForUndo ((S 0).1 26) ((S 0).2.2 0) ((S 0).2.2 1) ((S 0).1 27) ((S 0).2.2 2) ((S 0).2.2 3) ((S 4).2.2 0) ((S 4).2.2 1) ((S 4).2.2 2) ((S 4).2.2 3))
    have se := SE_cp (r := r) ek
    have hm := isWithin_iff.mp h1
    rw [show (-1 : Int32).toInt = -1 by decide, show (20 : Int32).toInt = 20 by decide] at hm
    have hs' := hs
    rw [leI, zI] at hs'
    obtain ⟨⟨⟨c0, c1, c2, c3, c4, c5⟩, b1, b2, b3⟩, hk⟩ := id hok
    have hv : 0 ≤ ((S 0).1 1).toInt ∨ (S 0).1 1 = -4 := by
      rcases c5 with q | q
      · exact Or.inr q
      · exact Or.inl q.1
    refine ⟨(S 0).1 1, (k_coupleOff_ok h lv _ v0 v1 v2 v3 (by unfold s_coupleOff_ok; rw [ek]) h1 hs h2).imp (fun w2 q => by rw [ud_up hu4] at q; exact Or.inr ⟨hv, _, _, q, se, ⟨⟨⟨c0, c1, c2, c3, c4, Or.inl rfl⟩, b1, b2, b3⟩, hk⟩⟩)⟩
  · have hr : s_coupleOff_no lv = -2 ∨ s_coupleOff_no lv = -1 := by
      unfold s_coupleOff_no
      repeat' split
      all_goals first | exact Or.inl rfl | exact Or.inr rfl
    refine ⟨s_coupleOff_no lv, (k_coupleOff_no h lv _ rfl hs (fun b d => hb ⟨b, d⟩)).imp (fun w2 q => Or.inl ⟨⟨(by rcases hr with q | q <;> rw [q] <;> decide), (by rcases hr with q | q <;> rw [q] <;> decide)⟩, q⟩)⟩
theorem a_coupleOn {l : Launch} {D : va_G} {cyC cyI : ClassId} {Q : Nat → Nat} {r : Nat → Int32} {S : Nat → Sto} {u : Nat} {T : List Int32} {wa : va_W} (h : QW cyC cyI Q r S (nI u) T wa) (hu4 : u ≤ 4) (hok : OkS r (S 0)) (lv : Int32) (hs : 0 ≤ lv) : ∃ rr, KI l D cyC cyI yX7_couple wsX7_couple 4 87 [.ref (Q 0), .int lv] wa rr (ChgC cyC cyI Q r S u T rr) := by
  by_cases hb : s_isWithin lv (-1) 20 = true ∧ ¬ ((S 0).1 1) = lv
  · obtain ⟨h1, h2⟩ := hb
    obtain ⟨v0, v1, v2, v3, ek⟩ := bEx4 (s_keepForUndo ((S 0).1 26) ((S 0).2.2 0) ((S 0).2.2 1) ((S 0).1 27) ((S 0).2.2 2) ((S 0).2.2 3) ((S 4).2.2 0) ((S 4).2.2 1) ((S 4).2.2 2) ((S 4).2.2 3))
    have se := SE_cp (r := r) ek
    have hm := isWithin_iff.mp h1
    rw [show (-1 : Int32).toInt = -1 by decide, show (20 : Int32).toInt = 20 by decide] at hm
    have hs' := hs
    rw [leI, zI] at hs'
    obtain ⟨⟨⟨c0, c1, c2, c3, c4, c5⟩, b1, b2, b3⟩, hk⟩ := id hok
    have hv : 0 ≤ ((S 0).1 1).toInt ∨ (S 0).1 1 = -4 := by
      rcases c5 with q | q
      · exact Or.inr q
      · exact Or.inl q.1
    refine ⟨(S 0).1 1, (k_coupleOn_ok h lv _ v0 v1 v2 v3 (by unfold s_coupleOn_ok; rw [ek]) h1 hs h2).imp (fun w2 q => by rw [ud_up hu4] at q; exact Or.inr ⟨hv, _, _, q, se, ⟨⟨⟨c0, c1, c2, c3, c4, Or.inr ⟨hs', hm.2⟩⟩, b1, b2, b3⟩, hk⟩⟩)⟩
  · have hr : s_coupleOn_no lv = -2 ∨ s_coupleOn_no lv = -1 := by
      unfold s_coupleOn_no
      repeat' split
      all_goals first | exact Or.inl rfl | exact Or.inr rfl
    refine ⟨s_coupleOn_no lv, (k_coupleOn_no h lv _ rfl hs (fun b d => hb ⟨b, d⟩)).imp (fun w2 q => Or.inl ⟨⟨(by rcases hr with q | q <;> rw [q] <;> decide), (by rcases hr with q | q <;> rw [q] <;> decide)⟩, q⟩)⟩
theorem a_couple {l : Launch} {D : va_G} {cyC cyI : ClassId} {Q : Nat → Nat} {r : Nat → Int32} {S : Nat → Sto} {u : Nat} {T : List Int32} {wa : va_W} (h : QW cyC cyI Q r S (nI u) T wa) (hu4 : u ≤ 4) (hok : OkS r (S 0)) (lv : Int32) : ∃ rr, KI l D cyC cyI yX7_couple wsX7_couple 4 87 [.ref (Q 0), .int lv] wa rr (ChgC cyC cyI Q r S u T rr) := by
  by_cases h0 : 0 ≤ lv
  · exact a_coupleOn h hu4 hok lv h0
  · exact a_coupleOff h hu4 hok lv h0
set_option maxHeartbeats 4000000 in
theorem a_tick {l : Launch} {D : va_G} {cyC cyI : ClassId} {Q : Nat → Nat} {r : Nat → Int32} {S : Nat → Sto} {u : Nat} {T : List Int32} {wa : va_W} (h : QW cyC cyI Q r S (nI u) T wa) (hu4 : u ≤ 4) (hok : OkS r (S 0)) (tn : Int32) : ∃ rr, KI l D cyC cyI yX7_tick wsX7_tick 6 130 [.ref (Q 0), .int tn] wa rr (Chg cyC cyI Q r S u T rr) := by
  by_cases hb : s_isWithin tn 1 60 = true ∧ (S 0).1 0 + tn ≤ 9999
  · obtain ⟨h1, h2⟩ := hb
    obtain ⟨v0, v1, v2, v3, ek⟩ := bEx4 (s_keepForUndo ((S 0).1 26) ((S 0).2.2 0) ((S 0).2.2 1) ((S 0).1 27) ((S 0).2.2 2) ((S 0).2.2 3) ((S 4).2.2 0) ((S 4).2.2 1) ((S 4).2.2 2) ((S 4).2.2 3))
    have se := SE_cp (r := r) ek
    obtain ⟨o0, o1, o2, o3, o4, o5, o6, o7, o8, o9, o10, o11, o12, o13, o14, o15, o16, o17, o18, o19, o20, o21, o22, o23, o24, o25, o26, o27, o28, o29, o30, o31, o32, o33, o34, et⟩ := bEx35 (s_tick_ok (nI u) ((S 0).1 0) ((S 0).1 1) ((S 0).1 2) ((S 0).1 3) ((S 0).1 4) ((S 0).1 5) ((S 0).1 6) ((S 0).1 7) ((S 0).1 8) ((S 0).1 9) ((S 0).1 10) ((S 0).1 11) ((S 0).1 12) ((S 0).1 13) ((S 0).2.1 0) ((S 0).1 14) ((S 0).1 15) ((S 0).1 16) ((S 0).1 17) ((S 0).1 18) ((S 0).1 19) ((S 0).1 20) ((S 0).1 21) ((S 0).1 22) ((S 0).1 23) ((S 0).1 24) ((S 0).1 25) ((S 0).2.1 1) ((S 0).1 26) ((S 0).2.2 0) ((S 0).2.2 1) ((S 0).1 27) ((S 0).2.2 2) ((S 0).2.2 3) ((S 4).2.2 0) ((S 4).2.2 1) ((S 4).2.2 2) ((S 4).2.2 3) (r 0) (r 1) (r 2) (r 3) (r 4) tn)
    have et2 := et
    unfold s_tick_ok at et2
    rw [ek] at et2
    dsimp only at et2
    have hm := isWithin_iff.mp h1
    rw [show (1 : Int32).toInt = 1 by decide, show (60 : Int32).toInt = 60 by decide] at hm
    have htn : tn = nI tn.toInt.toNat := by rw [eqI, nIt (by omega)]; omega
    obtain ⟨b, hk, hS, hZ⟩ := id hok
    have h3 := h2
    rw [leI, addI (by omega) (by omega), show (9999 : Int32).toInt = 9999 by decide] at h3
    obtain ⟨g0, g1, g2, g3, g4, g5, g6, g7, g8, g9⟩ := gtick_O (r := r) htn (by omega) 61 0 0 (if 4 < nI u + 1 then 4 else nI u + 1) ((S 0).1 0) ((S 0).1 2) ((S 0).1 3) ((S 0).1 4) ((S 0).1 6) ((S 0).1 7) ((S 0).1 8) ((S 0).1 10) ((S 0).1 11) ((S 0).1 12) ((S 0).1 13) ((S 0).1 14) ((S 0).1 15) ((S 0).1 16) ((S 0).1 18) ((S 0).1 19) ((S 0).1 20) ((S 0).1 22) ((S 0).1 23) ((S 0).1 24) ((S 0).1 25) ((S 0).1 26) ((S 0).1 27) ((S 0).2.1 0) ((S 0).2.1 1) ((S 0).2.2 0) ((S 0).2.2 1) ((S 0).2.2 2) ((S 0).2.2 3) v0 v1 v2 v3 (by omega) (by omega) (by omega) (by rw [zI]; omega) b hS hZ et2
    subst g6 g7 g8 g9
    refine ⟨o0, (k_tick_ok h tn o0 o1 o2 o3 o4 o5 o6 o7 o8 o9 o10 o11 o12 o13 o14 o15 o16 o17 o18 o19 o20 o21 o22 o23 o24 o25 o26 o27 o28 o29 o30 o31 o32 o33 o34 et h1 h2).imp (fun w2 q => by rw [g1, ud_up hu4] at q; exact Or.inr ⟨g0.1, _, _, q, se, ⟨g3, g2, g4, g5⟩⟩)⟩
  · have hr : s_tick_no tn = -2 ∨ s_tick_no tn = -1 := by
      unfold s_tick_no
      repeat' split
      all_goals first | exact Or.inl rfl | exact Or.inr rfl
    refine ⟨s_tick_no tn, (k_tick_no h tn _ rfl (fun b d => hb ⟨b, d⟩)).imp (fun w2 q => Or.inl ⟨⟨(by rcases hr with q | q <;> rw [q] <;> decide), (by rcases hr with q | q <;> rw [q] <;> decide)⟩, q⟩)⟩
