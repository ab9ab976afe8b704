/-! reading a text: what lies behind its end doesn't matter -/
theorem isWithin_iff {n lo hi : Int32} : s_isWithin n lo hi = true ↔ lo.toInt ≤ n.toInt ∧ n.toInt ≤ hi.toInt := by
  unfold s_isWithin
  by_cases c1 : n < lo
  · rw [if_pos c1]; rw [ltI] at c1; constructor
    · intro h; cases h
    · intro h; omega
  · rw [if_neg c1]; rw [ltI] at c1
    by_cases c2 : hi < n
    · rw [if_pos c2]; rw [ltI] at c2; constructor
      · intro h; cases h
      · intro h; omega
    · rw [if_neg c2]; rw [ltI] at c2; exact ⟨fun _ => by omega, fun _ => rfl⟩
theorem isWithin_y {n lo hi : Int32} (h1 : lo.toInt ≤ n.toInt) (h2 : n.toInt ≤ hi.toInt) : s_isWithin n lo hi = true := isWithin_iff.mpr ⟨h1, h2⟩
def RD (T : List Int32) : Int32 × Int32 × Int32 × Int32 × Int32 × Int32 × Int32 × Int32 × Int32 × Int32 × Int32 × Int32 × Int32 := s_readInto (nI T.length) (fun i => T.getD i 0)
theorem letter_c {n : Nat} {xc xd : Nat → Int32} (hn : n ≤ 200) (h : ∀ i, i < n → xc i = xd i) : s_letterAt (nI n) xc = s_letterAt (nI n) xd := by
  funext k
  unfold s_letterAt
  by_cases c1 : k < 0
  · rw [if_pos c1, if_pos c1]
  rw [if_neg c1, if_neg c1]
  by_cases c2 : nI n ≤ k
  · rw [if_pos c2, if_pos c2]
  rw [if_neg c2, if_neg c2]
  by_cases c3 : k < 200
  · rw [if_pos c3, if_pos c3]
    refine h _ ?_
    rw [ltI, zI] at c1
    rw [leI, nIt (by omega)] at c2
    have e : k.toNatClampNeg = k.toInt.toNat := rfl
    omega
  · rw [if_neg c3, if_neg c3]
theorem gNum_c {xn : Int32} {xc xd : Nat → Int32} (h : s_letterAt xn xc = s_letterAt xn xd) (mk : Int32) : ∀ (n j : Nat) (nu ii : Int32), g_readNumber xn xc mk n j nu ii = g_readNumber xn xd mk n j nu ii := by
  intro n
  induction n with
  | zero => intro j nu ii; rfl
  | succ n ih => intro j nu ii; rw [g_readNumber, g_readNumber, h, ih]
theorem num_c {xn : Int32} {xc xd : Nat → Int32} (h : s_letterAt xn xc = s_letterAt xn xd) (xi mk : Int32) : s_readNumber xn xi xc mk = s_readNumber xn xi xd mk := gNum_c h mk _ _ _ _
theorem item_c {xn : Int32} {xc xd : Nat → Int32} (h : s_letterAt xn xc = s_letterAt xn xd) (xi r0 r1 r2 r3 r4 a0 a1 a2 b0 b1 b2 : Int32) : s_readItem xn xi xc r0 r1 r2 r3 r4 a0 a1 a2 b0 b1 b2 = s_readItem xn xi xd r0 r1 r2 r3 r4 a0 a1 a2 b0 b1 b2 := by
  have hN : ∀ xi mk, s_readNumber xn xi xc mk = s_readNumber xn xi xd mk := num_c h
  unfold s_readItem s_readStart s_readEnd s_readGap s_readDrive
  simp only [h, hN]
theorem into_c {xn : Int32} {xc xd : Nat → Int32} (h : s_letterAt xn xc = s_letterAt xn xd) : ∀ (n j : Nat) (ii r0 r1 r2 r3 r4 a0 a1 a2 b0 b1 b2 : Int32), g_readInto xn xc n j ii r0 r1 r2 r3 r4 a0 a1 a2 b0 b1 b2 = g_readInto xn xd n j ii r0 r1 r2 r3 r4 a0 a1 a2 b0 b1 b2 := by
  intro n
  induction n with
  | zero => intros; rfl
  | succ n ih => intro j ii r0 r1 r2 r3 r4 a0 a1 a2 b0 b1 b2; rw [g_readInto, g_readInto, item_c h]; simp only [ih]
theorem RD_eq {T : List Int32} {xn : Int32} {xc : Nat → Int32} (h : TX T xn xc) : s_readInto xn xc = RD T := by
  obtain ⟨h1, h2, h3⟩ := h
  subst h2
  exact into_c (letter_c h1 h3) _ _ _ _ _ _ _ _ _ _ _ _ _ _
theorem TX_app {T : List Int32} {xn o0 : Int32} {xc o1 : Nat → Int32} {w : Int32} (h : TX T xn xc) (hl : T.length < 200) (hw : 32 ≤ w.toInt ∧ w.toInt ≤ 126) (hu : s_append xn xc ((w.toUInt32 % 65536).toInt32) = (o0, o1)) : o0 = nI (T ++ [w]).length ∧ TX (T ++ [w]) o0 o1 := by
  obtain ⟨h1, h2, h3⟩ := h
  subst h2
  have ew : (w.toUInt32 % 65536).toInt32 = w := by
    have hk : w = Int32.ofInt ((w.toInt.toNat : Int)) := by rw [show ((w.toInt.toNat : Nat) : Int) = w.toInt by omega, Int32.ofInt_toInt]
    have fin : ∀ k : Nat, k < 127 → ((Int32.ofInt (k : Int)).toUInt32 % 65536).toInt32 = Int32.ofInt (k : Int) ∧ vp_nar .char (Int32.ofInt (k : Int)) = Int32.ofInt (k : Int) := by decide +kernel
    rw [hk]
    exact (fin _ (by omega)).1
  have en : vp_nar .char w = w := by
    have hk : w = Int32.ofInt ((w.toInt.toNat : Int)) := by rw [show ((w.toInt.toNat : Nat) : Int) = w.toInt by omega, Int32.ofInt_toInt]
    have fin : ∀ k : Nat, k < 127 → vp_nar .char (Int32.ofInt (k : Int)) = Int32.ofInt (k : Int) := by decide +kernel
    rw [hk]
    exact fin _ (by omega)
  rw [ew] at hu
  have e200 : (200 : Int32).toInt = 200 := by decide
  have hlt : T.length < T.length + 1 := by omega
  unfold s_append at hu
  have n1 : ¬ (nI T.length < 0) := by rw [ltI, zI, nIt (by omega)]; omega
  have n2 : ¬ ((200 : Int32) ≤ nI T.length) := by rw [leI, e200, nIt (by omega)]; omega
  have n3 : nI T.length < (200 : Int32) := by rw [ltI, e200, nIt (by omega)]; omega
  have n4 : (0 : Int32) ≤ nI T.length := by rw [leI, zI, nIt (by omega)]; omega
  simp only [n1, n2, n3, n4, if_true, if_false, not_true_eq_false, not_false_eq_true] at hu
  have u1 := (Prod.mk.inj hu).1
  have u2 := (Prod.mk.inj hu).2
  rw [nI_clamp (by omega), en] at u2
  have e1 : o0 = nI (T ++ [w]).length := by rw [← u1, List.length_append, nI1 (by omega)]; rfl
  refine ⟨e1, by rw [List.length_append]; show T.length + 1 ≤ 200; omega, e1, fun i hi => ?_⟩
  rw [List.length_append] at hi
  have hi : i < T.length + 1 := hi
  rw [← u2]
  by_cases q : i = T.length
  · subst q
    rw [upd_eq]
    simp
  · rw [upd_ne q, h3 i (by omega)]
    simp [List.getD_eq_getElem?_getD, List.getElem?_append_left (show i < T.length by omega)]
