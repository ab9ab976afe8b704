/-- how many spots a row tells at b -/
def mmO (A : Nat → Int32) (b : Nat) : Nat := (A b).toInt.toNat
/-- a row behind one tick, spots and all -/
def tkS (nw : Nat → Int32) : Nat → Int32 :=
  (s_counts8_1 (s_counts8_0 (s_goesBy8 nw).2 (mmO (s_goesBy8 nw).2 33)).1 (mmO (s_counts8_0 (s_goesBy8 nw).2 (mmO (s_goesBy8 nw).2 33)).1 274)).1
def tkI : Nat → (Nat → Int32) → (Nat → Int32)
  | 0, nw => nw
  | n + 1, nw => tkI n (tkS nw)
/-- what a tick needs of a row -/
def TOK (nw : Nat → Int32) : Prop := GI nw ∧ (∀ s A, s_goesBy8 nw = (s, A) → (A 33 = nI (mmO A 33) ∧ mmO A 33 ≤ 120 ∧ s_spotIndex8_0 A (mmO A 33) (s_spotCode8_0 A) < 120) ∧ (∀ B, s_counts8_0 A (mmO A 33) = (B, ()) → (B 274 = nI (mmO B 274) ∧ mmO B 274 ≤ 120 ∧ s_spotIndex8_1 B (mmO B 274) (s_spotCode8_1 B) < 120)))
theorem tkG {nw : Nat → Int32} (h : ∀ i, TOK (tkI i nw)) : GI nw := (h 0).1
theorem tkA {nw A : Nat → Int32} {s : Int32} (h : ∀ i, TOK (tkI i nw)) (h1 : s_goesBy8 nw = (s, A)) : A 33 = nI (mmO A 33) ∧ mmO A 33 ≤ 120 ∧ s_spotIndex8_0 A (mmO A 33) (s_spotCode8_0 A) < 120 := ((h 0).2 s A h1).1
theorem tkB {nw A B : Nat → Int32} {s : Int32} (h : ∀ i, TOK (tkI i nw)) (h1 : s_goesBy8 nw = (s, A)) (h2 : s_counts8_0 A (mmO A 33) = (B, ())) : B 274 = nI (mmO B 274) ∧ mmO B 274 ≤ 120 ∧ s_spotIndex8_1 B (mmO B 274) (s_spotCode8_1 B) < 120 := ((h 0).2 s A h1).2 B h2
theorem tkE {nw A B C : Nat → Int32} {s : Int32} (h1 : s_goesBy8 nw = (s, A)) (h2 : s_counts8_0 A (mmO A 33) = (B, ())) (h3 : s_counts8_1 B (mmO B 274) = (C, ())) : tkS nw = C := by
  unfold tkS
  rw [h1]
  dsimp only
  rw [h2]
  dsimp only
  rw [h3]
theorem tkN {nw A B C : Nat → Int32} {s : Int32} (h : ∀ i, TOK (tkI i nw)) (h1 : s_goesBy8 nw = (s, A)) (h2 : s_counts8_0 A (mmO A 33) = (B, ())) (h3 : s_counts8_1 B (mmO B 274) = (C, ())) : ∀ i, TOK (tkI i C) := by
  intro i
  have h4 := h (i + 1)
  rw [show tkI (i + 1) nw = tkI i (tkS nw) from rfl, tkE h1 h2 h3] at h4
  exact h4
theorem i_X8_tick_X8 : ∀ w ∈ wsX80, w ∈ wsX8_tick := by decide +kernel
theorem f_X8_tick_7 : Cond.fieldLink RX8 7 "SwingCranesModel" "now" "[I" ∈ wsX8_tick := by decide +kernel
theorem hd_X8_counts : bD1 yX8_counts RX8 1 := by decide +kernel
def g_tick8 (tn : Int32) : Nat → Nat → (Nat → Int32) → Int32 → (Nat → Int32) → Int32 → Int32 × Int32 × (Nat → Int32) × (Nat → Int32)
  | 0, _, _, _, _, _ => (0, 0, fun _ => 0, fun _ => 0)
  | n_ + 1, j, ng, cg, pg, br =>
    if tn ≤ nI j then
      (br, cg, ng, pg)
    else
      match s_goesBy8 ng with
      | (u_2_0, u_2_1) =>
        match s_counts8_0 u_2_1 (mmO u_2_1 33) with
        | (u_3_0, _) =>
          match s_counts8_1 u_3_0 (mmO u_3_0 274) with
          | (u_4_0, _) =>
            g_tick8 tn n_ (j + 1) u_4_0 cg pg (br + ((u_2_0 &&& (1 : Int32)) + (u_2_0 >>> ((1 : Int32) &&& (31 : Int32)))))
def s_tick8 (ch : Int32) (nw : Nat → Int32) (ps : Nat → Int32) (tn : Int32) : Int32 × Int32 × (Nat → Int32) × (Nat → Int32) :=
  if (s_in8 tn 1 60) = true then
    if (nw 6) + tn ≤ 9999 then
      match s_keeps8 ch nw ps with
      | (u_3_0, u_3_1) =>
        g_tick8 tn (61) 0 nw u_3_0 u_3_1 0
    else
      ((-2), ch, nw, ps)
  else
    ((-1), ch, nw, ps)
set_option maxHeartbeats 4000000 in
set_option maxRecDepth 100000 in
theorem lp_tick8 {p_ : Program} {e_ : Env} {s_ : State} {m_ : MethodId} {bl_ : List Frame} {me_ : Method} {cd_ : Code} {A_ : Nat → Prop} (l : Launch) (D : va_G) (cyC cyI : ClassId) (mM : Nat) (mN : Nat) (mR : Nat) (mA : Nat) (mP : Nat) (mT : Nat) (mD : Nat) (ch : Int32) (le : Int32) (sp : Int32) (nw : Nat → Int32) (ps : Nat → Int32) (tn : Int32) (o0 : Int32) (o1 : Int32) (o2 : Nat → Int32) (o3 : Nat → Int32) (X : bX p_ s_ m_ ([.ref mM, .int tn] : List Value).toArray cd_ cX8_tick 5 wsX8_tick yX8_tick.cls D cyC cyI) (hr : me_.sig.returnType = (some .int)) (hlk : me_.locks = false) (hch : ch = 0 ∨ ch = 1 ∨ ch = 2 ∨ ch = 3 ∨ ch = 4) (hT : ∀ i, TOK (tkI i nw)) : ∀ (n_ : Nat) (j : Nat) (ng : Nat → Int32) (cg : Int32) (pg : Nat → Int32) (br : Int32) (hN : 61 ≤ j + n_) (hJ : j ≤ 60) (hK : tn ≤ nI 60) (hT : ∀ i, TOK (tkI i ng)) (hu : g_tick8 tn n_ j ng cg pg br = (o0, o1, o2, o3)) (ls : Array Slot) (H : Heap) (locs : List Loc), lv_has ls 5 [(0, .ref mM), (1, .int tn), (2, .int br), (3, .int (nI j))] → bY D A_ s_.heap [(mM, .inr (8, [.ref mN, .ref mR, .ref mA, .ref mP, .int cg, .ref mT, .int le, .int sp, .ref mD])), (mN, .inl (cyI, 515, .inl ng)), (mP, .inl (cyI, 2060, .inl pg))] H locs → W p_ l e_ ({ frames := 5, cells := 0, slots := 0, locals := 112 } : Room) s_ m_ ([.ref mM, .int tn] : List Value).toArray bl_ me_ cd_ H locs 0 0 (bQI bl_ ([.ref mM, .int tn] : List Value).toArray s_ D [(mM, .inr (8, [.ref mN, .ref mR, .ref mA, .ref mP, .int o1, .ref mT, .int le, .int sp, .ref mD])), (mN, .inl (cyI, 515, .inl o2)), (mP, .inl (cyI, 2060, .inl o3))] o0 A_) (F0 m_ 38 ls []) := by
  intro n_
  induction n_ with
  | zero =>
    intro j ng cg pg br hN hJ hK hT hu ls H locs hl Y
    exfalso; omega
  | succ n_ ih =>
    intro j ng cg pg br hN hJ hK hT hu ls H locs hl Y
    have hx := X.1.1
    have hb := X.1.2.1
    rw [g_tick8] at hu
    refine lv_iload_n hx hb dX8_tick_38 rfl (lv_at hl 3 rfl) ?_
    refine lv_iload_n hx hb dX8_tick_39 rfl (lv_at hl 1 rfl) ?_
    refine lv_icmp_ge (tgt := 77) hx hb dX8_tick_40 (by decide) (fun c_1 => ?_) (fun c_1 => ?_)
    · have c_1 : tn ≤ nI j := c_1
      rw [if_pos c_1] at hu
      refine lv_iload_n hx hb dX8_tick_77 rfl (lv_at hl 2 rfl) ?_
      have h9 := (Prod.mk.inj hu).1; replace hu := (Prod.mk.inj hu).2; subst h9
      have h9 := (Prod.mk.inj hu).1; replace hu := (Prod.mk.inj hu).2; subst h9
      have h9 := (Prod.mk.inj hu).1; replace hu := (Prod.mk.inj hu).2; subst h9
      subst hu
      exact bEndI X Y hr hlk dX8_tick_78 rfl rfl
    · have c_1 : ¬ (tn ≤ nI j) := c_1
      rw [if_neg c_1] at hu
      refine lv_aload_n hx hb dX8_tick_43 rfl (lv_at hl 0 rfl) ?_
      obtain ⟨u_2_0, u_2_1, hr_2⟩ := bEx2 (s_goesBy8 ng)
      rw [hr_2] at hu
      dsimp only at hu
      have GI_goes_2 := GI_goes hr_2
      refine bVI (As := []) (rest := []) (wc := [(mM, .inr (8, [.ref mN, .ref mR, .ref mA, .ref mP, .int cg, .ref mT, .int le, .int sp, .ref mD])), (mN, .inl (cyI, 515, .inl ng))]) (w1 := [(mM, .inr (8, [.ref mN, .ref mR, .ref mA, .ref mP, .int cg, .ref mT, .int le, .int sp, .ref mD])), (mN, .inl (cyI, 515, .inl u_2_1))]) (ws' := [(mM, .inr (8, [.ref mN, .ref mR, .ref mA, .ref mP, .int cg, .ref mT, .int le, .int sp, .ref mD])), (mN, .inl (cyI, 515, .inl u_2_1)), (mP, .inl (cyI, 2060, .inl pg))]) (ad := [mM, mN]) (wr := [(mP, .inl (cyI, 2060, .inl pg))]) (nn := 3) (ci := 8) (q0 := 0) X Y (c_goesBy8 l D cyC cyI mM mN mR mA mP mT mD cg le sp ng u_2_0 u_2_1 hr_2 (tkG hT).1 (tkG hT).2.1 (tkG hT).2.2.1 (n10 (tkG hT).2.2.2.1.1) (n10 (tkG hT).2.2.2.2.1.1)) gX8_tick_X8_goesBy rfl ⟨rfl, rfl⟩ hd_X8_goesBy ⟨(Nat.le_of_ble_eq_true rfl), (Nat.le_of_ble_eq_true rfl)⟩ rfl rfl rfl [0, 1] [2] rfl rfl rfl rfl rfl rfl rfl rfl (by decide) rfl rfl hl.1 (Nat.le_of_ble_eq_true rfl) ⟨Nat.zero_le _, Nat.zero_le _⟩ dX8_tick_44 (fun H locs Y => ?_)
      refine lv_istore (lv' := [(4, .int u_2_0), (0, .ref mM), (1, .int tn), (2, .int br), (3, .int (nI j))]) hx hb dX8_tick_47 hl (by decide) rfl (fun ls hl => ?_)
      refine lv_aload_n hx hb dX8_tick_49 rfl (lv_at hl 1 rfl) ?_
      refine lv_iconst (v := 0) hx hb dX8_tick_50 (by decide) ?_
      obtain ⟨u_3_0, hr_3⟩ := bEx1 (s_counts8_0 u_2_1 (mmO u_2_1 33))
      rw [hr_3] at hu
      dsimp only at hu
      refine bVV (As := [.int 0]) (rest := []) (wc := [(mM, .inr (8, [.ref mN, .ref mR, .ref mA, .ref mP, .int cg, .ref mT, .int le, .int sp, .ref mD])), (mN, .inl (cyI, 515, .inl u_2_1))]) (w1 := [(mM, .inr (8, [.ref mN, .ref mR, .ref mA, .ref mP, .int cg, .ref mT, .int le, .int sp, .ref mD])), (mN, .inl (cyI, 515, .inl u_3_0))]) (ws' := [(mM, .inr (8, [.ref mN, .ref mR, .ref mA, .ref mP, .int cg, .ref mT, .int le, .int sp, .ref mD])), (mN, .inl (cyI, 515, .inl u_3_0)), (mP, .inl (cyI, 2060, .inl pg))]) (ad := [mM, mN]) (wr := [(mP, .inl (cyI, 2060, .inl pg))]) (nn := 3) (ci := 8) (q0 := 0) X Y (c_counts8_0 l D cyC cyI mM mN mR mA mP mT mD cg le sp u_2_1 (mmO u_2_1 33) u_3_0 hr_3 (tkA hT hr_2).1 (tkA hT hr_2).2.1 (tkA hT hr_2).2.2) gX8_tick_X8_counts rfl ⟨rfl, rfl⟩ hd_X8_counts ⟨(Nat.le_of_ble_eq_true rfl), (Nat.le_of_ble_eq_true rfl)⟩ rfl rfl rfl [0, 1] [2] rfl rfl rfl rfl rfl rfl rfl rfl (by decide) rfl rfl hl.1 (Nat.le_of_ble_eq_true rfl) ⟨Nat.zero_le _, Nat.zero_le _⟩ dX8_tick_51 (fun H locs Y => ?_)
      refine lv_aload_n hx hb dX8_tick_54 rfl (lv_at hl 1 rfl) ?_
      refine lv_iconst (v := 1) hx hb dX8_tick_55 (by decide) ?_
      obtain ⟨u_4_0, hr_4⟩ := bEx1 (s_counts8_1 u_3_0 (mmO u_3_0 274))
      rw [hr_4] at hu
      dsimp only at hu
      refine bVV (As := [.int 1]) (rest := []) (wc := [(mM, .inr (8, [.ref mN, .ref mR, .ref mA, .ref mP, .int cg, .ref mT, .int le, .int sp, .ref mD])), (mN, .inl (cyI, 515, .inl u_3_0))]) (w1 := [(mM, .inr (8, [.ref mN, .ref mR, .ref mA, .ref mP, .int cg, .ref mT, .int le, .int sp, .ref mD])), (mN, .inl (cyI, 515, .inl u_4_0))]) (ws' := [(mM, .inr (8, [.ref mN, .ref mR, .ref mA, .ref mP, .int cg, .ref mT, .int le, .int sp, .ref mD])), (mN, .inl (cyI, 515, .inl u_4_0)), (mP, .inl (cyI, 2060, .inl pg))]) (ad := [mM, mN]) (wr := [(mP, .inl (cyI, 2060, .inl pg))]) (nn := 3) (ci := 8) (q0 := 0) X Y (c_counts8_1 l D cyC cyI mM mN mR mA mP mT mD cg le sp u_3_0 (mmO u_3_0 274) u_4_0 hr_4 (tkB hT hr_2 hr_3).1 (tkB hT hr_2 hr_3).2.1 (tkB hT hr_2 hr_3).2.2) gX8_tick_X8_counts rfl ⟨rfl, rfl⟩ hd_X8_counts ⟨(Nat.le_of_ble_eq_true rfl), (Nat.le_of_ble_eq_true rfl)⟩ rfl rfl rfl [0, 1] [2] rfl rfl rfl rfl rfl rfl rfl rfl (by decide) rfl rfl hl.1 (Nat.le_of_ble_eq_true rfl) ⟨Nat.zero_le _, Nat.zero_le _⟩ dX8_tick_56 (fun H locs Y => ?_)
      refine lv_iload_n hx hb dX8_tick_59 rfl (lv_at hl 3 rfl) ?_
      refine lv_iload hx hb dX8_tick_60 (lv_at hl 0 rfl) ?_
      refine lv_iconst (v := 1) hx hb dX8_tick_62 (by decide) ?_
      refine bAnd (v := u_2_0 &&& (1 : Int32)) X dX8_tick_63 rfl ?_
      refine lv_iload hx hb dX8_tick_64 (lv_at hl 0 rfl) ?_
      refine lv_iconst (v := 1) hx hb dX8_tick_66 (by decide) ?_
      refine bShr (v := u_2_0 >>> ((1 : Int32) &&& (31 : Int32))) X dX8_tick_67 rfl ?_
      refine bAdd (v := (u_2_0 &&& (1 : Int32)) + (u_2_0 >>> ((1 : Int32) &&& (31 : Int32)))) X dX8_tick_68 rfl ?_
      refine bAdd (v := br + ((u_2_0 &&& (1 : Int32)) + (u_2_0 >>> ((1 : Int32) &&& (31 : Int32))))) X dX8_tick_69 rfl ?_
      refine lv_istore_n (lv' := [(2, .int (br + ((u_2_0 &&& (1 : Int32)) + (u_2_0 >>> ((1 : Int32) &&& (31 : Int32)))))), (4, .int u_2_0), (0, .ref mM), (1, .int tn), (3, .int (nI j))]) hx hb dX8_tick_70 rfl hl (by decide) rfl (fun ls hl => ?_)
      refine lv_iinc (v := nI (j + 1)) (lv' := [(3, .int (nI (j + 1))), (2, .int (br + ((u_2_0 &&& (1 : Int32)) + (u_2_0 >>> ((1 : Int32) &&& (31 : Int32)))))), (4, .int u_2_0), (0, .ref mM), (1, .int tn)]) hx hb dX8_tick_71 hl (k := 4) rfl (nI_inc _) (by decide) rfl (fun ls hl => ?_)
      refine lv_goto (tgt := 38) hx hb dX8_tick_74 (by decide) ?_
      exact ih (j + 1) u_4_0 cg pg (br + ((u_2_0 &&& (1 : Int32)) + (u_2_0 >>> ((1 : Int32) &&& (31 : Int32))))) (by omega) (by have := bNleS (by omega) (by decide) hK c_1; omega) hK (tkN hT hr_2 hr_3 hr_4) hu _ _ _ (lv_sub hl [3, 4, 1, 0] rfl) Y
set_option maxHeartbeats 4000000 in
set_option maxRecDepth 100000 in
theorem c_tick8 (l : Launch) (D : va_G) (cyC cyI : ClassId) (mM : Nat) (mN : Nat) (mR : Nat) (mA : Nat) (mP : Nat) (mT : Nat) (mD : Nat) (ch : Int32) (le : Int32) (sp : Int32) (nw : Nat → Int32) (ps : Nat → Int32) (tn : Int32) (o0 : Int32) (o1 : Int32) (o2 : Nat → Int32) (o3 : Nat → Int32) (hu : s_tick8 ch nw ps tn = (o0, o1, o2, o3)) (hch : ch = 0 ∨ ch = 1 ∨ ch = 2 ∨ ch = 3 ∨ ch = 4) (hT : ∀ i, TOK (tkI i nw)) : CI l yX8_tick wsX8_tick { frames := 5, cells := 0, slots := 0, locals := 112 } D cyC cyI [.ref mM, .int tn] [(mM, .inr (8, [.ref mN, .ref mR, .ref mA, .ref mP, .int ch, .ref mT, .int le, .int sp, .ref mD])), (mN, .inl (cyI, 515, .inl nw)), (mP, .inl (cyI, 2060, .inl ps))] o0 [(mM, .inr (8, [.ref mN, .ref mR, .ref mA, .ref mP, .int o1, .ref mT, .int le, .int sp, .ref mD])), (mN, .inl (cyI, 515, .inl o2)), (mP, .inl (cyI, 2060, .inl o3))] := by
  refine CI.of (cc := cX8_tick) (n := 5) (ret := (some .int)) (by decide +kernel) rfl (Nat.le_of_ble_eq_true rfl) ?_
  intro p_ e_ s_ m_ bl_ me_ cd_ A_ ls X Y hr hlk hl
  have hx := X.1.1
  have hb := X.1.2.1
  have hl : lv_has ls 5 [(0, .ref mM), (1, .int tn)] := hl
  unfold s_tick8 at hu
  refine lv_iload_n hx hb dX8_tick_0 rfl (lv_at hl 1 rfl) ?_
  refine lv_iconst (v := 1) hx hb dX8_tick_1 (by decide) ?_
  refine lv_bipush (v := 60) hx hb dX8_tick_2 (by decide) ?_
  refine bSI (As := [.int tn, .int 1, .int 60]) (rest := []) X Y (c_in8 l D cyC cyI tn 1 60 (s_in8 tn 1 60) rfl) gX8_tick_X8_in rfl ⟨rfl, rfl⟩ hd_X8_in.2 ⟨(Nat.le_of_ble_eq_true rfl), (Nat.le_of_ble_eq_true rfl)⟩ rfl rfl hl.1 (Nat.le_of_ble_eq_true rfl) ⟨Nat.zero_le _, Nat.zero_le _⟩ dX8_tick_4 (fun H locs Y => ?_)
  refine lv_if_ne (tgt := 12) hx hb dX8_tick_7 (by decide) (fun c_1 => ?_) (fun c_1 => ?_)
  · have c_1 := bB_t c_1
    rw [if_pos c_1] at hu
    refine lv_aload_n hx hb dX8_tick_12 rfl (lv_at hl 0 rfl) ?_
    refine bGet (v := .ref mN) (T := TX8) (N := 9) (ci := 8) X Y i_X8_tick_X8 0 rfl rfl 0 (Nat.le_of_ble_eq_true rfl) f_X8_tick_7 rfl rfl dX8_tick_13 ?_
    refine lv_bipush (v := 6) hx hb dX8_tick_16 (by decide) ?_
    refine bIald (v := nw 6) X Y 1 rfl (bInD (by decide)) dX8_tick_18 rfl ?_
    refine lv_iload_n hx hb dX8_tick_19 rfl (lv_at hl 1 rfl) ?_
    refine bAdd (v := (nw 6) + tn) X dX8_tick_20 rfl ?_
    refine lv_sipush (v := 9999) hx hb dX8_tick_21 (by decide) ?_
    refine lv_icmp_le (tgt := 30) hx hb dX8_tick_24 (by decide) (fun c_2 => ?_) (fun c_2 => ?_)
    · have c_2 : (nw 6) + tn ≤ 9999 := c_2
      rw [if_pos c_2] at hu
      refine lv_aload_n hx hb dX8_tick_30 rfl (lv_at hl 0 rfl) ?_
      obtain ⟨u_3_0, u_3_1, hr_3⟩ := bEx2 (s_keeps8 ch nw ps)
      rw [hr_3] at hu
      dsimp only at hu
      refine bVV (As := []) (rest := []) (wc := [(mM, .inr (8, [.ref mN, .ref mR, .ref mA, .ref mP, .int ch, .ref mT, .int le, .int sp, .ref mD])), (mN, .inl (cyI, 515, .inl nw)), (mP, .inl (cyI, 2060, .inl ps))]) (w1 := [(mM, .inr (8, [.ref mN, .ref mR, .ref mA, .ref mP, .int u_3_0, .ref mT, .int le, .int sp, .ref mD])), (mN, .inl (cyI, 515, .inl nw)), (mP, .inl (cyI, 2060, .inl u_3_1))]) (ws' := [(mM, .inr (8, [.ref mN, .ref mR, .ref mA, .ref mP, .int u_3_0, .ref mT, .int le, .int sp, .ref mD])), (mN, .inl (cyI, 515, .inl nw)), (mP, .inl (cyI, 2060, .inl u_3_1))]) (ad := [mM, mN, mP]) (wr := []) (nn := 3) (ci := 8) (q0 := 0) X Y (c_keeps8 l D cyC cyI mM mN mR mA mP mT mD ch le sp nw ps u_3_0 u_3_1 hr_3 (by first | assumption | omega | decide)) gX8_tick_X8_keeps rfl ⟨rfl, rfl⟩ hd_X8_keeps ⟨(Nat.le_of_ble_eq_true rfl), (Nat.le_of_ble_eq_true rfl)⟩ rfl rfl rfl [0, 1, 2] [] rfl rfl rfl rfl rfl rfl rfl rfl (by decide) rfl rfl hl.1 (Nat.le_of_ble_eq_true rfl) ⟨Nat.zero_le _, Nat.zero_le _⟩ dX8_tick_31 (fun H locs Y => ?_)
      refine lv_iconst (v := 0) hx hb dX8_tick_34 (by decide) ?_
      refine lv_istore_n (lv' := [(2, .int 0), (0, .ref mM), (1, .int tn)]) hx hb dX8_tick_35 rfl hl (by decide) rfl (fun ls hl => ?_)
      refine lv_iconst (v := 0) hx hb dX8_tick_36 (by decide) ?_
      refine lv_istore_n (lv' := [(3, .int 0), (2, .int 0), (0, .ref mM), (1, .int tn)]) hx hb dX8_tick_37 rfl hl (by decide) rfl (fun ls hl => ?_)
      exact lp_tick8 l D cyC cyI mM mN mR mA mP mT mD ch le sp nw ps tn o0 o1 o2 o3 X hr hlk hch hT (61) 0 nw u_3_0 u_3_1 0 (by omega) (by omega) ((in8_iff.mp c_1).2) hT hu _ _ _ (lv_sub hl [2, 3, 1, 0] rfl) Y
    · have c_2 : ¬ ((nw 6) + tn ≤ 9999) := c_2
      rw [if_neg c_2] at hu
      refine lv_bipush (v := (-2)) hx hb dX8_tick_27 (by decide) ?_
      have h9 := (Prod.mk.inj hu).1; replace hu := (Prod.mk.inj hu).2; subst h9
      have h9 := (Prod.mk.inj hu).1; replace hu := (Prod.mk.inj hu).2; subst h9
      have h9 := (Prod.mk.inj hu).1; replace hu := (Prod.mk.inj hu).2; subst h9
      subst hu
      exact bEndI X Y hr hlk dX8_tick_29 rfl rfl
  · have c_1 := bB_f c_1
    rw [if_neg c_1] at hu
    refine lv_iconst (v := (-1)) hx hb dX8_tick_10 (by decide) ?_
    have h9 := (Prod.mk.inj hu).1; replace hu := (Prod.mk.inj hu).2; subst h9
    have h9 := (Prod.mk.inj hu).1; replace hu := (Prod.mk.inj hu).2; subst h9
    have h9 := (Prod.mk.inj hu).1; replace hu := (Prod.mk.inj hu).2; subst h9
    subst hu
    exact bEndI X Y hr hlk dX8_tick_11 rfl rfl
