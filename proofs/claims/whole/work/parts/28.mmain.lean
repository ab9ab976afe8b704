theorem in8_iff {n lo hi : Int32} : s_in8 n lo hi = true ↔ lo ≤ n ∧ n ≤ hi := by
  unfold s_in8
  constructor
  · intro h
    by_cases c1 : n < lo
    · rw [if_pos c1] at h; cases h
    · rw [if_neg c1] at h
      by_cases c2 : hi < n
      · rw [if_pos c2] at h; cases h
      · rw [Int32.lt_iff_toInt_lt] at c1 c2
        rw [Int32.le_iff_toInt_le, Int32.le_iff_toInt_le]; omega
  · intro h
    rw [Int32.le_iff_toInt_le, Int32.le_iff_toInt_le] at h
    rw [if_neg (by rw [Int32.lt_iff_toInt_lt]; omega), if_neg (by rw [Int32.lt_iff_toInt_lt]; omega)]
theorem half0 {x : Int32} (h : 10 ≤ x) : 0 ≤ x := Int32.le_trans (by decide) h
theorem bInW {le : Int32} (h0 : 0 ≤ le) (h : le ≤ nI 200) (hn : ¬ le = 200) : vp_in le 200 := by
  rw [Int32.le_iff_toInt_le, Int32.toInt_zero] at h0
  rw [Int32.le_iff_toInt_le, nI_toInt (by decide)] at h
  have h3 : le.toInt ≠ 200 := fun q => hn (Int32.toInt_inj.mp (by rw [q]; rfl))
  intro q
  rcases q with q | q
  · rw [Int32.lt_iff_toInt_lt, Int32.toInt_zero] at q; omega
  · have e : le.toNatClampNeg = le.toInt.toNat := rfl
    omega
theorem bInC {w : Int32} (h : s_in8 w 0 6 = true) : vp_in w 515 := by
  have h1 := in8_iff.mp h
  rw [Int32.le_iff_toInt_le, Int32.le_iff_toInt_le, Int32.toInt_zero, show (6 : Int32).toInt = 6 from by decide] at h1
  intro q
  rcases q with q | q
  · rw [Int32.lt_iff_toInt_lt, Int32.toInt_zero] at q; omega
  · have e : w.toNatClampNeg = w.toInt.toNat := rfl
    omega
theorem i_X8_write_X8 : ∀ w ∈ wsX80, w ∈ wsX8_write := by decide +kernel
theorem f_X8_write_45 : Cond.fieldLink RX8 45 "SwingCranesModel" "letters" "I" ∈ wsX8_write := by decide +kernel
theorem f_X8_write_22 : Cond.fieldLink RX8 22 "SwingCranesModel" "text" "[I" ∈ wsX8_write := by decide +kernel
def s_write8 (le : Int32) (tx : Nat → Int32) (w : Int32) : Int32 × Int32 × (Nat → Int32) :=
  if (s_in8 w 32 126) = true then
    if le = 200 then
      ((-3), le, tx)
    else
      (le + 1, le + 1, upd tx le.toNatClampNeg w)
  else
    ((-1), le, tx)
set_option maxHeartbeats 4000000 in
set_option maxRecDepth 100000 in
theorem c_write8 (l : Launch) (D : va_G) (cyC cyI : ClassId) (mM : Nat) (mN : Nat) (mR : Nat) (mA : Nat) (mP : Nat) (mT : Nat) (mD : Nat) (ch : Int32) (le : Int32) (sp : Int32) (tx : Nat → Int32) (w : Int32) (o0 : Int32) (o1 : Int32) (o2 : Nat → Int32) (hu : s_write8 le tx w = (o0, o1, o2)) (hle0 : 0 ≤ le) (hle : le ≤ nI 200) : CI l yX8_write wsX8_write { frames := 1, cells := 0, slots := 0, locals := 22 } D cyC cyI [.ref mM, .int w] [(mM, .inr (8, [.ref mN, .ref mR, .ref mA, .ref mP, .int ch, .ref mT, .int le, .int sp, .ref mD])), (mT, .inl (cyI, 200, .inl tx))] o0 [(mM, .inr (8, [.ref mN, .ref mR, .ref mA, .ref mP, .int ch, .ref mT, .int o1, .int sp, .ref mD])), (mT, .inl (cyI, 200, .inl o2))] := by
  refine CI.of (cc := cX8_write) (n := 2) (ret := (some .int)) (by decide +kernel) rfl (Nat.le_of_ble_eq_true rfl) ?_
  intro p_ e_ s_ m_ bl_ me_ cd_ A_ ls X Y hr hlk hl
  have hx := X.1.1
  have hb := X.1.2.1
  have hl : lv_has ls 2 [(0, .ref mM), (1, .int w)] := hl
  unfold s_write8 at hu
  refine lv_iload_n hx hb dX8_write_0 rfl (lv_at hl 1 rfl) ?_
  refine lv_bipush (v := 32) hx hb dX8_write_1 (by decide) ?_
  refine lv_bipush (v := 126) hx hb dX8_write_3 (by decide) ?_
  refine bSI (As := [.int w, .int 32, .int 126]) (rest := []) X Y (c_in8 l D cyC cyI w 32 126 (s_in8 w 32 126) rfl) gX8_write_X8_in rfl ⟨rfl, rfl⟩ hd_X8_in.2 ⟨(Nat.le_of_ble_eq_true rfl), (Nat.le_of_ble_eq_true rfl)⟩ rfl rfl hl.1 (Nat.le_of_ble_eq_true rfl) ⟨Nat.zero_le _, Nat.zero_le _⟩ dX8_write_5 (fun H locs Y => ?_)
  refine lv_if_ne (tgt := 13) hx hb dX8_write_8 (by decide) (fun c_1 => ?_) (fun c_1 => ?_)
  · have c_1 := bB_t c_1
    rw [if_pos c_1] at hu
    refine lv_aload_n hx hb dX8_write_13 rfl (lv_at hl 0 rfl) ?_
    refine bGet (v := .int le) (T := TX8) (N := 9) (ci := 8) X Y i_X8_write_X8 0 rfl rfl 6 (Nat.le_of_ble_eq_true rfl) f_X8_write_45 rfl rfl dX8_write_14 ?_
    refine lv_sipush (v := 200) hx hb dX8_write_17 (by decide) ?_
    refine lv_icmp_ne (tgt := 26) hx hb dX8_write_20 (by decide) (fun c_2 => ?_) (fun c_2 => ?_)
    · have c_2 : ¬ (le = 200) := c_2
      rw [if_neg c_2] at hu
      refine lv_aload_n hx hb dX8_write_26 rfl (lv_at hl 0 rfl) ?_
      refine bGet (v := .ref mT) (T := TX8) (N := 9) (ci := 8) X Y i_X8_write_X8 0 rfl rfl 5 (Nat.le_of_ble_eq_true rfl) f_X8_write_22 rfl rfl dX8_write_27 ?_
      refine lv_aload_n hx hb dX8_write_30 rfl (lv_at hl 0 rfl) ?_
      refine bGet (v := .int le) (T := TX8) (N := 9) (ci := 8) X Y i_X8_write_X8 0 rfl rfl 6 (Nat.le_of_ble_eq_true rfl) f_X8_write_45 rfl rfl dX8_write_31 ?_
      refine lv_iload_n hx hb dX8_write_34 rfl (lv_at hl 1 rfl) ?_
      refine bIast (f' := upd tx le.toNatClampNeg w) (ws' := [(mM, .inr (8, [.ref mN, .ref mR, .ref mA, .ref mP, .int ch, .ref mT, .int le, .int sp, .ref mD])), (mT, .inl (cyI, 200, .inl (upd tx le.toNatClampNeg w)))]) X Y 1 rfl (bInW hle0 hle c_2) rfl rfl dX8_write_35 (fun H locs Y => ?_)
      refine lv_aload_n hx hb dX8_write_36 rfl (lv_at hl 0 rfl) ?_
      refine lv_dup hx hb dX8_write_37 rfl ?_
      refine bGet (v := .int le) (T := TX8) (N := 9) (ci := 8) X Y i_X8_write_X8 0 rfl rfl 6 (Nat.le_of_ble_eq_true rfl) f_X8_write_45 rfl rfl dX8_write_38 ?_
      refine lv_iconst (v := 1) hx hb dX8_write_41 (by decide) ?_
      refine bAdd (v := le + 1) X dX8_write_42 rfl ?_
      refine bPut (T := TX8) (N := 9) (ci := 8) (ws' := [(mM, .inr (8, [.ref mN, .ref mR, .ref mA, .ref mP, .int ch, .ref mT, .int (le + 1), .int sp, .ref mD])), (mT, .inl (cyI, 200, .inl (upd tx le.toNatClampNeg w)))]) X Y i_X8_write_X8 tyX8 tyX8_ok nmX8 0 rfl rfl 6 (Nat.le_of_ble_eq_true rfl) f_X8_write_45 rfl rfl rfl rfl (Nat.le_of_ble_eq_true rfl) rfl dX8_write_43 (fun H locs Y => ?_)
      refine lv_aload_n hx hb dX8_write_46 rfl (lv_at hl 0 rfl) ?_
      refine bGet (v := .int (le + 1)) (T := TX8) (N := 9) (ci := 8) X Y i_X8_write_X8 0 rfl rfl 6 (Nat.le_of_ble_eq_true rfl) f_X8_write_45 rfl rfl dX8_write_47 ?_
      have h9 := (Prod.mk.inj hu).1; replace hu := (Prod.mk.inj hu).2; subst h9
      have h9 := (Prod.mk.inj hu).1; replace hu := (Prod.mk.inj hu).2; subst h9
      subst hu
      exact bEndI X Y hr hlk dX8_write_50 rfl rfl
    · have c_2 : le = 200 := c_2
      rw [if_pos c_2] at hu
      refine lv_bipush (v := (-3)) hx hb dX8_write_23 (by decide) ?_
      have h9 := (Prod.mk.inj hu).1; replace hu := (Prod.mk.inj hu).2; subst h9
      have h9 := (Prod.mk.inj hu).1; replace hu := (Prod.mk.inj hu).2; subst h9
      subst hu
      exact bEndI X Y hr hlk dX8_write_25 rfl rfl
  · have c_1 := bB_f c_1
    rw [if_neg c_1] at hu
    refine lv_iconst (v := (-1)) hx hb dX8_write_11 (by decide) ?_
    have h9 := (Prod.mk.inj hu).1; replace hu := (Prod.mk.inj hu).2; subst h9
    have h9 := (Prod.mk.inj hu).1; replace hu := (Prod.mk.inj hu).2; subst h9
    subst hu
    exact bEndI X Y hr hlk dX8_write_12 rfl rfl
theorem i_X8_wipe_X8 : ∀ w ∈ wsX80, w ∈ wsX8_wipe := by decide +kernel
theorem f_X8_wipe_45 : Cond.fieldLink RX8 45 "SwingCranesModel" "letters" "I" ∈ wsX8_wipe := by decide +kernel
def s_wipe8 (le : Int32) : Int32 :=
  le
set_option maxHeartbeats 4000000 in
set_option maxRecDepth 100000 in
theorem c_wipe8 (l : Launch) (D : va_G) (cyC cyI : ClassId) (mM : Nat) (mN : Nat) (mR : Nat) (mA : Nat) (mP : Nat) (mT : Nat) (mD : Nat) (ch : Int32) (le : Int32) (sp : Int32) (o0 : Int32) (hu : s_wipe8 le = o0) : CI l yX8_wipe wsX8_wipe { frames := 0, cells := 0, slots := 0, locals := 0 } D cyC cyI [.ref mM] [(mM, .inr (8, [.ref mN, .ref mR, .ref mA, .ref mP, .int ch, .ref mT, .int le, .int sp, .ref mD]))] o0 [(mM, .inr (8, [.ref mN, .ref mR, .ref mA, .ref mP, .int ch, .ref mT, .int 0, .int sp, .ref mD]))] := by
  refine CI.of (cc := cX8_wipe) (n := 2) (ret := (some .int)) (by decide +kernel) rfl (Nat.le_of_ble_eq_true rfl) ?_
  intro p_ e_ s_ m_ bl_ me_ cd_ A_ ls X Y hr hlk hl
  have hx := X.1.1
  have hb := X.1.2.1
  have hl : lv_has ls 2 [(0, .ref mM)] := hl
  unfold s_wipe8 at hu
  refine lv_aload_n hx hb dX8_wipe_0 rfl (lv_at hl 0 rfl) ?_
  refine bGet (v := .int le) (T := TX8) (N := 9) (ci := 8) X Y i_X8_wipe_X8 0 rfl rfl 6 (Nat.le_of_ble_eq_true rfl) f_X8_wipe_45 rfl rfl dX8_wipe_1 ?_
  refine lv_istore_n (lv' := [(1, .int le), (0, .ref mM)]) hx hb dX8_wipe_4 rfl hl (by decide) rfl (fun ls hl => ?_)
  refine lv_aload_n hx hb dX8_wipe_5 rfl (lv_at hl 1 rfl) ?_
  refine lv_iconst (v := 0) hx hb dX8_wipe_6 (by decide) ?_
  refine bPut (T := TX8) (N := 9) (ci := 8) (ws' := [(mM, .inr (8, [.ref mN, .ref mR, .ref mA, .ref mP, .int ch, .ref mT, .int 0, .int sp, .ref mD]))]) X Y i_X8_wipe_X8 tyX8 tyX8_ok nmX8 0 rfl rfl 6 (Nat.le_of_ble_eq_true rfl) f_X8_wipe_45 rfl rfl rfl rfl (Nat.le_of_ble_eq_true rfl) rfl dX8_wipe_7 (fun H locs Y => ?_)
  refine lv_iload_n hx hb dX8_wipe_10 rfl (lv_at hl 0 rfl) ?_
  subst hu
  exact bEndI X Y hr hlk dX8_wipe_11 rfl rfl
theorem hd_X8_reads : bD1 yX8_reads RX8 0 := by decide +kernel
def s_fault8 (le : Int32) (rd : Nat → Int32) (tx : Nat → Int32) (td : Nat → Int32) : Int32 × Int32 × (Nat → Int32) × (Nat → Int32) :=
  match s_reads8 le rd tx td with
  | (u_1_0, u_1_1, u_1_2, u_1_3) =>
    (u_1_0, u_1_1, u_1_2, u_1_3)
set_option maxHeartbeats 4000000 in
set_option maxRecDepth 100000 in
theorem c_fault8 (l : Launch) (D : va_G) (cyC cyI : ClassId) (mM : Nat) (mN : Nat) (mR : Nat) (mA : Nat) (mP : Nat) (mT : Nat) (mD : Nat) (ch : Int32) (le : Int32) (sp : Int32) (rd : Nat → Int32) (tx : Nat → Int32) (td : Nat → Int32) (o0 : Int32) (o1 : Int32) (o2 : Nat → Int32) (o3 : Nat → Int32) (hu : s_fault8 le rd tx td = (o0, o1, o2, o3)) (hle : le ≤ nI 200) : CI l yX8_fault wsX8_fault { frames := 7, cells := 0, slots := 0, locals := 155 } D cyC cyI [.ref mM] [(mM, .inr (8, [.ref mN, .ref mR, .ref mA, .ref mP, .int ch, .ref mT, .int le, .int sp, .ref mD])), (mR, .inl (cyI, 515, .inl rd)), (mT, .inl (cyI, 200, .inl tx)), (mD, .inl (cyI, 4, .inl td))] o0 [(mM, .inr (8, [.ref mN, .ref mR, .ref mA, .ref mP, .int ch, .ref mT, .int le, .int o1, .ref mD])), (mR, .inl (cyI, 515, .inl o2)), (mT, .inl (cyI, 200, .inl tx)), (mD, .inl (cyI, 4, .inl o3))] := by
  refine CI.of (cc := cX8_fault) (n := 1) (ret := (some .int)) (by decide +kernel) rfl (Nat.le_of_ble_eq_true rfl) ?_
  intro p_ e_ s_ m_ bl_ me_ cd_ A_ ls X Y hr hlk hl
  have hx := X.1.1
  have hb := X.1.2.1
  have hl : lv_has ls 1 [(0, .ref mM)] := hl
  unfold s_fault8 at hu
  refine lv_aload_n hx hb dX8_fault_0 rfl (lv_at hl 0 rfl) ?_
  obtain ⟨u_1_0, u_1_1, u_1_2, u_1_3, hr_1⟩ := bEx4 (s_reads8 le rd tx td)
  rw [hr_1] at hu
  dsimp only at hu
  refine bVI (As := []) (rest := []) (wc := [(mM, .inr (8, [.ref mN, .ref mR, .ref mA, .ref mP, .int ch, .ref mT, .int le, .int sp, .ref mD])), (mR, .inl (cyI, 515, .inl rd)), (mT, .inl (cyI, 200, .inl tx)), (mD, .inl (cyI, 4, .inl td))]) (w1 := [(mM, .inr (8, [.ref mN, .ref mR, .ref mA, .ref mP, .int ch, .ref mT, .int le, .int u_1_1, .ref mD])), (mR, .inl (cyI, 515, .inl u_1_2)), (mT, .inl (cyI, 200, .inl tx)), (mD, .inl (cyI, 4, .inl u_1_3))]) (ws' := [(mM, .inr (8, [.ref mN, .ref mR, .ref mA, .ref mP, .int ch, .ref mT, .int le, .int u_1_1, .ref mD])), (mR, .inl (cyI, 515, .inl u_1_2)), (mT, .inl (cyI, 200, .inl tx)), (mD, .inl (cyI, 4, .inl u_1_3))]) (ad := [mM, mR, mT, mD]) (wr := []) (nn := 4) (ci := 8) (q0 := 0) X Y (c_reads8 l D cyC cyI mM mN mR mA mP mT mD ch le sp rd tx td u_1_0 u_1_1 u_1_2 u_1_3 hr_1 (by first | assumption | omega | decide)) gX8_fault_X8_reads rfl ⟨rfl, rfl⟩ hd_X8_reads ⟨(Nat.le_of_ble_eq_true rfl), (Nat.le_of_ble_eq_true rfl)⟩ rfl rfl rfl [0, 1, 2, 3] [] rfl rfl rfl rfl rfl rfl rfl rfl (by decide) rfl rfl hl.1 (Nat.le_of_ble_eq_true rfl) ⟨Nat.zero_le _, Nat.zero_le _⟩ dX8_fault_1 (fun H locs Y => ?_)
  have h9 := (Prod.mk.inj hu).1; replace hu := (Prod.mk.inj hu).2; subst h9
  have h9 := (Prod.mk.inj hu).1; replace hu := (Prod.mk.inj hu).2; subst h9
  have h9 := (Prod.mk.inj hu).1; replace hu := (Prod.mk.inj hu).2; subst h9
  subst hu
  exact bEndI X Y hr hlk dX8_fault_4 rfl rfl
theorem i_X8_lay_X8 : ∀ w ∈ wsX80, w ∈ wsX8_lay := by decide +kernel
theorem f_X8_lay_13 : Cond.fieldLink RX8 13 "SwingCranesModel" "read" "[I" ∈ wsX8_lay := by decide +kernel
theorem hd_X8_takes : bD1 yX8_takes RX8 0 := by decide +kernel
theorem f_X8_lay_7 : Cond.fieldLink RX8 7 "SwingCranesModel" "now" "[I" ∈ wsX8_lay := by decide +kernel
def s_lay8 (ch : Int32) (le : Int32) (nw : Nat → Int32) (rd : Nat → Int32) (tx : Nat → Int32) (td : Nat → Int32) : Int32 × Int32 × Int32 × (Nat → Int32) × (Nat → Int32) × (Nat → Int32) :=
  match s_reads8 le rd tx td with
  | (u_1_0, u_1_1, u_1_2, u_1_3) =>
    if u_1_0 = (-4) then
      if (u_1_2 0) < u_1_2 7 then
        ((-2), ch, u_1_1, nw, u_1_2, u_1_3)
      else
        if (u_1_2 0) < u_1_2 20 then
          ((-2), ch, u_1_1, nw, u_1_2, u_1_3)
        else
          if (u_1_2 1) ≤ (u_1_2 20) - (u_1_2 7) then
            match s_takes8 nw u_1_2 with
            | (u_6_0, _) =>
              (u_6_0 0, 0, u_1_1, u_6_0, u_1_2, u_1_3)
          else
            ((-2), ch, u_1_1, nw, u_1_2, u_1_3)
    else
      ((-2), ch, u_1_1, nw, u_1_2, u_1_3)
set_option maxHeartbeats 4000000 in
set_option maxRecDepth 100000 in
theorem c_lay8 (l : Launch) (D : va_G) (cyC cyI : ClassId) (mM : Nat) (mN : Nat) (mR : Nat) (mA : Nat) (mP : Nat) (mT : Nat) (mD : Nat) (ch : Int32) (le : Int32) (sp : Int32) (nw : Nat → Int32) (rd : Nat → Int32) (tx : Nat → Int32) (td : Nat → Int32) (o0 : Int32) (o1 : Int32) (o2 : Int32) (o3 : Nat → Int32) (o4 : Nat → Int32) (o5 : Nat → Int32) (hu : s_lay8 ch le nw rd tx td = (o0, o1, o2, o3, o4, o5)) (hle : le ≤ nI 200) : CI l yX8_lay wsX8_lay { frames := 7, cells := 0, slots := 0, locals := 155 } D cyC cyI [.ref mM] [(mM, .inr (8, [.ref mN, .ref mR, .ref mA, .ref mP, .int ch, .ref mT, .int le, .int sp, .ref mD])), (mN, .inl (cyI, 515, .inl nw)), (mR, .inl (cyI, 515, .inl rd)), (mT, .inl (cyI, 200, .inl tx)), (mD, .inl (cyI, 4, .inl td))] o0 [(mM, .inr (8, [.ref mN, .ref mR, .ref mA, .ref mP, .int o1, .ref mT, .int le, .int o2, .ref mD])), (mN, .inl (cyI, 515, .inl o3)), (mR, .inl (cyI, 515, .inl o4)), (mT, .inl (cyI, 200, .inl tx)), (mD, .inl (cyI, 4, .inl o5))] := by
  refine CI.of (cc := cX8_lay) (n := 4) (ret := (some .int)) (by decide +kernel) rfl (Nat.le_of_ble_eq_true rfl) ?_
  intro p_ e_ s_ m_ bl_ me_ cd_ A_ ls X Y hr hlk hl
  have hx := X.1.1
  have hb := X.1.2.1
  have hl : lv_has ls 4 [(0, .ref mM)] := hl
  unfold s_lay8 at hu
  refine lv_aload_n hx hb dX8_lay_0 rfl (lv_at hl 0 rfl) ?_
  obtain ⟨u_1_0, u_1_1, u_1_2, u_1_3, hr_1⟩ := bEx4 (s_reads8 le rd tx td)
  rw [hr_1] at hu
  dsimp only at hu
  refine bVI (As := []) (rest := []) (wc := [(mM, .inr (8, [.ref mN, .ref mR, .ref mA, .ref mP, .int ch, .ref mT, .int le, .int sp, .ref mD])), (mR, .inl (cyI, 515, .inl rd)), (mT, .inl (cyI, 200, .inl tx)), (mD, .inl (cyI, 4, .inl td))]) (w1 := [(mM, .inr (8, [.ref mN, .ref mR, .ref mA, .ref mP, .int ch, .ref mT, .int le, .int u_1_1, .ref mD])), (mR, .inl (cyI, 515, .inl u_1_2)), (mT, .inl (cyI, 200, .inl tx)), (mD, .inl (cyI, 4, .inl u_1_3))]) (ws' := [(mM, .inr (8, [.ref mN, .ref mR, .ref mA, .ref mP, .int ch, .ref mT, .int le, .int u_1_1, .ref mD])), (mN, .inl (cyI, 515, .inl nw)), (mR, .inl (cyI, 515, .inl u_1_2)), (mT, .inl (cyI, 200, .inl tx)), (mD, .inl (cyI, 4, .inl u_1_3))]) (ad := [mM, mR, mT, mD]) (wr := [(mN, .inl (cyI, 515, .inl nw))]) (nn := 5) (ci := 8) (q0 := 0) X Y (c_reads8 l D cyC cyI mM mN mR mA mP mT mD ch le sp rd tx td u_1_0 u_1_1 u_1_2 u_1_3 hr_1 (by first | assumption | omega | decide)) gX8_lay_X8_reads rfl ⟨rfl, rfl⟩ hd_X8_reads ⟨(Nat.le_of_ble_eq_true rfl), (Nat.le_of_ble_eq_true rfl)⟩ rfl rfl rfl [0, 2, 3, 4] [1] rfl rfl rfl rfl rfl rfl rfl rfl (by decide) rfl rfl hl.1 (Nat.le_of_ble_eq_true rfl) ⟨Nat.zero_le _, Nat.zero_le _⟩ dX8_lay_1 (fun H locs Y => ?_)
  refine lv_bipush (v := (-4)) hx hb dX8_lay_4 (by decide) ?_
  refine lv_icmp_ne (tgt := 13) hx hb dX8_lay_6 (by decide) (fun c_2 => ?_) (fun c_2 => ?_)
  · have c_2 : ¬ (u_1_0 = (-4)) := c_2
    rw [if_neg c_2] at hu
    refine lv_iconst (v := 0) hx hb dX8_lay_13 (by decide) ?_
    refine lv_istore_n (lv' := [(1, .int 0), (0, .ref mM)]) hx hb dX8_lay_14 rfl hl (by decide) rfl (fun ls hl => ?_)
    refine lv_aload_n hx hb dX8_lay_15 rfl (lv_at hl 1 rfl) ?_
    refine bGet (v := .ref mR) (T := TX8) (N := 9) (ci := 8) X Y i_X8_lay_X8 0 rfl rfl 1 (Nat.le_of_ble_eq_true rfl) f_X8_lay_13 rfl rfl dX8_lay_16 ?_
    refine lv_bipush (v := 7) hx hb dX8_lay_19 (by decide) ?_
    refine bIald (v := u_1_2 7) X Y 2 rfl (bInD (by decide)) dX8_lay_21 rfl ?_
    refine lv_istore_n (lv' := [(2, .int (u_1_2 7)), (1, .int 0), (0, .ref mM)]) hx hb dX8_lay_22 rfl hl (by decide) rfl (fun ls hl => ?_)
    refine lv_aload_n hx hb dX8_lay_23 rfl (lv_at hl 2 rfl) ?_
    refine bGet (v := .ref mR) (T := TX8) (N := 9) (ci := 8) X Y i_X8_lay_X8 0 rfl rfl 1 (Nat.le_of_ble_eq_true rfl) f_X8_lay_13 rfl rfl dX8_lay_24 ?_
    refine lv_bipush (v := 20) hx hb dX8_lay_27 (by decide) ?_
    refine bIald (v := u_1_2 20) X Y 2 rfl (bInD (by decide)) dX8_lay_29 rfl ?_
    refine lv_istore_n (lv' := [(3, .int (u_1_2 20)), (2, .int (u_1_2 7)), (1, .int 0), (0, .ref mM)]) hx hb dX8_lay_30 rfl hl (by decide) rfl (fun ls hl => ?_)
    refine lv_iload_n hx hb dX8_lay_31 rfl (lv_at hl 2 rfl) ?_
    refine lv_if_eq (tgt := 67) hx hb dX8_lay_32 (by decide) (fun _ => ?_) (fun c_ => absurd (by decide) c_)
    refine lv_bipush (v := (-2)) hx hb dX8_lay_67 (by decide) ?_
    have h9 := (Prod.mk.inj hu).1; replace hu := (Prod.mk.inj hu).2; subst h9
    have h9 := (Prod.mk.inj hu).1; replace hu := (Prod.mk.inj hu).2; subst h9
    have h9 := (Prod.mk.inj hu).1; replace hu := (Prod.mk.inj hu).2; subst h9
    have h9 := (Prod.mk.inj hu).1; replace hu := (Prod.mk.inj hu).2; subst h9
    have h9 := (Prod.mk.inj hu).1; replace hu := (Prod.mk.inj hu).2; subst h9
    subst hu
    exact bEndI X Y hr hlk dX8_lay_69 rfl rfl
  · have c_2 : u_1_0 = (-4) := c_2
    rw [if_pos c_2] at hu
    refine lv_iconst (v := 1) hx hb dX8_lay_9 (by decide) ?_
    refine lv_goto (tgt := 14) hx hb dX8_lay_10 (by decide) ?_
    refine lv_istore_n (lv' := [(1, .int 1), (0, .ref mM)]) hx hb dX8_lay_14 rfl hl (by decide) rfl (fun ls hl => ?_)
    refine lv_aload_n hx hb dX8_lay_15 rfl (lv_at hl 1 rfl) ?_
    refine bGet (v := .ref mR) (T := TX8) (N := 9) (ci := 8) X Y i_X8_lay_X8 0 rfl rfl 1 (Nat.le_of_ble_eq_true rfl) f_X8_lay_13 rfl rfl dX8_lay_16 ?_
    refine lv_bipush (v := 7) hx hb dX8_lay_19 (by decide) ?_
    refine bIald (v := u_1_2 7) X Y 2 rfl (bInD (by decide)) dX8_lay_21 rfl ?_
    refine lv_istore_n (lv' := [(2, .int (u_1_2 7)), (1, .int 1), (0, .ref mM)]) hx hb dX8_lay_22 rfl hl (by decide) rfl (fun ls hl => ?_)
    refine lv_aload_n hx hb dX8_lay_23 rfl (lv_at hl 2 rfl) ?_
    refine bGet (v := .ref mR) (T := TX8) (N := 9) (ci := 8) X Y i_X8_lay_X8 0 rfl rfl 1 (Nat.le_of_ble_eq_true rfl) f_X8_lay_13 rfl rfl dX8_lay_24 ?_
    refine lv_bipush (v := 20) hx hb dX8_lay_27 (by decide) ?_
    refine bIald (v := u_1_2 20) X Y 2 rfl (bInD (by decide)) dX8_lay_29 rfl ?_
    refine lv_istore_n (lv' := [(3, .int (u_1_2 20)), (2, .int (u_1_2 7)), (1, .int 1), (0, .ref mM)]) hx hb dX8_lay_30 rfl hl (by decide) rfl (fun ls hl => ?_)
    refine lv_iload_n hx hb dX8_lay_31 rfl (lv_at hl 2 rfl) ?_
    refine lv_if_eq (tgt := 67) hx hb dX8_lay_32 (by decide) (fun c_ => absurd c_ (by decide)) (fun _ => ?_)
    refine lv_iload_n hx hb dX8_lay_35 rfl (lv_at hl 1 rfl) ?_
    refine lv_aload_n hx hb dX8_lay_36 rfl (lv_at hl 3 rfl) ?_
    refine bGet (v := .ref mR) (T := TX8) (N := 9) (ci := 8) X Y i_X8_lay_X8 0 rfl rfl 1 (Nat.le_of_ble_eq_true rfl) f_X8_lay_13 rfl rfl dX8_lay_37 ?_
    refine lv_iconst (v := 0) hx hb dX8_lay_40 (by decide) ?_
    refine bIald (v := u_1_2 0) X Y 2 rfl (bInD (by decide)) dX8_lay_41 rfl ?_
    refine lv_icmp_gt (tgt := 67) hx hb dX8_lay_42 (by decide) (fun c_3 => ?_) (fun c_3 => ?_)
    · have c_3 : (u_1_2 0) < u_1_2 7 := c_3
      rw [if_pos c_3] at hu
      refine lv_bipush (v := (-2)) hx hb dX8_lay_67 (by decide) ?_
      have h9 := (Prod.mk.inj hu).1; replace hu := (Prod.mk.inj hu).2; subst h9
      have h9 := (Prod.mk.inj hu).1; replace hu := (Prod.mk.inj hu).2; subst h9
      have h9 := (Prod.mk.inj hu).1; replace hu := (Prod.mk.inj hu).2; subst h9
      have h9 := (Prod.mk.inj hu).1; replace hu := (Prod.mk.inj hu).2; subst h9
      have h9 := (Prod.mk.inj hu).1; replace hu := (Prod.mk.inj hu).2; subst h9
      subst hu
      exact bEndI X Y hr hlk dX8_lay_69 rfl rfl
    · have c_3 : ¬ ((u_1_2 0) < u_1_2 7) := c_3
      rw [if_neg c_3] at hu
      refine lv_iload_n hx hb dX8_lay_45 rfl (lv_at hl 0 rfl) ?_
      refine lv_aload_n hx hb dX8_lay_46 rfl (lv_at hl 3 rfl) ?_
      refine bGet (v := .ref mR) (T := TX8) (N := 9) (ci := 8) X Y i_X8_lay_X8 0 rfl rfl 1 (Nat.le_of_ble_eq_true rfl) f_X8_lay_13 rfl rfl dX8_lay_47 ?_
      refine lv_iconst (v := 0) hx hb dX8_lay_50 (by decide) ?_
      refine bIald (v := u_1_2 0) X Y 2 rfl (bInD (by decide)) dX8_lay_51 rfl ?_
      refine lv_icmp_gt (tgt := 67) hx hb dX8_lay_52 (by decide) (fun c_4 => ?_) (fun c_4 => ?_)
      · have c_4 : (u_1_2 0) < u_1_2 20 := c_4
        rw [if_pos c_4] at hu
        refine lv_bipush (v := (-2)) hx hb dX8_lay_67 (by decide) ?_
        have h9 := (Prod.mk.inj hu).1; replace hu := (Prod.mk.inj hu).2; subst h9
        have h9 := (Prod.mk.inj hu).1; replace hu := (Prod.mk.inj hu).2; subst h9
        have h9 := (Prod.mk.inj hu).1; replace hu := (Prod.mk.inj hu).2; subst h9
        have h9 := (Prod.mk.inj hu).1; replace hu := (Prod.mk.inj hu).2; subst h9
        have h9 := (Prod.mk.inj hu).1; replace hu := (Prod.mk.inj hu).2; subst h9
        subst hu
        exact bEndI X Y hr hlk dX8_lay_69 rfl rfl
      · have c_4 : ¬ ((u_1_2 0) < u_1_2 20) := c_4
        rw [if_neg c_4] at hu
        refine lv_iload_n hx hb dX8_lay_55 rfl (lv_at hl 0 rfl) ?_
        refine lv_iload_n hx hb dX8_lay_56 rfl (lv_at hl 1 rfl) ?_
        refine bSub (v := (u_1_2 20) - (u_1_2 7)) X dX8_lay_57 rfl ?_
        refine lv_aload_n hx hb dX8_lay_58 rfl (lv_at hl 3 rfl) ?_
        refine bGet (v := .ref mR) (T := TX8) (N := 9) (ci := 8) X Y i_X8_lay_X8 0 rfl rfl 1 (Nat.le_of_ble_eq_true rfl) f_X8_lay_13 rfl rfl dX8_lay_59 ?_
        refine lv_iconst (v := 1) hx hb dX8_lay_62 (by decide) ?_
        refine bIald (v := u_1_2 1) X Y 2 rfl (bInD (by decide)) dX8_lay_63 rfl ?_
        refine lv_icmp_ge (tgt := 70) hx hb dX8_lay_64 (by decide) (fun c_5 => ?_) (fun c_5 => ?_)
        · have c_5 : (u_1_2 1) ≤ (u_1_2 20) - (u_1_2 7) := c_5
          rw [if_pos c_5] at hu
          refine lv_aload_n hx hb dX8_lay_70 rfl (lv_at hl 3 rfl) ?_
          obtain ⟨u_6_0, hr_6⟩ := bEx1 (s_takes8 nw u_1_2)
          rw [hr_6] at hu
          dsimp only at hu
          refine bVV (As := []) (rest := []) (wc := [(mM, .inr (8, [.ref mN, .ref mR, .ref mA, .ref mP, .int ch, .ref mT, .int le, .int u_1_1, .ref mD])), (mN, .inl (cyI, 515, .inl nw)), (mR, .inl (cyI, 515, .inl u_1_2))]) (w1 := [(mM, .inr (8, [.ref mN, .ref mR, .ref mA, .ref mP, .int 0, .ref mT, .int le, .int u_1_1, .ref mD])), (mN, .inl (cyI, 515, .inl u_6_0)), (mR, .inl (cyI, 515, .inl u_1_2))]) (ws' := [(mM, .inr (8, [.ref mN, .ref mR, .ref mA, .ref mP, .int 0, .ref mT, .int le, .int u_1_1, .ref mD])), (mN, .inl (cyI, 515, .inl u_6_0)), (mR, .inl (cyI, 515, .inl u_1_2)), (mT, .inl (cyI, 200, .inl tx)), (mD, .inl (cyI, 4, .inl u_1_3))]) (ad := [mM, mN, mR]) (wr := [(mT, .inl (cyI, 200, .inl tx)), (mD, .inl (cyI, 4, .inl u_1_3))]) (nn := 5) (ci := 8) (q0 := 0) X Y (c_takes8 l D cyC cyI mM mN mR mA mP mT mD ch le u_1_1 nw u_1_2 u_6_0 hr_6) gX8_lay_X8_takes rfl ⟨rfl, rfl⟩ hd_X8_takes ⟨(Nat.le_of_ble_eq_true rfl), (Nat.le_of_ble_eq_true rfl)⟩ rfl rfl rfl [0, 1, 2] [3, 4] rfl rfl rfl rfl rfl rfl rfl rfl (by decide) rfl rfl hl.1 (Nat.le_of_ble_eq_true rfl) ⟨Nat.zero_le _, Nat.zero_le _⟩ dX8_lay_71 (fun H locs Y => ?_)
          refine lv_aload_n hx hb dX8_lay_74 rfl (lv_at hl 3 rfl) ?_
          refine bGet (v := .ref mN) (T := TX8) (N := 9) (ci := 8) X Y i_X8_lay_X8 0 rfl rfl 0 (Nat.le_of_ble_eq_true rfl) f_X8_lay_7 rfl rfl dX8_lay_75 ?_
          refine lv_iconst (v := 0) hx hb dX8_lay_78 (by decide) ?_
          refine bIald (v := u_6_0 0) X Y 1 rfl (bInD (by decide)) dX8_lay_79 rfl ?_
          have h9 := (Prod.mk.inj hu).1; replace hu := (Prod.mk.inj hu).2; subst h9
          have h9 := (Prod.mk.inj hu).1; replace hu := (Prod.mk.inj hu).2; subst h9
          have h9 := (Prod.mk.inj hu).1; replace hu := (Prod.mk.inj hu).2; subst h9
          have h9 := (Prod.mk.inj hu).1; replace hu := (Prod.mk.inj hu).2; subst h9
          have h9 := (Prod.mk.inj hu).1; replace hu := (Prod.mk.inj hu).2; subst h9
          subst hu
          exact bEndI X Y hr hlk dX8_lay_80 rfl rfl
        · have c_5 : ¬ ((u_1_2 1) ≤ (u_1_2 20) - (u_1_2 7)) := c_5
          rw [if_neg c_5] at hu
          refine lv_bipush (v := (-2)) hx hb dX8_lay_67 (by decide) ?_
          have h9 := (Prod.mk.inj hu).1; replace hu := (Prod.mk.inj hu).2; subst h9
          have h9 := (Prod.mk.inj hu).1; replace hu := (Prod.mk.inj hu).2; subst h9
          have h9 := (Prod.mk.inj hu).1; replace hu := (Prod.mk.inj hu).2; subst h9
          have h9 := (Prod.mk.inj hu).1; replace hu := (Prod.mk.inj hu).2; subst h9
          have h9 := (Prod.mk.inj hu).1; replace hu := (Prod.mk.inj hu).2; subst h9
          subst hu
          exact bEndI X Y hr hlk dX8_lay_69 rfl rfl
theorem isCrane8_no {c : Int32} (h0 : ¬ c = 0) (h1 : ¬ c = 1) : ¬ s_isCrane8 c = true := by
  unfold s_isCrane8
  rw [if_neg h0, if_neg h1]
  decide
theorem hd_X8_isCrane : bD1 yX8_isCrane RX8 1 := by decide +kernel
theorem hd_X8_keeps : bD1 yX8_keeps RX8 0 := by decide +kernel
theorem hd_X8_commands : bD1 yX8_commands RX8 3 := by decide +kernel
def s_command8_0 (ch : Int32) (nw : Nat → Int32) (ps : Nat → Int32) (w : Int32) : Int32 × Int32 × (Nat → Int32) × (Nat → Int32) :=
  if (s_isCrane8 0) = true then
    if (s_in8 w (-40) 40) = true then
      match s_keeps8 ch nw ps with
      | (u_3_0, u_3_1) =>
        match s_commands8n_0 nw w with
        | (u_4_0, u_4_1) =>
          (u_4_0, u_3_0, u_4_1, u_3_1)
    else
      ((-1), ch, nw, ps)
  else
    ((-1), ch, nw, ps)
set_option maxHeartbeats 4000000 in
set_option maxRecDepth 100000 in
theorem c_command8_0 (l : Launch) (D : va_G) (cyC cyI : ClassId) (mM : Nat) (mN : Nat) (mR : Nat) (mA : Nat) (mP : Nat) (mT : Nat) (mD : Nat) (ch : Int32) (le : Int32) (sp : Int32) (nw : Nat → Int32) (ps : Nat → Int32) (w : Int32) (o0 : Int32) (o1 : Int32) (o2 : Nat → Int32) (o3 : Nat → Int32) (hu : s_command8_0 ch nw ps w = (o0, o1, o2, o3)) (hch : ch = 0 ∨ ch = 1 ∨ ch = 2 ∨ ch = 3 ∨ ch = 4) : CI l yX8_command wsX8_command { frames := 3, cells := 0, slots := 0, locals := 74 } D cyC cyI [.ref mM, .int 0, .int w] [(mM, .inr (8, [.ref mN, .ref mR, .ref mA, .ref mP, .int ch, .ref mT, .int le, .int sp, .ref mD])), (mN, .inl (cyI, 515, .inl nw)), (mP, .inl (cyI, 2060, .inl ps))] o0 [(mM, .inr (8, [.ref mN, .ref mR, .ref mA, .ref mP, .int o1, .ref mT, .int le, .int sp, .ref mD])), (mN, .inl (cyI, 515, .inl o2)), (mP, .inl (cyI, 2060, .inl o3))] := by
  refine CI.of (cc := cX8_command) (n := 3) (ret := (some .int)) (by decide +kernel) rfl (Nat.le_of_ble_eq_true rfl) ?_
  intro p_ e_ s_ m_ bl_ me_ cd_ A_ ls X Y hr hlk hl
  have hx := X.1.1
  have hb := X.1.2.1
  have hl : lv_has ls 3 [(0, .ref mM), (1, .int 0), (2, .int w)] := hl
  unfold s_command8_0 at hu
  refine lv_iload_n hx hb dX8_command_0 rfl (lv_at hl 1 rfl) ?_
  refine bSI (As := [.int 0]) (rest := []) X Y (c_isCrane8 l D cyC cyI 0 (s_isCrane8 0) rfl) gX8_command_X8_isCrane rfl ⟨rfl, rfl⟩ hd_X8_isCrane.2 ⟨(Nat.le_of_ble_eq_true rfl), (Nat.le_of_ble_eq_true rfl)⟩ rfl rfl hl.1 (Nat.le_of_ble_eq_true rfl) ⟨Nat.zero_le _, Nat.zero_le _⟩ dX8_command_1 (fun H locs Y => ?_)
  refine lv_if_eq (tgt := 18) hx hb dX8_command_4 (by decide) (fun c_1 => ?_) (fun c_1 => ?_)
  · have c_1 := bB_f c_1
    rw [if_neg c_1] at hu
    refine lv_iconst (v := (-1)) hx hb dX8_command_18 (by decide) ?_
    have h9 := (Prod.mk.inj hu).1; replace hu := (Prod.mk.inj hu).2; subst h9
    have h9 := (Prod.mk.inj hu).1; replace hu := (Prod.mk.inj hu).2; subst h9
    have h9 := (Prod.mk.inj hu).1; replace hu := (Prod.mk.inj hu).2; subst h9
    subst hu
    exact bEndI X Y hr hlk dX8_command_19 rfl rfl
  · have c_1 := bB_t c_1
    rw [if_pos c_1] at hu
    refine lv_iload_n hx hb dX8_command_7 rfl (lv_at hl 2 rfl) ?_
    refine lv_bipush (v := (-40)) hx hb dX8_command_8 (by decide) ?_
    refine lv_bipush (v := 40) hx hb dX8_command_10 (by decide) ?_
    refine bSI (As := [.int w, .int (-40), .int 40]) (rest := []) X Y (c_in8 l D cyC cyI w (-40) 40 (s_in8 w (-40) 40) rfl) gX8_command_X8_in rfl ⟨rfl, rfl⟩ hd_X8_in.2 ⟨(Nat.le_of_ble_eq_true rfl), (Nat.le_of_ble_eq_true rfl)⟩ rfl rfl hl.1 (Nat.le_of_ble_eq_true rfl) ⟨Nat.zero_le _, Nat.zero_le _⟩ dX8_command_12 (fun H locs Y => ?_)
    refine lv_if_ne (tgt := 20) hx hb dX8_command_15 (by decide) (fun c_2 => ?_) (fun c_2 => ?_)
    · have c_2 := bB_t c_2
      rw [if_pos c_2] at hu
      refine lv_aload_n hx hb dX8_command_20 rfl (lv_at hl 0 rfl) ?_
      obtain ⟨u_3_0, u_3_1, hr_3⟩ := bEx2 (s_keeps8 ch nw ps)
      rw [hr_3] at hu
      dsimp only at hu
      refine bVV (As := []) (rest := []) (wc := [(mM, .inr (8, [.ref mN, .ref mR, .ref mA, .ref mP, .int ch, .ref mT, .int le, .int sp, .ref mD])), (mN, .inl (cyI, 515, .inl nw)), (mP, .inl (cyI, 2060, .inl ps))]) (w1 := [(mM, .inr (8, [.ref mN, .ref mR, .ref mA, .ref mP, .int u_3_0, .ref mT, .int le, .int sp, .ref mD])), (mN, .inl (cyI, 515, .inl nw)), (mP, .inl (cyI, 2060, .inl u_3_1))]) (ws' := [(mM, .inr (8, [.ref mN, .ref mR, .ref mA, .ref mP, .int u_3_0, .ref mT, .int le, .int sp, .ref mD])), (mN, .inl (cyI, 515, .inl nw)), (mP, .inl (cyI, 2060, .inl u_3_1))]) (ad := [mM, mN, mP]) (wr := []) (nn := 3) (ci := 8) (q0 := 0) X Y (c_keeps8 l D cyC cyI mM mN mR mA mP mT mD ch le sp nw ps u_3_0 u_3_1 hr_3 (by first | assumption | omega | decide)) gX8_command_X8_keeps rfl ⟨rfl, rfl⟩ hd_X8_keeps ⟨(Nat.le_of_ble_eq_true rfl), (Nat.le_of_ble_eq_true rfl)⟩ rfl rfl rfl [0, 1, 2] [] rfl rfl rfl rfl rfl rfl rfl rfl (by decide) rfl rfl hl.1 (Nat.le_of_ble_eq_true rfl) ⟨Nat.zero_le _, Nat.zero_le _⟩ dX8_command_21 (fun H locs Y => ?_)
      refine lv_aload_n hx hb dX8_command_24 rfl (lv_at hl 0 rfl) ?_
      refine lv_iload_n hx hb dX8_command_25 rfl (lv_at hl 1 rfl) ?_
      refine lv_iload_n hx hb dX8_command_26 rfl (lv_at hl 2 rfl) ?_
      refine lv_iconst (v := (-1)) hx hb dX8_command_27 (by decide) ?_
      obtain ⟨u_4_0, u_4_1, hr_4⟩ := bEx2 (s_commands8n_0 nw w)
      rw [hr_4] at hu
      dsimp only at hu
      refine bVI (As := [.int 0, .int w, .int (-1)]) (rest := []) (wc := [(mM, .inr (8, [.ref mN, .ref mR, .ref mA, .ref mP, .int u_3_0, .ref mT, .int le, .int sp, .ref mD])), (mN, .inl (cyI, 515, .inl nw))]) (w1 := [(mM, .inr (8, [.ref mN, .ref mR, .ref mA, .ref mP, .int u_3_0, .ref mT, .int le, .int sp, .ref mD])), (mN, .inl (cyI, 515, .inl u_4_1))]) (ws' := [(mM, .inr (8, [.ref mN, .ref mR, .ref mA, .ref mP, .int u_3_0, .ref mT, .int le, .int sp, .ref mD])), (mN, .inl (cyI, 515, .inl u_4_1)), (mP, .inl (cyI, 2060, .inl u_3_1))]) (ad := [mM, mN]) (wr := [(mP, .inl (cyI, 2060, .inl u_3_1))]) (nn := 3) (ci := 8) (q0 := 0) X Y (c_commands8n_0 l D cyC cyI mM mN mR mA mP mT mD u_3_0 le sp nw w u_4_0 u_4_1 hr_4) gX8_command_X8_commands rfl ⟨rfl, rfl⟩ hd_X8_commands ⟨(Nat.le_of_ble_eq_true rfl), (Nat.le_of_ble_eq_true rfl)⟩ rfl rfl rfl [0, 1] [2] rfl rfl rfl rfl rfl rfl rfl rfl (by decide) rfl rfl hl.1 (Nat.le_of_ble_eq_true rfl) ⟨Nat.zero_le _, Nat.zero_le _⟩ dX8_command_28 (fun H locs Y => ?_)
      have h9 := (Prod.mk.inj hu).1; replace hu := (Prod.mk.inj hu).2; subst h9
      have h9 := (Prod.mk.inj hu).1; replace hu := (Prod.mk.inj hu).2; subst h9
      have h9 := (Prod.mk.inj hu).1; replace hu := (Prod.mk.inj hu).2; subst h9
      subst hu
      exact bEndI X Y hr hlk dX8_command_31 rfl rfl
    · have c_2 := bB_f c_2
      rw [if_neg c_2] at hu
      refine lv_iconst (v := (-1)) hx hb dX8_command_18 (by decide) ?_
      have h9 := (Prod.mk.inj hu).1; replace hu := (Prod.mk.inj hu).2; subst h9
      have h9 := (Prod.mk.inj hu).1; replace hu := (Prod.mk.inj hu).2; subst h9
      have h9 := (Prod.mk.inj hu).1; replace hu := (Prod.mk.inj hu).2; subst h9
      subst hu
      exact bEndI X Y hr hlk dX8_command_19 rfl rfl
def s_command8_1 (ch : Int32) (nw : Nat → Int32) (ps : Nat → Int32) (w : Int32) : Int32 × Int32 × (Nat → Int32) × (Nat → Int32) :=
  if (s_isCrane8 1) = true then
    if (s_in8 w (-40) 40) = true then
      match s_keeps8 ch nw ps with
      | (u_3_0, u_3_1) =>
        match s_commands8n_1 nw w with
        | (u_4_0, u_4_1) =>
          (u_4_0, u_3_0, u_4_1, u_3_1)
    else
      ((-1), ch, nw, ps)
  else
    ((-1), ch, nw, ps)
set_option maxHeartbeats 4000000 in
set_option maxRecDepth 100000 in
theorem c_command8_1 (l : Launch) (D : va_G) (cyC cyI : ClassId) (mM : Nat) (mN : Nat) (mR : Nat) (mA : Nat) (mP : Nat) (mT : Nat) (mD : Nat) (ch : Int32) (le : Int32) (sp : Int32) (nw : Nat → Int32) (ps : Nat → Int32) (w : Int32) (o0 : Int32) (o1 : Int32) (o2 : Nat → Int32) (o3 : Nat → Int32) (hu : s_command8_1 ch nw ps w = (o0, o1, o2, o3)) (hch : ch = 0 ∨ ch = 1 ∨ ch = 2 ∨ ch = 3 ∨ ch = 4) : CI l yX8_command wsX8_command { frames := 3, cells := 0, slots := 0, locals := 74 } D cyC cyI [.ref mM, .int 1, .int w] [(mM, .inr (8, [.ref mN, .ref mR, .ref mA, .ref mP, .int ch, .ref mT, .int le, .int sp, .ref mD])), (mN, .inl (cyI, 515, .inl nw)), (mP, .inl (cyI, 2060, .inl ps))] o0 [(mM, .inr (8, [.ref mN, .ref mR, .ref mA, .ref mP, .int o1, .ref mT, .int le, .int sp, .ref mD])), (mN, .inl (cyI, 515, .inl o2)), (mP, .inl (cyI, 2060, .inl o3))] := by
  refine CI.of (cc := cX8_command) (n := 3) (ret := (some .int)) (by decide +kernel) rfl (Nat.le_of_ble_eq_true rfl) ?_
  intro p_ e_ s_ m_ bl_ me_ cd_ A_ ls X Y hr hlk hl
  have hx := X.1.1
  have hb := X.1.2.1
  have hl : lv_has ls 3 [(0, .ref mM), (1, .int 1), (2, .int w)] := hl
  unfold s_command8_1 at hu
  refine lv_iload_n hx hb dX8_command_0 rfl (lv_at hl 1 rfl) ?_
  refine bSI (As := [.int 1]) (rest := []) X Y (c_isCrane8 l D cyC cyI 1 (s_isCrane8 1) rfl) gX8_command_X8_isCrane rfl ⟨rfl, rfl⟩ hd_X8_isCrane.2 ⟨(Nat.le_of_ble_eq_true rfl), (Nat.le_of_ble_eq_true rfl)⟩ rfl rfl hl.1 (Nat.le_of_ble_eq_true rfl) ⟨Nat.zero_le _, Nat.zero_le _⟩ dX8_command_1 (fun H locs Y => ?_)
  refine lv_if_eq (tgt := 18) hx hb dX8_command_4 (by decide) (fun c_1 => ?_) (fun c_1 => ?_)
  · have c_1 := bB_f c_1
    rw [if_neg c_1] at hu
    refine lv_iconst (v := (-1)) hx hb dX8_command_18 (by decide) ?_
    have h9 := (Prod.mk.inj hu).1; replace hu := (Prod.mk.inj hu).2; subst h9
    have h9 := (Prod.mk.inj hu).1; replace hu := (Prod.mk.inj hu).2; subst h9
    have h9 := (Prod.mk.inj hu).1; replace hu := (Prod.mk.inj hu).2; subst h9
    subst hu
    exact bEndI X Y hr hlk dX8_command_19 rfl rfl
  · have c_1 := bB_t c_1
    rw [if_pos c_1] at hu
    refine lv_iload_n hx hb dX8_command_7 rfl (lv_at hl 2 rfl) ?_
    refine lv_bipush (v := (-40)) hx hb dX8_command_8 (by decide) ?_
    refine lv_bipush (v := 40) hx hb dX8_command_10 (by decide) ?_
    refine bSI (As := [.int w, .int (-40), .int 40]) (rest := []) X Y (c_in8 l D cyC cyI w (-40) 40 (s_in8 w (-40) 40) rfl) gX8_command_X8_in rfl ⟨rfl, rfl⟩ hd_X8_in.2 ⟨(Nat.le_of_ble_eq_true rfl), (Nat.le_of_ble_eq_true rfl)⟩ rfl rfl hl.1 (Nat.le_of_ble_eq_true rfl) ⟨Nat.zero_le _, Nat.zero_le _⟩ dX8_command_12 (fun H locs Y => ?_)
    refine lv_if_ne (tgt := 20) hx hb dX8_command_15 (by decide) (fun c_2 => ?_) (fun c_2 => ?_)
    · have c_2 := bB_t c_2
      rw [if_pos c_2] at hu
      refine lv_aload_n hx hb dX8_command_20 rfl (lv_at hl 0 rfl) ?_
      obtain ⟨u_3_0, u_3_1, hr_3⟩ := bEx2 (s_keeps8 ch nw ps)
      rw [hr_3] at hu
      dsimp only at hu
      refine bVV (As := []) (rest := []) (wc := [(mM, .inr (8, [.ref mN, .ref mR, .ref mA, .ref mP, .int ch, .ref mT, .int le, .int sp, .ref mD])), (mN, .inl (cyI, 515, .inl nw)), (mP, .inl (cyI, 2060, .inl ps))]) (w1 := [(mM, .inr (8, [.ref mN, .ref mR, .ref mA, .ref mP, .int u_3_0, .ref mT, .int le, .int sp, .ref mD])), (mN, .inl (cyI, 515, .inl nw)), (mP, .inl (cyI, 2060, .inl u_3_1))]) (ws' := [(mM, .inr (8, [.ref mN, .ref mR, .ref mA, .ref mP, .int u_3_0, .ref mT, .int le, .int sp, .ref mD])), (mN, .inl (cyI, 515, .inl nw)), (mP, .inl (cyI, 2060, .inl u_3_1))]) (ad := [mM, mN, mP]) (wr := []) (nn := 3) (ci := 8) (q0 := 0) X Y (c_keeps8 l D cyC cyI mM mN mR mA mP mT mD ch le sp nw ps u_3_0 u_3_1 hr_3 (by first | assumption | omega | decide)) gX8_command_X8_keeps rfl ⟨rfl, rfl⟩ hd_X8_keeps ⟨(Nat.le_of_ble_eq_true rfl), (Nat.le_of_ble_eq_true rfl)⟩ rfl rfl rfl [0, 1, 2] [] rfl rfl rfl rfl rfl rfl rfl rfl (by decide) rfl rfl hl.1 (Nat.le_of_ble_eq_true rfl) ⟨Nat.zero_le _, Nat.zero_le _⟩ dX8_command_21 (fun H locs Y => ?_)
      refine lv_aload_n hx hb dX8_command_24 rfl (lv_at hl 0 rfl) ?_
      refine lv_iload_n hx hb dX8_command_25 rfl (lv_at hl 1 rfl) ?_
      refine lv_iload_n hx hb dX8_command_26 rfl (lv_at hl 2 rfl) ?_
      refine lv_iconst (v := (-1)) hx hb dX8_command_27 (by decide) ?_
      obtain ⟨u_4_0, u_4_1, hr_4⟩ := bEx2 (s_commands8n_1 nw w)
      rw [hr_4] at hu
      dsimp only at hu
      refine bVI (As := [.int 1, .int w, .int (-1)]) (rest := []) (wc := [(mM, .inr (8, [.ref mN, .ref mR, .ref mA, .ref mP, .int u_3_0, .ref mT, .int le, .int sp, .ref mD])), (mN, .inl (cyI, 515, .inl nw))]) (w1 := [(mM, .inr (8, [.ref mN, .ref mR, .ref mA, .ref mP, .int u_3_0, .ref mT, .int le, .int sp, .ref mD])), (mN, .inl (cyI, 515, .inl u_4_1))]) (ws' := [(mM, .inr (8, [.ref mN, .ref mR, .ref mA, .ref mP, .int u_3_0, .ref mT, .int le, .int sp, .ref mD])), (mN, .inl (cyI, 515, .inl u_4_1)), (mP, .inl (cyI, 2060, .inl u_3_1))]) (ad := [mM, mN]) (wr := [(mP, .inl (cyI, 2060, .inl u_3_1))]) (nn := 3) (ci := 8) (q0 := 0) X Y (c_commands8n_1 l D cyC cyI mM mN mR mA mP mT mD u_3_0 le sp nw w u_4_0 u_4_1 hr_4) gX8_command_X8_commands rfl ⟨rfl, rfl⟩ hd_X8_commands ⟨(Nat.le_of_ble_eq_true rfl), (Nat.le_of_ble_eq_true rfl)⟩ rfl rfl rfl [0, 1] [2] rfl rfl rfl rfl rfl rfl rfl rfl (by decide) rfl rfl hl.1 (Nat.le_of_ble_eq_true rfl) ⟨Nat.zero_le _, Nat.zero_le _⟩ dX8_command_28 (fun H locs Y => ?_)
      have h9 := (Prod.mk.inj hu).1; replace hu := (Prod.mk.inj hu).2; subst h9
      have h9 := (Prod.mk.inj hu).1; replace hu := (Prod.mk.inj hu).2; subst h9
      have h9 := (Prod.mk.inj hu).1; replace hu := (Prod.mk.inj hu).2; subst h9
      subst hu
      exact bEndI X Y hr hlk dX8_command_31 rfl rfl
    · have c_2 := bB_f c_2
      rw [if_neg c_2] at hu
      refine lv_iconst (v := (-1)) hx hb dX8_command_18 (by decide) ?_
      have h9 := (Prod.mk.inj hu).1; replace hu := (Prod.mk.inj hu).2; subst h9
      have h9 := (Prod.mk.inj hu).1; replace hu := (Prod.mk.inj hu).2; subst h9
      have h9 := (Prod.mk.inj hu).1; replace hu := (Prod.mk.inj hu).2; subst h9
      subst hu
      exact bEndI X Y hr hlk dX8_command_19 rfl rfl
def s_command8_b : Int32 :=
  (-1)
set_option maxHeartbeats 4000000 in
set_option maxRecDepth 100000 in
theorem c_command8_b (l : Launch) (D : va_G) (cyC cyI : ClassId) (mM : Nat) (mN : Nat) (mR : Nat) (mA : Nat) (mP : Nat) (mT : Nat) (mD : Nat) (ch : Int32) (le : Int32) (sp : Int32) (c : Int32) (w : Int32) (o0 : Int32) (hu : s_command8_b = o0) (hc0 : ¬ c = 0) (hc1 : ¬ c = 1) : CI l yX8_command wsX8_command { frames := 1, cells := 0, slots := 0, locals := 20 } D cyC cyI [.ref mM, .int c, .int w] [(mM, .inr (8, [.ref mN, .ref mR, .ref mA, .ref mP, .int ch, .ref mT, .int le, .int sp, .ref mD]))] o0 [(mM, .inr (8, [.ref mN, .ref mR, .ref mA, .ref mP, .int ch, .ref mT, .int le, .int sp, .ref mD]))] := by
  refine CI.of (cc := cX8_command) (n := 3) (ret := (some .int)) (by decide +kernel) rfl (Nat.le_of_ble_eq_true rfl) ?_
  intro p_ e_ s_ m_ bl_ me_ cd_ A_ ls X Y hr hlk hl
  have hx := X.1.1
  have hb := X.1.2.1
  have hl : lv_has ls 3 [(0, .ref mM), (1, .int c), (2, .int w)] := hl
  unfold s_command8_b at hu
  refine lv_iload_n hx hb dX8_command_0 rfl (lv_at hl 1 rfl) ?_
  refine bSI (As := [.int c]) (rest := []) X Y (c_isCrane8 l D cyC cyI c (s_isCrane8 c) rfl) gX8_command_X8_isCrane rfl ⟨rfl, rfl⟩ hd_X8_isCrane.2 ⟨(Nat.le_of_ble_eq_true rfl), (Nat.le_of_ble_eq_true rfl)⟩ rfl rfl hl.1 (Nat.le_of_ble_eq_true rfl) ⟨Nat.zero_le _, Nat.zero_le _⟩ dX8_command_1 (fun H locs Y => ?_)
  refine lv_if_eq (tgt := 18) hx hb dX8_command_4 (by decide) (fun c_1 => ?_) (fun c_1 => ?_)
  · have c_1 := bB_f c_1
    refine lv_iconst (v := (-1)) hx hb dX8_command_18 (by decide) ?_
    subst hu
    exact bEndI X Y hr hlk dX8_command_19 rfl rfl
  · have c_1 := bB_t c_1
    exact absurd c_1 (isCrane8_no hc0 hc1)
def s_load8_0 (ch : Int32) (nw : Nat → Int32) (ps : Nat → Int32) (m : Int32) : Int32 × Int32 × (Nat → Int32) × (Nat → Int32) :=
  if (s_isCrane8 0) = true then
    if (s_in8 m 0 99) = true then
      if (nw 10) = m then
        ((-2), ch, nw, ps)
      else
        match s_keeps8 ch nw ps with
        | (u_4_0, u_4_1) =>
          ((nw 10), u_4_0, upd nw 10 m, u_4_1)
    else
      ((-1), ch, nw, ps)
  else
    ((-1), ch, nw, ps)
set_option maxHeartbeats 4000000 in
set_option maxRecDepth 100000 in
theorem c_load8_0 (l : Launch) (D : va_G) (cyC cyI : ClassId) (mM : Nat) (mN : Nat) (mR : Nat) (mA : Nat) (mP : Nat) (mT : Nat) (mD : Nat) (ch : Int32) (le : Int32) (sp : Int32) (nw : Nat → Int32) (ps : Nat → Int32) (m : Int32) (o0 : Int32) (o1 : Int32) (o2 : Nat → Int32) (o3 : Nat → Int32) (hu : s_load8_0 ch nw ps m = (o0, o1, o2, o3)) (hch : ch = 0 ∨ ch = 1 ∨ ch = 2 ∨ ch = 3 ∨ ch = 4) : CI l yX8_load wsX8_load { frames := 1, cells := 0, slots := 0, locals := 23 } D cyC cyI [.ref mM, .int 0, .int m] [(mM, .inr (8, [.ref mN, .ref mR, .ref mA, .ref mP, .int ch, .ref mT, .int le, .int sp, .ref mD])), (mN, .inl (cyI, 515, .inl nw)), (mP, .inl (cyI, 2060, .inl ps))] o0 [(mM, .inr (8, [.ref mN, .ref mR, .ref mA, .ref mP, .int o1, .ref mT, .int le, .int sp, .ref mD])), (mN, .inl (cyI, 515, .inl o2)), (mP, .inl (cyI, 2060, .inl o3))] := by
  refine CI.of (cc := cX8_load) (n := 4) (ret := (some .int)) (by decide +kernel) rfl (Nat.le_of_ble_eq_true rfl) ?_
  intro p_ e_ s_ m_ bl_ me_ cd_ A_ ls X Y hr hlk hl
  have hx := X.1.1
  have hb := X.1.2.1
  have hl : lv_has ls 4 [(0, .ref mM), (1, .int 0), (2, .int m)] := hl
  unfold s_load8_0 at hu
  refine lv_iload_n hx hb dX8_load_0 rfl (lv_at hl 1 rfl) ?_
  refine bSI (As := [.int 0]) (rest := []) X Y (c_isCrane8 l D cyC cyI 0 (s_isCrane8 0) rfl) gX8_load_X8_isCrane rfl ⟨rfl, rfl⟩ hd_X8_isCrane.2 ⟨(Nat.le_of_ble_eq_true rfl), (Nat.le_of_ble_eq_true rfl)⟩ rfl rfl hl.1 (Nat.le_of_ble_eq_true rfl) ⟨Nat.zero_le _, Nat.zero_le _⟩ dX8_load_1 (fun H locs Y => ?_)
  refine lv_if_eq (tgt := 17) hx hb dX8_load_4 (by decide) (fun c_1 => ?_) (fun c_1 => ?_)
  · have c_1 := bB_f c_1
    rw [if_neg c_1] at hu
    refine lv_iconst (v := (-1)) hx hb dX8_load_17 (by decide) ?_
    have h9 := (Prod.mk.inj hu).1; replace hu := (Prod.mk.inj hu).2; subst h9
    have h9 := (Prod.mk.inj hu).1; replace hu := (Prod.mk.inj hu).2; subst h9
    have h9 := (Prod.mk.inj hu).1; replace hu := (Prod.mk.inj hu).2; subst h9
    subst hu
    exact bEndI X Y hr hlk dX8_load_18 rfl rfl
  · have c_1 := bB_t c_1
    rw [if_pos c_1] at hu
    refine lv_iload_n hx hb dX8_load_7 rfl (lv_at hl 2 rfl) ?_
    refine lv_iconst (v := 0) hx hb dX8_load_8 (by decide) ?_
    refine lv_bipush (v := 99) hx hb dX8_load_9 (by decide) ?_
    refine bSI (As := [.int m, .int 0, .int 99]) (rest := []) X Y (c_in8 l D cyC cyI m 0 99 (s_in8 m 0 99) rfl) gX8_load_X8_in rfl ⟨rfl, rfl⟩ hd_X8_in.2 ⟨(Nat.le_of_ble_eq_true rfl), (Nat.le_of_ble_eq_true rfl)⟩ rfl rfl hl.1 (Nat.le_of_ble_eq_true rfl) ⟨Nat.zero_le _, Nat.zero_le _⟩ dX8_load_11 (fun H locs Y => ?_)
    refine lv_if_ne (tgt := 19) hx hb dX8_load_14 (by decide) (fun c_2 => ?_) (fun c_2 => ?_)
    · have c_2 := bB_t c_2
      rw [if_pos c_2] at hu
      refine lv_aload_n hx hb dX8_load_19 rfl (lv_at hl 0 rfl) ?_
      refine lv_iload_n hx hb dX8_load_20 rfl (lv_at hl 1 rfl) ?_
      refine lv_iconst (v := 3) hx hb dX8_load_21 (by decide) ?_
      refine bVI0 (As := [.int 0, .int 3]) (rest := []) (wc := [(mM, .inr (8, [.ref mN, .ref mR, .ref mA, .ref mP, .int ch, .ref mT, .int le, .int sp, .ref mD])), (mN, .inl (cyI, 515, .inl nw))]) (ci := 8) (q0 := 0) X Y (c_of8 l D cyC cyI mM mN mR mA mP mT mD ch le sp nw 0 3 (nw 10) (bOf (i := 10) (by decide) rfl) (bInD (by decide))) gX8_load_X8_of rfl ⟨rfl, rfl⟩ hd_X8_of ⟨(Nat.le_of_ble_eq_true rfl), (Nat.le_of_ble_eq_true rfl)⟩ rfl rfl rfl [0, 1] rfl rfl rfl rfl hl.1 (Nat.le_of_ble_eq_true rfl) ⟨Nat.zero_le _, Nat.zero_le _⟩ dX8_load_22 (fun H locs Y => ?_)
      refine lv_istore_n (lv' := [(3, .int (nw 10)), (0, .ref mM), (1, .int 0), (2, .int m)]) hx hb dX8_load_25 rfl hl (by decide) rfl (fun ls hl => ?_)
      refine lv_iload_n hx hb dX8_load_26 rfl (lv_at hl 0 rfl) ?_
      refine lv_iload_n hx hb dX8_load_27 rfl (lv_at hl 3 rfl) ?_
      refine lv_icmp_ne (tgt := 34) hx hb dX8_load_28 (by decide) (fun c_3 => ?_) (fun c_3 => ?_)
      · have c_3 : ¬ ((nw 10) = m) := c_3
        rw [if_neg c_3] at hu
        refine lv_aload_n hx hb dX8_load_34 rfl (lv_at hl 1 rfl) ?_
        obtain ⟨u_4_0, u_4_1, hr_4⟩ := bEx2 (s_keeps8 ch nw ps)
        rw [hr_4] at hu
        dsimp only at hu
        refine bVV (As := []) (rest := []) (wc := [(mM, .inr (8, [.ref mN, .ref mR, .ref mA, .ref mP, .int ch, .ref mT, .int le, .int sp, .ref mD])), (mN, .inl (cyI, 515, .inl nw)), (mP, .inl (cyI, 2060, .inl ps))]) (w1 := [(mM, .inr (8, [.ref mN, .ref mR, .ref mA, .ref mP, .int u_4_0, .ref mT, .int le, .int sp, .ref mD])), (mN, .inl (cyI, 515, .inl nw)), (mP, .inl (cyI, 2060, .inl u_4_1))]) (ws' := [(mM, .inr (8, [.ref mN, .ref mR, .ref mA, .ref mP, .int u_4_0, .ref mT, .int le, .int sp, .ref mD])), (mN, .inl (cyI, 515, .inl nw)), (mP, .inl (cyI, 2060, .inl u_4_1))]) (ad := [mM, mN, mP]) (wr := []) (nn := 3) (ci := 8) (q0 := 0) X Y (c_keeps8 l D cyC cyI mM mN mR mA mP mT mD ch le sp nw ps u_4_0 u_4_1 hr_4 (by first | assumption | omega | decide)) gX8_load_X8_keeps rfl ⟨rfl, rfl⟩ hd_X8_keeps ⟨(Nat.le_of_ble_eq_true rfl), (Nat.le_of_ble_eq_true rfl)⟩ rfl rfl rfl [0, 1, 2] [] rfl rfl rfl rfl rfl rfl rfl rfl (by decide) rfl rfl hl.1 (Nat.le_of_ble_eq_true rfl) ⟨Nat.zero_le _, Nat.zero_le _⟩ dX8_load_35 (fun H locs Y => ?_)
        refine lv_aload_n hx hb dX8_load_38 rfl (lv_at hl 1 rfl) ?_
        refine lv_iload_n hx hb dX8_load_39 rfl (lv_at hl 2 rfl) ?_
        refine lv_iconst (v := 3) hx hb dX8_load_40 (by decide) ?_
        refine lv_iload_n hx hb dX8_load_41 rfl (lv_at hl 3 rfl) ?_
        refine bVV (As := [.int 0, .int 3, .int m]) (rest := []) (wc := [(mM, .inr (8, [.ref mN, .ref mR, .ref mA, .ref mP, .int u_4_0, .ref mT, .int le, .int sp, .ref mD])), (mN, .inl (cyI, 515, .inl nw))]) (w1 := [(mM, .inr (8, [.ref mN, .ref mR, .ref mA, .ref mP, .int u_4_0, .ref mT, .int le, .int sp, .ref mD])), (mN, .inl (cyI, 515, .inl (upd nw 10 m)))]) (ws' := [(mM, .inr (8, [.ref mN, .ref mR, .ref mA, .ref mP, .int u_4_0, .ref mT, .int le, .int sp, .ref mD])), (mN, .inl (cyI, 515, .inl (upd nw 10 m))), (mP, .inl (cyI, 2060, .inl u_4_1))]) (ad := [mM, mN]) (wr := [(mP, .inl (cyI, 2060, .inl u_4_1))]) (nn := 3) (ci := 8) (q0 := 0) X Y (c_tells8 l D cyC cyI mM mN mR mA mP mT mD u_4_0 le sp nw 0 3 m (upd nw 10 m) (bTells (i := 10) (by decide) rfl) (bInD (by decide))) gX8_load_X8_tells rfl ⟨rfl, rfl⟩ hd_X8_tells ⟨(Nat.le_of_ble_eq_true rfl), (Nat.le_of_ble_eq_true rfl)⟩ rfl rfl rfl [0, 1] [2] rfl rfl rfl rfl rfl rfl rfl rfl (by decide) rfl rfl hl.1 (Nat.le_of_ble_eq_true rfl) ⟨Nat.zero_le _, Nat.zero_le _⟩ dX8_load_42 (fun H locs Y => ?_)
        refine lv_iload_n hx hb dX8_load_45 rfl (lv_at hl 0 rfl) ?_
        have h9 := (Prod.mk.inj hu).1; replace hu := (Prod.mk.inj hu).2; subst h9
        have h9 := (Prod.mk.inj hu).1; replace hu := (Prod.mk.inj hu).2; subst h9
        have h9 := (Prod.mk.inj hu).1; replace hu := (Prod.mk.inj hu).2; subst h9
        subst hu
        exact bEndI X Y hr hlk dX8_load_46 rfl rfl
      · have c_3 : (nw 10) = m := c_3
        rw [if_pos c_3] at hu
        refine lv_bipush (v := (-2)) hx hb dX8_load_31 (by decide) ?_
        have h9 := (Prod.mk.inj hu).1; replace hu := (Prod.mk.inj hu).2; subst h9
        have h9 := (Prod.mk.inj hu).1; replace hu := (Prod.mk.inj hu).2; subst h9
        have h9 := (Prod.mk.inj hu).1; replace hu := (Prod.mk.inj hu).2; subst h9
        subst hu
        exact bEndI X Y hr hlk dX8_load_33 rfl rfl
    · have c_2 := bB_f c_2
      rw [if_neg c_2] at hu
      refine lv_iconst (v := (-1)) hx hb dX8_load_17 (by decide) ?_
      have h9 := (Prod.mk.inj hu).1; replace hu := (Prod.mk.inj hu).2; subst h9
      have h9 := (Prod.mk.inj hu).1; replace hu := (Prod.mk.inj hu).2; subst h9
      have h9 := (Prod.mk.inj hu).1; replace hu := (Prod.mk.inj hu).2; subst h9
      subst hu
      exact bEndI X Y hr hlk dX8_load_18 rfl rfl
def s_load8_1 (ch : Int32) (nw : Nat → Int32) (ps : Nat → Int32) (m : Int32) : Int32 × Int32 × (Nat → Int32) × (Nat → Int32) :=
  if (s_isCrane8 1) = true then
    if (s_in8 m 0 99) = true then
      if (nw 23) = m then
        ((-2), ch, nw, ps)
      else
        match s_keeps8 ch nw ps with
        | (u_4_0, u_4_1) =>
          ((nw 23), u_4_0, upd nw 23 m, u_4_1)
    else
      ((-1), ch, nw, ps)
  else
    ((-1), ch, nw, ps)
set_option maxHeartbeats 4000000 in
set_option maxRecDepth 100000 in
theorem c_load8_1 (l : Launch) (D : va_G) (cyC cyI : ClassId) (mM : Nat) (mN : Nat) (mR : Nat) (mA : Nat) (mP : Nat) (mT : Nat) (mD : Nat) (ch : Int32) (le : Int32) (sp : Int32) (nw : Nat → Int32) (ps : Nat → Int32) (m : Int32) (o0 : Int32) (o1 : Int32) (o2 : Nat → Int32) (o3 : Nat → Int32) (hu : s_load8_1 ch nw ps m = (o0, o1, o2, o3)) (hch : ch = 0 ∨ ch = 1 ∨ ch = 2 ∨ ch = 3 ∨ ch = 4) : CI l yX8_load wsX8_load { frames := 1, cells := 0, slots := 0, locals := 23 } D cyC cyI [.ref mM, .int 1, .int m] [(mM, .inr (8, [.ref mN, .ref mR, .ref mA, .ref mP, .int ch, .ref mT, .int le, .int sp, .ref mD])), (mN, .inl (cyI, 515, .inl nw)), (mP, .inl (cyI, 2060, .inl ps))] o0 [(mM, .inr (8, [.ref mN, .ref mR, .ref mA, .ref mP, .int o1, .ref mT, .int le, .int sp, .ref mD])), (mN, .inl (cyI, 515, .inl o2)), (mP, .inl (cyI, 2060, .inl o3))] := by
  refine CI.of (cc := cX8_load) (n := 4) (ret := (some .int)) (by decide +kernel) rfl (Nat.le_of_ble_eq_true rfl) ?_
  intro p_ e_ s_ m_ bl_ me_ cd_ A_ ls X Y hr hlk hl
  have hx := X.1.1
  have hb := X.1.2.1
  have hl : lv_has ls 4 [(0, .ref mM), (1, .int 1), (2, .int m)] := hl
  unfold s_load8_1 at hu
  refine lv_iload_n hx hb dX8_load_0 rfl (lv_at hl 1 rfl) ?_
  refine bSI (As := [.int 1]) (rest := []) X Y (c_isCrane8 l D cyC cyI 1 (s_isCrane8 1) rfl) gX8_load_X8_isCrane rfl ⟨rfl, rfl⟩ hd_X8_isCrane.2 ⟨(Nat.le_of_ble_eq_true rfl), (Nat.le_of_ble_eq_true rfl)⟩ rfl rfl hl.1 (Nat.le_of_ble_eq_true rfl) ⟨Nat.zero_le _, Nat.zero_le _⟩ dX8_load_1 (fun H locs Y => ?_)
  refine lv_if_eq (tgt := 17) hx hb dX8_load_4 (by decide) (fun c_1 => ?_) (fun c_1 => ?_)
  · have c_1 := bB_f c_1
    rw [if_neg c_1] at hu
    refine lv_iconst (v := (-1)) hx hb dX8_load_17 (by decide) ?_
    have h9 := (Prod.mk.inj hu).1; replace hu := (Prod.mk.inj hu).2; subst h9
    have h9 := (Prod.mk.inj hu).1; replace hu := (Prod.mk.inj hu).2; subst h9
    have h9 := (Prod.mk.inj hu).1; replace hu := (Prod.mk.inj hu).2; subst h9
    subst hu
    exact bEndI X Y hr hlk dX8_load_18 rfl rfl
  · have c_1 := bB_t c_1
    rw [if_pos c_1] at hu
    refine lv_iload_n hx hb dX8_load_7 rfl (lv_at hl 2 rfl) ?_
    refine lv_iconst (v := 0) hx hb dX8_load_8 (by decide) ?_
    refine lv_bipush (v := 99) hx hb dX8_load_9 (by decide) ?_
    refine bSI (As := [.int m, .int 0, .int 99]) (rest := []) X Y (c_in8 l D cyC cyI m 0 99 (s_in8 m 0 99) rfl) gX8_load_X8_in rfl ⟨rfl, rfl⟩ hd_X8_in.2 ⟨(Nat.le_of_ble_eq_true rfl), (Nat.le_of_ble_eq_true rfl)⟩ rfl rfl hl.1 (Nat.le_of_ble_eq_true rfl) ⟨Nat.zero_le _, Nat.zero_le _⟩ dX8_load_11 (fun H locs Y => ?_)
    refine lv_if_ne (tgt := 19) hx hb dX8_load_14 (by decide) (fun c_2 => ?_) (fun c_2 => ?_)
    · have c_2 := bB_t c_2
      rw [if_pos c_2] at hu
      refine lv_aload_n hx hb dX8_load_19 rfl (lv_at hl 0 rfl) ?_
      refine lv_iload_n hx hb dX8_load_20 rfl (lv_at hl 1 rfl) ?_
      refine lv_iconst (v := 3) hx hb dX8_load_21 (by decide) ?_
      refine bVI0 (As := [.int 1, .int 3]) (rest := []) (wc := [(mM, .inr (8, [.ref mN, .ref mR, .ref mA, .ref mP, .int ch, .ref mT, .int le, .int sp, .ref mD])), (mN, .inl (cyI, 515, .inl nw))]) (ci := 8) (q0 := 0) X Y (c_of8 l D cyC cyI mM mN mR mA mP mT mD ch le sp nw 1 3 (nw 23) (bOf (i := 23) (by decide) rfl) (bInD (by decide))) gX8_load_X8_of rfl ⟨rfl, rfl⟩ hd_X8_of ⟨(Nat.le_of_ble_eq_true rfl), (Nat.le_of_ble_eq_true rfl)⟩ rfl rfl rfl [0, 1] rfl rfl rfl rfl hl.1 (Nat.le_of_ble_eq_true rfl) ⟨Nat.zero_le _, Nat.zero_le _⟩ dX8_load_22 (fun H locs Y => ?_)
      refine lv_istore_n (lv' := [(3, .int (nw 23)), (0, .ref mM), (1, .int 1), (2, .int m)]) hx hb dX8_load_25 rfl hl (by decide) rfl (fun ls hl => ?_)
      refine lv_iload_n hx hb dX8_load_26 rfl (lv_at hl 0 rfl) ?_
      refine lv_iload_n hx hb dX8_load_27 rfl (lv_at hl 3 rfl) ?_
      refine lv_icmp_ne (tgt := 34) hx hb dX8_load_28 (by decide) (fun c_3 => ?_) (fun c_3 => ?_)
      · have c_3 : ¬ ((nw 23) = m) := c_3
        rw [if_neg c_3] at hu
        refine lv_aload_n hx hb dX8_load_34 rfl (lv_at hl 1 rfl) ?_
        obtain ⟨u_4_0, u_4_1, hr_4⟩ := bEx2 (s_keeps8 ch nw ps)
        rw [hr_4] at hu
        dsimp only at hu
        refine bVV (As := []) (rest := []) (wc := [(mM, .inr (8, [.ref mN, .ref mR, .ref mA, .ref mP, .int ch, .ref mT, .int le, .int sp, .ref mD])), (mN, .inl (cyI, 515, .inl nw)), (mP, .inl (cyI, 2060, .inl ps))]) (w1 := [(mM, .inr (8, [.ref mN, .ref mR, .ref mA, .ref mP, .int u_4_0, .ref mT, .int le, .int sp, .ref mD])), (mN, .inl (cyI, 515, .inl nw)), (mP, .inl (cyI, 2060, .inl u_4_1))]) (ws' := [(mM, .inr (8, [.ref mN, .ref mR, .ref mA, .ref mP, .int u_4_0, .ref mT, .int le, .int sp, .ref mD])), (mN, .inl (cyI, 515, .inl nw)), (mP, .inl (cyI, 2060, .inl u_4_1))]) (ad := [mM, mN, mP]) (wr := []) (nn := 3) (ci := 8) (q0 := 0) X Y (c_keeps8 l D cyC cyI mM mN mR mA mP mT mD ch le sp nw ps u_4_0 u_4_1 hr_4 (by first | assumption | omega | decide)) gX8_load_X8_keeps rfl ⟨rfl, rfl⟩ hd_X8_keeps ⟨(Nat.le_of_ble_eq_true rfl), (Nat.le_of_ble_eq_true rfl)⟩ rfl rfl rfl [0, 1, 2] [] rfl rfl rfl rfl rfl rfl rfl rfl (by decide) rfl rfl hl.1 (Nat.le_of_ble_eq_true rfl) ⟨Nat.zero_le _, Nat.zero_le _⟩ dX8_load_35 (fun H locs Y => ?_)
        refine lv_aload_n hx hb dX8_load_38 rfl (lv_at hl 1 rfl) ?_
        refine lv_iload_n hx hb dX8_load_39 rfl (lv_at hl 2 rfl) ?_
        refine lv_iconst (v := 3) hx hb dX8_load_40 (by decide) ?_
        refine lv_iload_n hx hb dX8_load_41 rfl (lv_at hl 3 rfl) ?_
        refine bVV (As := [.int 1, .int 3, .int m]) (rest := []) (wc := [(mM, .inr (8, [.ref mN, .ref mR, .ref mA, .ref mP, .int u_4_0, .ref mT, .int le, .int sp, .ref mD])), (mN, .inl (cyI, 515, .inl nw))]) (w1 := [(mM, .inr (8, [.ref mN, .ref mR, .ref mA, .ref mP, .int u_4_0, .ref mT, .int le, .int sp, .ref mD])), (mN, .inl (cyI, 515, .inl (upd nw 23 m)))]) (ws' := [(mM, .inr (8, [.ref mN, .ref mR, .ref mA, .ref mP, .int u_4_0, .ref mT, .int le, .int sp, .ref mD])), (mN, .inl (cyI, 515, .inl (upd nw 23 m))), (mP, .inl (cyI, 2060, .inl u_4_1))]) (ad := [mM, mN]) (wr := [(mP, .inl (cyI, 2060, .inl u_4_1))]) (nn := 3) (ci := 8) (q0 := 0) X Y (c_tells8 l D cyC cyI mM mN mR mA mP mT mD u_4_0 le sp nw 1 3 m (upd nw 23 m) (bTells (i := 23) (by decide) rfl) (bInD (by decide))) gX8_load_X8_tells rfl ⟨rfl, rfl⟩ hd_X8_tells ⟨(Nat.le_of_ble_eq_true rfl), (Nat.le_of_ble_eq_true rfl)⟩ rfl rfl rfl [0, 1] [2] rfl rfl rfl rfl rfl rfl rfl rfl (by decide) rfl rfl hl.1 (Nat.le_of_ble_eq_true rfl) ⟨Nat.zero_le _, Nat.zero_le _⟩ dX8_load_42 (fun H locs Y => ?_)
        refine lv_iload_n hx hb dX8_load_45 rfl (lv_at hl 0 rfl) ?_
        have h9 := (Prod.mk.inj hu).1; replace hu := (Prod.mk.inj hu).2; subst h9
        have h9 := (Prod.mk.inj hu).1; replace hu := (Prod.mk.inj hu).2; subst h9
        have h9 := (Prod.mk.inj hu).1; replace hu := (Prod.mk.inj hu).2; subst h9
        subst hu
        exact bEndI X Y hr hlk dX8_load_46 rfl rfl
      · have c_3 : (nw 23) = m := c_3
        rw [if_pos c_3] at hu
        refine lv_bipush (v := (-2)) hx hb dX8_load_31 (by decide) ?_
        have h9 := (Prod.mk.inj hu).1; replace hu := (Prod.mk.inj hu).2; subst h9
        have h9 := (Prod.mk.inj hu).1; replace hu := (Prod.mk.inj hu).2; subst h9
        have h9 := (Prod.mk.inj hu).1; replace hu := (Prod.mk.inj hu).2; subst h9
        subst hu
        exact bEndI X Y hr hlk dX8_load_33 rfl rfl
    · have c_2 := bB_f c_2
      rw [if_neg c_2] at hu
      refine lv_iconst (v := (-1)) hx hb dX8_load_17 (by decide) ?_
      have h9 := (Prod.mk.inj hu).1; replace hu := (Prod.mk.inj hu).2; subst h9
      have h9 := (Prod.mk.inj hu).1; replace hu := (Prod.mk.inj hu).2; subst h9
      have h9 := (Prod.mk.inj hu).1; replace hu := (Prod.mk.inj hu).2; subst h9
      subst hu
      exact bEndI X Y hr hlk dX8_load_18 rfl rfl
def s_load8_b : Int32 :=
  (-1)
set_option maxHeartbeats 4000000 in
set_option maxRecDepth 100000 in
theorem c_load8_b (l : Launch) (D : va_G) (cyC cyI : ClassId) (mM : Nat) (mN : Nat) (mR : Nat) (mA : Nat) (mP : Nat) (mT : Nat) (mD : Nat) (ch : Int32) (le : Int32) (sp : Int32) (c : Int32) (m : Int32) (o0 : Int32) (hu : s_load8_b = o0) (hc0 : ¬ c = 0) (hc1 : ¬ c = 1) : CI l yX8_load wsX8_load { frames := 1, cells := 0, slots := 0, locals := 20 } D cyC cyI [.ref mM, .int c, .int m] [(mM, .inr (8, [.ref mN, .ref mR, .ref mA, .ref mP, .int ch, .ref mT, .int le, .int sp, .ref mD]))] o0 [(mM, .inr (8, [.ref mN, .ref mR, .ref mA, .ref mP, .int ch, .ref mT, .int le, .int sp, .ref mD]))] := by
  refine CI.of (cc := cX8_load) (n := 4) (ret := (some .int)) (by decide +kernel) rfl (Nat.le_of_ble_eq_true rfl) ?_
  intro p_ e_ s_ m_ bl_ me_ cd_ A_ ls X Y hr hlk hl
  have hx := X.1.1
  have hb := X.1.2.1
  have hl : lv_has ls 4 [(0, .ref mM), (1, .int c), (2, .int m)] := hl
  unfold s_load8_b at hu
  refine lv_iload_n hx hb dX8_load_0 rfl (lv_at hl 1 rfl) ?_
  refine bSI (As := [.int c]) (rest := []) X Y (c_isCrane8 l D cyC cyI c (s_isCrane8 c) rfl) gX8_load_X8_isCrane rfl ⟨rfl, rfl⟩ hd_X8_isCrane.2 ⟨(Nat.le_of_ble_eq_true rfl), (Nat.le_of_ble_eq_true rfl)⟩ rfl rfl hl.1 (Nat.le_of_ble_eq_true rfl) ⟨Nat.zero_le _, Nat.zero_le _⟩ dX8_load_1 (fun H locs Y => ?_)
  refine lv_if_eq (tgt := 17) hx hb dX8_load_4 (by decide) (fun c_1 => ?_) (fun c_1 => ?_)
  · have c_1 := bB_f c_1
    refine lv_iconst (v := (-1)) hx hb dX8_load_17 (by decide) ?_
    subst hu
    exact bEndI X Y hr hlk dX8_load_18 rfl rfl
  · have c_1 := bB_t c_1
    exact absurd c_1 (isCrane8_no hc0 hc1)
theorem i_X8_couple_X8 : ∀ w ∈ wsX80, w ∈ wsX8_couple := by decide +kernel
theorem f_X8_couple_7 : Cond.fieldLink RX8 7 "SwingCranesModel" "now" "[I" ∈ wsX8_couple := by decide +kernel
def s_couple8 (ch : Int32) (nw : Nat → Int32) (ps : Nat → Int32) (lv : Int32) : Int32 × Int32 × (Nat → Int32) × (Nat → Int32) :=
  if (s_in8 lv (-1) 20) = true then
    if 0 ≤ lv then
      if nw 5 = lv then
        ((-2), ch, nw, ps)
      else
        match s_keeps8 ch nw ps with
        | (u_4_0, u_4_1) =>
          (nw 5, u_4_0, upd nw 5 lv, u_4_1)
    else
      if nw 5 = (-4) then
        ((-2), ch, nw, ps)
      else
        match s_keeps8 ch nw ps with
        | (u_6_0, u_6_1) =>
          (nw 5, u_6_0, upd nw 5 (-4), u_6_1)
  else
    ((-1), ch, nw, ps)
set_option maxHeartbeats 4000000 in
set_option maxRecDepth 100000 in
theorem c_couple8 (l : Launch) (D : va_G) (cyC cyI : ClassId) (mM : Nat) (mN : Nat) (mR : Nat) (mA : Nat) (mP : Nat) (mT : Nat) (mD : Nat) (ch : Int32) (le : Int32) (sp : Int32) (nw : Nat → Int32) (ps : Nat → Int32) (lv : Int32) (o0 : Int32) (o1 : Int32) (o2 : Nat → Int32) (o3 : Nat → Int32) (hu : s_couple8 ch nw ps lv = (o0, o1, o2, o3)) (hch : ch = 0 ∨ ch = 1 ∨ ch = 2 ∨ ch = 3 ∨ ch = 4) : CI l yX8_couple wsX8_couple { frames := 1, cells := 0, slots := 0, locals := 22 } D cyC cyI [.ref mM, .int lv] [(mM, .inr (8, [.ref mN, .ref mR, .ref mA, .ref mP, .int ch, .ref mT, .int le, .int sp, .ref mD])), (mN, .inl (cyI, 515, .inl nw)), (mP, .inl (cyI, 2060, .inl ps))] o0 [(mM, .inr (8, [.ref mN, .ref mR, .ref mA, .ref mP, .int o1, .ref mT, .int le, .int sp, .ref mD])), (mN, .inl (cyI, 515, .inl o2)), (mP, .inl (cyI, 2060, .inl o3))] := by
  refine CI.of (cc := cX8_couple) (n := 4) (ret := (some .int)) (by decide +kernel) rfl (Nat.le_of_ble_eq_true rfl) ?_
  intro p_ e_ s_ m_ bl_ me_ cd_ A_ ls X Y hr hlk hl
  have hx := X.1.1
  have hb := X.1.2.1
  have hl : lv_has ls 4 [(0, .ref mM), (1, .int lv)] := hl
  unfold s_couple8 at hu
  refine lv_iload_n hx hb dX8_couple_0 rfl (lv_at hl 1 rfl) ?_
  refine lv_iconst (v := (-1)) hx hb dX8_couple_1 (by decide) ?_
  refine lv_bipush (v := 20) hx hb dX8_couple_2 (by decide) ?_
  refine bSI (As := [.int lv, .int (-1), .int 20]) (rest := []) X Y (c_in8 l D cyC cyI lv (-1) 20 (s_in8 lv (-1) 20) rfl) gX8_couple_X8_in rfl ⟨rfl, rfl⟩ hd_X8_in.2 ⟨(Nat.le_of_ble_eq_true rfl), (Nat.le_of_ble_eq_true rfl)⟩ rfl rfl hl.1 (Nat.le_of_ble_eq_true rfl) ⟨Nat.zero_le _, Nat.zero_le _⟩ dX8_couple_4 (fun H locs Y => ?_)
  refine lv_if_ne (tgt := 12) hx hb dX8_couple_7 (by decide) (fun c_1 => ?_) (fun c_1 => ?_)
  · have c_1 := bB_t c_1
    rw [if_pos c_1] at hu
    refine lv_aload_n hx hb dX8_couple_12 rfl (lv_at hl 0 rfl) ?_
    refine bGet (v := .ref mN) (T := TX8) (N := 9) (ci := 8) X Y i_X8_couple_X8 0 rfl rfl 0 (Nat.le_of_ble_eq_true rfl) f_X8_couple_7 rfl rfl dX8_couple_13 ?_
    refine lv_iconst (v := 5) hx hb dX8_couple_16 (by decide) ?_
    refine bIald (v := nw 5) X Y 1 rfl (bInD (by decide)) dX8_couple_17 rfl ?_
    refine lv_istore_n (lv' := [(2, .int (nw 5)), (0, .ref mM), (1, .int lv)]) hx hb dX8_couple_18 rfl hl (by decide) rfl (fun ls hl => ?_)
    refine lv_iload_n hx hb dX8_couple_19 rfl (lv_at hl 2 rfl) ?_
    refine lv_if_ge (tgt := 28) hx hb dX8_couple_20 (by decide) (fun c_2 => ?_) (fun c_2 => ?_)
    · have c_2 : 0 ≤ lv := c_2
      rw [if_pos c_2] at hu
      refine lv_iload_n hx hb dX8_couple_28 rfl (lv_at hl 2 rfl) ?_
      refine lv_istore_n (lv' := [(3, .int lv), (2, .int (nw 5)), (0, .ref mM), (1, .int lv)]) hx hb dX8_couple_29 rfl hl (by decide) rfl (fun ls hl => ?_)
      refine lv_iload_n hx hb dX8_couple_30 rfl (lv_at hl 1 rfl) ?_
      refine lv_iload_n hx hb dX8_couple_31 rfl (lv_at hl 0 rfl) ?_
      refine lv_icmp_ne (tgt := 38) hx hb dX8_couple_32 (by decide) (fun c_3 => ?_) (fun c_3 => ?_)
      · have c_3 : ¬ (nw 5 = lv) := c_3
        rw [if_neg c_3] at hu
        refine lv_aload_n hx hb dX8_couple_38 rfl (lv_at hl 2 rfl) ?_
        obtain ⟨u_4_0, u_4_1, hr_4⟩ := bEx2 (s_keeps8 ch nw ps)
        rw [hr_4] at hu
        dsimp only at hu
        refine bVV (As := []) (rest := []) (wc := [(mM, .inr (8, [.ref mN, .ref mR, .ref mA, .ref mP, .int ch, .ref mT, .int le, .int sp, .ref mD])), (mN, .inl (cyI, 515, .inl nw)), (mP, .inl (cyI, 2060, .inl ps))]) (w1 := [(mM, .inr (8, [.ref mN, .ref mR, .ref mA, .ref mP, .int u_4_0, .ref mT, .int le, .int sp, .ref mD])), (mN, .inl (cyI, 515, .inl nw)), (mP, .inl (cyI, 2060, .inl u_4_1))]) (ws' := [(mM, .inr (8, [.ref mN, .ref mR, .ref mA, .ref mP, .int u_4_0, .ref mT, .int le, .int sp, .ref mD])), (mN, .inl (cyI, 515, .inl nw)), (mP, .inl (cyI, 2060, .inl u_4_1))]) (ad := [mM, mN, mP]) (wr := []) (nn := 3) (ci := 8) (q0 := 0) X Y (c_keeps8 l D cyC cyI mM mN mR mA mP mT mD ch le sp nw ps u_4_0 u_4_1 hr_4 (by first | assumption | omega | decide)) gX8_couple_X8_keeps rfl ⟨rfl, rfl⟩ hd_X8_keeps ⟨(Nat.le_of_ble_eq_true rfl), (Nat.le_of_ble_eq_true rfl)⟩ rfl rfl rfl [0, 1, 2] [] rfl rfl rfl rfl rfl rfl rfl rfl (by decide) rfl rfl hl.1 (Nat.le_of_ble_eq_true rfl) ⟨Nat.zero_le _, Nat.zero_le _⟩ dX8_couple_39 (fun H locs Y => ?_)
        refine lv_aload_n hx hb dX8_couple_42 rfl (lv_at hl 2 rfl) ?_
        refine bGet (v := .ref mN) (T := TX8) (N := 9) (ci := 8) X Y i_X8_couple_X8 0 rfl rfl 0 (Nat.le_of_ble_eq_true rfl) f_X8_couple_7 rfl rfl dX8_couple_43 ?_
        refine lv_iconst (v := 5) hx hb dX8_couple_46 (by decide) ?_
        refine lv_iload_n hx hb dX8_couple_47 rfl (lv_at hl 0 rfl) ?_
        refine bIast (f' := upd nw 5 lv) (ws' := [(mM, .inr (8, [.ref mN, .ref mR, .ref mA, .ref mP, .int u_4_0, .ref mT, .int le, .int sp, .ref mD])), (mN, .inl (cyI, 515, .inl (upd nw 5 lv))), (mP, .inl (cyI, 2060, .inl u_4_1))]) X Y 1 rfl (bInD (by decide)) rfl rfl dX8_couple_48 (fun H locs Y => ?_)
        refine lv_iload_n hx hb dX8_couple_49 rfl (lv_at hl 1 rfl) ?_
        have h9 := (Prod.mk.inj hu).1; replace hu := (Prod.mk.inj hu).2; subst h9
        have h9 := (Prod.mk.inj hu).1; replace hu := (Prod.mk.inj hu).2; subst h9
        have h9 := (Prod.mk.inj hu).1; replace hu := (Prod.mk.inj hu).2; subst h9
        subst hu
        exact bEndI X Y hr hlk dX8_couple_50 rfl rfl
      · have c_3 : nw 5 = lv := c_3
        rw [if_pos c_3] at hu
        refine lv_bipush (v := (-2)) hx hb dX8_couple_35 (by decide) ?_
        have h9 := (Prod.mk.inj hu).1; replace hu := (Prod.mk.inj hu).2; subst h9
        have h9 := (Prod.mk.inj hu).1; replace hu := (Prod.mk.inj hu).2; subst h9
        have h9 := (Prod.mk.inj hu).1; replace hu := (Prod.mk.inj hu).2; subst h9
        subst hu
        exact bEndI X Y hr hlk dX8_couple_37 rfl rfl
    · have c_2 : ¬ (0 ≤ lv) := c_2
      rw [if_neg c_2] at hu
      refine lv_bipush (v := (-4)) hx hb dX8_couple_23 (by decide) ?_
      refine lv_goto (tgt := 29) hx hb dX8_couple_25 (by decide) ?_
      refine lv_istore_n (lv' := [(3, .int (-4)), (2, .int (nw 5)), (0, .ref mM), (1, .int lv)]) hx hb dX8_couple_29 rfl hl (by decide) rfl (fun ls hl => ?_)
      refine lv_iload_n hx hb dX8_couple_30 rfl (lv_at hl 1 rfl) ?_
      refine lv_iload_n hx hb dX8_couple_31 rfl (lv_at hl 0 rfl) ?_
      refine lv_icmp_ne (tgt := 38) hx hb dX8_couple_32 (by decide) (fun c_5 => ?_) (fun c_5 => ?_)
      · have c_5 : ¬ (nw 5 = (-4)) := c_5
        rw [if_neg c_5] at hu
        refine lv_aload_n hx hb dX8_couple_38 rfl (lv_at hl 2 rfl) ?_
        obtain ⟨u_6_0, u_6_1, hr_6⟩ := bEx2 (s_keeps8 ch nw ps)
        rw [hr_6] at hu
        dsimp only at hu
        refine bVV (As := []) (rest := []) (wc := [(mM, .inr (8, [.ref mN, .ref mR, .ref mA, .ref mP, .int ch, .ref mT, .int le, .int sp, .ref mD])), (mN, .inl (cyI, 515, .inl nw)), (mP, .inl (cyI, 2060, .inl ps))]) (w1 := [(mM, .inr (8, [.ref mN, .ref mR, .ref mA, .ref mP, .int u_6_0, .ref mT, .int le, .int sp, .ref mD])), (mN, .inl (cyI, 515, .inl nw)), (mP, .inl (cyI, 2060, .inl u_6_1))]) (ws' := [(mM, .inr (8, [.ref mN, .ref mR, .ref mA, .ref mP, .int u_6_0, .ref mT, .int le, .int sp, .ref mD])), (mN, .inl (cyI, 515, .inl nw)), (mP, .inl (cyI, 2060, .inl u_6_1))]) (ad := [mM, mN, mP]) (wr := []) (nn := 3) (ci := 8) (q0 := 0) X Y (c_keeps8 l D cyC cyI mM mN mR mA mP mT mD ch le sp nw ps u_6_0 u_6_1 hr_6 (by first | assumption | omega | decide)) gX8_couple_X8_keeps rfl ⟨rfl, rfl⟩ hd_X8_keeps ⟨(Nat.le_of_ble_eq_true rfl), (Nat.le_of_ble_eq_true rfl)⟩ rfl rfl rfl [0, 1, 2] [] rfl rfl rfl rfl rfl rfl rfl rfl (by decide) rfl rfl hl.1 (Nat.le_of_ble_eq_true rfl) ⟨Nat.zero_le _, Nat.zero_le _⟩ dX8_couple_39 (fun H locs Y => ?_)
        refine lv_aload_n hx hb dX8_couple_42 rfl (lv_at hl 2 rfl) ?_
        refine bGet (v := .ref mN) (T := TX8) (N := 9) (ci := 8) X Y i_X8_couple_X8 0 rfl rfl 0 (Nat.le_of_ble_eq_true rfl) f_X8_couple_7 rfl rfl dX8_couple_43 ?_
        refine lv_iconst (v := 5) hx hb dX8_couple_46 (by decide) ?_
        refine lv_iload_n hx hb dX8_couple_47 rfl (lv_at hl 0 rfl) ?_
        refine bIast (f' := upd nw 5 (-4)) (ws' := [(mM, .inr (8, [.ref mN, .ref mR, .ref mA, .ref mP, .int u_6_0, .ref mT, .int le, .int sp, .ref mD])), (mN, .inl (cyI, 515, .inl (upd nw 5 (-4)))), (mP, .inl (cyI, 2060, .inl u_6_1))]) X Y 1 rfl (bInD (by decide)) rfl rfl dX8_couple_48 (fun H locs Y => ?_)
        refine lv_iload_n hx hb dX8_couple_49 rfl (lv_at hl 1 rfl) ?_
        have h9 := (Prod.mk.inj hu).1; replace hu := (Prod.mk.inj hu).2; subst h9
        have h9 := (Prod.mk.inj hu).1; replace hu := (Prod.mk.inj hu).2; subst h9
        have h9 := (Prod.mk.inj hu).1; replace hu := (Prod.mk.inj hu).2; subst h9
        subst hu
        exact bEndI X Y hr hlk dX8_couple_50 rfl rfl
      · have c_5 : nw 5 = (-4) := c_5
        rw [if_pos c_5] at hu
        refine lv_bipush (v := (-2)) hx hb dX8_couple_35 (by decide) ?_
        have h9 := (Prod.mk.inj hu).1; replace hu := (Prod.mk.inj hu).2; subst h9
        have h9 := (Prod.mk.inj hu).1; replace hu := (Prod.mk.inj hu).2; subst h9
        have h9 := (Prod.mk.inj hu).1; replace hu := (Prod.mk.inj hu).2; subst h9
        subst hu
        exact bEndI X Y hr hlk dX8_couple_37 rfl rfl
  · have c_1 := bB_f c_1
    rw [if_neg c_1] at hu
    refine lv_iconst (v := (-1)) hx hb dX8_couple_10 (by decide) ?_
    have h9 := (Prod.mk.inj hu).1; replace hu := (Prod.mk.inj hu).2; subst h9
    have h9 := (Prod.mk.inj hu).1; replace hu := (Prod.mk.inj hu).2; subst h9
    have h9 := (Prod.mk.inj hu).1; replace hu := (Prod.mk.inj hu).2; subst h9
    subst hu
    exact bEndI X Y hr hlk dX8_couple_11 rfl rfl
def s_target8_0 (ch : Int32) (nw : Nat → Int32) (ps : Nat → Int32) (rp : Int32) : Int32 × Int32 × (Nat → Int32) × (Nat → Int32) :=
  if (s_isCrane8 0) = true then
    if (s_in8 rp 10 60) = true then
      if (nw 14) = rp then
        if (s_heeds8_10 nw) = true then
          if (nw 27) = rp then
            ((-2), ch, nw, ps)
          else
            match s_keeps8 ch nw ps with
            | (u_8_0, u_8_1) =>
              if (s_heeds8_10 (upd nw 14 rp)) = true then
                ((nw 14), u_8_0, upd (upd nw 14 rp) 27 rp, u_8_1)
              else
                ((nw 14), u_8_0, upd nw 14 rp, u_8_1)
        else
          ((-2), ch, nw, ps)
      else
        match s_keeps8 ch nw ps with
        | (u_4_0, u_4_1) =>
          if (s_heeds8_10 (upd nw 14 rp)) = true then
            ((nw 14), u_4_0, upd (upd nw 14 rp) 27 rp, u_4_1)
          else
            ((nw 14), u_4_0, upd nw 14 rp, u_4_1)
    else
      ((-1), ch, nw, ps)
  else
    ((-1), ch, nw, ps)
set_option maxHeartbeats 4000000 in
set_option maxRecDepth 100000 in
theorem c_target8_0 (l : Launch) (D : va_G) (cyC cyI : ClassId) (mM : Nat) (mN : Nat) (mR : Nat) (mA : Nat) (mP : Nat) (mT : Nat) (mD : Nat) (ch : Int32) (le : Int32) (sp : Int32) (nw : Nat → Int32) (ps : Nat → Int32) (rp : Int32) (o0 : Int32) (o1 : Int32) (o2 : Nat → Int32) (o3 : Nat → Int32) (hu : s_target8_0 ch nw ps rp = (o0, o1, o2, o3)) (hch : ch = 0 ∨ ch = 1 ∨ ch = 2 ∨ ch = 3 ∨ ch = 4) : CI l yX8_target wsX8_target { frames := 1, cells := 0, slots := 0, locals := 23 } D cyC cyI [.ref mM, .int 0, .int rp] [(mM, .inr (8, [.ref mN, .ref mR, .ref mA, .ref mP, .int ch, .ref mT, .int le, .int sp, .ref mD])), (mN, .inl (cyI, 515, .inl nw)), (mP, .inl (cyI, 2060, .inl ps))] o0 [(mM, .inr (8, [.ref mN, .ref mR, .ref mA, .ref mP, .int o1, .ref mT, .int le, .int sp, .ref mD])), (mN, .inl (cyI, 515, .inl o2)), (mP, .inl (cyI, 2060, .inl o3))] := by
  refine CI.of (cc := cX8_target) (n := 6) (ret := (some .int)) (by decide +kernel) rfl (Nat.le_of_ble_eq_true rfl) ?_
  intro p_ e_ s_ m_ bl_ me_ cd_ A_ ls X Y hr hlk hl
  have hx := X.1.1
  have hb := X.1.2.1
  have hl : lv_has ls 6 [(0, .ref mM), (1, .int 0), (2, .int rp)] := hl
  unfold s_target8_0 at hu
  refine lv_iload_n hx hb dX8_target_0 rfl (lv_at hl 1 rfl) ?_
  refine bSI (As := [.int 0]) (rest := []) X Y (c_isCrane8 l D cyC cyI 0 (s_isCrane8 0) rfl) gX8_target_X8_isCrane rfl ⟨rfl, rfl⟩ hd_X8_isCrane.2 ⟨(Nat.le_of_ble_eq_true rfl), (Nat.le_of_ble_eq_true rfl)⟩ rfl rfl hl.1 (Nat.le_of_ble_eq_true rfl) ⟨Nat.zero_le _, Nat.zero_le _⟩ dX8_target_1 (fun H locs Y => ?_)
  refine lv_if_eq (tgt := 18) hx hb dX8_target_4 (by decide) (fun c_1 => ?_) (fun c_1 => ?_)
  · have c_1 := bB_f c_1
    rw [if_neg c_1] at hu
    refine lv_iconst (v := (-1)) hx hb dX8_target_18 (by decide) ?_
    have h9 := (Prod.mk.inj hu).1; replace hu := (Prod.mk.inj hu).2; subst h9
    have h9 := (Prod.mk.inj hu).1; replace hu := (Prod.mk.inj hu).2; subst h9
    have h9 := (Prod.mk.inj hu).1; replace hu := (Prod.mk.inj hu).2; subst h9
    subst hu
    exact bEndI X Y hr hlk dX8_target_19 rfl rfl
  · have c_1 := bB_t c_1
    rw [if_pos c_1] at hu
    refine lv_iload_n hx hb dX8_target_7 rfl (lv_at hl 2 rfl) ?_
    refine lv_bipush (v := 10) hx hb dX8_target_8 (by decide) ?_
    refine lv_bipush (v := 60) hx hb dX8_target_10 (by decide) ?_
    refine bSI (As := [.int rp, .int 10, .int 60]) (rest := []) X Y (c_in8 l D cyC cyI rp 10 60 (s_in8 rp 10 60) rfl) gX8_target_X8_in rfl ⟨rfl, rfl⟩ hd_X8_in.2 ⟨(Nat.le_of_ble_eq_true rfl), (Nat.le_of_ble_eq_true rfl)⟩ rfl rfl hl.1 (Nat.le_of_ble_eq_true rfl) ⟨Nat.zero_le _, Nat.zero_le _⟩ dX8_target_12 (fun H locs Y => ?_)
    refine lv_if_ne (tgt := 20) hx hb dX8_target_15 (by decide) (fun c_2 => ?_) (fun c_2 => ?_)
    · have c_2 := bB_t c_2
      rw [if_pos c_2] at hu
      refine lv_iconst (v := 1) hx hb dX8_target_20 (by decide) ?_
      refine lv_istore_n (lv' := [(3, .int 1), (0, .ref mM), (1, .int 0), (2, .int rp)]) hx hb dX8_target_21 rfl hl (by decide) rfl (fun ls hl => ?_)
      refine lv_iconst (v := 0) hx hb dX8_target_22 (by decide) ?_
      refine lv_istore (lv' := [(4, .int 0), (3, .int 1), (0, .ref mM), (1, .int 0), (2, .int rp)]) hx hb dX8_target_23 hl (by decide) rfl (fun ls hl => ?_)
      refine lv_iload hx hb dX8_target_25 (lv_at hl 0 rfl) ?_
      refine lv_iconst (v := 2) hx hb dX8_target_27 (by decide) ?_
      refine lv_icmp_ge (tgt := 69) hx hb dX8_target_28 (by decide) (fun c_ => absurd c_ (by decide)) (fun _ => ?_)
      refine lv_iload_n hx hb dX8_target_31 rfl (lv_at hl 1 rfl) ?_
      refine lv_if_eq (tgt := 61) hx hb dX8_target_32 (by decide) (fun c_ => absurd c_ (by decide)) (fun _ => ?_)
      refine lv_aload_n hx hb dX8_target_35 rfl (lv_at hl 2 rfl) ?_
      refine lv_iload hx hb dX8_target_36 (lv_at hl 0 rfl) ?_
      refine lv_iload_n hx hb dX8_target_38 rfl (lv_at hl 3 rfl) ?_
      refine bVI0 (As := [.int 0, .int 0]) (rest := []) (wc := [(mM, .inr (8, [.ref mN, .ref mR, .ref mA, .ref mP, .int ch, .ref mT, .int le, .int sp, .ref mD])), (mN, .inl (cyI, 515, .inl nw))]) (ci := 8) (q0 := 0) X Y (c_heeds8_00 l D cyC cyI mM mN mR mA mP mT mD ch le sp nw true rfl) gX8_target_X8_heeds rfl ⟨rfl, rfl⟩ hd_X8_heeds ⟨(Nat.le_of_ble_eq_true rfl), (Nat.le_of_ble_eq_true rfl)⟩ rfl rfl rfl [0, 1] rfl rfl rfl rfl hl.1 (Nat.le_of_ble_eq_true rfl) ⟨Nat.zero_le _, Nat.zero_le _⟩ dX8_target_39 (fun H locs Y => ?_)
      refine lv_if_eq (tgt := 57) hx hb dX8_target_42 (by decide) (fun c_ => absurd c_ (by decide)) (fun _ => ?_)
      refine lv_aload_n hx hb dX8_target_45 rfl (lv_at hl 2 rfl) ?_
      refine lv_iload hx hb dX8_target_46 (lv_at hl 0 rfl) ?_
      refine lv_bipush (v := 7) hx hb dX8_target_48 (by decide) ?_
      refine bVI0 (As := [.int 0, .int 7]) (rest := []) (wc := [(mM, .inr (8, [.ref mN, .ref mR, .ref mA, .ref mP, .int ch, .ref mT, .int le, .int sp, .ref mD])), (mN, .inl (cyI, 515, .inl nw))]) (ci := 8) (q0 := 0) X Y (c_of8 l D cyC cyI mM mN mR mA mP mT mD ch le sp nw 0 7 (nw 14) (bOf (i := 14) (by decide) rfl) (bInD (by decide))) gX8_target_X8_of rfl ⟨rfl, rfl⟩ hd_X8_of ⟨(Nat.le_of_ble_eq_true rfl), (Nat.le_of_ble_eq_true rfl)⟩ rfl rfl rfl [0, 1] rfl rfl rfl rfl hl.1 (Nat.le_of_ble_eq_true rfl) ⟨Nat.zero_le _, Nat.zero_le _⟩ dX8_target_50 (fun H locs Y => ?_)
      refine lv_iload_n hx hb dX8_target_53 rfl (lv_at hl 4 rfl) ?_
      refine lv_icmp_ne (tgt := 61) hx hb dX8_target_54 (by decide) (fun c_3 => ?_) (fun c_3 => ?_)
      · have c_3 : ¬ ((nw 14) = rp) := c_3
        rw [if_neg c_3] at hu
        refine lv_iconst (v := 0) hx hb dX8_target_61 (by decide) ?_
        refine lv_istore_n (lv' := [(3, .int 0), (4, .int 0), (0, .ref mM), (1, .int 0), (2, .int rp)]) hx hb dX8_target_62 rfl hl (by decide) rfl (fun ls hl => ?_)
        refine lv_iinc (v := 1) (lv' := [(4, .int 1), (3, .int 0), (0, .ref mM), (1, .int 0), (2, .int rp)]) hx hb dX8_target_63 hl (k := 1) rfl (by decide) (by decide) rfl (fun ls hl => ?_)
        refine lv_goto (tgt := 25) hx hb dX8_target_66 (by decide) ?_
        refine lv_iload hx hb dX8_target_25 (lv_at hl 0 rfl) ?_
        refine lv_iconst (v := 2) hx hb dX8_target_27 (by decide) ?_
        refine lv_icmp_ge (tgt := 69) hx hb dX8_target_28 (by decide) (fun c_ => absurd c_ (by decide)) (fun _ => ?_)
        refine lv_iload_n hx hb dX8_target_31 rfl (lv_at hl 1 rfl) ?_
        refine lv_if_eq (tgt := 61) hx hb dX8_target_32 (by decide) (fun _ => ?_) (fun c_ => absurd (by decide) c_)
        refine lv_iconst (v := 0) hx hb dX8_target_61 (by decide) ?_
        refine lv_istore_n (lv' := [(3, .int 0), (4, .int 1), (0, .ref mM), (1, .int 0), (2, .int rp)]) hx hb dX8_target_62 rfl hl (by decide) rfl (fun ls hl => ?_)
        refine lv_iinc (v := 2) (lv' := [(4, .int 2), (3, .int 0), (0, .ref mM), (1, .int 0), (2, .int rp)]) hx hb dX8_target_63 hl (k := 1) rfl (by decide) (by decide) rfl (fun ls hl => ?_)
        refine lv_goto (tgt := 25) hx hb dX8_target_66 (by decide) ?_
        refine lv_iload hx hb dX8_target_25 (lv_at hl 0 rfl) ?_
        refine lv_iconst (v := 2) hx hb dX8_target_27 (by decide) ?_
        refine lv_icmp_ge (tgt := 69) hx hb dX8_target_28 (by decide) (fun _ => ?_) (fun c_ => absurd (by decide) c_)
        refine lv_iload_n hx hb dX8_target_69 rfl (lv_at hl 1 rfl) ?_
        refine lv_if_eq (tgt := 76) hx hb dX8_target_70 (by decide) (fun _ => ?_) (fun c_ => absurd (by decide) c_)
        refine lv_aload_n hx hb dX8_target_76 rfl (lv_at hl 2 rfl) ?_
        obtain ⟨u_4_0, u_4_1, hr_4⟩ := bEx2 (s_keeps8 ch nw ps)
        rw [hr_4] at hu
        dsimp only at hu
        refine bVV (As := []) (rest := []) (wc := [(mM, .inr (8, [.ref mN, .ref mR, .ref mA, .ref mP, .int ch, .ref mT, .int le, .int sp, .ref mD])), (mN, .inl (cyI, 515, .inl nw)), (mP, .inl (cyI, 2060, .inl ps))]) (w1 := [(mM, .inr (8, [.ref mN, .ref mR, .ref mA, .ref mP, .int u_4_0, .ref mT, .int le, .int sp, .ref mD])), (mN, .inl (cyI, 515, .inl nw)), (mP, .inl (cyI, 2060, .inl u_4_1))]) (ws' := [(mM, .inr (8, [.ref mN, .ref mR, .ref mA, .ref mP, .int u_4_0, .ref mT, .int le, .int sp, .ref mD])), (mN, .inl (cyI, 515, .inl nw)), (mP, .inl (cyI, 2060, .inl u_4_1))]) (ad := [mM, mN, mP]) (wr := []) (nn := 3) (ci := 8) (q0 := 0) X Y (c_keeps8 l D cyC cyI mM mN mR mA mP mT mD ch le sp nw ps u_4_0 u_4_1 hr_4 (by first | assumption | omega | decide)) gX8_target_X8_keeps rfl ⟨rfl, rfl⟩ hd_X8_keeps ⟨(Nat.le_of_ble_eq_true rfl), (Nat.le_of_ble_eq_true rfl)⟩ rfl rfl rfl [0, 1, 2] [] rfl rfl rfl rfl rfl rfl rfl rfl (by decide) rfl rfl hl.1 (Nat.le_of_ble_eq_true rfl) ⟨Nat.zero_le _, Nat.zero_le _⟩ dX8_target_77 (fun H locs Y => ?_)
        refine lv_aload_n hx hb dX8_target_80 rfl (lv_at hl 2 rfl) ?_
        refine lv_iload_n hx hb dX8_target_81 rfl (lv_at hl 3 rfl) ?_
        refine lv_bipush (v := 7) hx hb dX8_target_82 (by decide) ?_
        refine bVI0 (As := [.int 0, .int 7]) (rest := []) (wc := [(mM, .inr (8, [.ref mN, .ref mR, .ref mA, .ref mP, .int u_4_0, .ref mT, .int le, .int sp, .ref mD])), (mN, .inl (cyI, 515, .inl nw))]) (ci := 8) (q0 := 0) X Y (c_of8 l D cyC cyI mM mN mR mA mP mT mD u_4_0 le sp nw 0 7 (nw 14) (bOf (i := 14) (by decide) rfl) (bInD (by decide))) gX8_target_X8_of rfl ⟨rfl, rfl⟩ hd_X8_of ⟨(Nat.le_of_ble_eq_true rfl), (Nat.le_of_ble_eq_true rfl)⟩ rfl rfl rfl [0, 1] rfl rfl rfl rfl hl.1 (Nat.le_of_ble_eq_true rfl) ⟨Nat.zero_le _, Nat.zero_le _⟩ dX8_target_84 (fun H locs Y => ?_)
        refine lv_istore (lv' := [(4, .int (nw 14)), (3, .int 0), (0, .ref mM), (1, .int 0), (2, .int rp)]) hx hb dX8_target_87 hl (by decide) rfl (fun ls hl => ?_)
        refine lv_iconst (v := 0) hx hb dX8_target_89 (by decide) ?_
        refine lv_istore (lv' := [(5, .int 0), (4, .int (nw 14)), (3, .int 0), (0, .ref mM), (1, .int 0), (2, .int rp)]) hx hb dX8_target_90 hl (by decide) rfl (fun ls hl => ?_)
        refine lv_iload hx hb dX8_target_92 (lv_at hl 0 rfl) ?_
        refine lv_iconst (v := 2) hx hb dX8_target_94 (by decide) ?_
        refine lv_icmp_ge (tgt := 123) hx hb dX8_target_95 (by decide) (fun c_ => absurd c_ (by decide)) (fun _ => ?_)
        refine lv_aload_n hx hb dX8_target_98 rfl (lv_at hl 3 rfl) ?_
        refine lv_iload hx hb dX8_target_99 (lv_at hl 0 rfl) ?_
        refine lv_iload_n hx hb dX8_target_101 rfl (lv_at hl 4 rfl) ?_
        refine bVI0 (As := [.int 0, .int 0]) (rest := []) (wc := [(mM, .inr (8, [.ref mN, .ref mR, .ref mA, .ref mP, .int u_4_0, .ref mT, .int le, .int sp, .ref mD])), (mN, .inl (cyI, 515, .inl nw))]) (ci := 8) (q0 := 0) X Y (c_heeds8_00 l D cyC cyI mM mN mR mA mP mT mD u_4_0 le sp nw true rfl) gX8_target_X8_heeds rfl ⟨rfl, rfl⟩ hd_X8_heeds ⟨(Nat.le_of_ble_eq_true rfl), (Nat.le_of_ble_eq_true rfl)⟩ rfl rfl rfl [0, 1] rfl rfl rfl rfl hl.1 (Nat.le_of_ble_eq_true rfl) ⟨Nat.zero_le _, Nat.zero_le _⟩ dX8_target_102 (fun H locs Y => ?_)
        refine lv_if_eq (tgt := 117) hx hb dX8_target_105 (by decide) (fun c_ => absurd c_ (by decide)) (fun _ => ?_)
        refine lv_aload_n hx hb dX8_target_108 rfl (lv_at hl 3 rfl) ?_
        refine lv_iload hx hb dX8_target_109 (lv_at hl 0 rfl) ?_
        refine lv_bipush (v := 7) hx hb dX8_target_111 (by decide) ?_
        refine lv_iload_n hx hb dX8_target_113 rfl (lv_at hl 5 rfl) ?_
        refine bVV (As := [.int 0, .int 7, .int rp]) (rest := []) (wc := [(mM, .inr (8, [.ref mN, .ref mR, .ref mA, .ref mP, .int u_4_0, .ref mT, .int le, .int sp, .ref mD])), (mN, .inl (cyI, 515, .inl nw))]) (w1 := [(mM, .inr (8, [.ref mN, .ref mR, .ref mA, .ref mP, .int u_4_0, .ref mT, .int le, .int sp, .ref mD])), (mN, .inl (cyI, 515, .inl (upd nw 14 rp)))]) (ws' := [(mM, .inr (8, [.ref mN, .ref mR, .ref mA, .ref mP, .int u_4_0, .ref mT, .int le, .int sp, .ref mD])), (mN, .inl (cyI, 515, .inl (upd nw 14 rp))), (mP, .inl (cyI, 2060, .inl u_4_1))]) (ad := [mM, mN]) (wr := [(mP, .inl (cyI, 2060, .inl u_4_1))]) (nn := 3) (ci := 8) (q0 := 0) X Y (c_tells8 l D cyC cyI mM mN mR mA mP mT mD u_4_0 le sp nw 0 7 rp (upd nw 14 rp) (bTells (i := 14) (by decide) rfl) (bInD (by decide))) gX8_target_X8_tells rfl ⟨rfl, rfl⟩ hd_X8_tells ⟨(Nat.le_of_ble_eq_true rfl), (Nat.le_of_ble_eq_true rfl)⟩ rfl rfl rfl [0, 1] [2] rfl rfl rfl rfl rfl rfl rfl rfl (by decide) rfl rfl hl.1 (Nat.le_of_ble_eq_true rfl) ⟨Nat.zero_le _, Nat.zero_le _⟩ dX8_target_114 (fun H locs Y => ?_)
        refine lv_iinc (v := 1) (lv' := [(5, .int 1), (4, .int (nw 14)), (3, .int 0), (0, .ref mM), (1, .int 0), (2, .int rp)]) hx hb dX8_target_117 hl (k := 0) rfl (by decide) (by decide) rfl (fun ls hl => ?_)
        refine lv_goto (tgt := 92) hx hb dX8_target_120 (by decide) ?_
        refine lv_iload hx hb dX8_target_92 (lv_at hl 0 rfl) ?_
        refine lv_iconst (v := 2) hx hb dX8_target_94 (by decide) ?_
        refine lv_icmp_ge (tgt := 123) hx hb dX8_target_95 (by decide) (fun c_ => absurd c_ (by decide)) (fun _ => ?_)
        refine lv_aload_n hx hb dX8_target_98 rfl (lv_at hl 3 rfl) ?_
        refine lv_iload hx hb dX8_target_99 (lv_at hl 0 rfl) ?_
        refine lv_iload_n hx hb dX8_target_101 rfl (lv_at hl 4 rfl) ?_
        refine bVI0 (As := [.int 1, .int 0]) (rest := []) (wc := [(mM, .inr (8, [.ref mN, .ref mR, .ref mA, .ref mP, .int u_4_0, .ref mT, .int le, .int sp, .ref mD])), (mN, .inl (cyI, 515, .inl (upd nw 14 rp)))]) (ci := 8) (q0 := 0) X Y (c_heeds8_10 l D cyC cyI mM mN mR mA mP mT mD u_4_0 le sp (upd nw 14 rp) (s_heeds8_10 (upd nw 14 rp)) rfl) gX8_target_X8_heeds rfl ⟨rfl, rfl⟩ hd_X8_heeds ⟨(Nat.le_of_ble_eq_true rfl), (Nat.le_of_ble_eq_true rfl)⟩ rfl rfl rfl [0, 1] rfl rfl rfl rfl hl.1 (Nat.le_of_ble_eq_true rfl) ⟨Nat.zero_le _, Nat.zero_le _⟩ dX8_target_102 (fun H locs Y => ?_)
        refine lv_if_eq (tgt := 117) hx hb dX8_target_105 (by decide) (fun c_5 => ?_) (fun c_5 => ?_)
        · have c_5 := bB_f c_5
          rw [if_neg c_5] at hu
          refine lv_iinc (v := 2) (lv' := [(5, .int 2), (4, .int (nw 14)), (3, .int 0), (0, .ref mM), (1, .int 0), (2, .int rp)]) hx hb dX8_target_117 hl (k := 0) rfl (by decide) (by decide) rfl (fun ls hl => ?_)
          refine lv_goto (tgt := 92) hx hb dX8_target_120 (by decide) ?_
          refine lv_iload hx hb dX8_target_92 (lv_at hl 0 rfl) ?_
          refine lv_iconst (v := 2) hx hb dX8_target_94 (by decide) ?_
          refine lv_icmp_ge (tgt := 123) hx hb dX8_target_95 (by decide) (fun _ => ?_) (fun c_ => absurd (by decide) c_)
          refine lv_iload hx hb dX8_target_123 (lv_at hl 1 rfl) ?_
          have h9 := (Prod.mk.inj hu).1; replace hu := (Prod.mk.inj hu).2; subst h9
          have h9 := (Prod.mk.inj hu).1; replace hu := (Prod.mk.inj hu).2; subst h9
          have h9 := (Prod.mk.inj hu).1; replace hu := (Prod.mk.inj hu).2; subst h9
          subst hu
          exact bEndI X Y hr hlk dX8_target_125 rfl rfl
        · have c_5 := bB_t c_5
          rw [if_pos c_5] at hu
          refine lv_aload_n hx hb dX8_target_108 rfl (lv_at hl 3 rfl) ?_
          refine lv_iload hx hb dX8_target_109 (lv_at hl 0 rfl) ?_
          refine lv_bipush (v := 7) hx hb dX8_target_111 (by decide) ?_
          refine lv_iload_n hx hb dX8_target_113 rfl (lv_at hl 5 rfl) ?_
          refine bVV (As := [.int 1, .int 7, .int rp]) (rest := []) (wc := [(mM, .inr (8, [.ref mN, .ref mR, .ref mA, .ref mP, .int u_4_0, .ref mT, .int le, .int sp, .ref mD])), (mN, .inl (cyI, 515, .inl (upd nw 14 rp)))]) (w1 := [(mM, .inr (8, [.ref mN, .ref mR, .ref mA, .ref mP, .int u_4_0, .ref mT, .int le, .int sp, .ref mD])), (mN, .inl (cyI, 515, .inl (upd (upd nw 14 rp) 27 rp)))]) (ws' := [(mM, .inr (8, [.ref mN, .ref mR, .ref mA, .ref mP, .int u_4_0, .ref mT, .int le, .int sp, .ref mD])), (mN, .inl (cyI, 515, .inl (upd (upd nw 14 rp) 27 rp))), (mP, .inl (cyI, 2060, .inl u_4_1))]) (ad := [mM, mN]) (wr := [(mP, .inl (cyI, 2060, .inl u_4_1))]) (nn := 3) (ci := 8) (q0 := 0) X Y (c_tells8 l D cyC cyI mM mN mR mA mP mT mD u_4_0 le sp (upd nw 14 rp) 1 7 rp (upd (upd nw 14 rp) 27 rp) (bTells (i := 27) (by decide) rfl) (bInD (by decide))) gX8_target_X8_tells rfl ⟨rfl, rfl⟩ hd_X8_tells ⟨(Nat.le_of_ble_eq_true rfl), (Nat.le_of_ble_eq_true rfl)⟩ rfl rfl rfl [0, 1] [2] rfl rfl rfl rfl rfl rfl rfl rfl (by decide) rfl rfl hl.1 (Nat.le_of_ble_eq_true rfl) ⟨Nat.zero_le _, Nat.zero_le _⟩ dX8_target_114 (fun H locs Y => ?_)
          refine lv_iinc (v := 2) (lv' := [(5, .int 2), (4, .int (nw 14)), (3, .int 0), (0, .ref mM), (1, .int 0), (2, .int rp)]) hx hb dX8_target_117 hl (k := 0) rfl (by decide) (by decide) rfl (fun ls hl => ?_)
          refine lv_goto (tgt := 92) hx hb dX8_target_120 (by decide) ?_
          refine lv_iload hx hb dX8_target_92 (lv_at hl 0 rfl) ?_
          refine lv_iconst (v := 2) hx hb dX8_target_94 (by decide) ?_
          refine lv_icmp_ge (tgt := 123) hx hb dX8_target_95 (by decide) (fun _ => ?_) (fun c_ => absurd (by decide) c_)
          refine lv_iload hx hb dX8_target_123 (lv_at hl 1 rfl) ?_
          have h9 := (Prod.mk.inj hu).1; replace hu := (Prod.mk.inj hu).2; subst h9
          have h9 := (Prod.mk.inj hu).1; replace hu := (Prod.mk.inj hu).2; subst h9
          have h9 := (Prod.mk.inj hu).1; replace hu := (Prod.mk.inj hu).2; subst h9
          subst hu
          exact bEndI X Y hr hlk dX8_target_125 rfl rfl
      · have c_3 : (nw 14) = rp := c_3
        rw [if_pos c_3] at hu
        refine lv_iconst (v := 1) hx hb dX8_target_57 (by decide) ?_
        refine lv_goto (tgt := 62) hx hb dX8_target_58 (by decide) ?_
        refine lv_istore_n (lv' := [(3, .int 1), (4, .int 0), (0, .ref mM), (1, .int 0), (2, .int rp)]) hx hb dX8_target_62 rfl hl (by decide) rfl (fun ls hl => ?_)
        refine lv_iinc (v := 1) (lv' := [(4, .int 1), (3, .int 1), (0, .ref mM), (1, .int 0), (2, .int rp)]) hx hb dX8_target_63 hl (k := 1) rfl (by decide) (by decide) rfl (fun ls hl => ?_)
        refine lv_goto (tgt := 25) hx hb dX8_target_66 (by decide) ?_
        refine lv_iload hx hb dX8_target_25 (lv_at hl 0 rfl) ?_
        refine lv_iconst (v := 2) hx hb dX8_target_27 (by decide) ?_
        refine lv_icmp_ge (tgt := 69) hx hb dX8_target_28 (by decide) (fun c_ => absurd c_ (by decide)) (fun _ => ?_)
        refine lv_iload_n hx hb dX8_target_31 rfl (lv_at hl 1 rfl) ?_
        refine lv_if_eq (tgt := 61) hx hb dX8_target_32 (by decide) (fun c_ => absurd c_ (by decide)) (fun _ => ?_)
        refine lv_aload_n hx hb dX8_target_35 rfl (lv_at hl 2 rfl) ?_
        refine lv_iload hx hb dX8_target_36 (lv_at hl 0 rfl) ?_
        refine lv_iload_n hx hb dX8_target_38 rfl (lv_at hl 3 rfl) ?_
        refine bVI0 (As := [.int 1, .int 0]) (rest := []) (wc := [(mM, .inr (8, [.ref mN, .ref mR, .ref mA, .ref mP, .int ch, .ref mT, .int le, .int sp, .ref mD])), (mN, .inl (cyI, 515, .inl nw))]) (ci := 8) (q0 := 0) X Y (c_heeds8_10 l D cyC cyI mM mN mR mA mP mT mD ch le sp nw (s_heeds8_10 nw) rfl) gX8_target_X8_heeds rfl ⟨rfl, rfl⟩ hd_X8_heeds ⟨(Nat.le_of_ble_eq_true rfl), (Nat.le_of_ble_eq_true rfl)⟩ rfl rfl rfl [0, 1] rfl rfl rfl rfl hl.1 (Nat.le_of_ble_eq_true rfl) ⟨Nat.zero_le _, Nat.zero_le _⟩ dX8_target_39 (fun H locs Y => ?_)
        refine lv_if_eq (tgt := 57) hx hb dX8_target_42 (by decide) (fun c_6 => ?_) (fun c_6 => ?_)
        · have c_6 := bB_f c_6
          rw [if_neg c_6] at hu
          refine lv_iconst (v := 1) hx hb dX8_target_57 (by decide) ?_
          refine lv_goto (tgt := 62) hx hb dX8_target_58 (by decide) ?_
          refine lv_istore_n (lv' := [(3, .int 1), (4, .int 1), (0, .ref mM), (1, .int 0), (2, .int rp)]) hx hb dX8_target_62 rfl hl (by decide) rfl (fun ls hl => ?_)
          refine lv_iinc (v := 2) (lv' := [(4, .int 2), (3, .int 1), (0, .ref mM), (1, .int 0), (2, .int rp)]) hx hb dX8_target_63 hl (k := 1) rfl (by decide) (by decide) rfl (fun ls hl => ?_)
          refine lv_goto (tgt := 25) hx hb dX8_target_66 (by decide) ?_
          refine lv_iload hx hb dX8_target_25 (lv_at hl 0 rfl) ?_
          refine lv_iconst (v := 2) hx hb dX8_target_27 (by decide) ?_
          refine lv_icmp_ge (tgt := 69) hx hb dX8_target_28 (by decide) (fun _ => ?_) (fun c_ => absurd (by decide) c_)
          refine lv_iload_n hx hb dX8_target_69 rfl (lv_at hl 1 rfl) ?_
          refine lv_if_eq (tgt := 76) hx hb dX8_target_70 (by decide) (fun c_ => absurd c_ (by decide)) (fun _ => ?_)
          refine lv_bipush (v := (-2)) hx hb dX8_target_73 (by decide) ?_
          have h9 := (Prod.mk.inj hu).1; replace hu := (Prod.mk.inj hu).2; subst h9
          have h9 := (Prod.mk.inj hu).1; replace hu := (Prod.mk.inj hu).2; subst h9
          have h9 := (Prod.mk.inj hu).1; replace hu := (Prod.mk.inj hu).2; subst h9
          subst hu
          exact bEndI X Y hr hlk dX8_target_75 rfl rfl
        · have c_6 := bB_t c_6
          rw [if_pos c_6] at hu
          refine lv_aload_n hx hb dX8_target_45 rfl (lv_at hl 2 rfl) ?_
          refine lv_iload hx hb dX8_target_46 (lv_at hl 0 rfl) ?_
          refine lv_bipush (v := 7) hx hb dX8_target_48 (by decide) ?_
          refine bVI0 (As := [.int 1, .int 7]) (rest := []) (wc := [(mM, .inr (8, [.ref mN, .ref mR, .ref mA, .ref mP, .int ch, .ref mT, .int le, .int sp, .ref mD])), (mN, .inl (cyI, 515, .inl nw))]) (ci := 8) (q0 := 0) X Y (c_of8 l D cyC cyI mM mN mR mA mP mT mD ch le sp nw 1 7 (nw 27) (bOf (i := 27) (by decide) rfl) (bInD (by decide))) gX8_target_X8_of rfl ⟨rfl, rfl⟩ hd_X8_of ⟨(Nat.le_of_ble_eq_true rfl), (Nat.le_of_ble_eq_true rfl)⟩ rfl rfl rfl [0, 1] rfl rfl rfl rfl hl.1 (Nat.le_of_ble_eq_true rfl) ⟨Nat.zero_le _, Nat.zero_le _⟩ dX8_target_50 (fun H locs Y => ?_)
          refine lv_iload_n hx hb dX8_target_53 rfl (lv_at hl 4 rfl) ?_
          refine lv_icmp_ne (tgt := 61) hx hb dX8_target_54 (by decide) (fun c_7 => ?_) (fun c_7 => ?_)
          · have c_7 : ¬ ((nw 27) = rp) := c_7
            rw [if_neg c_7] at hu
            refine lv_iconst (v := 0) hx hb dX8_target_61 (by decide) ?_
            refine lv_istore_n (lv' := [(3, .int 0), (4, .int 1), (0, .ref mM), (1, .int 0), (2, .int rp)]) hx hb dX8_target_62 rfl hl (by decide) rfl (fun ls hl => ?_)
            refine lv_iinc (v := 2) (lv' := [(4, .int 2), (3, .int 0), (0, .ref mM), (1, .int 0), (2, .int rp)]) hx hb dX8_target_63 hl (k := 1) rfl (by decide) (by decide) rfl (fun ls hl => ?_)
            refine lv_goto (tgt := 25) hx hb dX8_target_66 (by decide) ?_
            refine lv_iload hx hb dX8_target_25 (lv_at hl 0 rfl) ?_
            refine lv_iconst (v := 2) hx hb dX8_target_27 (by decide) ?_
            refine lv_icmp_ge (tgt := 69) hx hb dX8_target_28 (by decide) (fun _ => ?_) (fun c_ => absurd (by decide) c_)
            refine lv_iload_n hx hb dX8_target_69 rfl (lv_at hl 1 rfl) ?_
            refine lv_if_eq (tgt := 76) hx hb dX8_target_70 (by decide) (fun _ => ?_) (fun c_ => absurd (by decide) c_)
            refine lv_aload_n hx hb dX8_target_76 rfl (lv_at hl 2 rfl) ?_
            obtain ⟨u_8_0, u_8_1, hr_8⟩ := bEx2 (s_keeps8 ch nw ps)
            rw [hr_8] at hu
            dsimp only at hu
            refine bVV (As := []) (rest := []) (wc := [(mM, .inr (8, [.ref mN, .ref mR, .ref mA, .ref mP, .int ch, .ref mT, .int le, .int sp, .ref mD])), (mN, .inl (cyI, 515, .inl nw)), (mP, .inl (cyI, 2060, .inl ps))]) (w1 := [(mM, .inr (8, [.ref mN, .ref mR, .ref mA, .ref mP, .int u_8_0, .ref mT, .int le, .int sp, .ref mD])), (mN, .inl (cyI, 515, .inl nw)), (mP, .inl (cyI, 2060, .inl u_8_1))]) (ws' := [(mM, .inr (8, [.ref mN, .ref mR, .ref mA, .ref mP, .int u_8_0, .ref mT, .int le, .int sp, .ref mD])), (mN, .inl (cyI, 515, .inl nw)), (mP, .inl (cyI, 2060, .inl u_8_1))]) (ad := [mM, mN, mP]) (wr := []) (nn := 3) (ci := 8) (q0 := 0) X Y (c_keeps8 l D cyC cyI mM mN mR mA mP mT mD ch le sp nw ps u_8_0 u_8_1 hr_8 (by first | assumption | omega | decide)) gX8_target_X8_keeps rfl ⟨rfl, rfl⟩ hd_X8_keeps ⟨(Nat.le_of_ble_eq_true rfl), (Nat.le_of_ble_eq_true rfl)⟩ rfl rfl rfl [0, 1, 2] [] rfl rfl rfl rfl rfl rfl rfl rfl (by decide) rfl rfl hl.1 (Nat.le_of_ble_eq_true rfl) ⟨Nat.zero_le _, Nat.zero_le _⟩ dX8_target_77 (fun H locs Y => ?_)
            refine lv_aload_n hx hb dX8_target_80 rfl (lv_at hl 2 rfl) ?_
            refine lv_iload_n hx hb dX8_target_81 rfl (lv_at hl 3 rfl) ?_
            refine lv_bipush (v := 7) hx hb dX8_target_82 (by decide) ?_
            refine bVI0 (As := [.int 0, .int 7]) (rest := []) (wc := [(mM, .inr (8, [.ref mN, .ref mR, .ref mA, .ref mP, .int u_8_0, .ref mT, .int le, .int sp, .ref mD])), (mN, .inl (cyI, 515, .inl nw))]) (ci := 8) (q0 := 0) X Y (c_of8 l D cyC cyI mM mN mR mA mP mT mD u_8_0 le sp nw 0 7 (nw 14) (bOf (i := 14) (by decide) rfl) (bInD (by decide))) gX8_target_X8_of rfl ⟨rfl, rfl⟩ hd_X8_of ⟨(Nat.le_of_ble_eq_true rfl), (Nat.le_of_ble_eq_true rfl)⟩ rfl rfl rfl [0, 1] rfl rfl rfl rfl hl.1 (Nat.le_of_ble_eq_true rfl) ⟨Nat.zero_le _, Nat.zero_le _⟩ dX8_target_84 (fun H locs Y => ?_)
            refine lv_istore (lv' := [(4, .int (nw 14)), (3, .int 0), (0, .ref mM), (1, .int 0), (2, .int rp)]) hx hb dX8_target_87 hl (by decide) rfl (fun ls hl => ?_)
            refine lv_iconst (v := 0) hx hb dX8_target_89 (by decide) ?_
            refine lv_istore (lv' := [(5, .int 0), (4, .int (nw 14)), (3, .int 0), (0, .ref mM), (1, .int 0), (2, .int rp)]) hx hb dX8_target_90 hl (by decide) rfl (fun ls hl => ?_)
            refine lv_iload hx hb dX8_target_92 (lv_at hl 0 rfl) ?_
            refine lv_iconst (v := 2) hx hb dX8_target_94 (by decide) ?_
            refine lv_icmp_ge (tgt := 123) hx hb dX8_target_95 (by decide) (fun c_ => absurd c_ (by decide)) (fun _ => ?_)
            refine lv_aload_n hx hb dX8_target_98 rfl (lv_at hl 3 rfl) ?_
            refine lv_iload hx hb dX8_target_99 (lv_at hl 0 rfl) ?_
            refine lv_iload_n hx hb dX8_target_101 rfl (lv_at hl 4 rfl) ?_
            refine bVI0 (As := [.int 0, .int 0]) (rest := []) (wc := [(mM, .inr (8, [.ref mN, .ref mR, .ref mA, .ref mP, .int u_8_0, .ref mT, .int le, .int sp, .ref mD])), (mN, .inl (cyI, 515, .inl nw))]) (ci := 8) (q0 := 0) X Y (c_heeds8_00 l D cyC cyI mM mN mR mA mP mT mD u_8_0 le sp nw true rfl) gX8_target_X8_heeds rfl ⟨rfl, rfl⟩ hd_X8_heeds ⟨(Nat.le_of_ble_eq_true rfl), (Nat.le_of_ble_eq_true rfl)⟩ rfl rfl rfl [0, 1] rfl rfl rfl rfl hl.1 (Nat.le_of_ble_eq_true rfl) ⟨Nat.zero_le _, Nat.zero_le _⟩ dX8_target_102 (fun H locs Y => ?_)
            refine lv_if_eq (tgt := 117) hx hb dX8_target_105 (by decide) (fun c_ => absurd c_ (by decide)) (fun _ => ?_)
            refine lv_aload_n hx hb dX8_target_108 rfl (lv_at hl 3 rfl) ?_
            refine lv_iload hx hb dX8_target_109 (lv_at hl 0 rfl) ?_
            refine lv_bipush (v := 7) hx hb dX8_target_111 (by decide) ?_
            refine lv_iload_n hx hb dX8_target_113 rfl (lv_at hl 5 rfl) ?_
            refine bVV (As := [.int 0, .int 7, .int rp]) (rest := []) (wc := [(mM, .inr (8, [.ref mN, .ref mR, .ref mA, .ref mP, .int u_8_0, .ref mT, .int le, .int sp, .ref mD])), (mN, .inl (cyI, 515, .inl nw))]) (w1 := [(mM, .inr (8, [.ref mN, .ref mR, .ref mA, .ref mP, .int u_8_0, .ref mT, .int le, .int sp, .ref mD])), (mN, .inl (cyI, 515, .inl (upd nw 14 rp)))]) (ws' := [(mM, .inr (8, [.ref mN, .ref mR, .ref mA, .ref mP, .int u_8_0, .ref mT, .int le, .int sp, .ref mD])), (mN, .inl (cyI, 515, .inl (upd nw 14 rp))), (mP, .inl (cyI, 2060, .inl u_8_1))]) (ad := [mM, mN]) (wr := [(mP, .inl (cyI, 2060, .inl u_8_1))]) (nn := 3) (ci := 8) (q0 := 0) X Y (c_tells8 l D cyC cyI mM mN mR mA mP mT mD u_8_0 le sp nw 0 7 rp (upd nw 14 rp) (bTells (i := 14) (by decide) rfl) (bInD (by decide))) gX8_target_X8_tells rfl ⟨rfl, rfl⟩ hd_X8_tells ⟨(Nat.le_of_ble_eq_true rfl), (Nat.le_of_ble_eq_true rfl)⟩ rfl rfl rfl [0, 1] [2] rfl rfl rfl rfl rfl rfl rfl rfl (by decide) rfl rfl hl.1 (Nat.le_of_ble_eq_true rfl) ⟨Nat.zero_le _, Nat.zero_le _⟩ dX8_target_114 (fun H locs Y => ?_)
            refine lv_iinc (v := 1) (lv' := [(5, .int 1), (4, .int (nw 14)), (3, .int 0), (0, .ref mM), (1, .int 0), (2, .int rp)]) hx hb dX8_target_117 hl (k := 0) rfl (by decide) (by decide) rfl (fun ls hl => ?_)
            refine lv_goto (tgt := 92) hx hb dX8_target_120 (by decide) ?_
            refine lv_iload hx hb dX8_target_92 (lv_at hl 0 rfl) ?_
            refine lv_iconst (v := 2) hx hb dX8_target_94 (by decide) ?_
            refine lv_icmp_ge (tgt := 123) hx hb dX8_target_95 (by decide) (fun c_ => absurd c_ (by decide)) (fun _ => ?_)
            refine lv_aload_n hx hb dX8_target_98 rfl (lv_at hl 3 rfl) ?_
            refine lv_iload hx hb dX8_target_99 (lv_at hl 0 rfl) ?_
            refine lv_iload_n hx hb dX8_target_101 rfl (lv_at hl 4 rfl) ?_
            refine bVI0 (As := [.int 1, .int 0]) (rest := []) (wc := [(mM, .inr (8, [.ref mN, .ref mR, .ref mA, .ref mP, .int u_8_0, .ref mT, .int le, .int sp, .ref mD])), (mN, .inl (cyI, 515, .inl (upd nw 14 rp)))]) (ci := 8) (q0 := 0) X Y (c_heeds8_10 l D cyC cyI mM mN mR mA mP mT mD u_8_0 le sp (upd nw 14 rp) (s_heeds8_10 (upd nw 14 rp)) rfl) gX8_target_X8_heeds rfl ⟨rfl, rfl⟩ hd_X8_heeds ⟨(Nat.le_of_ble_eq_true rfl), (Nat.le_of_ble_eq_true rfl)⟩ rfl rfl rfl [0, 1] rfl rfl rfl rfl hl.1 (Nat.le_of_ble_eq_true rfl) ⟨Nat.zero_le _, Nat.zero_le _⟩ dX8_target_102 (fun H locs Y => ?_)
            refine lv_if_eq (tgt := 117) hx hb dX8_target_105 (by decide) (fun c_9 => ?_) (fun c_9 => ?_)
            · have c_9 := bB_f c_9
              rw [if_neg c_9] at hu
              refine lv_iinc (v := 2) (lv' := [(5, .int 2), (4, .int (nw 14)), (3, .int 0), (0, .ref mM), (1, .int 0), (2, .int rp)]) hx hb dX8_target_117 hl (k := 0) rfl (by decide) (by decide) rfl (fun ls hl => ?_)
              refine lv_goto (tgt := 92) hx hb dX8_target_120 (by decide) ?_
              refine lv_iload hx hb dX8_target_92 (lv_at hl 0 rfl) ?_
              refine lv_iconst (v := 2) hx hb dX8_target_94 (by decide) ?_
              refine lv_icmp_ge (tgt := 123) hx hb dX8_target_95 (by decide) (fun _ => ?_) (fun c_ => absurd (by decide) c_)
              refine lv_iload hx hb dX8_target_123 (lv_at hl 1 rfl) ?_
              have h9 := (Prod.mk.inj hu).1; replace hu := (Prod.mk.inj hu).2; subst h9
              have h9 := (Prod.mk.inj hu).1; replace hu := (Prod.mk.inj hu).2; subst h9
              have h9 := (Prod.mk.inj hu).1; replace hu := (Prod.mk.inj hu).2; subst h9
              subst hu
              exact bEndI X Y hr hlk dX8_target_125 rfl rfl
            · have c_9 := bB_t c_9
              rw [if_pos c_9] at hu
              refine lv_aload_n hx hb dX8_target_108 rfl (lv_at hl 3 rfl) ?_
              refine lv_iload hx hb dX8_target_109 (lv_at hl 0 rfl) ?_
              refine lv_bipush (v := 7) hx hb dX8_target_111 (by decide) ?_
              refine lv_iload_n hx hb dX8_target_113 rfl (lv_at hl 5 rfl) ?_
              refine bVV (As := [.int 1, .int 7, .int rp]) (rest := []) (wc := [(mM, .inr (8, [.ref mN, .ref mR, .ref mA, .ref mP, .int u_8_0, .ref mT, .int le, .int sp, .ref mD])), (mN, .inl (cyI, 515, .inl (upd nw 14 rp)))]) (w1 := [(mM, .inr (8, [.ref mN, .ref mR, .ref mA, .ref mP, .int u_8_0, .ref mT, .int le, .int sp, .ref mD])), (mN, .inl (cyI, 515, .inl (upd (upd nw 14 rp) 27 rp)))]) (ws' := [(mM, .inr (8, [.ref mN, .ref mR, .ref mA, .ref mP, .int u_8_0, .ref mT, .int le, .int sp, .ref mD])), (mN, .inl (cyI, 515, .inl (upd (upd nw 14 rp) 27 rp))), (mP, .inl (cyI, 2060, .inl u_8_1))]) (ad := [mM, mN]) (wr := [(mP, .inl (cyI, 2060, .inl u_8_1))]) (nn := 3) (ci := 8) (q0 := 0) X Y (c_tells8 l D cyC cyI mM mN mR mA mP mT mD u_8_0 le sp (upd nw 14 rp) 1 7 rp (upd (upd nw 14 rp) 27 rp) (bTells (i := 27) (by decide) rfl) (bInD (by decide))) gX8_target_X8_tells rfl ⟨rfl, rfl⟩ hd_X8_tells ⟨(Nat.le_of_ble_eq_true rfl), (Nat.le_of_ble_eq_true rfl)⟩ rfl rfl rfl [0, 1] [2] rfl rfl rfl rfl rfl rfl rfl rfl (by decide) rfl rfl hl.1 (Nat.le_of_ble_eq_true rfl) ⟨Nat.zero_le _, Nat.zero_le _⟩ dX8_target_114 (fun H locs Y => ?_)
              refine lv_iinc (v := 2) (lv' := [(5, .int 2), (4, .int (nw 14)), (3, .int 0), (0, .ref mM), (1, .int 0), (2, .int rp)]) hx hb dX8_target_117 hl (k := 0) rfl (by decide) (by decide) rfl (fun ls hl => ?_)
              refine lv_goto (tgt := 92) hx hb dX8_target_120 (by decide) ?_
              refine lv_iload hx hb dX8_target_92 (lv_at hl 0 rfl) ?_
              refine lv_iconst (v := 2) hx hb dX8_target_94 (by decide) ?_
              refine lv_icmp_ge (tgt := 123) hx hb dX8_target_95 (by decide) (fun _ => ?_) (fun c_ => absurd (by decide) c_)
              refine lv_iload hx hb dX8_target_123 (lv_at hl 1 rfl) ?_
              have h9 := (Prod.mk.inj hu).1; replace hu := (Prod.mk.inj hu).2; subst h9
              have h9 := (Prod.mk.inj hu).1; replace hu := (Prod.mk.inj hu).2; subst h9
              have h9 := (Prod.mk.inj hu).1; replace hu := (Prod.mk.inj hu).2; subst h9
              subst hu
              exact bEndI X Y hr hlk dX8_target_125 rfl rfl
          · have c_7 : (nw 27) = rp := c_7
            rw [if_pos c_7] at hu
            refine lv_iconst (v := 1) hx hb dX8_target_57 (by decide) ?_
            refine lv_goto (tgt := 62) hx hb dX8_target_58 (by decide) ?_
            refine lv_istore_n (lv' := [(3, .int 1), (4, .int 1), (0, .ref mM), (1, .int 0), (2, .int rp)]) hx hb dX8_target_62 rfl hl (by decide) rfl (fun ls hl => ?_)
            refine lv_iinc (v := 2) (lv' := [(4, .int 2), (3, .int 1), (0, .ref mM), (1, .int 0), (2, .int rp)]) hx hb dX8_target_63 hl (k := 1) rfl (by decide) (by decide) rfl (fun ls hl => ?_)
            refine lv_goto (tgt := 25) hx hb dX8_target_66 (by decide) ?_
            refine lv_iload hx hb dX8_target_25 (lv_at hl 0 rfl) ?_
            refine lv_iconst (v := 2) hx hb dX8_target_27 (by decide) ?_
            refine lv_icmp_ge (tgt := 69) hx hb dX8_target_28 (by decide) (fun _ => ?_) (fun c_ => absurd (by decide) c_)
            refine lv_iload_n hx hb dX8_target_69 rfl (lv_at hl 1 rfl) ?_
            refine lv_if_eq (tgt := 76) hx hb dX8_target_70 (by decide) (fun c_ => absurd c_ (by decide)) (fun _ => ?_)
            refine lv_bipush (v := (-2)) hx hb dX8_target_73 (by decide) ?_
            have h9 := (Prod.mk.inj hu).1; replace hu := (Prod.mk.inj hu).2; subst h9
            have h9 := (Prod.mk.inj hu).1; replace hu := (Prod.mk.inj hu).2; subst h9
            have h9 := (Prod.mk.inj hu).1; replace hu := (Prod.mk.inj hu).2; subst h9
            subst hu
            exact bEndI X Y hr hlk dX8_target_75 rfl rfl
    · have c_2 := bB_f c_2
      rw [if_neg c_2] at hu
      refine lv_iconst (v := (-1)) hx hb dX8_target_18 (by decide) ?_
      have h9 := (Prod.mk.inj hu).1; replace hu := (Prod.mk.inj hu).2; subst h9
      have h9 := (Prod.mk.inj hu).1; replace hu := (Prod.mk.inj hu).2; subst h9
      have h9 := (Prod.mk.inj hu).1; replace hu := (Prod.mk.inj hu).2; subst h9
      subst hu
      exact bEndI X Y hr hlk dX8_target_19 rfl rfl
def s_target8_1 (ch : Int32) (nw : Nat → Int32) (ps : Nat → Int32) (rp : Int32) : Int32 × Int32 × (Nat → Int32) × (Nat → Int32) :=
  if (s_isCrane8 1) = true then
    if (s_in8 rp 10 60) = true then
      if (s_heeds8_01 nw) = true then
        if (nw 14) = rp then
          if (nw 27) = rp then
            ((-2), ch, nw, ps)
          else
            match s_keeps8 ch nw ps with
            | (u_11_0, u_11_1) =>
              ((nw 27), u_11_0, upd (upd nw 14 rp) 27 rp, u_11_1)
        else
          match s_keeps8 ch nw ps with
          | (u_8_0, u_8_1) =>
            ((nw 27), u_8_0, upd (upd nw 14 rp) 27 rp, u_8_1)
      else
        if (nw 27) = rp then
          ((-2), ch, nw, ps)
        else
          match s_keeps8 ch nw ps with
          | (u_5_0, u_5_1) =>
            ((nw 27), u_5_0, upd nw 27 rp, u_5_1)
    else
      ((-1), ch, nw, ps)
  else
    ((-1), ch, nw, ps)
set_option maxHeartbeats 4000000 in
set_option maxRecDepth 100000 in
theorem c_target8_1 (l : Launch) (D : va_G) (cyC cyI : ClassId) (mM : Nat) (mN : Nat) (mR : Nat) (mA : Nat) (mP : Nat) (mT : Nat) (mD : Nat) (ch : Int32) (le : Int32) (sp : Int32) (nw : Nat → Int32) (ps : Nat → Int32) (rp : Int32) (o0 : Int32) (o1 : Int32) (o2 : Nat → Int32) (o3 : Nat → Int32) (hu : s_target8_1 ch nw ps rp = (o0, o1, o2, o3)) (hch : ch = 0 ∨ ch = 1 ∨ ch = 2 ∨ ch = 3 ∨ ch = 4) : CI l yX8_target wsX8_target { frames := 1, cells := 0, slots := 0, locals := 23 } D cyC cyI [.ref mM, .int 1, .int rp] [(mM, .inr (8, [.ref mN, .ref mR, .ref mA, .ref mP, .int ch, .ref mT, .int le, .int sp, .ref mD])), (mN, .inl (cyI, 515, .inl nw)), (mP, .inl (cyI, 2060, .inl ps))] o0 [(mM, .inr (8, [.ref mN, .ref mR, .ref mA, .ref mP, .int o1, .ref mT, .int le, .int sp, .ref mD])), (mN, .inl (cyI, 515, .inl o2)), (mP, .inl (cyI, 2060, .inl o3))] := by
  refine CI.of (cc := cX8_target) (n := 6) (ret := (some .int)) (by decide +kernel) rfl (Nat.le_of_ble_eq_true rfl) ?_
  intro p_ e_ s_ m_ bl_ me_ cd_ A_ ls X Y hr hlk hl
  have hx := X.1.1
  have hb := X.1.2.1
  have hl : lv_has ls 6 [(0, .ref mM), (1, .int 1), (2, .int rp)] := hl
  unfold s_target8_1 at hu
  refine lv_iload_n hx hb dX8_target_0 rfl (lv_at hl 1 rfl) ?_
  refine bSI (As := [.int 1]) (rest := []) X Y (c_isCrane8 l D cyC cyI 1 (s_isCrane8 1) rfl) gX8_target_X8_isCrane rfl ⟨rfl, rfl⟩ hd_X8_isCrane.2 ⟨(Nat.le_of_ble_eq_true rfl), (Nat.le_of_ble_eq_true rfl)⟩ rfl rfl hl.1 (Nat.le_of_ble_eq_true rfl) ⟨Nat.zero_le _, Nat.zero_le _⟩ dX8_target_1 (fun H locs Y => ?_)
  refine lv_if_eq (tgt := 18) hx hb dX8_target_4 (by decide) (fun c_1 => ?_) (fun c_1 => ?_)
  · have c_1 := bB_f c_1
    rw [if_neg c_1] at hu
    refine lv_iconst (v := (-1)) hx hb dX8_target_18 (by decide) ?_
    have h9 := (Prod.mk.inj hu).1; replace hu := (Prod.mk.inj hu).2; subst h9
    have h9 := (Prod.mk.inj hu).1; replace hu := (Prod.mk.inj hu).2; subst h9
    have h9 := (Prod.mk.inj hu).1; replace hu := (Prod.mk.inj hu).2; subst h9
    subst hu
    exact bEndI X Y hr hlk dX8_target_19 rfl rfl
  · have c_1 := bB_t c_1
    rw [if_pos c_1] at hu
    refine lv_iload_n hx hb dX8_target_7 rfl (lv_at hl 2 rfl) ?_
    refine lv_bipush (v := 10) hx hb dX8_target_8 (by decide) ?_
    refine lv_bipush (v := 60) hx hb dX8_target_10 (by decide) ?_
    refine bSI (As := [.int rp, .int 10, .int 60]) (rest := []) X Y (c_in8 l D cyC cyI rp 10 60 (s_in8 rp 10 60) rfl) gX8_target_X8_in rfl ⟨rfl, rfl⟩ hd_X8_in.2 ⟨(Nat.le_of_ble_eq_true rfl), (Nat.le_of_ble_eq_true rfl)⟩ rfl rfl hl.1 (Nat.le_of_ble_eq_true rfl) ⟨Nat.zero_le _, Nat.zero_le _⟩ dX8_target_12 (fun H locs Y => ?_)
    refine lv_if_ne (tgt := 20) hx hb dX8_target_15 (by decide) (fun c_2 => ?_) (fun c_2 => ?_)
    · have c_2 := bB_t c_2
      rw [if_pos c_2] at hu
      refine lv_iconst (v := 1) hx hb dX8_target_20 (by decide) ?_
      refine lv_istore_n (lv' := [(3, .int 1), (0, .ref mM), (1, .int 1), (2, .int rp)]) hx hb dX8_target_21 rfl hl (by decide) rfl (fun ls hl => ?_)
      refine lv_iconst (v := 0) hx hb dX8_target_22 (by decide) ?_
      refine lv_istore (lv' := [(4, .int 0), (3, .int 1), (0, .ref mM), (1, .int 1), (2, .int rp)]) hx hb dX8_target_23 hl (by decide) rfl (fun ls hl => ?_)
      refine lv_iload hx hb dX8_target_25 (lv_at hl 0 rfl) ?_
      refine lv_iconst (v := 2) hx hb dX8_target_27 (by decide) ?_
      refine lv_icmp_ge (tgt := 69) hx hb dX8_target_28 (by decide) (fun c_ => absurd c_ (by decide)) (fun _ => ?_)
      refine lv_iload_n hx hb dX8_target_31 rfl (lv_at hl 1 rfl) ?_
      refine lv_if_eq (tgt := 61) hx hb dX8_target_32 (by decide) (fun c_ => absurd c_ (by decide)) (fun _ => ?_)
      refine lv_aload_n hx hb dX8_target_35 rfl (lv_at hl 2 rfl) ?_
      refine lv_iload hx hb dX8_target_36 (lv_at hl 0 rfl) ?_
      refine lv_iload_n hx hb dX8_target_38 rfl (lv_at hl 3 rfl) ?_
      refine bVI0 (As := [.int 0, .int 1]) (rest := []) (wc := [(mM, .inr (8, [.ref mN, .ref mR, .ref mA, .ref mP, .int ch, .ref mT, .int le, .int sp, .ref mD])), (mN, .inl (cyI, 515, .inl nw))]) (ci := 8) (q0 := 0) X Y (c_heeds8_01 l D cyC cyI mM mN mR mA mP mT mD ch le sp nw (s_heeds8_01 nw) rfl) gX8_target_X8_heeds rfl ⟨rfl, rfl⟩ hd_X8_heeds ⟨(Nat.le_of_ble_eq_true rfl), (Nat.le_of_ble_eq_true rfl)⟩ rfl rfl rfl [0, 1] rfl rfl rfl rfl hl.1 (Nat.le_of_ble_eq_true rfl) ⟨Nat.zero_le _, Nat.zero_le _⟩ dX8_target_39 (fun H locs Y => ?_)
      refine lv_if_eq (tgt := 57) hx hb dX8_target_42 (by decide) (fun c_3 => ?_) (fun c_3 => ?_)
      · have c_3 := bB_f c_3
        rw [if_neg c_3] at hu
        refine lv_iconst (v := 1) hx hb dX8_target_57 (by decide) ?_
        refine lv_goto (tgt := 62) hx hb dX8_target_58 (by decide) ?_
        refine lv_istore_n (lv' := [(3, .int 1), (4, .int 0), (0, .ref mM), (1, .int 1), (2, .int rp)]) hx hb dX8_target_62 rfl hl (by decide) rfl (fun ls hl => ?_)
        refine lv_iinc (v := 1) (lv' := [(4, .int 1), (3, .int 1), (0, .ref mM), (1, .int 1), (2, .int rp)]) hx hb dX8_target_63 hl (k := 1) rfl (by decide) (by decide) rfl (fun ls hl => ?_)
        refine lv_goto (tgt := 25) hx hb dX8_target_66 (by decide) ?_
        refine lv_iload hx hb dX8_target_25 (lv_at hl 0 rfl) ?_
        refine lv_iconst (v := 2) hx hb dX8_target_27 (by decide) ?_
        refine lv_icmp_ge (tgt := 69) hx hb dX8_target_28 (by decide) (fun c_ => absurd c_ (by decide)) (fun _ => ?_)
        refine lv_iload_n hx hb dX8_target_31 rfl (lv_at hl 1 rfl) ?_
        refine lv_if_eq (tgt := 61) hx hb dX8_target_32 (by decide) (fun c_ => absurd c_ (by decide)) (fun _ => ?_)
        refine lv_aload_n hx hb dX8_target_35 rfl (lv_at hl 2 rfl) ?_
        refine lv_iload hx hb dX8_target_36 (lv_at hl 0 rfl) ?_
        refine lv_iload_n hx hb dX8_target_38 rfl (lv_at hl 3 rfl) ?_
        refine bVI0 (As := [.int 1, .int 1]) (rest := []) (wc := [(mM, .inr (8, [.ref mN, .ref mR, .ref mA, .ref mP, .int ch, .ref mT, .int le, .int sp, .ref mD])), (mN, .inl (cyI, 515, .inl nw))]) (ci := 8) (q0 := 0) X Y (c_heeds8_11 l D cyC cyI mM mN mR mA mP mT mD ch le sp nw true rfl) gX8_target_X8_heeds rfl ⟨rfl, rfl⟩ hd_X8_heeds ⟨(Nat.le_of_ble_eq_true rfl), (Nat.le_of_ble_eq_true rfl)⟩ rfl rfl rfl [0, 1] rfl rfl rfl rfl hl.1 (Nat.le_of_ble_eq_true rfl) ⟨Nat.zero_le _, Nat.zero_le _⟩ dX8_target_39 (fun H locs Y => ?_)
        refine lv_if_eq (tgt := 57) hx hb dX8_target_42 (by decide) (fun c_ => absurd c_ (by decide)) (fun _ => ?_)
        refine lv_aload_n hx hb dX8_target_45 rfl (lv_at hl 2 rfl) ?_
        refine lv_iload hx hb dX8_target_46 (lv_at hl 0 rfl) ?_
        refine lv_bipush (v := 7) hx hb dX8_target_48 (by decide) ?_
        refine bVI0 (As := [.int 1, .int 7]) (rest := []) (wc := [(mM, .inr (8, [.ref mN, .ref mR, .ref mA, .ref mP, .int ch, .ref mT, .int le, .int sp, .ref mD])), (mN, .inl (cyI, 515, .inl nw))]) (ci := 8) (q0 := 0) X Y (c_of8 l D cyC cyI mM mN mR mA mP mT mD ch le sp nw 1 7 (nw 27) (bOf (i := 27) (by decide) rfl) (bInD (by decide))) gX8_target_X8_of rfl ⟨rfl, rfl⟩ hd_X8_of ⟨(Nat.le_of_ble_eq_true rfl), (Nat.le_of_ble_eq_true rfl)⟩ rfl rfl rfl [0, 1] rfl rfl rfl rfl hl.1 (Nat.le_of_ble_eq_true rfl) ⟨Nat.zero_le _, Nat.zero_le _⟩ dX8_target_50 (fun H locs Y => ?_)
        refine lv_iload_n hx hb dX8_target_53 rfl (lv_at hl 4 rfl) ?_
        refine lv_icmp_ne (tgt := 61) hx hb dX8_target_54 (by decide) (fun c_4 => ?_) (fun c_4 => ?_)
        · have c_4 : ¬ ((nw 27) = rp) := c_4
          rw [if_neg c_4] at hu
          refine lv_iconst (v := 0) hx hb dX8_target_61 (by decide) ?_
          refine lv_istore_n (lv' := [(3, .int 0), (4, .int 1), (0, .ref mM), (1, .int 1), (2, .int rp)]) hx hb dX8_target_62 rfl hl (by decide) rfl (fun ls hl => ?_)
          refine lv_iinc (v := 2) (lv' := [(4, .int 2), (3, .int 0), (0, .ref mM), (1, .int 1), (2, .int rp)]) hx hb dX8_target_63 hl (k := 1) rfl (by decide) (by decide) rfl (fun ls hl => ?_)
          refine lv_goto (tgt := 25) hx hb dX8_target_66 (by decide) ?_
          refine lv_iload hx hb dX8_target_25 (lv_at hl 0 rfl) ?_
          refine lv_iconst (v := 2) hx hb dX8_target_27 (by decide) ?_
          refine lv_icmp_ge (tgt := 69) hx hb dX8_target_28 (by decide) (fun _ => ?_) (fun c_ => absurd (by decide) c_)
          refine lv_iload_n hx hb dX8_target_69 rfl (lv_at hl 1 rfl) ?_
          refine lv_if_eq (tgt := 76) hx hb dX8_target_70 (by decide) (fun _ => ?_) (fun c_ => absurd (by decide) c_)
          refine lv_aload_n hx hb dX8_target_76 rfl (lv_at hl 2 rfl) ?_
          obtain ⟨u_5_0, u_5_1, hr_5⟩ := bEx2 (s_keeps8 ch nw ps)
          rw [hr_5] at hu
          dsimp only at hu
          refine bVV (As := []) (rest := []) (wc := [(mM, .inr (8, [.ref mN, .ref mR, .ref mA, .ref mP, .int ch, .ref mT, .int le, .int sp, .ref mD])), (mN, .inl (cyI, 515, .inl nw)), (mP, .inl (cyI, 2060, .inl ps))]) (w1 := [(mM, .inr (8, [.ref mN, .ref mR, .ref mA, .ref mP, .int u_5_0, .ref mT, .int le, .int sp, .ref mD])), (mN, .inl (cyI, 515, .inl nw)), (mP, .inl (cyI, 2060, .inl u_5_1))]) (ws' := [(mM, .inr (8, [.ref mN, .ref mR, .ref mA, .ref mP, .int u_5_0, .ref mT, .int le, .int sp, .ref mD])), (mN, .inl (cyI, 515, .inl nw)), (mP, .inl (cyI, 2060, .inl u_5_1))]) (ad := [mM, mN, mP]) (wr := []) (nn := 3) (ci := 8) (q0 := 0) X Y (c_keeps8 l D cyC cyI mM mN mR mA mP mT mD ch le sp nw ps u_5_0 u_5_1 hr_5 (by first | assumption | omega | decide)) gX8_target_X8_keeps rfl ⟨rfl, rfl⟩ hd_X8_keeps ⟨(Nat.le_of_ble_eq_true rfl), (Nat.le_of_ble_eq_true rfl)⟩ rfl rfl rfl [0, 1, 2] [] rfl rfl rfl rfl rfl rfl rfl rfl (by decide) rfl rfl hl.1 (Nat.le_of_ble_eq_true rfl) ⟨Nat.zero_le _, Nat.zero_le _⟩ dX8_target_77 (fun H locs Y => ?_)
          refine lv_aload_n hx hb dX8_target_80 rfl (lv_at hl 2 rfl) ?_
          refine lv_iload_n hx hb dX8_target_81 rfl (lv_at hl 3 rfl) ?_
          refine lv_bipush (v := 7) hx hb dX8_target_82 (by decide) ?_
          refine bVI0 (As := [.int 1, .int 7]) (rest := []) (wc := [(mM, .inr (8, [.ref mN, .ref mR, .ref mA, .ref mP, .int u_5_0, .ref mT, .int le, .int sp, .ref mD])), (mN, .inl (cyI, 515, .inl nw))]) (ci := 8) (q0 := 0) X Y (c_of8 l D cyC cyI mM mN mR mA mP mT mD u_5_0 le sp nw 1 7 (nw 27) (bOf (i := 27) (by decide) rfl) (bInD (by decide))) gX8_target_X8_of rfl ⟨rfl, rfl⟩ hd_X8_of ⟨(Nat.le_of_ble_eq_true rfl), (Nat.le_of_ble_eq_true rfl)⟩ rfl rfl rfl [0, 1] rfl rfl rfl rfl hl.1 (Nat.le_of_ble_eq_true rfl) ⟨Nat.zero_le _, Nat.zero_le _⟩ dX8_target_84 (fun H locs Y => ?_)
          refine lv_istore (lv' := [(4, .int (nw 27)), (3, .int 0), (0, .ref mM), (1, .int 1), (2, .int rp)]) hx hb dX8_target_87 hl (by decide) rfl (fun ls hl => ?_)
          refine lv_iconst (v := 0) hx hb dX8_target_89 (by decide) ?_
          refine lv_istore (lv' := [(5, .int 0), (4, .int (nw 27)), (3, .int 0), (0, .ref mM), (1, .int 1), (2, .int rp)]) hx hb dX8_target_90 hl (by decide) rfl (fun ls hl => ?_)
          refine lv_iload hx hb dX8_target_92 (lv_at hl 0 rfl) ?_
          refine lv_iconst (v := 2) hx hb dX8_target_94 (by decide) ?_
          refine lv_icmp_ge (tgt := 123) hx hb dX8_target_95 (by decide) (fun c_ => absurd c_ (by decide)) (fun _ => ?_)
          refine lv_aload_n hx hb dX8_target_98 rfl (lv_at hl 3 rfl) ?_
          refine lv_iload hx hb dX8_target_99 (lv_at hl 0 rfl) ?_
          refine lv_iload_n hx hb dX8_target_101 rfl (lv_at hl 4 rfl) ?_
          refine bVI0 (As := [.int 0, .int 1]) (rest := []) (wc := [(mM, .inr (8, [.ref mN, .ref mR, .ref mA, .ref mP, .int u_5_0, .ref mT, .int le, .int sp, .ref mD])), (mN, .inl (cyI, 515, .inl nw))]) (ci := 8) (q0 := 0) X Y (c_heeds8_01 l D cyC cyI mM mN mR mA mP mT mD u_5_0 le sp nw (s_heeds8_01 nw) rfl) gX8_target_X8_heeds rfl ⟨rfl, rfl⟩ hd_X8_heeds ⟨(Nat.le_of_ble_eq_true rfl), (Nat.le_of_ble_eq_true rfl)⟩ rfl rfl rfl [0, 1] rfl rfl rfl rfl hl.1 (Nat.le_of_ble_eq_true rfl) ⟨Nat.zero_le _, Nat.zero_le _⟩ dX8_target_102 (fun H locs Y => ?_)
          refine lv_if_eq (tgt := 117) hx hb dX8_target_105 (by decide) (fun c_6 => ?_) (fun c_6 => ?_)
          · have c_6 := bB_f c_6
            refine lv_iinc (v := 1) (lv' := [(5, .int 1), (4, .int (nw 27)), (3, .int 0), (0, .ref mM), (1, .int 1), (2, .int rp)]) hx hb dX8_target_117 hl (k := 0) rfl (by decide) (by decide) rfl (fun ls hl => ?_)
            refine lv_goto (tgt := 92) hx hb dX8_target_120 (by decide) ?_
            refine lv_iload hx hb dX8_target_92 (lv_at hl 0 rfl) ?_
            refine lv_iconst (v := 2) hx hb dX8_target_94 (by decide) ?_
            refine lv_icmp_ge (tgt := 123) hx hb dX8_target_95 (by decide) (fun c_ => absurd c_ (by decide)) (fun _ => ?_)
            refine lv_aload_n hx hb dX8_target_98 rfl (lv_at hl 3 rfl) ?_
            refine lv_iload hx hb dX8_target_99 (lv_at hl 0 rfl) ?_
            refine lv_iload_n hx hb dX8_target_101 rfl (lv_at hl 4 rfl) ?_
            refine bVI0 (As := [.int 1, .int 1]) (rest := []) (wc := [(mM, .inr (8, [.ref mN, .ref mR, .ref mA, .ref mP, .int u_5_0, .ref mT, .int le, .int sp, .ref mD])), (mN, .inl (cyI, 515, .inl nw))]) (ci := 8) (q0 := 0) X Y (c_heeds8_11 l D cyC cyI mM mN mR mA mP mT mD u_5_0 le sp nw true rfl) gX8_target_X8_heeds rfl ⟨rfl, rfl⟩ hd_X8_heeds ⟨(Nat.le_of_ble_eq_true rfl), (Nat.le_of_ble_eq_true rfl)⟩ rfl rfl rfl [0, 1] rfl rfl rfl rfl hl.1 (Nat.le_of_ble_eq_true rfl) ⟨Nat.zero_le _, Nat.zero_le _⟩ dX8_target_102 (fun H locs Y => ?_)
            refine lv_if_eq (tgt := 117) hx hb dX8_target_105 (by decide) (fun c_ => absurd c_ (by decide)) (fun _ => ?_)
            refine lv_aload_n hx hb dX8_target_108 rfl (lv_at hl 3 rfl) ?_
            refine lv_iload hx hb dX8_target_109 (lv_at hl 0 rfl) ?_
            refine lv_bipush (v := 7) hx hb dX8_target_111 (by decide) ?_
            refine lv_iload_n hx hb dX8_target_113 rfl (lv_at hl 5 rfl) ?_
            refine bVV (As := [.int 1, .int 7, .int rp]) (rest := []) (wc := [(mM, .inr (8, [.ref mN, .ref mR, .ref mA, .ref mP, .int u_5_0, .ref mT, .int le, .int sp, .ref mD])), (mN, .inl (cyI, 515, .inl nw))]) (w1 := [(mM, .inr (8, [.ref mN, .ref mR, .ref mA, .ref mP, .int u_5_0, .ref mT, .int le, .int sp, .ref mD])), (mN, .inl (cyI, 515, .inl (upd nw 27 rp)))]) (ws' := [(mM, .inr (8, [.ref mN, .ref mR, .ref mA, .ref mP, .int u_5_0, .ref mT, .int le, .int sp, .ref mD])), (mN, .inl (cyI, 515, .inl (upd nw 27 rp))), (mP, .inl (cyI, 2060, .inl u_5_1))]) (ad := [mM, mN]) (wr := [(mP, .inl (cyI, 2060, .inl u_5_1))]) (nn := 3) (ci := 8) (q0 := 0) X Y (c_tells8 l D cyC cyI mM mN mR mA mP mT mD u_5_0 le sp nw 1 7 rp (upd nw 27 rp) (bTells (i := 27) (by decide) rfl) (bInD (by decide))) gX8_target_X8_tells rfl ⟨rfl, rfl⟩ hd_X8_tells ⟨(Nat.le_of_ble_eq_true rfl), (Nat.le_of_ble_eq_true rfl)⟩ rfl rfl rfl [0, 1] [2] rfl rfl rfl rfl rfl rfl rfl rfl (by decide) rfl rfl hl.1 (Nat.le_of_ble_eq_true rfl) ⟨Nat.zero_le _, Nat.zero_le _⟩ dX8_target_114 (fun H locs Y => ?_)
            refine lv_iinc (v := 2) (lv' := [(5, .int 2), (4, .int (nw 27)), (3, .int 0), (0, .ref mM), (1, .int 1), (2, .int rp)]) hx hb dX8_target_117 hl (k := 0) rfl (by decide) (by decide) rfl (fun ls hl => ?_)
            refine lv_goto (tgt := 92) hx hb dX8_target_120 (by decide) ?_
            refine lv_iload hx hb dX8_target_92 (lv_at hl 0 rfl) ?_
            refine lv_iconst (v := 2) hx hb dX8_target_94 (by decide) ?_
            refine lv_icmp_ge (tgt := 123) hx hb dX8_target_95 (by decide) (fun _ => ?_) (fun c_ => absurd (by decide) c_)
            refine lv_iload hx hb dX8_target_123 (lv_at hl 1 rfl) ?_
            have h9 := (Prod.mk.inj hu).1; replace hu := (Prod.mk.inj hu).2; subst h9
            have h9 := (Prod.mk.inj hu).1; replace hu := (Prod.mk.inj hu).2; subst h9
            have h9 := (Prod.mk.inj hu).1; replace hu := (Prod.mk.inj hu).2; subst h9
            subst hu
            exact bEndI X Y hr hlk dX8_target_125 rfl rfl
          · have c_6 := bB_t c_6
            exact absurd c_6 c_3
        · have c_4 : (nw 27) = rp := c_4
          rw [if_pos c_4] at hu
          refine lv_iconst (v := 1) hx hb dX8_target_57 (by decide) ?_
          refine lv_goto (tgt := 62) hx hb dX8_target_58 (by decide) ?_
          refine lv_istore_n (lv' := [(3, .int 1), (4, .int 1), (0, .ref mM), (1, .int 1), (2, .int rp)]) hx hb dX8_target_62 rfl hl (by decide) rfl (fun ls hl => ?_)
          refine lv_iinc (v := 2) (lv' := [(4, .int 2), (3, .int 1), (0, .ref mM), (1, .int 1), (2, .int rp)]) hx hb dX8_target_63 hl (k := 1) rfl (by decide) (by decide) rfl (fun ls hl => ?_)
          refine lv_goto (tgt := 25) hx hb dX8_target_66 (by decide) ?_
          refine lv_iload hx hb dX8_target_25 (lv_at hl 0 rfl) ?_
          refine lv_iconst (v := 2) hx hb dX8_target_27 (by decide) ?_
          refine lv_icmp_ge (tgt := 69) hx hb dX8_target_28 (by decide) (fun _ => ?_) (fun c_ => absurd (by decide) c_)
          refine lv_iload_n hx hb dX8_target_69 rfl (lv_at hl 1 rfl) ?_
          refine lv_if_eq (tgt := 76) hx hb dX8_target_70 (by decide) (fun c_ => absurd c_ (by decide)) (fun _ => ?_)
          refine lv_bipush (v := (-2)) hx hb dX8_target_73 (by decide) ?_
          have h9 := (Prod.mk.inj hu).1; replace hu := (Prod.mk.inj hu).2; subst h9
          have h9 := (Prod.mk.inj hu).1; replace hu := (Prod.mk.inj hu).2; subst h9
          have h9 := (Prod.mk.inj hu).1; replace hu := (Prod.mk.inj hu).2; subst h9
          subst hu
          exact bEndI X Y hr hlk dX8_target_75 rfl rfl
      · have c_3 := bB_t c_3
        rw [if_pos c_3] at hu
        refine lv_aload_n hx hb dX8_target_45 rfl (lv_at hl 2 rfl) ?_
        refine lv_iload hx hb dX8_target_46 (lv_at hl 0 rfl) ?_
        refine lv_bipush (v := 7) hx hb dX8_target_48 (by decide) ?_
        refine bVI0 (As := [.int 0, .int 7]) (rest := []) (wc := [(mM, .inr (8, [.ref mN, .ref mR, .ref mA, .ref mP, .int ch, .ref mT, .int le, .int sp, .ref mD])), (mN, .inl (cyI, 515, .inl nw))]) (ci := 8) (q0 := 0) X Y (c_of8 l D cyC cyI mM mN mR mA mP mT mD ch le sp nw 0 7 (nw 14) (bOf (i := 14) (by decide) rfl) (bInD (by decide))) gX8_target_X8_of rfl ⟨rfl, rfl⟩ hd_X8_of ⟨(Nat.le_of_ble_eq_true rfl), (Nat.le_of_ble_eq_true rfl)⟩ rfl rfl rfl [0, 1] rfl rfl rfl rfl hl.1 (Nat.le_of_ble_eq_true rfl) ⟨Nat.zero_le _, Nat.zero_le _⟩ dX8_target_50 (fun H locs Y => ?_)
        refine lv_iload_n hx hb dX8_target_53 rfl (lv_at hl 4 rfl) ?_
        refine lv_icmp_ne (tgt := 61) hx hb dX8_target_54 (by decide) (fun c_7 => ?_) (fun c_7 => ?_)
        · have c_7 : ¬ ((nw 14) = rp) := c_7
          rw [if_neg c_7] at hu
          refine lv_iconst (v := 0) hx hb dX8_target_61 (by decide) ?_
          refine lv_istore_n (lv' := [(3, .int 0), (4, .int 0), (0, .ref mM), (1, .int 1), (2, .int rp)]) hx hb dX8_target_62 rfl hl (by decide) rfl (fun ls hl => ?_)
          refine lv_iinc (v := 1) (lv' := [(4, .int 1), (3, .int 0), (0, .ref mM), (1, .int 1), (2, .int rp)]) hx hb dX8_target_63 hl (k := 1) rfl (by decide) (by decide) rfl (fun ls hl => ?_)
          refine lv_goto (tgt := 25) hx hb dX8_target_66 (by decide) ?_
          refine lv_iload hx hb dX8_target_25 (lv_at hl 0 rfl) ?_
          refine lv_iconst (v := 2) hx hb dX8_target_27 (by decide) ?_
          refine lv_icmp_ge (tgt := 69) hx hb dX8_target_28 (by decide) (fun c_ => absurd c_ (by decide)) (fun _ => ?_)
          refine lv_iload_n hx hb dX8_target_31 rfl (lv_at hl 1 rfl) ?_
          refine lv_if_eq (tgt := 61) hx hb dX8_target_32 (by decide) (fun _ => ?_) (fun c_ => absurd (by decide) c_)
          refine lv_iconst (v := 0) hx hb dX8_target_61 (by decide) ?_
          refine lv_istore_n (lv' := [(3, .int 0), (4, .int 1), (0, .ref mM), (1, .int 1), (2, .int rp)]) hx hb dX8_target_62 rfl hl (by decide) rfl (fun ls hl => ?_)
          refine lv_iinc (v := 2) (lv' := [(4, .int 2), (3, .int 0), (0, .ref mM), (1, .int 1), (2, .int rp)]) hx hb dX8_target_63 hl (k := 1) rfl (by decide) (by decide) rfl (fun ls hl => ?_)
          refine lv_goto (tgt := 25) hx hb dX8_target_66 (by decide) ?_
          refine lv_iload hx hb dX8_target_25 (lv_at hl 0 rfl) ?_
          refine lv_iconst (v := 2) hx hb dX8_target_27 (by decide) ?_
          refine lv_icmp_ge (tgt := 69) hx hb dX8_target_28 (by decide) (fun _ => ?_) (fun c_ => absurd (by decide) c_)
          refine lv_iload_n hx hb dX8_target_69 rfl (lv_at hl 1 rfl) ?_
          refine lv_if_eq (tgt := 76) hx hb dX8_target_70 (by decide) (fun _ => ?_) (fun c_ => absurd (by decide) c_)
          refine lv_aload_n hx hb dX8_target_76 rfl (lv_at hl 2 rfl) ?_
          obtain ⟨u_8_0, u_8_1, hr_8⟩ := bEx2 (s_keeps8 ch nw ps)
          rw [hr_8] at hu
          dsimp only at hu
          refine bVV (As := []) (rest := []) (wc := [(mM, .inr (8, [.ref mN, .ref mR, .ref mA, .ref mP, .int ch, .ref mT, .int le, .int sp, .ref mD])), (mN, .inl (cyI, 515, .inl nw)), (mP, .inl (cyI, 2060, .inl ps))]) (w1 := [(mM, .inr (8, [.ref mN, .ref mR, .ref mA, .ref mP, .int u_8_0, .ref mT, .int le, .int sp, .ref mD])), (mN, .inl (cyI, 515, .inl nw)), (mP, .inl (cyI, 2060, .inl u_8_1))]) (ws' := [(mM, .inr (8, [.ref mN, .ref mR, .ref mA, .ref mP, .int u_8_0, .ref mT, .int le, .int sp, .ref mD])), (mN, .inl (cyI, 515, .inl nw)), (mP, .inl (cyI, 2060, .inl u_8_1))]) (ad := [mM, mN, mP]) (wr := []) (nn := 3) (ci := 8) (q0 := 0) X Y (c_keeps8 l D cyC cyI mM mN mR mA mP mT mD ch le sp nw ps u_8_0 u_8_1 hr_8 (by first | assumption | omega | decide)) gX8_target_X8_keeps rfl ⟨rfl, rfl⟩ hd_X8_keeps ⟨(Nat.le_of_ble_eq_true rfl), (Nat.le_of_ble_eq_true rfl)⟩ rfl rfl rfl [0, 1, 2] [] rfl rfl rfl rfl rfl rfl rfl rfl (by decide) rfl rfl hl.1 (Nat.le_of_ble_eq_true rfl) ⟨Nat.zero_le _, Nat.zero_le _⟩ dX8_target_77 (fun H locs Y => ?_)
          refine lv_aload_n hx hb dX8_target_80 rfl (lv_at hl 2 rfl) ?_
          refine lv_iload_n hx hb dX8_target_81 rfl (lv_at hl 3 rfl) ?_
          refine lv_bipush (v := 7) hx hb dX8_target_82 (by decide) ?_
          refine bVI0 (As := [.int 1, .int 7]) (rest := []) (wc := [(mM, .inr (8, [.ref mN, .ref mR, .ref mA, .ref mP, .int u_8_0, .ref mT, .int le, .int sp, .ref mD])), (mN, .inl (cyI, 515, .inl nw))]) (ci := 8) (q0 := 0) X Y (c_of8 l D cyC cyI mM mN mR mA mP mT mD u_8_0 le sp nw 1 7 (nw 27) (bOf (i := 27) (by decide) rfl) (bInD (by decide))) gX8_target_X8_of rfl ⟨rfl, rfl⟩ hd_X8_of ⟨(Nat.le_of_ble_eq_true rfl), (Nat.le_of_ble_eq_true rfl)⟩ rfl rfl rfl [0, 1] rfl rfl rfl rfl hl.1 (Nat.le_of_ble_eq_true rfl) ⟨Nat.zero_le _, Nat.zero_le _⟩ dX8_target_84 (fun H locs Y => ?_)
          refine lv_istore (lv' := [(4, .int (nw 27)), (3, .int 0), (0, .ref mM), (1, .int 1), (2, .int rp)]) hx hb dX8_target_87 hl (by decide) rfl (fun ls hl => ?_)
          refine lv_iconst (v := 0) hx hb dX8_target_89 (by decide) ?_
          refine lv_istore (lv' := [(5, .int 0), (4, .int (nw 27)), (3, .int 0), (0, .ref mM), (1, .int 1), (2, .int rp)]) hx hb dX8_target_90 hl (by decide) rfl (fun ls hl => ?_)
          refine lv_iload hx hb dX8_target_92 (lv_at hl 0 rfl) ?_
          refine lv_iconst (v := 2) hx hb dX8_target_94 (by decide) ?_
          refine lv_icmp_ge (tgt := 123) hx hb dX8_target_95 (by decide) (fun c_ => absurd c_ (by decide)) (fun _ => ?_)
          refine lv_aload_n hx hb dX8_target_98 rfl (lv_at hl 3 rfl) ?_
          refine lv_iload hx hb dX8_target_99 (lv_at hl 0 rfl) ?_
          refine lv_iload_n hx hb dX8_target_101 rfl (lv_at hl 4 rfl) ?_
          refine bVI0 (As := [.int 0, .int 1]) (rest := []) (wc := [(mM, .inr (8, [.ref mN, .ref mR, .ref mA, .ref mP, .int u_8_0, .ref mT, .int le, .int sp, .ref mD])), (mN, .inl (cyI, 515, .inl nw))]) (ci := 8) (q0 := 0) X Y (c_heeds8_01 l D cyC cyI mM mN mR mA mP mT mD u_8_0 le sp nw (s_heeds8_01 nw) rfl) gX8_target_X8_heeds rfl ⟨rfl, rfl⟩ hd_X8_heeds ⟨(Nat.le_of_ble_eq_true rfl), (Nat.le_of_ble_eq_true rfl)⟩ rfl rfl rfl [0, 1] rfl rfl rfl rfl hl.1 (Nat.le_of_ble_eq_true rfl) ⟨Nat.zero_le _, Nat.zero_le _⟩ dX8_target_102 (fun H locs Y => ?_)
          refine lv_if_eq (tgt := 117) hx hb dX8_target_105 (by decide) (fun c_9 => ?_) (fun c_9 => ?_)
          · have c_9 := bB_f c_9
            exact absurd c_3 c_9
          · have c_9 := bB_t c_9
            refine lv_aload_n hx hb dX8_target_108 rfl (lv_at hl 3 rfl) ?_
            refine lv_iload hx hb dX8_target_109 (lv_at hl 0 rfl) ?_
            refine lv_bipush (v := 7) hx hb dX8_target_111 (by decide) ?_
            refine lv_iload_n hx hb dX8_target_113 rfl (lv_at hl 5 rfl) ?_
            refine bVV (As := [.int 0, .int 7, .int rp]) (rest := []) (wc := [(mM, .inr (8, [.ref mN, .ref mR, .ref mA, .ref mP, .int u_8_0, .ref mT, .int le, .int sp, .ref mD])), (mN, .inl (cyI, 515, .inl nw))]) (w1 := [(mM, .inr (8, [.ref mN, .ref mR, .ref mA, .ref mP, .int u_8_0, .ref mT, .int le, .int sp, .ref mD])), (mN, .inl (cyI, 515, .inl (upd nw 14 rp)))]) (ws' := [(mM, .inr (8, [.ref mN, .ref mR, .ref mA, .ref mP, .int u_8_0, .ref mT, .int le, .int sp, .ref mD])), (mN, .inl (cyI, 515, .inl (upd nw 14 rp))), (mP, .inl (cyI, 2060, .inl u_8_1))]) (ad := [mM, mN]) (wr := [(mP, .inl (cyI, 2060, .inl u_8_1))]) (nn := 3) (ci := 8) (q0 := 0) X Y (c_tells8 l D cyC cyI mM mN mR mA mP mT mD u_8_0 le sp nw 0 7 rp (upd nw 14 rp) (bTells (i := 14) (by decide) rfl) (bInD (by decide))) gX8_target_X8_tells rfl ⟨rfl, rfl⟩ hd_X8_tells ⟨(Nat.le_of_ble_eq_true rfl), (Nat.le_of_ble_eq_true rfl)⟩ rfl rfl rfl [0, 1] [2] rfl rfl rfl rfl rfl rfl rfl rfl (by decide) rfl rfl hl.1 (Nat.le_of_ble_eq_true rfl) ⟨Nat.zero_le _, Nat.zero_le _⟩ dX8_target_114 (fun H locs Y => ?_)
            refine lv_iinc (v := 1) (lv' := [(5, .int 1), (4, .int (nw 27)), (3, .int 0), (0, .ref mM), (1, .int 1), (2, .int rp)]) hx hb dX8_target_117 hl (k := 0) rfl (by decide) (by decide) rfl (fun ls hl => ?_)
            refine lv_goto (tgt := 92) hx hb dX8_target_120 (by decide) ?_
            refine lv_iload hx hb dX8_target_92 (lv_at hl 0 rfl) ?_
            refine lv_iconst (v := 2) hx hb dX8_target_94 (by decide) ?_
            refine lv_icmp_ge (tgt := 123) hx hb dX8_target_95 (by decide) (fun c_ => absurd c_ (by decide)) (fun _ => ?_)
            refine lv_aload_n hx hb dX8_target_98 rfl (lv_at hl 3 rfl) ?_
            refine lv_iload hx hb dX8_target_99 (lv_at hl 0 rfl) ?_
            refine lv_iload_n hx hb dX8_target_101 rfl (lv_at hl 4 rfl) ?_
            refine bVI0 (As := [.int 1, .int 1]) (rest := []) (wc := [(mM, .inr (8, [.ref mN, .ref mR, .ref mA, .ref mP, .int u_8_0, .ref mT, .int le, .int sp, .ref mD])), (mN, .inl (cyI, 515, .inl (upd nw 14 rp)))]) (ci := 8) (q0 := 0) X Y (c_heeds8_11 l D cyC cyI mM mN mR mA mP mT mD u_8_0 le sp (upd nw 14 rp) true rfl) gX8_target_X8_heeds rfl ⟨rfl, rfl⟩ hd_X8_heeds ⟨(Nat.le_of_ble_eq_true rfl), (Nat.le_of_ble_eq_true rfl)⟩ rfl rfl rfl [0, 1] rfl rfl rfl rfl hl.1 (Nat.le_of_ble_eq_true rfl) ⟨Nat.zero_le _, Nat.zero_le _⟩ dX8_target_102 (fun H locs Y => ?_)
            refine lv_if_eq (tgt := 117) hx hb dX8_target_105 (by decide) (fun c_ => absurd c_ (by decide)) (fun _ => ?_)
            refine lv_aload_n hx hb dX8_target_108 rfl (lv_at hl 3 rfl) ?_
            refine lv_iload hx hb dX8_target_109 (lv_at hl 0 rfl) ?_
            refine lv_bipush (v := 7) hx hb dX8_target_111 (by decide) ?_
            refine lv_iload_n hx hb dX8_target_113 rfl (lv_at hl 5 rfl) ?_
            refine bVV (As := [.int 1, .int 7, .int rp]) (rest := []) (wc := [(mM, .inr (8, [.ref mN, .ref mR, .ref mA, .ref mP, .int u_8_0, .ref mT, .int le, .int sp, .ref mD])), (mN, .inl (cyI, 515, .inl (upd nw 14 rp)))]) (w1 := [(mM, .inr (8, [.ref mN, .ref mR, .ref mA, .ref mP, .int u_8_0, .ref mT, .int le, .int sp, .ref mD])), (mN, .inl (cyI, 515, .inl (upd (upd nw 14 rp) 27 rp)))]) (ws' := [(mM, .inr (8, [.ref mN, .ref mR, .ref mA, .ref mP, .int u_8_0, .ref mT, .int le, .int sp, .ref mD])), (mN, .inl (cyI, 515, .inl (upd (upd nw 14 rp) 27 rp))), (mP, .inl (cyI, 2060, .inl u_8_1))]) (ad := [mM, mN]) (wr := [(mP, .inl (cyI, 2060, .inl u_8_1))]) (nn := 3) (ci := 8) (q0 := 0) X Y (c_tells8 l D cyC cyI mM mN mR mA mP mT mD u_8_0 le sp (upd nw 14 rp) 1 7 rp (upd (upd nw 14 rp) 27 rp) (bTells (i := 27) (by decide) rfl) (bInD (by decide))) gX8_target_X8_tells rfl ⟨rfl, rfl⟩ hd_X8_tells ⟨(Nat.le_of_ble_eq_true rfl), (Nat.le_of_ble_eq_true rfl)⟩ rfl rfl rfl [0, 1] [2] rfl rfl rfl rfl rfl rfl rfl rfl (by decide) rfl rfl hl.1 (Nat.le_of_ble_eq_true rfl) ⟨Nat.zero_le _, Nat.zero_le _⟩ dX8_target_114 (fun H locs Y => ?_)
            refine lv_iinc (v := 2) (lv' := [(5, .int 2), (4, .int (nw 27)), (3, .int 0), (0, .ref mM), (1, .int 1), (2, .int rp)]) hx hb dX8_target_117 hl (k := 0) rfl (by decide) (by decide) rfl (fun ls hl => ?_)
            refine lv_goto (tgt := 92) hx hb dX8_target_120 (by decide) ?_
            refine lv_iload hx hb dX8_target_92 (lv_at hl 0 rfl) ?_
            refine lv_iconst (v := 2) hx hb dX8_target_94 (by decide) ?_
            refine lv_icmp_ge (tgt := 123) hx hb dX8_target_95 (by decide) (fun _ => ?_) (fun c_ => absurd (by decide) c_)
            refine lv_iload hx hb dX8_target_123 (lv_at hl 1 rfl) ?_
            have h9 := (Prod.mk.inj hu).1; replace hu := (Prod.mk.inj hu).2; subst h9
            have h9 := (Prod.mk.inj hu).1; replace hu := (Prod.mk.inj hu).2; subst h9
            have h9 := (Prod.mk.inj hu).1; replace hu := (Prod.mk.inj hu).2; subst h9
            subst hu
            exact bEndI X Y hr hlk dX8_target_125 rfl rfl
        · have c_7 : (nw 14) = rp := c_7
          rw [if_pos c_7] at hu
          refine lv_iconst (v := 1) hx hb dX8_target_57 (by decide) ?_
          refine lv_goto (tgt := 62) hx hb dX8_target_58 (by decide) ?_
          refine lv_istore_n (lv' := [(3, .int 1), (4, .int 0), (0, .ref mM), (1, .int 1), (2, .int rp)]) hx hb dX8_target_62 rfl hl (by decide) rfl (fun ls hl => ?_)
          refine lv_iinc (v := 1) (lv' := [(4, .int 1), (3, .int 1), (0, .ref mM), (1, .int 1), (2, .int rp)]) hx hb dX8_target_63 hl (k := 1) rfl (by decide) (by decide) rfl (fun ls hl => ?_)
          refine lv_goto (tgt := 25) hx hb dX8_target_66 (by decide) ?_
          refine lv_iload hx hb dX8_target_25 (lv_at hl 0 rfl) ?_
          refine lv_iconst (v := 2) hx hb dX8_target_27 (by decide) ?_
          refine lv_icmp_ge (tgt := 69) hx hb dX8_target_28 (by decide) (fun c_ => absurd c_ (by decide)) (fun _ => ?_)
          refine lv_iload_n hx hb dX8_target_31 rfl (lv_at hl 1 rfl) ?_
          refine lv_if_eq (tgt := 61) hx hb dX8_target_32 (by decide) (fun c_ => absurd c_ (by decide)) (fun _ => ?_)
          refine lv_aload_n hx hb dX8_target_35 rfl (lv_at hl 2 rfl) ?_
          refine lv_iload hx hb dX8_target_36 (lv_at hl 0 rfl) ?_
          refine lv_iload_n hx hb dX8_target_38 rfl (lv_at hl 3 rfl) ?_
          refine bVI0 (As := [.int 1, .int 1]) (rest := []) (wc := [(mM, .inr (8, [.ref mN, .ref mR, .ref mA, .ref mP, .int ch, .ref mT, .int le, .int sp, .ref mD])), (mN, .inl (cyI, 515, .inl nw))]) (ci := 8) (q0 := 0) X Y (c_heeds8_11 l D cyC cyI mM mN mR mA mP mT mD ch le sp nw true rfl) gX8_target_X8_heeds rfl ⟨rfl, rfl⟩ hd_X8_heeds ⟨(Nat.le_of_ble_eq_true rfl), (Nat.le_of_ble_eq_true rfl)⟩ rfl rfl rfl [0, 1] rfl rfl rfl rfl hl.1 (Nat.le_of_ble_eq_true rfl) ⟨Nat.zero_le _, Nat.zero_le _⟩ dX8_target_39 (fun H locs Y => ?_)
          refine lv_if_eq (tgt := 57) hx hb dX8_target_42 (by decide) (fun c_ => absurd c_ (by decide)) (fun _ => ?_)
          refine lv_aload_n hx hb dX8_target_45 rfl (lv_at hl 2 rfl) ?_
          refine lv_iload hx hb dX8_target_46 (lv_at hl 0 rfl) ?_
          refine lv_bipush (v := 7) hx hb dX8_target_48 (by decide) ?_
          refine bVI0 (As := [.int 1, .int 7]) (rest := []) (wc := [(mM, .inr (8, [.ref mN, .ref mR, .ref mA, .ref mP, .int ch, .ref mT, .int le, .int sp, .ref mD])), (mN, .inl (cyI, 515, .inl nw))]) (ci := 8) (q0 := 0) X Y (c_of8 l D cyC cyI mM mN mR mA mP mT mD ch le sp nw 1 7 (nw 27) (bOf (i := 27) (by decide) rfl) (bInD (by decide))) gX8_target_X8_of rfl ⟨rfl, rfl⟩ hd_X8_of ⟨(Nat.le_of_ble_eq_true rfl), (Nat.le_of_ble_eq_true rfl)⟩ rfl rfl rfl [0, 1] rfl rfl rfl rfl hl.1 (Nat.le_of_ble_eq_true rfl) ⟨Nat.zero_le _, Nat.zero_le _⟩ dX8_target_50 (fun H locs Y => ?_)
          refine lv_iload_n hx hb dX8_target_53 rfl (lv_at hl 4 rfl) ?_
          refine lv_icmp_ne (tgt := 61) hx hb dX8_target_54 (by decide) (fun c_10 => ?_) (fun c_10 => ?_)
          · have c_10 : ¬ ((nw 27) = rp) := c_10
            rw [if_neg c_10] at hu
            refine lv_iconst (v := 0) hx hb dX8_target_61 (by decide) ?_
            refine lv_istore_n (lv' := [(3, .int 0), (4, .int 1), (0, .ref mM), (1, .int 1), (2, .int rp)]) hx hb dX8_target_62 rfl hl (by decide) rfl (fun ls hl => ?_)
            refine lv_iinc (v := 2) (lv' := [(4, .int 2), (3, .int 0), (0, .ref mM), (1, .int 1), (2, .int rp)]) hx hb dX8_target_63 hl (k := 1) rfl (by decide) (by decide) rfl (fun ls hl => ?_)
            refine lv_goto (tgt := 25) hx hb dX8_target_66 (by decide) ?_
            refine lv_iload hx hb dX8_target_25 (lv_at hl 0 rfl) ?_
            refine lv_iconst (v := 2) hx hb dX8_target_27 (by decide) ?_
            refine lv_icmp_ge (tgt := 69) hx hb dX8_target_28 (by decide) (fun _ => ?_) (fun c_ => absurd (by decide) c_)
            refine lv_iload_n hx hb dX8_target_69 rfl (lv_at hl 1 rfl) ?_
            refine lv_if_eq (tgt := 76) hx hb dX8_target_70 (by decide) (fun _ => ?_) (fun c_ => absurd (by decide) c_)
            refine lv_aload_n hx hb dX8_target_76 rfl (lv_at hl 2 rfl) ?_
            obtain ⟨u_11_0, u_11_1, hr_11⟩ := bEx2 (s_keeps8 ch nw ps)
            rw [hr_11] at hu
            dsimp only at hu
            refine bVV (As := []) (rest := []) (wc := [(mM, .inr (8, [.ref mN, .ref mR, .ref mA, .ref mP, .int ch, .ref mT, .int le, .int sp, .ref mD])), (mN, .inl (cyI, 515, .inl nw)), (mP, .inl (cyI, 2060, .inl ps))]) (w1 := [(mM, .inr (8, [.ref mN, .ref mR, .ref mA, .ref mP, .int u_11_0, .ref mT, .int le, .int sp, .ref mD])), (mN, .inl (cyI, 515, .inl nw)), (mP, .inl (cyI, 2060, .inl u_11_1))]) (ws' := [(mM, .inr (8, [.ref mN, .ref mR, .ref mA, .ref mP, .int u_11_0, .ref mT, .int le, .int sp, .ref mD])), (mN, .inl (cyI, 515, .inl nw)), (mP, .inl (cyI, 2060, .inl u_11_1))]) (ad := [mM, mN, mP]) (wr := []) (nn := 3) (ci := 8) (q0 := 0) X Y (c_keeps8 l D cyC cyI mM mN mR mA mP mT mD ch le sp nw ps u_11_0 u_11_1 hr_11 (by first | assumption | omega | decide)) gX8_target_X8_keeps rfl ⟨rfl, rfl⟩ hd_X8_keeps ⟨(Nat.le_of_ble_eq_true rfl), (Nat.le_of_ble_eq_true rfl)⟩ rfl rfl rfl [0, 1, 2] [] rfl rfl rfl rfl rfl rfl rfl rfl (by decide) rfl rfl hl.1 (Nat.le_of_ble_eq_true rfl) ⟨Nat.zero_le _, Nat.zero_le _⟩ dX8_target_77 (fun H locs Y => ?_)
            refine lv_aload_n hx hb dX8_target_80 rfl (lv_at hl 2 rfl) ?_
            refine lv_iload_n hx hb dX8_target_81 rfl (lv_at hl 3 rfl) ?_
            refine lv_bipush (v := 7) hx hb dX8_target_82 (by decide) ?_
            refine bVI0 (As := [.int 1, .int 7]) (rest := []) (wc := [(mM, .inr (8, [.ref mN, .ref mR, .ref mA, .ref mP, .int u_11_0, .ref mT, .int le, .int sp, .ref mD])), (mN, .inl (cyI, 515, .inl nw))]) (ci := 8) (q0 := 0) X Y (c_of8 l D cyC cyI mM mN mR mA mP mT mD u_11_0 le sp nw 1 7 (nw 27) (bOf (i := 27) (by decide) rfl) (bInD (by decide))) gX8_target_X8_of rfl ⟨rfl, rfl⟩ hd_X8_of ⟨(Nat.le_of_ble_eq_true rfl), (Nat.le_of_ble_eq_true rfl)⟩ rfl rfl rfl [0, 1] rfl rfl rfl rfl hl.1 (Nat.le_of_ble_eq_true rfl) ⟨Nat.zero_le _, Nat.zero_le _⟩ dX8_target_84 (fun H locs Y => ?_)
            refine lv_istore (lv' := [(4, .int (nw 27)), (3, .int 0), (0, .ref mM), (1, .int 1), (2, .int rp)]) hx hb dX8_target_87 hl (by decide) rfl (fun ls hl => ?_)
            refine lv_iconst (v := 0) hx hb dX8_target_89 (by decide) ?_
            refine lv_istore (lv' := [(5, .int 0), (4, .int (nw 27)), (3, .int 0), (0, .ref mM), (1, .int 1), (2, .int rp)]) hx hb dX8_target_90 hl (by decide) rfl (fun ls hl => ?_)
            refine lv_iload hx hb dX8_target_92 (lv_at hl 0 rfl) ?_
            refine lv_iconst (v := 2) hx hb dX8_target_94 (by decide) ?_
            refine lv_icmp_ge (tgt := 123) hx hb dX8_target_95 (by decide) (fun c_ => absurd c_ (by decide)) (fun _ => ?_)
            refine lv_aload_n hx hb dX8_target_98 rfl (lv_at hl 3 rfl) ?_
            refine lv_iload hx hb dX8_target_99 (lv_at hl 0 rfl) ?_
            refine lv_iload_n hx hb dX8_target_101 rfl (lv_at hl 4 rfl) ?_
            refine bVI0 (As := [.int 0, .int 1]) (rest := []) (wc := [(mM, .inr (8, [.ref mN, .ref mR, .ref mA, .ref mP, .int u_11_0, .ref mT, .int le, .int sp, .ref mD])), (mN, .inl (cyI, 515, .inl nw))]) (ci := 8) (q0 := 0) X Y (c_heeds8_01 l D cyC cyI mM mN mR mA mP mT mD u_11_0 le sp nw (s_heeds8_01 nw) rfl) gX8_target_X8_heeds rfl ⟨rfl, rfl⟩ hd_X8_heeds ⟨(Nat.le_of_ble_eq_true rfl), (Nat.le_of_ble_eq_true rfl)⟩ rfl rfl rfl [0, 1] rfl rfl rfl rfl hl.1 (Nat.le_of_ble_eq_true rfl) ⟨Nat.zero_le _, Nat.zero_le _⟩ dX8_target_102 (fun H locs Y => ?_)
            refine lv_if_eq (tgt := 117) hx hb dX8_target_105 (by decide) (fun c_12 => ?_) (fun c_12 => ?_)
            · have c_12 := bB_f c_12
              exact absurd c_3 c_12
            · have c_12 := bB_t c_12
              refine lv_aload_n hx hb dX8_target_108 rfl (lv_at hl 3 rfl) ?_
              refine lv_iload hx hb dX8_target_109 (lv_at hl 0 rfl) ?_
              refine lv_bipush (v := 7) hx hb dX8_target_111 (by decide) ?_
              refine lv_iload_n hx hb dX8_target_113 rfl (lv_at hl 5 rfl) ?_
              refine bVV (As := [.int 0, .int 7, .int rp]) (rest := []) (wc := [(mM, .inr (8, [.ref mN, .ref mR, .ref mA, .ref mP, .int u_11_0, .ref mT, .int le, .int sp, .ref mD])), (mN, .inl (cyI, 515, .inl nw))]) (w1 := [(mM, .inr (8, [.ref mN, .ref mR, .ref mA, .ref mP, .int u_11_0, .ref mT, .int le, .int sp, .ref mD])), (mN, .inl (cyI, 515, .inl (upd nw 14 rp)))]) (ws' := [(mM, .inr (8, [.ref mN, .ref mR, .ref mA, .ref mP, .int u_11_0, .ref mT, .int le, .int sp, .ref mD])), (mN, .inl (cyI, 515, .inl (upd nw 14 rp))), (mP, .inl (cyI, 2060, .inl u_11_1))]) (ad := [mM, mN]) (wr := [(mP, .inl (cyI, 2060, .inl u_11_1))]) (nn := 3) (ci := 8) (q0 := 0) X Y (c_tells8 l D cyC cyI mM mN mR mA mP mT mD u_11_0 le sp nw 0 7 rp (upd nw 14 rp) (bTells (i := 14) (by decide) rfl) (bInD (by decide))) gX8_target_X8_tells rfl ⟨rfl, rfl⟩ hd_X8_tells ⟨(Nat.le_of_ble_eq_true rfl), (Nat.le_of_ble_eq_true rfl)⟩ rfl rfl rfl [0, 1] [2] rfl rfl rfl rfl rfl rfl rfl rfl (by decide) rfl rfl hl.1 (Nat.le_of_ble_eq_true rfl) ⟨Nat.zero_le _, Nat.zero_le _⟩ dX8_target_114 (fun H locs Y => ?_)
              refine lv_iinc (v := 1) (lv' := [(5, .int 1), (4, .int (nw 27)), (3, .int 0), (0, .ref mM), (1, .int 1), (2, .int rp)]) hx hb dX8_target_117 hl (k := 0) rfl (by decide) (by decide) rfl (fun ls hl => ?_)
              refine lv_goto (tgt := 92) hx hb dX8_target_120 (by decide) ?_
              refine lv_iload hx hb dX8_target_92 (lv_at hl 0 rfl) ?_
              refine lv_iconst (v := 2) hx hb dX8_target_94 (by decide) ?_
              refine lv_icmp_ge (tgt := 123) hx hb dX8_target_95 (by decide) (fun c_ => absurd c_ (by decide)) (fun _ => ?_)
              refine lv_aload_n hx hb dX8_target_98 rfl (lv_at hl 3 rfl) ?_
              refine lv_iload hx hb dX8_target_99 (lv_at hl 0 rfl) ?_
              refine lv_iload_n hx hb dX8_target_101 rfl (lv_at hl 4 rfl) ?_
              refine bVI0 (As := [.int 1, .int 1]) (rest := []) (wc := [(mM, .inr (8, [.ref mN, .ref mR, .ref mA, .ref mP, .int u_11_0, .ref mT, .int le, .int sp, .ref mD])), (mN, .inl (cyI, 515, .inl (upd nw 14 rp)))]) (ci := 8) (q0 := 0) X Y (c_heeds8_11 l D cyC cyI mM mN mR mA mP mT mD u_11_0 le sp (upd nw 14 rp) true rfl) gX8_target_X8_heeds rfl ⟨rfl, rfl⟩ hd_X8_heeds ⟨(Nat.le_of_ble_eq_true rfl), (Nat.le_of_ble_eq_true rfl)⟩ rfl rfl rfl [0, 1] rfl rfl rfl rfl hl.1 (Nat.le_of_ble_eq_true rfl) ⟨Nat.zero_le _, Nat.zero_le _⟩ dX8_target_102 (fun H locs Y => ?_)
              refine lv_if_eq (tgt := 117) hx hb dX8_target_105 (by decide) (fun c_ => absurd c_ (by decide)) (fun _ => ?_)
              refine lv_aload_n hx hb dX8_target_108 rfl (lv_at hl 3 rfl) ?_
              refine lv_iload hx hb dX8_target_109 (lv_at hl 0 rfl) ?_
              refine lv_bipush (v := 7) hx hb dX8_target_111 (by decide) ?_
              refine lv_iload_n hx hb dX8_target_113 rfl (lv_at hl 5 rfl) ?_
              refine bVV (As := [.int 1, .int 7, .int rp]) (rest := []) (wc := [(mM, .inr (8, [.ref mN, .ref mR, .ref mA, .ref mP, .int u_11_0, .ref mT, .int le, .int sp, .ref mD])), (mN, .inl (cyI, 515, .inl (upd nw 14 rp)))]) (w1 := [(mM, .inr (8, [.ref mN, .ref mR, .ref mA, .ref mP, .int u_11_0, .ref mT, .int le, .int sp, .ref mD])), (mN, .inl (cyI, 515, .inl (upd (upd nw 14 rp) 27 rp)))]) (ws' := [(mM, .inr (8, [.ref mN, .ref mR, .ref mA, .ref mP, .int u_11_0, .ref mT, .int le, .int sp, .ref mD])), (mN, .inl (cyI, 515, .inl (upd (upd nw 14 rp) 27 rp))), (mP, .inl (cyI, 2060, .inl u_11_1))]) (ad := [mM, mN]) (wr := [(mP, .inl (cyI, 2060, .inl u_11_1))]) (nn := 3) (ci := 8) (q0 := 0) X Y (c_tells8 l D cyC cyI mM mN mR mA mP mT mD u_11_0 le sp (upd nw 14 rp) 1 7 rp (upd (upd nw 14 rp) 27 rp) (bTells (i := 27) (by decide) rfl) (bInD (by decide))) gX8_target_X8_tells rfl ⟨rfl, rfl⟩ hd_X8_tells ⟨(Nat.le_of_ble_eq_true rfl), (Nat.le_of_ble_eq_true rfl)⟩ rfl rfl rfl [0, 1] [2] rfl rfl rfl rfl rfl rfl rfl rfl (by decide) rfl rfl hl.1 (Nat.le_of_ble_eq_true rfl) ⟨Nat.zero_le _, Nat.zero_le _⟩ dX8_target_114 (fun H locs Y => ?_)
              refine lv_iinc (v := 2) (lv' := [(5, .int 2), (4, .int (nw 27)), (3, .int 0), (0, .ref mM), (1, .int 1), (2, .int rp)]) hx hb dX8_target_117 hl (k := 0) rfl (by decide) (by decide) rfl (fun ls hl => ?_)
              refine lv_goto (tgt := 92) hx hb dX8_target_120 (by decide) ?_
              refine lv_iload hx hb dX8_target_92 (lv_at hl 0 rfl) ?_
              refine lv_iconst (v := 2) hx hb dX8_target_94 (by decide) ?_
              refine lv_icmp_ge (tgt := 123) hx hb dX8_target_95 (by decide) (fun _ => ?_) (fun c_ => absurd (by decide) c_)
              refine lv_iload hx hb dX8_target_123 (lv_at hl 1 rfl) ?_
              have h9 := (Prod.mk.inj hu).1; replace hu := (Prod.mk.inj hu).2; subst h9
              have h9 := (Prod.mk.inj hu).1; replace hu := (Prod.mk.inj hu).2; subst h9
              have h9 := (Prod.mk.inj hu).1; replace hu := (Prod.mk.inj hu).2; subst h9
              subst hu
              exact bEndI X Y hr hlk dX8_target_125 rfl rfl
          · have c_10 : (nw 27) = rp := c_10
            rw [if_pos c_10] at hu
            refine lv_iconst (v := 1) hx hb dX8_target_57 (by decide) ?_
            refine lv_goto (tgt := 62) hx hb dX8_target_58 (by decide) ?_
            refine lv_istore_n (lv' := [(3, .int 1), (4, .int 1), (0, .ref mM), (1, .int 1), (2, .int rp)]) hx hb dX8_target_62 rfl hl (by decide) rfl (fun ls hl => ?_)
            refine lv_iinc (v := 2) (lv' := [(4, .int 2), (3, .int 1), (0, .ref mM), (1, .int 1), (2, .int rp)]) hx hb dX8_target_63 hl (k := 1) rfl (by decide) (by decide) rfl (fun ls hl => ?_)
            refine lv_goto (tgt := 25) hx hb dX8_target_66 (by decide) ?_
            refine lv_iload hx hb dX8_target_25 (lv_at hl 0 rfl) ?_
            refine lv_iconst (v := 2) hx hb dX8_target_27 (by decide) ?_
            refine lv_icmp_ge (tgt := 69) hx hb dX8_target_28 (by decide) (fun _ => ?_) (fun c_ => absurd (by decide) c_)
            refine lv_iload_n hx hb dX8_target_69 rfl (lv_at hl 1 rfl) ?_
            refine lv_if_eq (tgt := 76) hx hb dX8_target_70 (by decide) (fun c_ => absurd c_ (by decide)) (fun _ => ?_)
            refine lv_bipush (v := (-2)) hx hb dX8_target_73 (by decide) ?_
            have h9 := (Prod.mk.inj hu).1; replace hu := (Prod.mk.inj hu).2; subst h9
            have h9 := (Prod.mk.inj hu).1; replace hu := (Prod.mk.inj hu).2; subst h9
            have h9 := (Prod.mk.inj hu).1; replace hu := (Prod.mk.inj hu).2; subst h9
            subst hu
            exact bEndI X Y hr hlk dX8_target_75 rfl rfl
    · have c_2 := bB_f c_2
      rw [if_neg c_2] at hu
      refine lv_iconst (v := (-1)) hx hb dX8_target_18 (by decide) ?_
      have h9 := (Prod.mk.inj hu).1; replace hu := (Prod.mk.inj hu).2; subst h9
      have h9 := (Prod.mk.inj hu).1; replace hu := (Prod.mk.inj hu).2; subst h9
      have h9 := (Prod.mk.inj hu).1; replace hu := (Prod.mk.inj hu).2; subst h9
      subst hu
      exact bEndI X Y hr hlk dX8_target_19 rfl rfl
def s_target8_b : Int32 :=
  (-1)
set_option maxHeartbeats 4000000 in
set_option maxRecDepth 100000 in
theorem c_target8_b (l : Launch) (D : va_G) (cyC cyI : ClassId) (mM : Nat) (mN : Nat) (mR : Nat) (mA : Nat) (mP : Nat) (mT : Nat) (mD : Nat) (ch : Int32) (le : Int32) (sp : Int32) (c : Int32) (rp : Int32) (o0 : Int32) (hu : s_target8_b = o0) (hc0 : ¬ c = 0) (hc1 : ¬ c = 1) : CI l yX8_target wsX8_target { frames := 1, cells := 0, slots := 0, locals := 20 } D cyC cyI [.ref mM, .int c, .int rp] [(mM, .inr (8, [.ref mN, .ref mR, .ref mA, .ref mP, .int ch, .ref mT, .int le, .int sp, .ref mD]))] o0 [(mM, .inr (8, [.ref mN, .ref mR, .ref mA, .ref mP, .int ch, .ref mT, .int le, .int sp, .ref mD]))] := by
  refine CI.of (cc := cX8_target) (n := 6) (ret := (some .int)) (by decide +kernel) rfl (Nat.le_of_ble_eq_true rfl) ?_
  intro p_ e_ s_ m_ bl_ me_ cd_ A_ ls X Y hr hlk hl
  have hx := X.1.1
  have hb := X.1.2.1
  have hl : lv_has ls 6 [(0, .ref mM), (1, .int c), (2, .int rp)] := hl
  unfold s_target8_b at hu
  refine lv_iload_n hx hb dX8_target_0 rfl (lv_at hl 1 rfl) ?_
  refine bSI (As := [.int c]) (rest := []) X Y (c_isCrane8 l D cyC cyI c (s_isCrane8 c) rfl) gX8_target_X8_isCrane rfl ⟨rfl, rfl⟩ hd_X8_isCrane.2 ⟨(Nat.le_of_ble_eq_true rfl), (Nat.le_of_ble_eq_true rfl)⟩ rfl rfl hl.1 (Nat.le_of_ble_eq_true rfl) ⟨Nat.zero_le _, Nat.zero_le _⟩ dX8_target_1 (fun H locs Y => ?_)
  refine lv_if_eq (tgt := 18) hx hb dX8_target_4 (by decide) (fun c_1 => ?_) (fun c_1 => ?_)
  · have c_1 := bB_f c_1
    refine lv_iconst (v := (-1)) hx hb dX8_target_18 (by decide) ?_
    subst hu
    exact bEndI X Y hr hlk dX8_target_19 rfl rfl
  · have c_1 := bB_t c_1
    exact absurd c_1 (isCrane8_no hc0 hc1)
def s_isQuiet8_0 (nw : Nat → Int32) : Int32 :=
  if (nw 8) = 0 then
    if (nw 13) = 0 then
      if (nw 15) = 0 then
        if 3 < (s_size8 (nw 11)) then
          0
        else
          if 2 < (s_size8 (nw 12)) then
            0
          else
            1
      else
        0
    else
      0
  else
    0
set_option maxHeartbeats 4000000 in
set_option maxRecDepth 100000 in
theorem c_isQuiet8_0 (l : Launch) (D : va_G) (cyC cyI : ClassId) (mM : Nat) (mN : Nat) (mR : Nat) (mA : Nat) (mP : Nat) (mT : Nat) (mD : Nat) (ch : Int32) (le : Int32) (sp : Int32) (nw : Nat → Int32) (o0 : Int32) (hu : s_isQuiet8_0 nw = o0) : CI l yX8_isQuiet wsX8_isQuiet { frames := 1, cells := 0, slots := 0, locals := 22 } D cyC cyI [.ref mM, .int 0] [(mM, .inr (8, [.ref mN, .ref mR, .ref mA, .ref mP, .int ch, .ref mT, .int le, .int sp, .ref mD])), (mN, .inl (cyI, 515, .inl nw))] o0 [(mM, .inr (8, [.ref mN, .ref mR, .ref mA, .ref mP, .int ch, .ref mT, .int le, .int sp, .ref mD])), (mN, .inl (cyI, 515, .inl nw))] := by
  refine CI.of (cc := cX8_isQuiet) (n := 3) (ret := (some .int)) (by decide +kernel) rfl (Nat.le_of_ble_eq_true rfl) ?_
  intro p_ e_ s_ m_ bl_ me_ cd_ A_ ls X Y hr hlk hl
  have hx := X.1.1
  have hb := X.1.2.1
  have hl : lv_has ls 3 [(0, .ref mM), (1, .int 0)] := hl
  unfold s_isQuiet8_0 at hu
  refine lv_aload_n hx hb dX8_isQuiet_0 rfl (lv_at hl 0 rfl) ?_
  refine lv_iload_n hx hb dX8_isQuiet_1 rfl (lv_at hl 1 rfl) ?_
  refine lv_iconst (v := 1) hx hb dX8_isQuiet_2 (by decide) ?_
  refine bVI0 (As := [.int 0, .int 1]) (rest := []) (wc := [(mM, .inr (8, [.ref mN, .ref mR, .ref mA, .ref mP, .int ch, .ref mT, .int le, .int sp, .ref mD])), (mN, .inl (cyI, 515, .inl nw))]) (ci := 8) (q0 := 0) X Y (c_of8 l D cyC cyI mM mN mR mA mP mT mD ch le sp nw 0 1 (nw 8) (bOf (i := 8) (by decide) rfl) (bInD (by decide))) gX8_isQuiet_X8_of rfl ⟨rfl, rfl⟩ hd_X8_of ⟨(Nat.le_of_ble_eq_true rfl), (Nat.le_of_ble_eq_true rfl)⟩ rfl rfl rfl [0, 1] rfl rfl rfl rfl hl.1 (Nat.le_of_ble_eq_true rfl) ⟨Nat.zero_le _, Nat.zero_le _⟩ dX8_isQuiet_3 (fun H locs Y => ?_)
  refine lv_if_ne (tgt := 59) hx hb dX8_isQuiet_6 (by decide) (fun c_1 => ?_) (fun c_1 => ?_)
  · have c_1 : ¬ ((nw 8) = 0) := c_1
    rw [if_neg c_1] at hu
    refine lv_iconst (v := 0) hx hb dX8_isQuiet_59 (by decide) ?_
    refine lv_istore_n (lv' := [(2, .int 0), (0, .ref mM), (1, .int 0)]) hx hb dX8_isQuiet_60 rfl hl (by decide) rfl (fun ls hl => ?_)
    refine lv_iload_n hx hb dX8_isQuiet_61 rfl (lv_at hl 0 rfl) ?_
    refine lv_if_eq (tgt := 69) hx hb dX8_isQuiet_62 (by decide) (fun _ => ?_) (fun c_ => absurd (by decide) c_)
    refine lv_iconst (v := 0) hx hb dX8_isQuiet_69 (by decide) ?_
    subst hu
    exact bEndI X Y hr hlk dX8_isQuiet_70 rfl rfl
  · have c_1 : (nw 8) = 0 := c_1
    rw [if_pos c_1] at hu
    refine lv_aload_n hx hb dX8_isQuiet_9 rfl (lv_at hl 0 rfl) ?_
    refine lv_iload_n hx hb dX8_isQuiet_10 rfl (lv_at hl 1 rfl) ?_
    refine lv_bipush (v := 6) hx hb dX8_isQuiet_11 (by decide) ?_
    refine bVI0 (As := [.int 0, .int 6]) (rest := []) (wc := [(mM, .inr (8, [.ref mN, .ref mR, .ref mA, .ref mP, .int ch, .ref mT, .int le, .int sp, .ref mD])), (mN, .inl (cyI, 515, .inl nw))]) (ci := 8) (q0 := 0) X Y (c_of8 l D cyC cyI mM mN mR mA mP mT mD ch le sp nw 0 6 (nw 13) (bOf (i := 13) (by decide) rfl) (bInD (by decide))) gX8_isQuiet_X8_of rfl ⟨rfl, rfl⟩ hd_X8_of ⟨(Nat.le_of_ble_eq_true rfl), (Nat.le_of_ble_eq_true rfl)⟩ rfl rfl rfl [0, 1] rfl rfl rfl rfl hl.1 (Nat.le_of_ble_eq_true rfl) ⟨Nat.zero_le _, Nat.zero_le _⟩ dX8_isQuiet_13 (fun H locs Y => ?_)
    refine lv_if_ne (tgt := 59) hx hb dX8_isQuiet_16 (by decide) (fun c_2 => ?_) (fun c_2 => ?_)
    · have c_2 : ¬ ((nw 13) = 0) := c_2
      rw [if_neg c_2] at hu
      refine lv_iconst (v := 0) hx hb dX8_isQuiet_59 (by decide) ?_
      refine lv_istore_n (lv' := [(2, .int 0), (0, .ref mM), (1, .int 0)]) hx hb dX8_isQuiet_60 rfl hl (by decide) rfl (fun ls hl => ?_)
      refine lv_iload_n hx hb dX8_isQuiet_61 rfl (lv_at hl 0 rfl) ?_
      refine lv_if_eq (tgt := 69) hx hb dX8_isQuiet_62 (by decide) (fun _ => ?_) (fun c_ => absurd (by decide) c_)
      refine lv_iconst (v := 0) hx hb dX8_isQuiet_69 (by decide) ?_
      subst hu
      exact bEndI X Y hr hlk dX8_isQuiet_70 rfl rfl
    · have c_2 : (nw 13) = 0 := c_2
      rw [if_pos c_2] at hu
      refine lv_aload_n hx hb dX8_isQuiet_19 rfl (lv_at hl 0 rfl) ?_
      refine lv_iload_n hx hb dX8_isQuiet_20 rfl (lv_at hl 1 rfl) ?_
      refine lv_bipush (v := 8) hx hb dX8_isQuiet_21 (by decide) ?_
      refine bVI0 (As := [.int 0, .int 8]) (rest := []) (wc := [(mM, .inr (8, [.ref mN, .ref mR, .ref mA, .ref mP, .int ch, .ref mT, .int le, .int sp, .ref mD])), (mN, .inl (cyI, 515, .inl nw))]) (ci := 8) (q0 := 0) X Y (c_of8 l D cyC cyI mM mN mR mA mP mT mD ch le sp nw 0 8 (nw 15) (bOf (i := 15) (by decide) rfl) (bInD (by decide))) gX8_isQuiet_X8_of rfl ⟨rfl, rfl⟩ hd_X8_of ⟨(Nat.le_of_ble_eq_true rfl), (Nat.le_of_ble_eq_true rfl)⟩ rfl rfl rfl [0, 1] rfl rfl rfl rfl hl.1 (Nat.le_of_ble_eq_true rfl) ⟨Nat.zero_le _, Nat.zero_le _⟩ dX8_isQuiet_23 (fun H locs Y => ?_)
      refine lv_if_ne (tgt := 59) hx hb dX8_isQuiet_26 (by decide) (fun c_3 => ?_) (fun c_3 => ?_)
      · have c_3 : ¬ ((nw 15) = 0) := c_3
        rw [if_neg c_3] at hu
        refine lv_iconst (v := 0) hx hb dX8_isQuiet_59 (by decide) ?_
        refine lv_istore_n (lv' := [(2, .int 0), (0, .ref mM), (1, .int 0)]) hx hb dX8_isQuiet_60 rfl hl (by decide) rfl (fun ls hl => ?_)
        refine lv_iload_n hx hb dX8_isQuiet_61 rfl (lv_at hl 0 rfl) ?_
        refine lv_if_eq (tgt := 69) hx hb dX8_isQuiet_62 (by decide) (fun _ => ?_) (fun c_ => absurd (by decide) c_)
        refine lv_iconst (v := 0) hx hb dX8_isQuiet_69 (by decide) ?_
        subst hu
        exact bEndI X Y hr hlk dX8_isQuiet_70 rfl rfl
      · have c_3 : (nw 15) = 0 := c_3
        rw [if_pos c_3] at hu
        refine lv_aload_n hx hb dX8_isQuiet_29 rfl (lv_at hl 0 rfl) ?_
        refine lv_iload_n hx hb dX8_isQuiet_30 rfl (lv_at hl 1 rfl) ?_
        refine lv_iconst (v := 4) hx hb dX8_isQuiet_31 (by decide) ?_
        refine bVI0 (As := [.int 0, .int 4]) (rest := []) (wc := [(mM, .inr (8, [.ref mN, .ref mR, .ref mA, .ref mP, .int ch, .ref mT, .int le, .int sp, .ref mD])), (mN, .inl (cyI, 515, .inl nw))]) (ci := 8) (q0 := 0) X Y (c_of8 l D cyC cyI mM mN mR mA mP mT mD ch le sp nw 0 4 (nw 11) (bOf (i := 11) (by decide) rfl) (bInD (by decide))) gX8_isQuiet_X8_of rfl ⟨rfl, rfl⟩ hd_X8_of ⟨(Nat.le_of_ble_eq_true rfl), (Nat.le_of_ble_eq_true rfl)⟩ rfl rfl rfl [0, 1] rfl rfl rfl rfl hl.1 (Nat.le_of_ble_eq_true rfl) ⟨Nat.zero_le _, Nat.zero_le _⟩ dX8_isQuiet_32 (fun H locs Y => ?_)
        refine bSI (As := [.int (nw 11)]) (rest := []) X Y (c_size8 l D cyC cyI (nw 11) (s_size8 (nw 11)) rfl) gX8_isQuiet_X8_size rfl ⟨rfl, rfl⟩ hd_X8_size.2 ⟨(Nat.le_of_ble_eq_true rfl), (Nat.le_of_ble_eq_true rfl)⟩ rfl rfl hl.1 (Nat.le_of_ble_eq_true rfl) ⟨Nat.zero_le _, Nat.zero_le _⟩ dX8_isQuiet_35 (fun H locs Y => ?_)
        refine lv_iconst (v := 3) hx hb dX8_isQuiet_38 (by decide) ?_
        refine lv_icmp_gt (tgt := 59) hx hb dX8_isQuiet_39 (by decide) (fun c_4 => ?_) (fun c_4 => ?_)
        · have c_4 : 3 < (s_size8 (nw 11)) := c_4
          rw [if_pos c_4] at hu
          refine lv_iconst (v := 0) hx hb dX8_isQuiet_59 (by decide) ?_
          refine lv_istore_n (lv' := [(2, .int 0), (0, .ref mM), (1, .int 0)]) hx hb dX8_isQuiet_60 rfl hl (by decide) rfl (fun ls hl => ?_)
          refine lv_iload_n hx hb dX8_isQuiet_61 rfl (lv_at hl 0 rfl) ?_
          refine lv_if_eq (tgt := 69) hx hb dX8_isQuiet_62 (by decide) (fun _ => ?_) (fun c_ => absurd (by decide) c_)
          refine lv_iconst (v := 0) hx hb dX8_isQuiet_69 (by decide) ?_
          subst hu
          exact bEndI X Y hr hlk dX8_isQuiet_70 rfl rfl
        · have c_4 : ¬ (3 < (s_size8 (nw 11))) := c_4
          rw [if_neg c_4] at hu
          refine lv_aload_n hx hb dX8_isQuiet_42 rfl (lv_at hl 0 rfl) ?_
          refine lv_iload_n hx hb dX8_isQuiet_43 rfl (lv_at hl 1 rfl) ?_
          refine lv_iconst (v := 5) hx hb dX8_isQuiet_44 (by decide) ?_
          refine bVI0 (As := [.int 0, .int 5]) (rest := []) (wc := [(mM, .inr (8, [.ref mN, .ref mR, .ref mA, .ref mP, .int ch, .ref mT, .int le, .int sp, .ref mD])), (mN, .inl (cyI, 515, .inl nw))]) (ci := 8) (q0 := 0) X Y (c_of8 l D cyC cyI mM mN mR mA mP mT mD ch le sp nw 0 5 (nw 12) (bOf (i := 12) (by decide) rfl) (bInD (by decide))) gX8_isQuiet_X8_of rfl ⟨rfl, rfl⟩ hd_X8_of ⟨(Nat.le_of_ble_eq_true rfl), (Nat.le_of_ble_eq_true rfl)⟩ rfl rfl rfl [0, 1] rfl rfl rfl rfl hl.1 (Nat.le_of_ble_eq_true rfl) ⟨Nat.zero_le _, Nat.zero_le _⟩ dX8_isQuiet_45 (fun H locs Y => ?_)
          refine bSI (As := [.int (nw 12)]) (rest := []) X Y (c_size8 l D cyC cyI (nw 12) (s_size8 (nw 12)) rfl) gX8_isQuiet_X8_size rfl ⟨rfl, rfl⟩ hd_X8_size.2 ⟨(Nat.le_of_ble_eq_true rfl), (Nat.le_of_ble_eq_true rfl)⟩ rfl rfl hl.1 (Nat.le_of_ble_eq_true rfl) ⟨Nat.zero_le _, Nat.zero_le _⟩ dX8_isQuiet_48 (fun H locs Y => ?_)
          refine lv_iconst (v := 2) hx hb dX8_isQuiet_51 (by decide) ?_
          refine lv_icmp_gt (tgt := 59) hx hb dX8_isQuiet_52 (by decide) (fun c_5 => ?_) (fun c_5 => ?_)
          · have c_5 : 2 < (s_size8 (nw 12)) := c_5
            rw [if_pos c_5] at hu
            refine lv_iconst (v := 0) hx hb dX8_isQuiet_59 (by decide) ?_
            refine lv_istore_n (lv' := [(2, .int 0), (0, .ref mM), (1, .int 0)]) hx hb dX8_isQuiet_60 rfl hl (by decide) rfl (fun ls hl => ?_)
            refine lv_iload_n hx hb dX8_isQuiet_61 rfl (lv_at hl 0 rfl) ?_
            refine lv_if_eq (tgt := 69) hx hb dX8_isQuiet_62 (by decide) (fun _ => ?_) (fun c_ => absurd (by decide) c_)
            refine lv_iconst (v := 0) hx hb dX8_isQuiet_69 (by decide) ?_
            subst hu
            exact bEndI X Y hr hlk dX8_isQuiet_70 rfl rfl
          · have c_5 : ¬ (2 < (s_size8 (nw 12))) := c_5
            rw [if_neg c_5] at hu
            refine lv_iconst (v := 1) hx hb dX8_isQuiet_55 (by decide) ?_
            refine lv_goto (tgt := 60) hx hb dX8_isQuiet_56 (by decide) ?_
            refine lv_istore_n (lv' := [(2, .int 1), (0, .ref mM), (1, .int 0)]) hx hb dX8_isQuiet_60 rfl hl (by decide) rfl (fun ls hl => ?_)
            refine lv_iload_n hx hb dX8_isQuiet_61 rfl (lv_at hl 0 rfl) ?_
            refine lv_if_eq (tgt := 69) hx hb dX8_isQuiet_62 (by decide) (fun c_ => absurd c_ (by decide)) (fun _ => ?_)
            refine lv_iconst (v := 1) hx hb dX8_isQuiet_65 (by decide) ?_
            refine lv_goto (tgt := 70) hx hb dX8_isQuiet_66 (by decide) ?_
            subst hu
            exact bEndI X Y hr hlk dX8_isQuiet_70 rfl rfl
def s_isQuiet8_1 (nw : Nat → Int32) : Int32 :=
  if (nw 21) = 0 then
    if (nw 26) = 0 then
      if (nw 28) = 0 then
        if 3 < (s_size8 (nw 24)) then
          0
        else
          if 2 < (s_size8 (nw 25)) then
            0
          else
            1
      else
        0
    else
      0
  else
    0
set_option maxHeartbeats 4000000 in
set_option maxRecDepth 100000 in
theorem c_isQuiet8_1 (l : Launch) (D : va_G) (cyC cyI : ClassId) (mM : Nat) (mN : Nat) (mR : Nat) (mA : Nat) (mP : Nat) (mT : Nat) (mD : Nat) (ch : Int32) (le : Int32) (sp : Int32) (nw : Nat → Int32) (o0 : Int32) (hu : s_isQuiet8_1 nw = o0) : CI l yX8_isQuiet wsX8_isQuiet { frames := 1, cells := 0, slots := 0, locals := 22 } D cyC cyI [.ref mM, .int 1] [(mM, .inr (8, [.ref mN, .ref mR, .ref mA, .ref mP, .int ch, .ref mT, .int le, .int sp, .ref mD])), (mN, .inl (cyI, 515, .inl nw))] o0 [(mM, .inr (8, [.ref mN, .ref mR, .ref mA, .ref mP, .int ch, .ref mT, .int le, .int sp, .ref mD])), (mN, .inl (cyI, 515, .inl nw))] := by
  refine CI.of (cc := cX8_isQuiet) (n := 3) (ret := (some .int)) (by decide +kernel) rfl (Nat.le_of_ble_eq_true rfl) ?_
  intro p_ e_ s_ m_ bl_ me_ cd_ A_ ls X Y hr hlk hl
  have hx := X.1.1
  have hb := X.1.2.1
  have hl : lv_has ls 3 [(0, .ref mM), (1, .int 1)] := hl
  unfold s_isQuiet8_1 at hu
  refine lv_aload_n hx hb dX8_isQuiet_0 rfl (lv_at hl 0 rfl) ?_
  refine lv_iload_n hx hb dX8_isQuiet_1 rfl (lv_at hl 1 rfl) ?_
  refine lv_iconst (v := 1) hx hb dX8_isQuiet_2 (by decide) ?_
  refine bVI0 (As := [.int 1, .int 1]) (rest := []) (wc := [(mM, .inr (8, [.ref mN, .ref mR, .ref mA, .ref mP, .int ch, .ref mT, .int le, .int sp, .ref mD])), (mN, .inl (cyI, 515, .inl nw))]) (ci := 8) (q0 := 0) X Y (c_of8 l D cyC cyI mM mN mR mA mP mT mD ch le sp nw 1 1 (nw 21) (bOf (i := 21) (by decide) rfl) (bInD (by decide))) gX8_isQuiet_X8_of rfl ⟨rfl, rfl⟩ hd_X8_of ⟨(Nat.le_of_ble_eq_true rfl), (Nat.le_of_ble_eq_true rfl)⟩ rfl rfl rfl [0, 1] rfl rfl rfl rfl hl.1 (Nat.le_of_ble_eq_true rfl) ⟨Nat.zero_le _, Nat.zero_le _⟩ dX8_isQuiet_3 (fun H locs Y => ?_)
  refine lv_if_ne (tgt := 59) hx hb dX8_isQuiet_6 (by decide) (fun c_1 => ?_) (fun c_1 => ?_)
  · have c_1 : ¬ ((nw 21) = 0) := c_1
    rw [if_neg c_1] at hu
    refine lv_iconst (v := 0) hx hb dX8_isQuiet_59 (by decide) ?_
    refine lv_istore_n (lv' := [(2, .int 0), (0, .ref mM), (1, .int 1)]) hx hb dX8_isQuiet_60 rfl hl (by decide) rfl (fun ls hl => ?_)
    refine lv_iload_n hx hb dX8_isQuiet_61 rfl (lv_at hl 0 rfl) ?_
    refine lv_if_eq (tgt := 69) hx hb dX8_isQuiet_62 (by decide) (fun _ => ?_) (fun c_ => absurd (by decide) c_)
    refine lv_iconst (v := 0) hx hb dX8_isQuiet_69 (by decide) ?_
    subst hu
    exact bEndI X Y hr hlk dX8_isQuiet_70 rfl rfl
  · have c_1 : (nw 21) = 0 := c_1
    rw [if_pos c_1] at hu
    refine lv_aload_n hx hb dX8_isQuiet_9 rfl (lv_at hl 0 rfl) ?_
    refine lv_iload_n hx hb dX8_isQuiet_10 rfl (lv_at hl 1 rfl) ?_
    refine lv_bipush (v := 6) hx hb dX8_isQuiet_11 (by decide) ?_
    refine bVI0 (As := [.int 1, .int 6]) (rest := []) (wc := [(mM, .inr (8, [.ref mN, .ref mR, .ref mA, .ref mP, .int ch, .ref mT, .int le, .int sp, .ref mD])), (mN, .inl (cyI, 515, .inl nw))]) (ci := 8) (q0 := 0) X Y (c_of8 l D cyC cyI mM mN mR mA mP mT mD ch le sp nw 1 6 (nw 26) (bOf (i := 26) (by decide) rfl) (bInD (by decide))) gX8_isQuiet_X8_of rfl ⟨rfl, rfl⟩ hd_X8_of ⟨(Nat.le_of_ble_eq_true rfl), (Nat.le_of_ble_eq_true rfl)⟩ rfl rfl rfl [0, 1] rfl rfl rfl rfl hl.1 (Nat.le_of_ble_eq_true rfl) ⟨Nat.zero_le _, Nat.zero_le _⟩ dX8_isQuiet_13 (fun H locs Y => ?_)
    refine lv_if_ne (tgt := 59) hx hb dX8_isQuiet_16 (by decide) (fun c_2 => ?_) (fun c_2 => ?_)
    · have c_2 : ¬ ((nw 26) = 0) := c_2
      rw [if_neg c_2] at hu
      refine lv_iconst (v := 0) hx hb dX8_isQuiet_59 (by decide) ?_
      refine lv_istore_n (lv' := [(2, .int 0), (0, .ref mM), (1, .int 1)]) hx hb dX8_isQuiet_60 rfl hl (by decide) rfl (fun ls hl => ?_)
      refine lv_iload_n hx hb dX8_isQuiet_61 rfl (lv_at hl 0 rfl) ?_
      refine lv_if_eq (tgt := 69) hx hb dX8_isQuiet_62 (by decide) (fun _ => ?_) (fun c_ => absurd (by decide) c_)
      refine lv_iconst (v := 0) hx hb dX8_isQuiet_69 (by decide) ?_
      subst hu
      exact bEndI X Y hr hlk dX8_isQuiet_70 rfl rfl
    · have c_2 : (nw 26) = 0 := c_2
      rw [if_pos c_2] at hu
      refine lv_aload_n hx hb dX8_isQuiet_19 rfl (lv_at hl 0 rfl) ?_
      refine lv_iload_n hx hb dX8_isQuiet_20 rfl (lv_at hl 1 rfl) ?_
      refine lv_bipush (v := 8) hx hb dX8_isQuiet_21 (by decide) ?_
      refine bVI0 (As := [.int 1, .int 8]) (rest := []) (wc := [(mM, .inr (8, [.ref mN, .ref mR, .ref mA, .ref mP, .int ch, .ref mT, .int le, .int sp, .ref mD])), (mN, .inl (cyI, 515, .inl nw))]) (ci := 8) (q0 := 0) X Y (c_of8 l D cyC cyI mM mN mR mA mP mT mD ch le sp nw 1 8 (nw 28) (bOf (i := 28) (by decide) rfl) (bInD (by decide))) gX8_isQuiet_X8_of rfl ⟨rfl, rfl⟩ hd_X8_of ⟨(Nat.le_of_ble_eq_true rfl), (Nat.le_of_ble_eq_true rfl)⟩ rfl rfl rfl [0, 1] rfl rfl rfl rfl hl.1 (Nat.le_of_ble_eq_true rfl) ⟨Nat.zero_le _, Nat.zero_le _⟩ dX8_isQuiet_23 (fun H locs Y => ?_)
      refine lv_if_ne (tgt := 59) hx hb dX8_isQuiet_26 (by decide) (fun c_3 => ?_) (fun c_3 => ?_)
      · have c_3 : ¬ ((nw 28) = 0) := c_3
        rw [if_neg c_3] at hu
        refine lv_iconst (v := 0) hx hb dX8_isQuiet_59 (by decide) ?_
        refine lv_istore_n (lv' := [(2, .int 0), (0, .ref mM), (1, .int 1)]) hx hb dX8_isQuiet_60 rfl hl (by decide) rfl (fun ls hl => ?_)
        refine lv_iload_n hx hb dX8_isQuiet_61 rfl (lv_at hl 0 rfl) ?_
        refine lv_if_eq (tgt := 69) hx hb dX8_isQuiet_62 (by decide) (fun _ => ?_) (fun c_ => absurd (by decide) c_)
        refine lv_iconst (v := 0) hx hb dX8_isQuiet_69 (by decide) ?_
        subst hu
        exact bEndI X Y hr hlk dX8_isQuiet_70 rfl rfl
      · have c_3 : (nw 28) = 0 := c_3
        rw [if_pos c_3] at hu
        refine lv_aload_n hx hb dX8_isQuiet_29 rfl (lv_at hl 0 rfl) ?_
        refine lv_iload_n hx hb dX8_isQuiet_30 rfl (lv_at hl 1 rfl) ?_
        refine lv_iconst (v := 4) hx hb dX8_isQuiet_31 (by decide) ?_
        refine bVI0 (As := [.int 1, .int 4]) (rest := []) (wc := [(mM, .inr (8, [.ref mN, .ref mR, .ref mA, .ref mP, .int ch, .ref mT, .int le, .int sp, .ref mD])), (mN, .inl (cyI, 515, .inl nw))]) (ci := 8) (q0 := 0) X Y (c_of8 l D cyC cyI mM mN mR mA mP mT mD ch le sp nw 1 4 (nw 24) (bOf (i := 24) (by decide) rfl) (bInD (by decide))) gX8_isQuiet_X8_of rfl ⟨rfl, rfl⟩ hd_X8_of ⟨(Nat.le_of_ble_eq_true rfl), (Nat.le_of_ble_eq_true rfl)⟩ rfl rfl rfl [0, 1] rfl rfl rfl rfl hl.1 (Nat.le_of_ble_eq_true rfl) ⟨Nat.zero_le _, Nat.zero_le _⟩ dX8_isQuiet_32 (fun H locs Y => ?_)
        refine bSI (As := [.int (nw 24)]) (rest := []) X Y (c_size8 l D cyC cyI (nw 24) (s_size8 (nw 24)) rfl) gX8_isQuiet_X8_size rfl ⟨rfl, rfl⟩ hd_X8_size.2 ⟨(Nat.le_of_ble_eq_true rfl), (Nat.le_of_ble_eq_true rfl)⟩ rfl rfl hl.1 (Nat.le_of_ble_eq_true rfl) ⟨Nat.zero_le _, Nat.zero_le _⟩ dX8_isQuiet_35 (fun H locs Y => ?_)
        refine lv_iconst (v := 3) hx hb dX8_isQuiet_38 (by decide) ?_
        refine lv_icmp_gt (tgt := 59) hx hb dX8_isQuiet_39 (by decide) (fun c_4 => ?_) (fun c_4 => ?_)
        · have c_4 : 3 < (s_size8 (nw 24)) := c_4
          rw [if_pos c_4] at hu
          refine lv_iconst (v := 0) hx hb dX8_isQuiet_59 (by decide) ?_
          refine lv_istore_n (lv' := [(2, .int 0), (0, .ref mM), (1, .int 1)]) hx hb dX8_isQuiet_60 rfl hl (by decide) rfl (fun ls hl => ?_)
          refine lv_iload_n hx hb dX8_isQuiet_61 rfl (lv_at hl 0 rfl) ?_
          refine lv_if_eq (tgt := 69) hx hb dX8_isQuiet_62 (by decide) (fun _ => ?_) (fun c_ => absurd (by decide) c_)
          refine lv_iconst (v := 0) hx hb dX8_isQuiet_69 (by decide) ?_
          subst hu
          exact bEndI X Y hr hlk dX8_isQuiet_70 rfl rfl
        · have c_4 : ¬ (3 < (s_size8 (nw 24))) := c_4
          rw [if_neg c_4] at hu
          refine lv_aload_n hx hb dX8_isQuiet_42 rfl (lv_at hl 0 rfl) ?_
          refine lv_iload_n hx hb dX8_isQuiet_43 rfl (lv_at hl 1 rfl) ?_
          refine lv_iconst (v := 5) hx hb dX8_isQuiet_44 (by decide) ?_
          refine bVI0 (As := [.int 1, .int 5]) (rest := []) (wc := [(mM, .inr (8, [.ref mN, .ref mR, .ref mA, .ref mP, .int ch, .ref mT, .int le, .int sp, .ref mD])), (mN, .inl (cyI, 515, .inl nw))]) (ci := 8) (q0 := 0) X Y (c_of8 l D cyC cyI mM mN mR mA mP mT mD ch le sp nw 1 5 (nw 25) (bOf (i := 25) (by decide) rfl) (bInD (by decide))) gX8_isQuiet_X8_of rfl ⟨rfl, rfl⟩ hd_X8_of ⟨(Nat.le_of_ble_eq_true rfl), (Nat.le_of_ble_eq_true rfl)⟩ rfl rfl rfl [0, 1] rfl rfl rfl rfl hl.1 (Nat.le_of_ble_eq_true rfl) ⟨Nat.zero_le _, Nat.zero_le _⟩ dX8_isQuiet_45 (fun H locs Y => ?_)
          refine bSI (As := [.int (nw 25)]) (rest := []) X Y (c_size8 l D cyC cyI (nw 25) (s_size8 (nw 25)) rfl) gX8_isQuiet_X8_size rfl ⟨rfl, rfl⟩ hd_X8_size.2 ⟨(Nat.le_of_ble_eq_true rfl), (Nat.le_of_ble_eq_true rfl)⟩ rfl rfl hl.1 (Nat.le_of_ble_eq_true rfl) ⟨Nat.zero_le _, Nat.zero_le _⟩ dX8_isQuiet_48 (fun H locs Y => ?_)
          refine lv_iconst (v := 2) hx hb dX8_isQuiet_51 (by decide) ?_
          refine lv_icmp_gt (tgt := 59) hx hb dX8_isQuiet_52 (by decide) (fun c_5 => ?_) (fun c_5 => ?_)
          · have c_5 : 2 < (s_size8 (nw 25)) := c_5
            rw [if_pos c_5] at hu
            refine lv_iconst (v := 0) hx hb dX8_isQuiet_59 (by decide) ?_
            refine lv_istore_n (lv' := [(2, .int 0), (0, .ref mM), (1, .int 1)]) hx hb dX8_isQuiet_60 rfl hl (by decide) rfl (fun ls hl => ?_)
            refine lv_iload_n hx hb dX8_isQuiet_61 rfl (lv_at hl 0 rfl) ?_
            refine lv_if_eq (tgt := 69) hx hb dX8_isQuiet_62 (by decide) (fun _ => ?_) (fun c_ => absurd (by decide) c_)
            refine lv_iconst (v := 0) hx hb dX8_isQuiet_69 (by decide) ?_
            subst hu
            exact bEndI X Y hr hlk dX8_isQuiet_70 rfl rfl
          · have c_5 : ¬ (2 < (s_size8 (nw 25))) := c_5
            rw [if_neg c_5] at hu
            refine lv_iconst (v := 1) hx hb dX8_isQuiet_55 (by decide) ?_
            refine lv_goto (tgt := 60) hx hb dX8_isQuiet_56 (by decide) ?_
            refine lv_istore_n (lv' := [(2, .int 1), (0, .ref mM), (1, .int 1)]) hx hb dX8_isQuiet_60 rfl hl (by decide) rfl (fun ls hl => ?_)
            refine lv_iload_n hx hb dX8_isQuiet_61 rfl (lv_at hl 0 rfl) ?_
            refine lv_if_eq (tgt := 69) hx hb dX8_isQuiet_62 (by decide) (fun c_ => absurd c_ (by decide)) (fun _ => ?_)
            refine lv_iconst (v := 1) hx hb dX8_isQuiet_65 (by decide) ?_
            refine lv_goto (tgt := 70) hx hb dX8_isQuiet_66 (by decide) ?_
            subst hu
            exact bEndI X Y hr hlk dX8_isQuiet_70 rfl rfl
theorem k_X8_crane_161 : Cond.constant RX8 161 (100000) ∈ wsX8_crane := by decide +kernel
theorem hd_X8_halfOf : bD1 yX8_halfOf RX8 1 := by decide +kernel
theorem hd_X8_isQuiet : bD1 yX8_isQuiet RX8 1 := by decide +kernel
def s_crane8_0 (nw : Nat → Int32) (what : Int32) : Int32 :=
  if (s_isCrane8 0) = true then
    if what = 0 then
      (nw 7)
    else
      if what = 1 then
        (nw 8) + 100000
      else
        if what = 2 then
          (nw 9)
        else
          if what = 3 then
            (nw 10)
          else
            if what = 4 then
              (nw 11) + 100000
            else
              if what = 5 then
                (nw 12) + 100000
              else
                if what = 6 then
                  (nw 13) + 100000
                else
                  if what = 7 then
                    (nw 14)
                  else
                    if what = 8 then
                      (s_limitOf8_0 nw)
                    else
                      if what = 9 then
                        (nw 15)
                      else
                        if what = 10 then
                          (s_stopBy8 nw (nw 8))
                        else
                          if what = 11 then
                            nI (s_halfOf8 (nw 9))
                          else
                            if what = 12 then
                              (s_isQuiet8_0 nw)
                            else
                              (-1)
  else
    (-1)
set_option maxHeartbeats 4000000 in
set_option maxRecDepth 100000 in
theorem c_crane8_0 (l : Launch) (D : va_G) (cyC cyI : ClassId) (mM : Nat) (mN : Nat) (mR : Nat) (mA : Nat) (mP : Nat) (mT : Nat) (mD : Nat) (ch : Int32) (le : Int32) (sp : Int32) (nw : Nat → Int32) (what : Int32) (o0 : Int32) (hu : s_crane8_0 nw what = o0) (hc1_ : 1 ≤ nw 2) (hr0 : 0 ≤ nw 9) (hr6 : nw 9 ≤ 60) : CI l yX8_crane wsX8_crane { frames := 2, cells := 0, slots := 0, locals := 44 } D cyC cyI [.ref mM, .int 0, .int what] [(mM, .inr (8, [.ref mN, .ref mR, .ref mA, .ref mP, .int ch, .ref mT, .int le, .int sp, .ref mD])), (mN, .inl (cyI, 515, .inl nw))] o0 [(mM, .inr (8, [.ref mN, .ref mR, .ref mA, .ref mP, .int ch, .ref mT, .int le, .int sp, .ref mD])), (mN, .inl (cyI, 515, .inl nw))] := by
  refine CI.of (cc := cX8_crane) (n := 3) (ret := (some .int)) (by decide +kernel) rfl (Nat.le_of_ble_eq_true rfl) ?_
  intro p_ e_ s_ m_ bl_ me_ cd_ A_ ls X Y hr hlk hl
  have hx := X.1.1
  have hb := X.1.2.1
  have hl : lv_has ls 3 [(0, .ref mM), (1, .int 0), (2, .int what)] := hl
  unfold s_crane8_0 at hu
  refine lv_iload_n hx hb dX8_crane_0 rfl (lv_at hl 1 rfl) ?_
  refine bSI (As := [.int 0]) (rest := []) X Y (c_isCrane8 l D cyC cyI 0 (s_isCrane8 0) rfl) gX8_crane_X8_isCrane rfl ⟨rfl, rfl⟩ hd_X8_isCrane.2 ⟨(Nat.le_of_ble_eq_true rfl), (Nat.le_of_ble_eq_true rfl)⟩ rfl rfl hl.1 (Nat.le_of_ble_eq_true rfl) ⟨Nat.zero_le _, Nat.zero_le _⟩ dX8_crane_1 (fun H locs Y => ?_)
  refine lv_if_ne (tgt := 9) hx hb dX8_crane_4 (by decide) (fun c_1 => ?_) (fun c_1 => ?_)
  · have c_1 := bB_t c_1
    rw [if_pos c_1] at hu
    refine lv_iload_n hx hb dX8_crane_9 rfl (lv_at hl 2 rfl) ?_
    by_cases c_2 : what = 0
    · rw [if_pos c_2] at hu
      refine lv_tableIn (tgt := 76) (off := 66) hx hb dX8_crane_10 (by rw [c_2]; decide) (by rw [c_2]; decide) (by rw [c_2]; decide +kernel) (by decide) ?_
      refine lv_aload_n hx hb dX8_crane_76 rfl (lv_at hl 0 rfl) ?_
      refine lv_iload_n hx hb dX8_crane_77 rfl (lv_at hl 1 rfl) ?_
      refine lv_iload_n hx hb dX8_crane_78 rfl (lv_at hl 2 rfl) ?_
      refine bVI0 (As := [.int 0, .int what]) (rest := []) (wc := [(mM, .inr (8, [.ref mN, .ref mR, .ref mA, .ref mP, .int ch, .ref mT, .int le, .int sp, .ref mD])), (mN, .inl (cyI, 515, .inl nw))]) (ci := 8) (q0 := 0) X Y (c_of8 l D cyC cyI mM mN mR mA mP mT mD ch le sp nw 0 what (nw 7) (bOf (i := 7) (by rw [c_2]; decide) rfl) (by rw [c_2]; exact bInD (by decide))) gX8_crane_X8_of rfl ⟨rfl, rfl⟩ hd_X8_of ⟨(Nat.le_of_ble_eq_true rfl), (Nat.le_of_ble_eq_true rfl)⟩ rfl rfl rfl [0, 1] rfl rfl rfl rfl hl.1 (Nat.le_of_ble_eq_true rfl) ⟨Nat.zero_le _, Nat.zero_le _⟩ dX8_crane_79 (fun H locs Y => ?_)
      subst hu
      exact bEndI X Y hr hlk dX8_crane_82 rfl rfl
    · skip
      rw [if_neg c_2] at hu
      by_cases c_3 : what = 1
      · rw [if_pos c_3] at hu
        refine lv_tableIn (tgt := 83) (off := 73) hx hb dX8_crane_10 (by rw [c_3]; decide) (by rw [c_3]; decide) (by rw [c_3]; decide +kernel) (by decide) ?_
        refine lv_aload_n hx hb dX8_crane_83 rfl (lv_at hl 0 rfl) ?_
        refine lv_iload_n hx hb dX8_crane_84 rfl (lv_at hl 1 rfl) ?_
        refine lv_iload_n hx hb dX8_crane_85 rfl (lv_at hl 2 rfl) ?_
        refine bVI0 (As := [.int 0, .int what]) (rest := []) (wc := [(mM, .inr (8, [.ref mN, .ref mR, .ref mA, .ref mP, .int ch, .ref mT, .int le, .int sp, .ref mD])), (mN, .inl (cyI, 515, .inl nw))]) (ci := 8) (q0 := 0) X Y (c_of8 l D cyC cyI mM mN mR mA mP mT mD ch le sp nw 0 what (nw 8) (bOf (i := 8) (by rw [c_3]; decide) rfl) (by rw [c_3]; exact bInD (by decide))) gX8_crane_X8_of rfl ⟨rfl, rfl⟩ hd_X8_of ⟨(Nat.le_of_ble_eq_true rfl), (Nat.le_of_ble_eq_true rfl)⟩ rfl rfl rfl [0, 1] rfl rfl rfl rfl hl.1 (Nat.le_of_ble_eq_true rfl) ⟨Nat.zero_le _, Nat.zero_le _⟩ dX8_crane_86 (fun H locs Y => ?_)
        refine lv_ldc (v := 100000) hx hb X.1.2.2.2.1 (X.1.2.2.2.2 _ k_X8_crane_161) dX8_crane_89 ?_
        refine bAdd (v := (nw 8) + 100000) X dX8_crane_91 rfl ?_
        subst hu
        exact bEndI X Y hr hlk dX8_crane_92 rfl rfl
      · skip
        rw [if_neg c_3] at hu
        by_cases c_4 : what = 2
        · rw [if_pos c_4] at hu
          refine lv_tableIn (tgt := 76) (off := 66) hx hb dX8_crane_10 (by rw [c_4]; decide) (by rw [c_4]; decide) (by rw [c_4]; decide +kernel) (by decide) ?_
          refine lv_aload_n hx hb dX8_crane_76 rfl (lv_at hl 0 rfl) ?_
          refine lv_iload_n hx hb dX8_crane_77 rfl (lv_at hl 1 rfl) ?_
          refine lv_iload_n hx hb dX8_crane_78 rfl (lv_at hl 2 rfl) ?_
          refine bVI0 (As := [.int 0, .int what]) (rest := []) (wc := [(mM, .inr (8, [.ref mN, .ref mR, .ref mA, .ref mP, .int ch, .ref mT, .int le, .int sp, .ref mD])), (mN, .inl (cyI, 515, .inl nw))]) (ci := 8) (q0 := 0) X Y (c_of8 l D cyC cyI mM mN mR mA mP mT mD ch le sp nw 0 what (nw 9) (bOf (i := 9) (by rw [c_4]; decide) rfl) (by rw [c_4]; exact bInD (by decide))) gX8_crane_X8_of rfl ⟨rfl, rfl⟩ hd_X8_of ⟨(Nat.le_of_ble_eq_true rfl), (Nat.le_of_ble_eq_true rfl)⟩ rfl rfl rfl [0, 1] rfl rfl rfl rfl hl.1 (Nat.le_of_ble_eq_true rfl) ⟨Nat.zero_le _, Nat.zero_le _⟩ dX8_crane_79 (fun H locs Y => ?_)
          subst hu
          exact bEndI X Y hr hlk dX8_crane_82 rfl rfl
        · skip
          rw [if_neg c_4] at hu
          by_cases c_5 : what = 3
          · rw [if_pos c_5] at hu
            refine lv_tableIn (tgt := 76) (off := 66) hx hb dX8_crane_10 (by rw [c_5]; decide) (by rw [c_5]; decide) (by rw [c_5]; decide +kernel) (by decide) ?_
            refine lv_aload_n hx hb dX8_crane_76 rfl (lv_at hl 0 rfl) ?_
            refine lv_iload_n hx hb dX8_crane_77 rfl (lv_at hl 1 rfl) ?_
            refine lv_iload_n hx hb dX8_crane_78 rfl (lv_at hl 2 rfl) ?_
            refine bVI0 (As := [.int 0, .int what]) (rest := []) (wc := [(mM, .inr (8, [.ref mN, .ref mR, .ref mA, .ref mP, .int ch, .ref mT, .int le, .int sp, .ref mD])), (mN, .inl (cyI, 515, .inl nw))]) (ci := 8) (q0 := 0) X Y (c_of8 l D cyC cyI mM mN mR mA mP mT mD ch le sp nw 0 what (nw 10) (bOf (i := 10) (by rw [c_5]; decide) rfl) (by rw [c_5]; exact bInD (by decide))) gX8_crane_X8_of rfl ⟨rfl, rfl⟩ hd_X8_of ⟨(Nat.le_of_ble_eq_true rfl), (Nat.le_of_ble_eq_true rfl)⟩ rfl rfl rfl [0, 1] rfl rfl rfl rfl hl.1 (Nat.le_of_ble_eq_true rfl) ⟨Nat.zero_le _, Nat.zero_le _⟩ dX8_crane_79 (fun H locs Y => ?_)
            subst hu
            exact bEndI X Y hr hlk dX8_crane_82 rfl rfl
          · skip
            rw [if_neg c_5] at hu
            by_cases c_6 : what = 4
            · rw [if_pos c_6] at hu
              refine lv_tableIn (tgt := 83) (off := 73) hx hb dX8_crane_10 (by rw [c_6]; decide) (by rw [c_6]; decide) (by rw [c_6]; decide +kernel) (by decide) ?_
              refine lv_aload_n hx hb dX8_crane_83 rfl (lv_at hl 0 rfl) ?_
              refine lv_iload_n hx hb dX8_crane_84 rfl (lv_at hl 1 rfl) ?_
              refine lv_iload_n hx hb dX8_crane_85 rfl (lv_at hl 2 rfl) ?_
              refine bVI0 (As := [.int 0, .int what]) (rest := []) (wc := [(mM, .inr (8, [.ref mN, .ref mR, .ref mA, .ref mP, .int ch, .ref mT, .int le, .int sp, .ref mD])), (mN, .inl (cyI, 515, .inl nw))]) (ci := 8) (q0 := 0) X Y (c_of8 l D cyC cyI mM mN mR mA mP mT mD ch le sp nw 0 what (nw 11) (bOf (i := 11) (by rw [c_6]; decide) rfl) (by rw [c_6]; exact bInD (by decide))) gX8_crane_X8_of rfl ⟨rfl, rfl⟩ hd_X8_of ⟨(Nat.le_of_ble_eq_true rfl), (Nat.le_of_ble_eq_true rfl)⟩ rfl rfl rfl [0, 1] rfl rfl rfl rfl hl.1 (Nat.le_of_ble_eq_true rfl) ⟨Nat.zero_le _, Nat.zero_le _⟩ dX8_crane_86 (fun H locs Y => ?_)
              refine lv_ldc (v := 100000) hx hb X.1.2.2.2.1 (X.1.2.2.2.2 _ k_X8_crane_161) dX8_crane_89 ?_
              refine bAdd (v := (nw 11) + 100000) X dX8_crane_91 rfl ?_
              subst hu
              exact bEndI X Y hr hlk dX8_crane_92 rfl rfl
            · skip
              rw [if_neg c_6] at hu
              by_cases c_7 : what = 5
              · rw [if_pos c_7] at hu
                refine lv_tableIn (tgt := 83) (off := 73) hx hb dX8_crane_10 (by rw [c_7]; decide) (by rw [c_7]; decide) (by rw [c_7]; decide +kernel) (by decide) ?_
                refine lv_aload_n hx hb dX8_crane_83 rfl (lv_at hl 0 rfl) ?_
                refine lv_iload_n hx hb dX8_crane_84 rfl (lv_at hl 1 rfl) ?_
                refine lv_iload_n hx hb dX8_crane_85 rfl (lv_at hl 2 rfl) ?_
                refine bVI0 (As := [.int 0, .int what]) (rest := []) (wc := [(mM, .inr (8, [.ref mN, .ref mR, .ref mA, .ref mP, .int ch, .ref mT, .int le, .int sp, .ref mD])), (mN, .inl (cyI, 515, .inl nw))]) (ci := 8) (q0 := 0) X Y (c_of8 l D cyC cyI mM mN mR mA mP mT mD ch le sp nw 0 what (nw 12) (bOf (i := 12) (by rw [c_7]; decide) rfl) (by rw [c_7]; exact bInD (by decide))) gX8_crane_X8_of rfl ⟨rfl, rfl⟩ hd_X8_of ⟨(Nat.le_of_ble_eq_true rfl), (Nat.le_of_ble_eq_true rfl)⟩ rfl rfl rfl [0, 1] rfl rfl rfl rfl hl.1 (Nat.le_of_ble_eq_true rfl) ⟨Nat.zero_le _, Nat.zero_le _⟩ dX8_crane_86 (fun H locs Y => ?_)
                refine lv_ldc (v := 100000) hx hb X.1.2.2.2.1 (X.1.2.2.2.2 _ k_X8_crane_161) dX8_crane_89 ?_
                refine bAdd (v := (nw 12) + 100000) X dX8_crane_91 rfl ?_
                subst hu
                exact bEndI X Y hr hlk dX8_crane_92 rfl rfl
              · skip
                rw [if_neg c_7] at hu
                by_cases c_8 : what = 6
                · rw [if_pos c_8] at hu
                  refine lv_tableIn (tgt := 83) (off := 73) hx hb dX8_crane_10 (by rw [c_8]; decide) (by rw [c_8]; decide) (by rw [c_8]; decide +kernel) (by decide) ?_
                  refine lv_aload_n hx hb dX8_crane_83 rfl (lv_at hl 0 rfl) ?_
                  refine lv_iload_n hx hb dX8_crane_84 rfl (lv_at hl 1 rfl) ?_
                  refine lv_iload_n hx hb dX8_crane_85 rfl (lv_at hl 2 rfl) ?_
                  refine bVI0 (As := [.int 0, .int what]) (rest := []) (wc := [(mM, .inr (8, [.ref mN, .ref mR, .ref mA, .ref mP, .int ch, .ref mT, .int le, .int sp, .ref mD])), (mN, .inl (cyI, 515, .inl nw))]) (ci := 8) (q0 := 0) X Y (c_of8 l D cyC cyI mM mN mR mA mP mT mD ch le sp nw 0 what (nw 13) (bOf (i := 13) (by rw [c_8]; decide) rfl) (by rw [c_8]; exact bInD (by decide))) gX8_crane_X8_of rfl ⟨rfl, rfl⟩ hd_X8_of ⟨(Nat.le_of_ble_eq_true rfl), (Nat.le_of_ble_eq_true rfl)⟩ rfl rfl rfl [0, 1] rfl rfl rfl rfl hl.1 (Nat.le_of_ble_eq_true rfl) ⟨Nat.zero_le _, Nat.zero_le _⟩ dX8_crane_86 (fun H locs Y => ?_)
                  refine lv_ldc (v := 100000) hx hb X.1.2.2.2.1 (X.1.2.2.2.2 _ k_X8_crane_161) dX8_crane_89 ?_
                  refine bAdd (v := (nw 13) + 100000) X dX8_crane_91 rfl ?_
                  subst hu
                  exact bEndI X Y hr hlk dX8_crane_92 rfl rfl
                · skip
                  rw [if_neg c_8] at hu
                  by_cases c_9 : what = 7
                  · rw [if_pos c_9] at hu
                    refine lv_tableIn (tgt := 93) (off := 83) hx hb dX8_crane_10 (by rw [c_9]; decide) (by rw [c_9]; decide) (by rw [c_9]; decide +kernel) (by decide) ?_
                    refine lv_aload_n hx hb dX8_crane_93 rfl (lv_at hl 0 rfl) ?_
                    refine lv_iload_n hx hb dX8_crane_94 rfl (lv_at hl 1 rfl) ?_
                    refine lv_bipush (v := 7) hx hb dX8_crane_95 (by decide) ?_
                    refine bVI0 (As := [.int 0, .int 7]) (rest := []) (wc := [(mM, .inr (8, [.ref mN, .ref mR, .ref mA, .ref mP, .int ch, .ref mT, .int le, .int sp, .ref mD])), (mN, .inl (cyI, 515, .inl nw))]) (ci := 8) (q0 := 0) X Y (c_of8 l D cyC cyI mM mN mR mA mP mT mD ch le sp nw 0 7 (nw 14) (bOf (i := 14) (by decide) rfl) (bInD (by decide))) gX8_crane_X8_of rfl ⟨rfl, rfl⟩ hd_X8_of ⟨(Nat.le_of_ble_eq_true rfl), (Nat.le_of_ble_eq_true rfl)⟩ rfl rfl rfl [0, 1] rfl rfl rfl rfl hl.1 (Nat.le_of_ble_eq_true rfl) ⟨Nat.zero_le _, Nat.zero_le _⟩ dX8_crane_97 (fun H locs Y => ?_)
                    subst hu
                    exact bEndI X Y hr hlk dX8_crane_100 rfl rfl
                  · skip
                    rw [if_neg c_9] at hu
                    by_cases c_10 : what = 8
                    · rw [if_pos c_10] at hu
                      refine lv_tableIn (tgt := 101) (off := 91) hx hb dX8_crane_10 (by rw [c_10]; decide) (by rw [c_10]; decide) (by rw [c_10]; decide +kernel) (by decide) ?_
                      refine lv_aload_n hx hb dX8_crane_101 rfl (lv_at hl 0 rfl) ?_
                      refine lv_iload_n hx hb dX8_crane_102 rfl (lv_at hl 1 rfl) ?_
                      refine bVI0 (As := [.int 0]) (rest := []) (wc := [(mM, .inr (8, [.ref mN, .ref mR, .ref mA, .ref mP, .int ch, .ref mT, .int le, .int sp, .ref mD])), (mN, .inl (cyI, 515, .inl nw))]) (ci := 8) (q0 := 0) X Y (c_limitOf8_0 l D cyC cyI mM mN mR mA mP mT mD ch le sp nw (s_limitOf8_0 nw) rfl) gX8_crane_X8_limitOf rfl ⟨rfl, rfl⟩ hd_X8_limitOf ⟨(Nat.le_of_ble_eq_true rfl), (Nat.le_of_ble_eq_true rfl)⟩ rfl rfl rfl [0, 1] rfl rfl rfl rfl hl.1 (Nat.le_of_ble_eq_true rfl) ⟨Nat.zero_le _, Nat.zero_le _⟩ dX8_crane_103 (fun H locs Y => ?_)
                      subst hu
                      exact bEndI X Y hr hlk dX8_crane_106 rfl rfl
                    · skip
                      rw [if_neg c_10] at hu
                      by_cases c_11 : what = 9
                      · rw [if_pos c_11] at hu
                        refine lv_tableIn (tgt := 107) (off := 97) hx hb dX8_crane_10 (by rw [c_11]; decide) (by rw [c_11]; decide) (by rw [c_11]; decide +kernel) (by decide) ?_
                        refine lv_aload_n hx hb dX8_crane_107 rfl (lv_at hl 0 rfl) ?_
                        refine lv_iload_n hx hb dX8_crane_108 rfl (lv_at hl 1 rfl) ?_
                        refine lv_bipush (v := 8) hx hb dX8_crane_109 (by decide) ?_
                        refine bVI0 (As := [.int 0, .int 8]) (rest := []) (wc := [(mM, .inr (8, [.ref mN, .ref mR, .ref mA, .ref mP, .int ch, .ref mT, .int le, .int sp, .ref mD])), (mN, .inl (cyI, 515, .inl nw))]) (ci := 8) (q0 := 0) X Y (c_of8 l D cyC cyI mM mN mR mA mP mT mD ch le sp nw 0 8 (nw 15) (bOf (i := 15) (by decide) rfl) (bInD (by decide))) gX8_crane_X8_of rfl ⟨rfl, rfl⟩ hd_X8_of ⟨(Nat.le_of_ble_eq_true rfl), (Nat.le_of_ble_eq_true rfl)⟩ rfl rfl rfl [0, 1] rfl rfl rfl rfl hl.1 (Nat.le_of_ble_eq_true rfl) ⟨Nat.zero_le _, Nat.zero_le _⟩ dX8_crane_111 (fun H locs Y => ?_)
                        subst hu
                        exact bEndI X Y hr hlk dX8_crane_114 rfl rfl
                      · skip
                        rw [if_neg c_11] at hu
                        by_cases c_12 : what = 10
                        · rw [if_pos c_12] at hu
                          refine lv_tableIn (tgt := 115) (off := 105) hx hb dX8_crane_10 (by rw [c_12]; decide) (by rw [c_12]; decide) (by rw [c_12]; decide +kernel) (by decide) ?_
                          refine lv_aload_n hx hb dX8_crane_115 rfl (lv_at hl 0 rfl) ?_
                          refine lv_aload_n hx hb dX8_crane_116 rfl (lv_at hl 0 rfl) ?_
                          refine lv_iload_n hx hb dX8_crane_117 rfl (lv_at hl 1 rfl) ?_
                          refine lv_iconst (v := 1) hx hb dX8_crane_118 (by decide) ?_
                          refine bVI0 (As := [.int 0, .int 1]) (rest := [.ref mM]) (wc := [(mM, .inr (8, [.ref mN, .ref mR, .ref mA, .ref mP, .int ch, .ref mT, .int le, .int sp, .ref mD])), (mN, .inl (cyI, 515, .inl nw))]) (ci := 8) (q0 := 0) X Y (c_of8 l D cyC cyI mM mN mR mA mP mT mD ch le sp nw 0 1 (nw 8) (bOf (i := 8) (by decide) rfl) (bInD (by decide))) gX8_crane_X8_of rfl ⟨rfl, rfl⟩ hd_X8_of ⟨(Nat.le_of_ble_eq_true rfl), (Nat.le_of_ble_eq_true rfl)⟩ rfl rfl rfl [0, 1] rfl rfl rfl rfl hl.1 (Nat.le_of_ble_eq_true rfl) ⟨Nat.zero_le _, Nat.zero_le _⟩ dX8_crane_119 (fun H locs Y => ?_)
                          refine bVI0 (As := [.int (nw 8)]) (rest := []) (wc := [(mM, .inr (8, [.ref mN, .ref mR, .ref mA, .ref mP, .int ch, .ref mT, .int le, .int sp, .ref mD])), (mN, .inl (cyI, 515, .inl nw))]) (ci := 8) (q0 := 0) X Y (c_stopBy8 l D cyC cyI mM mN mR mA mP mT mD ch le sp nw (nw 8) (s_stopBy8 nw (nw 8)) rfl (by first | assumption | omega | decide)) gX8_crane_X8_stopBy rfl ⟨rfl, rfl⟩ hd_X8_stopBy ⟨(Nat.le_of_ble_eq_true rfl), (Nat.le_of_ble_eq_true rfl)⟩ rfl rfl rfl [0, 1] rfl rfl rfl rfl hl.1 (Nat.le_of_ble_eq_true rfl) ⟨Nat.zero_le _, Nat.zero_le _⟩ dX8_crane_122 (fun H locs Y => ?_)
                          subst hu
                          exact bEndI X Y hr hlk dX8_crane_125 rfl rfl
                        · skip
                          rw [if_neg c_12] at hu
                          by_cases c_13 : what = 11
                          · rw [if_pos c_13] at hu
                            refine lv_tableIn (tgt := 126) (off := 116) hx hb dX8_crane_10 (by rw [c_13]; decide) (by rw [c_13]; decide) (by rw [c_13]; decide +kernel) (by decide) ?_
                            refine lv_aload_n hx hb dX8_crane_126 rfl (lv_at hl 0 rfl) ?_
                            refine lv_iload_n hx hb dX8_crane_127 rfl (lv_at hl 1 rfl) ?_
                            refine lv_iconst (v := 2) hx hb dX8_crane_128 (by decide) ?_
                            refine bVI0 (As := [.int 0, .int 2]) (rest := []) (wc := [(mM, .inr (8, [.ref mN, .ref mR, .ref mA, .ref mP, .int ch, .ref mT, .int le, .int sp, .ref mD])), (mN, .inl (cyI, 515, .inl nw))]) (ci := 8) (q0 := 0) X Y (c_of8 l D cyC cyI mM mN mR mA mP mT mD ch le sp nw 0 2 (nw 9) (bOf (i := 9) (by decide) rfl) (bInD (by decide))) gX8_crane_X8_of rfl ⟨rfl, rfl⟩ hd_X8_of ⟨(Nat.le_of_ble_eq_true rfl), (Nat.le_of_ble_eq_true rfl)⟩ rfl rfl rfl [0, 1] rfl rfl rfl rfl hl.1 (Nat.le_of_ble_eq_true rfl) ⟨Nat.zero_le _, Nat.zero_le _⟩ dX8_crane_129 (fun H locs Y => ?_)
                            refine bSI (As := [.int (nw 9)]) (rest := []) X Y (c_halfOf8 l D cyC cyI (nw 9) (s_halfOf8 (nw 9)) rfl (by first | assumption | omega | decide) (by first | assumption | omega | decide)) gX8_crane_X8_halfOf rfl ⟨rfl, rfl⟩ hd_X8_halfOf.2 ⟨(Nat.le_of_ble_eq_true rfl), (Nat.le_of_ble_eq_true rfl)⟩ rfl rfl hl.1 (Nat.le_of_ble_eq_true rfl) ⟨Nat.zero_le _, Nat.zero_le _⟩ dX8_crane_132 (fun H locs Y => ?_)
                            subst hu
                            exact bEndI X Y hr hlk dX8_crane_135 rfl rfl
                          · skip
                            rw [if_neg c_13] at hu
                            by_cases c_14 : what = 12
                            · rw [if_pos c_14] at hu
                              refine lv_tableIn (tgt := 136) (off := 126) hx hb dX8_crane_10 (by rw [c_14]; decide) (by rw [c_14]; decide) (by rw [c_14]; decide +kernel) (by decide) ?_
                              refine lv_aload_n hx hb dX8_crane_136 rfl (lv_at hl 0 rfl) ?_
                              refine lv_iload_n hx hb dX8_crane_137 rfl (lv_at hl 1 rfl) ?_
                              refine bVI0 (As := [.int 0]) (rest := []) (wc := [(mM, .inr (8, [.ref mN, .ref mR, .ref mA, .ref mP, .int ch, .ref mT, .int le, .int sp, .ref mD])), (mN, .inl (cyI, 515, .inl nw))]) (ci := 8) (q0 := 0) X Y (c_isQuiet8_0 l D cyC cyI mM mN mR mA mP mT mD ch le sp nw (s_isQuiet8_0 nw) rfl) gX8_crane_X8_isQuiet rfl ⟨rfl, rfl⟩ hd_X8_isQuiet ⟨(Nat.le_of_ble_eq_true rfl), (Nat.le_of_ble_eq_true rfl)⟩ rfl rfl rfl [0, 1] rfl rfl rfl rfl hl.1 (Nat.le_of_ble_eq_true rfl) ⟨Nat.zero_le _, Nat.zero_le _⟩ dX8_crane_138 (fun H locs Y => ?_)
                              subst hu
                              exact bEndI X Y hr hlk dX8_crane_141 rfl rfl
                            · skip
                              rw [if_neg c_14] at hu
                              refine lv_tableOut (tgt := 142) hx hb dX8_crane_10 (by have e0 := bNeI c_2 (show (0 : Int32).toInt = 0 by decide); have e1 := bNeI c_3 (show (1 : Int32).toInt = 1 by decide); have e2 := bNeI c_4 (show (2 : Int32).toInt = 2 by decide); have e3 := bNeI c_5 (show (3 : Int32).toInt = 3 by decide); have e4 := bNeI c_6 (show (4 : Int32).toInt = 4 by decide); have e5 := bNeI c_7 (show (5 : Int32).toInt = 5 by decide); have e6 := bNeI c_8 (show (6 : Int32).toInt = 6 by decide); have e7 := bNeI c_9 (show (7 : Int32).toInt = 7 by decide); have e8 := bNeI c_10 (show (8 : Int32).toInt = 8 by decide); have e9 := bNeI c_11 (show (9 : Int32).toInt = 9 by decide); have e10 := bNeI c_12 (show (10 : Int32).toInt = 10 by decide); have e11 := bNeI c_13 (show (11 : Int32).toInt = 11 by decide); have e12 := bNeI c_14 (show (12 : Int32).toInt = 12 by decide); omega) (by decide) ?_
                              refine lv_iconst (v := (-1)) hx hb dX8_crane_142 (by decide) ?_
                              subst hu
                              exact bEndI X Y hr hlk dX8_crane_143 rfl rfl
  · have c_1 := bB_f c_1
    rw [if_neg c_1] at hu
    refine lv_iconst (v := (-1)) hx hb dX8_crane_7 (by decide) ?_
    subst hu
    exact bEndI X Y hr hlk dX8_crane_8 rfl rfl
def s_crane8_1 (nw : Nat → Int32) (what : Int32) : Int32 :=
  if (s_isCrane8 1) = true then
    if what = 0 then
      (nw 20)
    else
      if what = 1 then
        (nw 21) + 100000
      else
        if what = 2 then
          (nw 22)
        else
          if what = 3 then
            (nw 23)
          else
            if what = 4 then
              (nw 24) + 100000
            else
              if what = 5 then
                (nw 25) + 100000
              else
                if what = 6 then
                  (nw 26) + 100000
                else
                  if what = 7 then
                    (nw 27)
                  else
                    if what = 8 then
                      (s_limitOf8_1 nw)
                    else
                      if what = 9 then
                        (nw 28)
                      else
                        if what = 10 then
                          (s_stopBy8 nw (nw 21))
                        else
                          if what = 11 then
                            nI (s_halfOf8 (nw 22))
                          else
                            if what = 12 then
                              (s_isQuiet8_1 nw)
                            else
                              (-1)
  else
    (-1)
set_option maxHeartbeats 4000000 in
set_option maxRecDepth 100000 in
theorem c_crane8_1 (l : Launch) (D : va_G) (cyC cyI : ClassId) (mM : Nat) (mN : Nat) (mR : Nat) (mA : Nat) (mP : Nat) (mT : Nat) (mD : Nat) (ch : Int32) (le : Int32) (sp : Int32) (nw : Nat → Int32) (what : Int32) (o0 : Int32) (hu : s_crane8_1 nw what = o0) (hc1_ : 1 ≤ nw 2) (hr0 : 0 ≤ nw 22) (hr6 : nw 22 ≤ 60) : CI l yX8_crane wsX8_crane { frames := 2, cells := 0, slots := 0, locals := 44 } D cyC cyI [.ref mM, .int 1, .int what] [(mM, .inr (8, [.ref mN, .ref mR, .ref mA, .ref mP, .int ch, .ref mT, .int le, .int sp, .ref mD])), (mN, .inl (cyI, 515, .inl nw))] o0 [(mM, .inr (8, [.ref mN, .ref mR, .ref mA, .ref mP, .int ch, .ref mT, .int le, .int sp, .ref mD])), (mN, .inl (cyI, 515, .inl nw))] := by
  refine CI.of (cc := cX8_crane) (n := 3) (ret := (some .int)) (by decide +kernel) rfl (Nat.le_of_ble_eq_true rfl) ?_
  intro p_ e_ s_ m_ bl_ me_ cd_ A_ ls X Y hr hlk hl
  have hx := X.1.1
  have hb := X.1.2.1
  have hl : lv_has ls 3 [(0, .ref mM), (1, .int 1), (2, .int what)] := hl
  unfold s_crane8_1 at hu
  refine lv_iload_n hx hb dX8_crane_0 rfl (lv_at hl 1 rfl) ?_
  refine bSI (As := [.int 1]) (rest := []) X Y (c_isCrane8 l D cyC cyI 1 (s_isCrane8 1) rfl) gX8_crane_X8_isCrane rfl ⟨rfl, rfl⟩ hd_X8_isCrane.2 ⟨(Nat.le_of_ble_eq_true rfl), (Nat.le_of_ble_eq_true rfl)⟩ rfl rfl hl.1 (Nat.le_of_ble_eq_true rfl) ⟨Nat.zero_le _, Nat.zero_le _⟩ dX8_crane_1 (fun H locs Y => ?_)
  refine lv_if_ne (tgt := 9) hx hb dX8_crane_4 (by decide) (fun c_1 => ?_) (fun c_1 => ?_)
  · have c_1 := bB_t c_1
    rw [if_pos c_1] at hu
    refine lv_iload_n hx hb dX8_crane_9 rfl (lv_at hl 2 rfl) ?_
    by_cases c_2 : what = 0
    · rw [if_pos c_2] at hu
      refine lv_tableIn (tgt := 76) (off := 66) hx hb dX8_crane_10 (by rw [c_2]; decide) (by rw [c_2]; decide) (by rw [c_2]; decide +kernel) (by decide) ?_
      refine lv_aload_n hx hb dX8_crane_76 rfl (lv_at hl 0 rfl) ?_
      refine lv_iload_n hx hb dX8_crane_77 rfl (lv_at hl 1 rfl) ?_
      refine lv_iload_n hx hb dX8_crane_78 rfl (lv_at hl 2 rfl) ?_
      refine bVI0 (As := [.int 1, .int what]) (rest := []) (wc := [(mM, .inr (8, [.ref mN, .ref mR, .ref mA, .ref mP, .int ch, .ref mT, .int le, .int sp, .ref mD])), (mN, .inl (cyI, 515, .inl nw))]) (ci := 8) (q0 := 0) X Y (c_of8 l D cyC cyI mM mN mR mA mP mT mD ch le sp nw 1 what (nw 20) (bOf (i := 20) (by rw [c_2]; decide) rfl) (by rw [c_2]; exact bInD (by decide))) gX8_crane_X8_of rfl ⟨rfl, rfl⟩ hd_X8_of ⟨(Nat.le_of_ble_eq_true rfl), (Nat.le_of_ble_eq_true rfl)⟩ rfl rfl rfl [0, 1] rfl rfl rfl rfl hl.1 (Nat.le_of_ble_eq_true rfl) ⟨Nat.zero_le _, Nat.zero_le _⟩ dX8_crane_79 (fun H locs Y => ?_)
      subst hu
      exact bEndI X Y hr hlk dX8_crane_82 rfl rfl
    · skip
      rw [if_neg c_2] at hu
      by_cases c_3 : what = 1
      · rw [if_pos c_3] at hu
        refine lv_tableIn (tgt := 83) (off := 73) hx hb dX8_crane_10 (by rw [c_3]; decide) (by rw [c_3]; decide) (by rw [c_3]; decide +kernel) (by decide) ?_
        refine lv_aload_n hx hb dX8_crane_83 rfl (lv_at hl 0 rfl) ?_
        refine lv_iload_n hx hb dX8_crane_84 rfl (lv_at hl 1 rfl) ?_
        refine lv_iload_n hx hb dX8_crane_85 rfl (lv_at hl 2 rfl) ?_
        refine bVI0 (As := [.int 1, .int what]) (rest := []) (wc := [(mM, .inr (8, [.ref mN, .ref mR, .ref mA, .ref mP, .int ch, .ref mT, .int le, .int sp, .ref mD])), (mN, .inl (cyI, 515, .inl nw))]) (ci := 8) (q0 := 0) X Y (c_of8 l D cyC cyI mM mN mR mA mP mT mD ch le sp nw 1 what (nw 21) (bOf (i := 21) (by rw [c_3]; decide) rfl) (by rw [c_3]; exact bInD (by decide))) gX8_crane_X8_of rfl ⟨rfl, rfl⟩ hd_X8_of ⟨(Nat.le_of_ble_eq_true rfl), (Nat.le_of_ble_eq_true rfl)⟩ rfl rfl rfl [0, 1] rfl rfl rfl rfl hl.1 (Nat.le_of_ble_eq_true rfl) ⟨Nat.zero_le _, Nat.zero_le _⟩ dX8_crane_86 (fun H locs Y => ?_)
        refine lv_ldc (v := 100000) hx hb X.1.2.2.2.1 (X.1.2.2.2.2 _ k_X8_crane_161) dX8_crane_89 ?_
        refine bAdd (v := (nw 21) + 100000) X dX8_crane_91 rfl ?_
        subst hu
        exact bEndI X Y hr hlk dX8_crane_92 rfl rfl
      · skip
        rw [if_neg c_3] at hu
        by_cases c_4 : what = 2
        · rw [if_pos c_4] at hu
          refine lv_tableIn (tgt := 76) (off := 66) hx hb dX8_crane_10 (by rw [c_4]; decide) (by rw [c_4]; decide) (by rw [c_4]; decide +kernel) (by decide) ?_
          refine lv_aload_n hx hb dX8_crane_76 rfl (lv_at hl 0 rfl) ?_
          refine lv_iload_n hx hb dX8_crane_77 rfl (lv_at hl 1 rfl) ?_
          refine lv_iload_n hx hb dX8_crane_78 rfl (lv_at hl 2 rfl) ?_
          refine bVI0 (As := [.int 1, .int what]) (rest := []) (wc := [(mM, .inr (8, [.ref mN, .ref mR, .ref mA, .ref mP, .int ch, .ref mT, .int le, .int sp, .ref mD])), (mN, .inl (cyI, 515, .inl nw))]) (ci := 8) (q0 := 0) X Y (c_of8 l D cyC cyI mM mN mR mA mP mT mD ch le sp nw 1 what (nw 22) (bOf (i := 22) (by rw [c_4]; decide) rfl) (by rw [c_4]; exact bInD (by decide))) gX8_crane_X8_of rfl ⟨rfl, rfl⟩ hd_X8_of ⟨(Nat.le_of_ble_eq_true rfl), (Nat.le_of_ble_eq_true rfl)⟩ rfl rfl rfl [0, 1] rfl rfl rfl rfl hl.1 (Nat.le_of_ble_eq_true rfl) ⟨Nat.zero_le _, Nat.zero_le _⟩ dX8_crane_79 (fun H locs Y => ?_)
          subst hu
          exact bEndI X Y hr hlk dX8_crane_82 rfl rfl
        · skip
          rw [if_neg c_4] at hu
          by_cases c_5 : what = 3
          · rw [if_pos c_5] at hu
            refine lv_tableIn (tgt := 76) (off := 66) hx hb dX8_crane_10 (by rw [c_5]; decide) (by rw [c_5]; decide) (by rw [c_5]; decide +kernel) (by decide) ?_
            refine lv_aload_n hx hb dX8_crane_76 rfl (lv_at hl 0 rfl) ?_
            refine lv_iload_n hx hb dX8_crane_77 rfl (lv_at hl 1 rfl) ?_
            refine lv_iload_n hx hb dX8_crane_78 rfl (lv_at hl 2 rfl) ?_
            refine bVI0 (As := [.int 1, .int what]) (rest := []) (wc := [(mM, .inr (8, [.ref mN, .ref mR, .ref mA, .ref mP, .int ch, .ref mT, .int le, .int sp, .ref mD])), (mN, .inl (cyI, 515, .inl nw))]) (ci := 8) (q0 := 0) X Y (c_of8 l D cyC cyI mM mN mR mA mP mT mD ch le sp nw 1 what (nw 23) (bOf (i := 23) (by rw [c_5]; decide) rfl) (by rw [c_5]; exact bInD (by decide))) gX8_crane_X8_of rfl ⟨rfl, rfl⟩ hd_X8_of ⟨(Nat.le_of_ble_eq_true rfl), (Nat.le_of_ble_eq_true rfl)⟩ rfl rfl rfl [0, 1] rfl rfl rfl rfl hl.1 (Nat.le_of_ble_eq_true rfl) ⟨Nat.zero_le _, Nat.zero_le _⟩ dX8_crane_79 (fun H locs Y => ?_)
            subst hu
            exact bEndI X Y hr hlk dX8_crane_82 rfl rfl
          · skip
            rw [if_neg c_5] at hu
            by_cases c_6 : what = 4
            · rw [if_pos c_6] at hu
              refine lv_tableIn (tgt := 83) (off := 73) hx hb dX8_crane_10 (by rw [c_6]; decide) (by rw [c_6]; decide) (by rw [c_6]; decide +kernel) (by decide) ?_
              refine lv_aload_n hx hb dX8_crane_83 rfl (lv_at hl 0 rfl) ?_
              refine lv_iload_n hx hb dX8_crane_84 rfl (lv_at hl 1 rfl) ?_
              refine lv_iload_n hx hb dX8_crane_85 rfl (lv_at hl 2 rfl) ?_
              refine bVI0 (As := [.int 1, .int what]) (rest := []) (wc := [(mM, .inr (8, [.ref mN, .ref mR, .ref mA, .ref mP, .int ch, .ref mT, .int le, .int sp, .ref mD])), (mN, .inl (cyI, 515, .inl nw))]) (ci := 8) (q0 := 0) X Y (c_of8 l D cyC cyI mM mN mR mA mP mT mD ch le sp nw 1 what (nw 24) (bOf (i := 24) (by rw [c_6]; decide) rfl) (by rw [c_6]; exact bInD (by decide))) gX8_crane_X8_of rfl ⟨rfl, rfl⟩ hd_X8_of ⟨(Nat.le_of_ble_eq_true rfl), (Nat.le_of_ble_eq_true rfl)⟩ rfl rfl rfl [0, 1] rfl rfl rfl rfl hl.1 (Nat.le_of_ble_eq_true rfl) ⟨Nat.zero_le _, Nat.zero_le _⟩ dX8_crane_86 (fun H locs Y => ?_)
              refine lv_ldc (v := 100000) hx hb X.1.2.2.2.1 (X.1.2.2.2.2 _ k_X8_crane_161) dX8_crane_89 ?_
              refine bAdd (v := (nw 24) + 100000) X dX8_crane_91 rfl ?_
              subst hu
              exact bEndI X Y hr hlk dX8_crane_92 rfl rfl
            · skip
              rw [if_neg c_6] at hu
              by_cases c_7 : what = 5
              · rw [if_pos c_7] at hu
                refine lv_tableIn (tgt := 83) (off := 73) hx hb dX8_crane_10 (by rw [c_7]; decide) (by rw [c_7]; decide) (by rw [c_7]; decide +kernel) (by decide) ?_
                refine lv_aload_n hx hb dX8_crane_83 rfl (lv_at hl 0 rfl) ?_
                refine lv_iload_n hx hb dX8_crane_84 rfl (lv_at hl 1 rfl) ?_
                refine lv_iload_n hx hb dX8_crane_85 rfl (lv_at hl 2 rfl) ?_
                refine bVI0 (As := [.int 1, .int what]) (rest := []) (wc := [(mM, .inr (8, [.ref mN, .ref mR, .ref mA, .ref mP, .int ch, .ref mT, .int le, .int sp, .ref mD])), (mN, .inl (cyI, 515, .inl nw))]) (ci := 8) (q0 := 0) X Y (c_of8 l D cyC cyI mM mN mR mA mP mT mD ch le sp nw 1 what (nw 25) (bOf (i := 25) (by rw [c_7]; decide) rfl) (by rw [c_7]; exact bInD (by decide))) gX8_crane_X8_of rfl ⟨rfl, rfl⟩ hd_X8_of ⟨(Nat.le_of_ble_eq_true rfl), (Nat.le_of_ble_eq_true rfl)⟩ rfl rfl rfl [0, 1] rfl rfl rfl rfl hl.1 (Nat.le_of_ble_eq_true rfl) ⟨Nat.zero_le _, Nat.zero_le _⟩ dX8_crane_86 (fun H locs Y => ?_)
                refine lv_ldc (v := 100000) hx hb X.1.2.2.2.1 (X.1.2.2.2.2 _ k_X8_crane_161) dX8_crane_89 ?_
                refine bAdd (v := (nw 25) + 100000) X dX8_crane_91 rfl ?_
                subst hu
                exact bEndI X Y hr hlk dX8_crane_92 rfl rfl
              · skip
                rw [if_neg c_7] at hu
                by_cases c_8 : what = 6
                · rw [if_pos c_8] at hu
                  refine lv_tableIn (tgt := 83) (off := 73) hx hb dX8_crane_10 (by rw [c_8]; decide) (by rw [c_8]; decide) (by rw [c_8]; decide +kernel) (by decide) ?_
                  refine lv_aload_n hx hb dX8_crane_83 rfl (lv_at hl 0 rfl) ?_
                  refine lv_iload_n hx hb dX8_crane_84 rfl (lv_at hl 1 rfl) ?_
                  refine lv_iload_n hx hb dX8_crane_85 rfl (lv_at hl 2 rfl) ?_
                  refine bVI0 (As := [.int 1, .int what]) (rest := []) (wc := [(mM, .inr (8, [.ref mN, .ref mR, .ref mA, .ref mP, .int ch, .ref mT, .int le, .int sp, .ref mD])), (mN, .inl (cyI, 515, .inl nw))]) (ci := 8) (q0 := 0) X Y (c_of8 l D cyC cyI mM mN mR mA mP mT mD ch le sp nw 1 what (nw 26) (bOf (i := 26) (by rw [c_8]; decide) rfl) (by rw [c_8]; exact bInD (by decide))) gX8_crane_X8_of rfl ⟨rfl, rfl⟩ hd_X8_of ⟨(Nat.le_of_ble_eq_true rfl), (Nat.le_of_ble_eq_true rfl)⟩ rfl rfl rfl [0, 1] rfl rfl rfl rfl hl.1 (Nat.le_of_ble_eq_true rfl) ⟨Nat.zero_le _, Nat.zero_le _⟩ dX8_crane_86 (fun H locs Y => ?_)
                  refine lv_ldc (v := 100000) hx hb X.1.2.2.2.1 (X.1.2.2.2.2 _ k_X8_crane_161) dX8_crane_89 ?_
                  refine bAdd (v := (nw 26) + 100000) X dX8_crane_91 rfl ?_
                  subst hu
                  exact bEndI X Y hr hlk dX8_crane_92 rfl rfl
                · skip
                  rw [if_neg c_8] at hu
                  by_cases c_9 : what = 7
                  · rw [if_pos c_9] at hu
                    refine lv_tableIn (tgt := 93) (off := 83) hx hb dX8_crane_10 (by rw [c_9]; decide) (by rw [c_9]; decide) (by rw [c_9]; decide +kernel) (by decide) ?_
                    refine lv_aload_n hx hb dX8_crane_93 rfl (lv_at hl 0 rfl) ?_
                    refine lv_iload_n hx hb dX8_crane_94 rfl (lv_at hl 1 rfl) ?_
                    refine lv_bipush (v := 7) hx hb dX8_crane_95 (by decide) ?_
                    refine bVI0 (As := [.int 1, .int 7]) (rest := []) (wc := [(mM, .inr (8, [.ref mN, .ref mR, .ref mA, .ref mP, .int ch, .ref mT, .int le, .int sp, .ref mD])), (mN, .inl (cyI, 515, .inl nw))]) (ci := 8) (q0 := 0) X Y (c_of8 l D cyC cyI mM mN mR mA mP mT mD ch le sp nw 1 7 (nw 27) (bOf (i := 27) (by decide) rfl) (bInD (by decide))) gX8_crane_X8_of rfl ⟨rfl, rfl⟩ hd_X8_of ⟨(Nat.le_of_ble_eq_true rfl), (Nat.le_of_ble_eq_true rfl)⟩ rfl rfl rfl [0, 1] rfl rfl rfl rfl hl.1 (Nat.le_of_ble_eq_true rfl) ⟨Nat.zero_le _, Nat.zero_le _⟩ dX8_crane_97 (fun H locs Y => ?_)
                    subst hu
                    exact bEndI X Y hr hlk dX8_crane_100 rfl rfl
                  · skip
                    rw [if_neg c_9] at hu
                    by_cases c_10 : what = 8
                    · rw [if_pos c_10] at hu
                      refine lv_tableIn (tgt := 101) (off := 91) hx hb dX8_crane_10 (by rw [c_10]; decide) (by rw [c_10]; decide) (by rw [c_10]; decide +kernel) (by decide) ?_
                      refine lv_aload_n hx hb dX8_crane_101 rfl (lv_at hl 0 rfl) ?_
                      refine lv_iload_n hx hb dX8_crane_102 rfl (lv_at hl 1 rfl) ?_
                      refine bVI0 (As := [.int 1]) (rest := []) (wc := [(mM, .inr (8, [.ref mN, .ref mR, .ref mA, .ref mP, .int ch, .ref mT, .int le, .int sp, .ref mD])), (mN, .inl (cyI, 515, .inl nw))]) (ci := 8) (q0 := 0) X Y (c_limitOf8_1 l D cyC cyI mM mN mR mA mP mT mD ch le sp nw (s_limitOf8_1 nw) rfl) gX8_crane_X8_limitOf rfl ⟨rfl, rfl⟩ hd_X8_limitOf ⟨(Nat.le_of_ble_eq_true rfl), (Nat.le_of_ble_eq_true rfl)⟩ rfl rfl rfl [0, 1] rfl rfl rfl rfl hl.1 (Nat.le_of_ble_eq_true rfl) ⟨Nat.zero_le _, Nat.zero_le _⟩ dX8_crane_103 (fun H locs Y => ?_)
                      subst hu
                      exact bEndI X Y hr hlk dX8_crane_106 rfl rfl
                    · skip
                      rw [if_neg c_10] at hu
                      by_cases c_11 : what = 9
                      · rw [if_pos c_11] at hu
                        refine lv_tableIn (tgt := 107) (off := 97) hx hb dX8_crane_10 (by rw [c_11]; decide) (by rw [c_11]; decide) (by rw [c_11]; decide +kernel) (by decide) ?_
                        refine lv_aload_n hx hb dX8_crane_107 rfl (lv_at hl 0 rfl) ?_
                        refine lv_iload_n hx hb dX8_crane_108 rfl (lv_at hl 1 rfl) ?_
                        refine lv_bipush (v := 8) hx hb dX8_crane_109 (by decide) ?_
                        refine bVI0 (As := [.int 1, .int 8]) (rest := []) (wc := [(mM, .inr (8, [.ref mN, .ref mR, .ref mA, .ref mP, .int ch, .ref mT, .int le, .int sp, .ref mD])), (mN, .inl (cyI, 515, .inl nw))]) (ci := 8) (q0 := 0) X Y (c_of8 l D cyC cyI mM mN mR mA mP mT mD ch le sp nw 1 8 (nw 28) (bOf (i := 28) (by decide) rfl) (bInD (by decide))) gX8_crane_X8_of rfl ⟨rfl, rfl⟩ hd_X8_of ⟨(Nat.le_of_ble_eq_true rfl), (Nat.le_of_ble_eq_true rfl)⟩ rfl rfl rfl [0, 1] rfl rfl rfl rfl hl.1 (Nat.le_of_ble_eq_true rfl) ⟨Nat.zero_le _, Nat.zero_le _⟩ dX8_crane_111 (fun H locs Y => ?_)
                        subst hu
                        exact bEndI X Y hr hlk dX8_crane_114 rfl rfl
                      · skip
                        rw [if_neg c_11] at hu
                        by_cases c_12 : what = 10
                        · rw [if_pos c_12] at hu
                          refine lv_tableIn (tgt := 115) (off := 105) hx hb dX8_crane_10 (by rw [c_12]; decide) (by rw [c_12]; decide) (by rw [c_12]; decide +kernel) (by decide) ?_
                          refine lv_aload_n hx hb dX8_crane_115 rfl (lv_at hl 0 rfl) ?_
                          refine lv_aload_n hx hb dX8_crane_116 rfl (lv_at hl 0 rfl) ?_
                          refine lv_iload_n hx hb dX8_crane_117 rfl (lv_at hl 1 rfl) ?_
                          refine lv_iconst (v := 1) hx hb dX8_crane_118 (by decide) ?_
                          refine bVI0 (As := [.int 1, .int 1]) (rest := [.ref mM]) (wc := [(mM, .inr (8, [.ref mN, .ref mR, .ref mA, .ref mP, .int ch, .ref mT, .int le, .int sp, .ref mD])), (mN, .inl (cyI, 515, .inl nw))]) (ci := 8) (q0 := 0) X Y (c_of8 l D cyC cyI mM mN mR mA mP mT mD ch le sp nw 1 1 (nw 21) (bOf (i := 21) (by decide) rfl) (bInD (by decide))) gX8_crane_X8_of rfl ⟨rfl, rfl⟩ hd_X8_of ⟨(Nat.le_of_ble_eq_true rfl), (Nat.le_of_ble_eq_true rfl)⟩ rfl rfl rfl [0, 1] rfl rfl rfl rfl hl.1 (Nat.le_of_ble_eq_true rfl) ⟨Nat.zero_le _, Nat.zero_le _⟩ dX8_crane_119 (fun H locs Y => ?_)
                          refine bVI0 (As := [.int (nw 21)]) (rest := []) (wc := [(mM, .inr (8, [.ref mN, .ref mR, .ref mA, .ref mP, .int ch, .ref mT, .int le, .int sp, .ref mD])), (mN, .inl (cyI, 515, .inl nw))]) (ci := 8) (q0 := 0) X Y (c_stopBy8 l D cyC cyI mM mN mR mA mP mT mD ch le sp nw (nw 21) (s_stopBy8 nw (nw 21)) rfl (by first | assumption | omega | decide)) gX8_crane_X8_stopBy rfl ⟨rfl, rfl⟩ hd_X8_stopBy ⟨(Nat.le_of_ble_eq_true rfl), (Nat.le_of_ble_eq_true rfl)⟩ rfl rfl rfl [0, 1] rfl rfl rfl rfl hl.1 (Nat.le_of_ble_eq_true rfl) ⟨Nat.zero_le _, Nat.zero_le _⟩ dX8_crane_122 (fun H locs Y => ?_)
                          subst hu
                          exact bEndI X Y hr hlk dX8_crane_125 rfl rfl
                        · skip
                          rw [if_neg c_12] at hu
                          by_cases c_13 : what = 11
                          · rw [if_pos c_13] at hu
                            refine lv_tableIn (tgt := 126) (off := 116) hx hb dX8_crane_10 (by rw [c_13]; decide) (by rw [c_13]; decide) (by rw [c_13]; decide +kernel) (by decide) ?_
                            refine lv_aload_n hx hb dX8_crane_126 rfl (lv_at hl 0 rfl) ?_
                            refine lv_iload_n hx hb dX8_crane_127 rfl (lv_at hl 1 rfl) ?_
                            refine lv_iconst (v := 2) hx hb dX8_crane_128 (by decide) ?_
                            refine bVI0 (As := [.int 1, .int 2]) (rest := []) (wc := [(mM, .inr (8, [.ref mN, .ref mR, .ref mA, .ref mP, .int ch, .ref mT, .int le, .int sp, .ref mD])), (mN, .inl (cyI, 515, .inl nw))]) (ci := 8) (q0 := 0) X Y (c_of8 l D cyC cyI mM mN mR mA mP mT mD ch le sp nw 1 2 (nw 22) (bOf (i := 22) (by decide) rfl) (bInD (by decide))) gX8_crane_X8_of rfl ⟨rfl, rfl⟩ hd_X8_of ⟨(Nat.le_of_ble_eq_true rfl), (Nat.le_of_ble_eq_true rfl)⟩ rfl rfl rfl [0, 1] rfl rfl rfl rfl hl.1 (Nat.le_of_ble_eq_true rfl) ⟨Nat.zero_le _, Nat.zero_le _⟩ dX8_crane_129 (fun H locs Y => ?_)
                            refine bSI (As := [.int (nw 22)]) (rest := []) X Y (c_halfOf8 l D cyC cyI (nw 22) (s_halfOf8 (nw 22)) rfl (by first | assumption | omega | decide) (by first | assumption | omega | decide)) gX8_crane_X8_halfOf rfl ⟨rfl, rfl⟩ hd_X8_halfOf.2 ⟨(Nat.le_of_ble_eq_true rfl), (Nat.le_of_ble_eq_true rfl)⟩ rfl rfl hl.1 (Nat.le_of_ble_eq_true rfl) ⟨Nat.zero_le _, Nat.zero_le _⟩ dX8_crane_132 (fun H locs Y => ?_)
                            subst hu
                            exact bEndI X Y hr hlk dX8_crane_135 rfl rfl
                          · skip
                            rw [if_neg c_13] at hu
                            by_cases c_14 : what = 12
                            · rw [if_pos c_14] at hu
                              refine lv_tableIn (tgt := 136) (off := 126) hx hb dX8_crane_10 (by rw [c_14]; decide) (by rw [c_14]; decide) (by rw [c_14]; decide +kernel) (by decide) ?_
                              refine lv_aload_n hx hb dX8_crane_136 rfl (lv_at hl 0 rfl) ?_
                              refine lv_iload_n hx hb dX8_crane_137 rfl (lv_at hl 1 rfl) ?_
                              refine bVI0 (As := [.int 1]) (rest := []) (wc := [(mM, .inr (8, [.ref mN, .ref mR, .ref mA, .ref mP, .int ch, .ref mT, .int le, .int sp, .ref mD])), (mN, .inl (cyI, 515, .inl nw))]) (ci := 8) (q0 := 0) X Y (c_isQuiet8_1 l D cyC cyI mM mN mR mA mP mT mD ch le sp nw (s_isQuiet8_1 nw) rfl) gX8_crane_X8_isQuiet rfl ⟨rfl, rfl⟩ hd_X8_isQuiet ⟨(Nat.le_of_ble_eq_true rfl), (Nat.le_of_ble_eq_true rfl)⟩ rfl rfl rfl [0, 1] rfl rfl rfl rfl hl.1 (Nat.le_of_ble_eq_true rfl) ⟨Nat.zero_le _, Nat.zero_le _⟩ dX8_crane_138 (fun H locs Y => ?_)
                              subst hu
                              exact bEndI X Y hr hlk dX8_crane_141 rfl rfl
                            · skip
                              rw [if_neg c_14] at hu
                              refine lv_tableOut (tgt := 142) hx hb dX8_crane_10 (by have e0 := bNeI c_2 (show (0 : Int32).toInt = 0 by decide); have e1 := bNeI c_3 (show (1 : Int32).toInt = 1 by decide); have e2 := bNeI c_4 (show (2 : Int32).toInt = 2 by decide); have e3 := bNeI c_5 (show (3 : Int32).toInt = 3 by decide); have e4 := bNeI c_6 (show (4 : Int32).toInt = 4 by decide); have e5 := bNeI c_7 (show (5 : Int32).toInt = 5 by decide); have e6 := bNeI c_8 (show (6 : Int32).toInt = 6 by decide); have e7 := bNeI c_9 (show (7 : Int32).toInt = 7 by decide); have e8 := bNeI c_10 (show (8 : Int32).toInt = 8 by decide); have e9 := bNeI c_11 (show (9 : Int32).toInt = 9 by decide); have e10 := bNeI c_12 (show (10 : Int32).toInt = 10 by decide); have e11 := bNeI c_13 (show (11 : Int32).toInt = 11 by decide); have e12 := bNeI c_14 (show (12 : Int32).toInt = 12 by decide); omega) (by decide) ?_
                              refine lv_iconst (v := (-1)) hx hb dX8_crane_142 (by decide) ?_
                              subst hu
                              exact bEndI X Y hr hlk dX8_crane_143 rfl rfl
  · have c_1 := bB_f c_1
    rw [if_neg c_1] at hu
    refine lv_iconst (v := (-1)) hx hb dX8_crane_7 (by decide) ?_
    subst hu
    exact bEndI X Y hr hlk dX8_crane_8 rfl rfl
def s_crane8_b : Int32 :=
  (-1)
set_option maxHeartbeats 4000000 in
set_option maxRecDepth 100000 in
theorem c_crane8_b (l : Launch) (D : va_G) (cyC cyI : ClassId) (mM : Nat) (mN : Nat) (mR : Nat) (mA : Nat) (mP : Nat) (mT : Nat) (mD : Nat) (ch : Int32) (le : Int32) (sp : Int32) (c : Int32) (what : Int32) (o0 : Int32) (hu : s_crane8_b = o0) (hc0 : ¬ c = 0) (hc1 : ¬ c = 1) : CI l yX8_crane wsX8_crane { frames := 1, cells := 0, slots := 0, locals := 20 } D cyC cyI [.ref mM, .int c, .int what] [(mM, .inr (8, [.ref mN, .ref mR, .ref mA, .ref mP, .int ch, .ref mT, .int le, .int sp, .ref mD]))] o0 [(mM, .inr (8, [.ref mN, .ref mR, .ref mA, .ref mP, .int ch, .ref mT, .int le, .int sp, .ref mD]))] := by
  refine CI.of (cc := cX8_crane) (n := 3) (ret := (some .int)) (by decide +kernel) rfl (Nat.le_of_ble_eq_true rfl) ?_
  intro p_ e_ s_ m_ bl_ me_ cd_ A_ ls X Y hr hlk hl
  have hx := X.1.1
  have hb := X.1.2.1
  have hl : lv_has ls 3 [(0, .ref mM), (1, .int c), (2, .int what)] := hl
  unfold s_crane8_b at hu
  refine lv_iload_n hx hb dX8_crane_0 rfl (lv_at hl 1 rfl) ?_
  refine bSI (As := [.int c]) (rest := []) X Y (c_isCrane8 l D cyC cyI c (s_isCrane8 c) rfl) gX8_crane_X8_isCrane rfl ⟨rfl, rfl⟩ hd_X8_isCrane.2 ⟨(Nat.le_of_ble_eq_true rfl), (Nat.le_of_ble_eq_true rfl)⟩ rfl rfl hl.1 (Nat.le_of_ble_eq_true rfl) ⟨Nat.zero_le _, Nat.zero_le _⟩ dX8_crane_1 (fun H locs Y => ?_)
  refine lv_if_ne (tgt := 9) hx hb dX8_crane_4 (by decide) (fun c_1 => ?_) (fun c_1 => ?_)
  · have c_1 := bB_t c_1
    exact absurd c_1 (isCrane8_no hc0 hc1)
  · have c_1 := bB_f c_1
    refine lv_iconst (v := (-1)) hx hb dX8_crane_7 (by decide) ?_
    subst hu
    exact bEndI X Y hr hlk dX8_crane_8 rfl rfl
def s_stop8 (nw : Nat → Int32) (v : Int32) : Int32 :=
  if (s_in8 v (-40) 40) = true then
    (s_stopBy8 nw v)
  else
    (-1)
set_option maxHeartbeats 4000000 in
set_option maxRecDepth 100000 in
theorem c_stop8 (l : Launch) (D : va_G) (cyC cyI : ClassId) (mM : Nat) (mN : Nat) (mR : Nat) (mA : Nat) (mP : Nat) (mT : Nat) (mD : Nat) (ch : Int32) (le : Int32) (sp : Int32) (nw : Nat → Int32) (v : Int32) (o0 : Int32) (hu : s_stop8 nw v = o0) (hc1 : 1 ≤ nw 2) : CI l yX8_stop wsX8_stop { frames := 2, cells := 0, slots := 0, locals := 43 } D cyC cyI [.ref mM, .int v] [(mM, .inr (8, [.ref mN, .ref mR, .ref mA, .ref mP, .int ch, .ref mT, .int le, .int sp, .ref mD])), (mN, .inl (cyI, 515, .inl nw))] o0 [(mM, .inr (8, [.ref mN, .ref mR, .ref mA, .ref mP, .int ch, .ref mT, .int le, .int sp, .ref mD])), (mN, .inl (cyI, 515, .inl nw))] := by
  refine CI.of (cc := cX8_stop) (n := 2) (ret := (some .int)) (by decide +kernel) rfl (Nat.le_of_ble_eq_true rfl) ?_
  intro p_ e_ s_ m_ bl_ me_ cd_ A_ ls X Y hr hlk hl
  have hx := X.1.1
  have hb := X.1.2.1
  have hl : lv_has ls 2 [(0, .ref mM), (1, .int v)] := hl
  unfold s_stop8 at hu
  refine lv_iload_n hx hb dX8_stop_0 rfl (lv_at hl 1 rfl) ?_
  refine lv_bipush (v := (-40)) hx hb dX8_stop_1 (by decide) ?_
  refine lv_bipush (v := 40) hx hb dX8_stop_3 (by decide) ?_
  refine bSI (As := [.int v, .int (-40), .int 40]) (rest := []) X Y (c_in8 l D cyC cyI v (-40) 40 (s_in8 v (-40) 40) rfl) gX8_stop_X8_in rfl ⟨rfl, rfl⟩ hd_X8_in.2 ⟨(Nat.le_of_ble_eq_true rfl), (Nat.le_of_ble_eq_true rfl)⟩ rfl rfl hl.1 (Nat.le_of_ble_eq_true rfl) ⟨Nat.zero_le _, Nat.zero_le _⟩ dX8_stop_5 (fun H locs Y => ?_)
  refine lv_if_eq (tgt := 19) hx hb dX8_stop_8 (by decide) (fun c_1 => ?_) (fun c_1 => ?_)
  · have c_1 := bB_f c_1
    rw [if_neg c_1] at hu
    refine lv_iconst (v := (-1)) hx hb dX8_stop_19 (by decide) ?_
    subst hu
    exact bEndI X Y hr hlk dX8_stop_20 rfl rfl
  · have c_1 := bB_t c_1
    rw [if_pos c_1] at hu
    refine lv_aload_n hx hb dX8_stop_11 rfl (lv_at hl 0 rfl) ?_
    refine lv_iload_n hx hb dX8_stop_12 rfl (lv_at hl 1 rfl) ?_
    refine bVI0 (As := [.int v]) (rest := []) (wc := [(mM, .inr (8, [.ref mN, .ref mR, .ref mA, .ref mP, .int ch, .ref mT, .int le, .int sp, .ref mD])), (mN, .inl (cyI, 515, .inl nw))]) (ci := 8) (q0 := 0) X Y (c_stopBy8 l D cyC cyI mM mN mR mA mP mT mD ch le sp nw v (s_stopBy8 nw v) rfl (by first | assumption | omega | decide)) gX8_stop_X8_stopBy rfl ⟨rfl, rfl⟩ hd_X8_stopBy ⟨(Nat.le_of_ble_eq_true rfl), (Nat.le_of_ble_eq_true rfl)⟩ rfl rfl rfl [0, 1] rfl rfl rfl rfl hl.1 (Nat.le_of_ble_eq_true rfl) ⟨Nat.zero_le _, Nat.zero_le _⟩ dX8_stop_13 (fun H locs Y => ?_)
    refine lv_goto (tgt := 20) hx hb dX8_stop_16 (by decide) ?_
    subst hu
    exact bEndI X Y hr hlk dX8_stop_20 rfl rfl
def s_half8 (v : Int32) : Int32 :=
  if (s_in8 v 10 60) = true then
    nI (s_halfOf8 v)
  else
    (-1)
set_option maxHeartbeats 4000000 in
set_option maxRecDepth 100000 in
theorem c_half8 (l : Launch) (D : va_G) (cyC cyI : ClassId) (mM : Nat) (mN : Nat) (mR : Nat) (mA : Nat) (mP : Nat) (mT : Nat) (mD : Nat) (ch : Int32) (le : Int32) (sp : Int32) (v : Int32) (o0 : Int32) (hu : s_half8 v = o0) : CI l yX8_half wsX8_half { frames := 1, cells := 0, slots := 0, locals := 22 } D cyC cyI [.ref mM, .int v] [(mM, .inr (8, [.ref mN, .ref mR, .ref mA, .ref mP, .int ch, .ref mT, .int le, .int sp, .ref mD]))] o0 [(mM, .inr (8, [.ref mN, .ref mR, .ref mA, .ref mP, .int ch, .ref mT, .int le, .int sp, .ref mD]))] := by
  refine CI.of (cc := cX8_half) (n := 2) (ret := (some .int)) (by decide +kernel) rfl (Nat.le_of_ble_eq_true rfl) ?_
  intro p_ e_ s_ m_ bl_ me_ cd_ A_ ls X Y hr hlk hl
  have hx := X.1.1
  have hb := X.1.2.1
  have hl : lv_has ls 2 [(0, .ref mM), (1, .int v)] := hl
  unfold s_half8 at hu
  refine lv_iload_n hx hb dX8_half_0 rfl (lv_at hl 1 rfl) ?_
  refine lv_bipush (v := 10) hx hb dX8_half_1 (by decide) ?_
  refine lv_bipush (v := 60) hx hb dX8_half_3 (by decide) ?_
  refine bSI (As := [.int v, .int 10, .int 60]) (rest := []) X Y (c_in8 l D cyC cyI v 10 60 (s_in8 v 10 60) rfl) gX8_half_X8_in rfl ⟨rfl, rfl⟩ hd_X8_in.2 ⟨(Nat.le_of_ble_eq_true rfl), (Nat.le_of_ble_eq_true rfl)⟩ rfl rfl hl.1 (Nat.le_of_ble_eq_true rfl) ⟨Nat.zero_le _, Nat.zero_le _⟩ dX8_half_5 (fun H locs Y => ?_)
  refine lv_if_eq (tgt := 18) hx hb dX8_half_8 (by decide) (fun c_1 => ?_) (fun c_1 => ?_)
  · have c_1 := bB_f c_1
    rw [if_neg c_1] at hu
    refine lv_iconst (v := (-1)) hx hb dX8_half_18 (by decide) ?_
    subst hu
    exact bEndI X Y hr hlk dX8_half_19 rfl rfl
  · have c_1 := bB_t c_1
    rw [if_pos c_1] at hu
    refine lv_iload_n hx hb dX8_half_11 rfl (lv_at hl 1 rfl) ?_
    refine bSI (As := [.int v]) (rest := []) X Y (c_halfOf8 l D cyC cyI v (s_halfOf8 v) rfl (half0 (in8_iff.mp (by assumption)).1) ((in8_iff.mp (by assumption)).2)) gX8_half_X8_halfOf rfl ⟨rfl, rfl⟩ hd_X8_halfOf.2 ⟨(Nat.le_of_ble_eq_true rfl), (Nat.le_of_ble_eq_true rfl)⟩ rfl rfl hl.1 (Nat.le_of_ble_eq_true rfl) ⟨Nat.zero_le _, Nat.zero_le _⟩ dX8_half_12 (fun H locs Y => ?_)
    refine lv_goto (tgt := 19) hx hb dX8_half_15 (by decide) ?_
    subst hu
    exact bEndI X Y hr hlk dX8_half_19 rfl rfl
theorem i_X8_count_X8 : ∀ w ∈ wsX80, w ∈ wsX8_count := by decide +kernel
theorem f_X8_count_38 : Cond.fieldLink RX8 38 "SwingCranesModel" "changes" "I" ∈ wsX8_count := by decide +kernel
theorem f_X8_count_45 : Cond.fieldLink RX8 45 "SwingCranesModel" "letters" "I" ∈ wsX8_count := by decide +kernel
theorem f_X8_count_7 : Cond.fieldLink RX8 7 "SwingCranesModel" "now" "[I" ∈ wsX8_count := by decide +kernel
def s_count8 (ch : Int32) (le : Int32) (nw : Nat → Int32) (what : Int32) : Int32 :=
  if what = 7 then
    ch
  else
    if what = 8 then
      le
    else
      if what = 9 then
        (s_free8 nw)
      else
        if (s_in8 what 0 6) = true then
          nw what.toNatClampNeg
        else
          (-1)
set_option maxHeartbeats 4000000 in
set_option maxRecDepth 100000 in
theorem c_count8 (l : Launch) (D : va_G) (cyC cyI : ClassId) (mM : Nat) (mN : Nat) (mR : Nat) (mA : Nat) (mP : Nat) (mT : Nat) (mD : Nat) (ch : Int32) (le : Int32) (sp : Int32) (nw : Nat → Int32) (what : Int32) (o0 : Int32) (hu : s_count8 ch le nw what = o0) : CI l yX8_count wsX8_count { frames := 2, cells := 0, slots := 0, locals := 42 } D cyC cyI [.ref mM, .int what] [(mM, .inr (8, [.ref mN, .ref mR, .ref mA, .ref mP, .int ch, .ref mT, .int le, .int sp, .ref mD])), (mN, .inl (cyI, 515, .inl nw))] o0 [(mM, .inr (8, [.ref mN, .ref mR, .ref mA, .ref mP, .int ch, .ref mT, .int le, .int sp, .ref mD])), (mN, .inl (cyI, 515, .inl nw))] := by
  refine CI.of (cc := cX8_count) (n := 2) (ret := (some .int)) (by decide +kernel) rfl (Nat.le_of_ble_eq_true rfl) ?_
  intro p_ e_ s_ m_ bl_ me_ cd_ A_ ls X Y hr hlk hl
  have hx := X.1.1
  have hb := X.1.2.1
  have hl : lv_has ls 2 [(0, .ref mM), (1, .int what)] := hl
  unfold s_count8 at hu
  refine lv_iload_n hx hb dX8_count_0 rfl (lv_at hl 1 rfl) ?_
  by_cases c_1 : what = 7
  · rw [if_pos c_1] at hu
    refine lv_tableIn (tgt := 28) (off := 27) hx hb dX8_count_1 (by rw [c_1]; decide) (by rw [c_1]; decide) (by rw [c_1]; decide +kernel) (by decide) ?_
    refine lv_aload_n hx hb dX8_count_28 rfl (lv_at hl 0 rfl) ?_
    refine bGet (v := .int ch) (T := TX8) (N := 9) (ci := 8) X Y i_X8_count_X8 0 rfl rfl 4 (Nat.le_of_ble_eq_true rfl) f_X8_count_38 rfl rfl dX8_count_29 ?_
    subst hu
    exact bEndI X Y hr hlk dX8_count_32 rfl rfl
  · skip
    rw [if_neg c_1] at hu
    by_cases c_2 : what = 8
    · rw [if_pos c_2] at hu
      refine lv_tableIn (tgt := 33) (off := 32) hx hb dX8_count_1 (by rw [c_2]; decide) (by rw [c_2]; decide) (by rw [c_2]; decide +kernel) (by decide) ?_
      refine lv_aload_n hx hb dX8_count_33 rfl (lv_at hl 0 rfl) ?_
      refine bGet (v := .int le) (T := TX8) (N := 9) (ci := 8) X Y i_X8_count_X8 0 rfl rfl 6 (Nat.le_of_ble_eq_true rfl) f_X8_count_45 rfl rfl dX8_count_34 ?_
      subst hu
      exact bEndI X Y hr hlk dX8_count_37 rfl rfl
    · skip
      rw [if_neg c_2] at hu
      by_cases c_3 : what = 9
      · rw [if_pos c_3] at hu
        refine lv_tableIn (tgt := 38) (off := 37) hx hb dX8_count_1 (by rw [c_3]; decide) (by rw [c_3]; decide) (by rw [c_3]; decide +kernel) (by decide) ?_
        refine lv_aload_n hx hb dX8_count_38 rfl (lv_at hl 0 rfl) ?_
        refine bVI0 (As := []) (rest := []) (wc := [(mM, .inr (8, [.ref mN, .ref mR, .ref mA, .ref mP, .int ch, .ref mT, .int le, .int sp, .ref mD])), (mN, .inl (cyI, 515, .inl nw))]) (ci := 8) (q0 := 0) X Y (c_free8 l D cyC cyI mM mN mR mA mP mT mD ch le sp nw (s_free8 nw) rfl) gX8_count_X8_free rfl ⟨rfl, rfl⟩ hd_X8_free ⟨(Nat.le_of_ble_eq_true rfl), (Nat.le_of_ble_eq_true rfl)⟩ rfl rfl rfl [0, 1] rfl rfl rfl rfl hl.1 (Nat.le_of_ble_eq_true rfl) ⟨Nat.zero_le _, Nat.zero_le _⟩ dX8_count_39 (fun H locs Y => ?_)
        subst hu
        exact bEndI X Y hr hlk dX8_count_42 rfl rfl
      · skip
        rw [if_neg c_3] at hu
        refine lv_tableOut (tgt := 43) hx hb dX8_count_1 (by have e0 := bNeI c_1 (show (7 : Int32).toInt = 7 by decide); have e1 := bNeI c_2 (show (8 : Int32).toInt = 8 by decide); have e2 := bNeI c_3 (show (9 : Int32).toInt = 9 by decide); omega) (by decide) ?_
        refine lv_iload_n hx hb dX8_count_43 rfl (lv_at hl 1 rfl) ?_
        refine lv_iconst (v := 0) hx hb dX8_count_44 (by decide) ?_
        refine lv_bipush (v := 6) hx hb dX8_count_45 (by decide) ?_
        refine bSI (As := [.int what, .int 0, .int 6]) (rest := []) X Y (c_in8 l D cyC cyI what 0 6 (s_in8 what 0 6) rfl) gX8_count_X8_in rfl ⟨rfl, rfl⟩ hd_X8_in.2 ⟨(Nat.le_of_ble_eq_true rfl), (Nat.le_of_ble_eq_true rfl)⟩ rfl rfl hl.1 (Nat.le_of_ble_eq_true rfl) ⟨Nat.zero_le _, Nat.zero_le _⟩ dX8_count_47 (fun H locs Y => ?_)
        refine lv_if_eq (tgt := 62) hx hb dX8_count_50 (by decide) (fun c_4 => ?_) (fun c_4 => ?_)
        · have c_4 := bB_f c_4
          rw [if_neg c_4] at hu
          refine lv_iconst (v := (-1)) hx hb dX8_count_62 (by decide) ?_
          subst hu
          exact bEndI X Y hr hlk dX8_count_63 rfl rfl
        · have c_4 := bB_t c_4
          rw [if_pos c_4] at hu
          refine lv_aload_n hx hb dX8_count_53 rfl (lv_at hl 0 rfl) ?_
          refine bGet (v := .ref mN) (T := TX8) (N := 9) (ci := 8) X Y i_X8_count_X8 0 rfl rfl 0 (Nat.le_of_ble_eq_true rfl) f_X8_count_7 rfl rfl dX8_count_54 ?_
          refine lv_iload_n hx hb dX8_count_57 rfl (lv_at hl 1 rfl) ?_
          refine bIald (v := nw what.toNatClampNeg) X Y 1 rfl (bInC (by assumption)) dX8_count_58 rfl ?_
          refine lv_goto (tgt := 63) hx hb dX8_count_59 (by decide) ?_
          subst hu
          exact bEndI X Y hr hlk dX8_count_63 rfl rfl
