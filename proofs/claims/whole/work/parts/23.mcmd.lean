def s_heeds8_00 : Bool :=
  true
set_option maxHeartbeats 4000000 in
set_option maxRecDepth 100000 in
theorem c_heeds8_00 (l : Launch) (D : va_G) (cyC cyI : ClassId) (mM : Nat) (mN : Nat) (mR : Nat) (mA : Nat) (mP : Nat) (mT : Nat) (mD : Nat) (ch : Int32) (le : Int32) (sp : Int32) (nw : Nat → Int32) (o0 : Bool) (hu : s_heeds8_00 = o0) : CI l yX8_heeds wsX8_heeds { frames := 0, cells := 0, slots := 0, locals := 0 } D cyC cyI [.ref mM, .int 0, .int 0] [(mM, .inr (8, [.ref mN, .ref mR, .ref mA, .ref mP, .int ch, .ref mT, .int le, .int sp, .ref mD])), (mN, .inl (cyI, 515, .inl nw))] (bB o0) [(mM, .inr (8, [.ref mN, .ref mR, .ref mA, .ref mP, .int ch, .ref mT, .int le, .int sp, .ref mD])), (mN, .inl (cyI, 515, .inl nw))] := by
  refine CI.of (cc := cX8_heeds) (n := 3) (ret := (some .boolean)) (by decide +kernel) rfl (Nat.le_of_ble_eq_true rfl) ?_
  intro p_ e_ s_ m_ bl_ me_ cd_ A_ ls X Y hr hlk hl
  have hx := X.1.1
  have hb := X.1.2.1
  have hl : lv_has ls 3 [(0, .ref mM), (1, .int 0), (2, .int 0)] := hl
  unfold s_heeds8_00 at hu
  refine lv_iload_n hx hb dX8_heeds_0 rfl (lv_at hl 1 rfl) ?_
  refine lv_iload_n hx hb dX8_heeds_1 rfl (lv_at hl 2 rfl) ?_
  refine lv_icmp_eq (tgt := 16) hx hb dX8_heeds_2 (by decide) (fun _ => ?_) (fun c_ => absurd (by decide) c_)
  refine lv_iconst (v := 1) hx hb dX8_heeds_16 (by decide) ?_
  refine lv_goto (tgt := 21) hx hb dX8_heeds_17 (by decide) ?_
  subst hu
  exact bEndZ X Y hr hlk dX8_heeds_21 rfl rfl rfl
theorem i_X8_heeds_X8 : ∀ w ∈ wsX80, w ∈ wsX8_heeds := by decide +kernel
theorem f_X8_heeds_7 : Cond.fieldLink RX8 7 "SwingCranesModel" "now" "[I" ∈ wsX8_heeds := by decide +kernel
def s_heeds8_01 (nw : Nat → Int32) : Bool :=
  if nw 5 = (-4) then
    false
  else
    true
set_option maxHeartbeats 4000000 in
set_option maxRecDepth 100000 in
theorem c_heeds8_01 (l : Launch) (D : va_G) (cyC cyI : ClassId) (mM : Nat) (mN : Nat) (mR : Nat) (mA : Nat) (mP : Nat) (mT : Nat) (mD : Nat) (ch : Int32) (le : Int32) (sp : Int32) (nw : Nat → Int32) (o0 : Bool) (hu : s_heeds8_01 nw = o0) : CI l yX8_heeds wsX8_heeds { frames := 0, cells := 0, slots := 0, locals := 0 } D cyC cyI [.ref mM, .int 0, .int 1] [(mM, .inr (8, [.ref mN, .ref mR, .ref mA, .ref mP, .int ch, .ref mT, .int le, .int sp, .ref mD])), (mN, .inl (cyI, 515, .inl nw))] (bB o0) [(mM, .inr (8, [.ref mN, .ref mR, .ref mA, .ref mP, .int ch, .ref mT, .int le, .int sp, .ref mD])), (mN, .inl (cyI, 515, .inl nw))] := by
  refine CI.of (cc := cX8_heeds) (n := 3) (ret := (some .boolean)) (by decide +kernel) rfl (Nat.le_of_ble_eq_true rfl) ?_
  intro p_ e_ s_ m_ bl_ me_ cd_ A_ ls X Y hr hlk hl
  have hx := X.1.1
  have hb := X.1.2.1
  have hl : lv_has ls 3 [(0, .ref mM), (1, .int 0), (2, .int 1)] := hl
  unfold s_heeds8_01 at hu
  refine lv_iload_n hx hb dX8_heeds_0 rfl (lv_at hl 1 rfl) ?_
  refine lv_iload_n hx hb dX8_heeds_1 rfl (lv_at hl 2 rfl) ?_
  refine lv_icmp_eq (tgt := 16) hx hb dX8_heeds_2 (by decide) (fun c_ => absurd c_ (by decide)) (fun _ => ?_)
  refine lv_aload_n hx hb dX8_heeds_5 rfl (lv_at hl 0 rfl) ?_
  refine bGet (v := .ref mN) (T := TX8) (N := 9) (ci := 8) X Y i_X8_heeds_X8 0 rfl rfl 0 (Nat.le_of_ble_eq_true rfl) f_X8_heeds_7 rfl rfl dX8_heeds_6 ?_
  refine lv_iconst (v := 5) hx hb dX8_heeds_9 (by decide) ?_
  refine bIald (v := nw 5) X Y 1 rfl (bInD (by decide)) dX8_heeds_10 rfl ?_
  refine lv_bipush (v := (-4)) hx hb dX8_heeds_11 (by decide) ?_
  refine lv_icmp_eq (tgt := 20) hx hb dX8_heeds_13 (by decide) (fun c_1 => ?_) (fun c_1 => ?_)
  · have c_1 : nw 5 = (-4) := c_1
    rw [if_pos c_1] at hu
    refine lv_iconst (v := 0) hx hb dX8_heeds_20 (by decide) ?_
    subst hu
    exact bEndZ X Y hr hlk dX8_heeds_21 rfl rfl rfl
  · have c_1 : ¬ (nw 5 = (-4)) := c_1
    rw [if_neg c_1] at hu
    refine lv_iconst (v := 1) hx hb dX8_heeds_16 (by decide) ?_
    refine lv_goto (tgt := 21) hx hb dX8_heeds_17 (by decide) ?_
    subst hu
    exact bEndZ X Y hr hlk dX8_heeds_21 rfl rfl rfl
def s_heeds8_10 (nw : Nat → Int32) : Bool :=
  if nw 5 = (-4) then
    false
  else
    true
set_option maxHeartbeats 4000000 in
set_option maxRecDepth 100000 in
theorem c_heeds8_10 (l : Launch) (D : va_G) (cyC cyI : ClassId) (mM : Nat) (mN : Nat) (mR : Nat) (mA : Nat) (mP : Nat) (mT : Nat) (mD : Nat) (ch : Int32) (le : Int32) (sp : Int32) (nw : Nat → Int32) (o0 : Bool) (hu : s_heeds8_10 nw = o0) : CI l yX8_heeds wsX8_heeds { frames := 0, cells := 0, slots := 0, locals := 0 } D cyC cyI [.ref mM, .int 1, .int 0] [(mM, .inr (8, [.ref mN, .ref mR, .ref mA, .ref mP, .int ch, .ref mT, .int le, .int sp, .ref mD])), (mN, .inl (cyI, 515, .inl nw))] (bB o0) [(mM, .inr (8, [.ref mN, .ref mR, .ref mA, .ref mP, .int ch, .ref mT, .int le, .int sp, .ref mD])), (mN, .inl (cyI, 515, .inl nw))] := by
  refine CI.of (cc := cX8_heeds) (n := 3) (ret := (some .boolean)) (by decide +kernel) rfl (Nat.le_of_ble_eq_true rfl) ?_
  intro p_ e_ s_ m_ bl_ me_ cd_ A_ ls X Y hr hlk hl
  have hx := X.1.1
  have hb := X.1.2.1
  have hl : lv_has ls 3 [(0, .ref mM), (1, .int 1), (2, .int 0)] := hl
  unfold s_heeds8_10 at hu
  refine lv_iload_n hx hb dX8_heeds_0 rfl (lv_at hl 1 rfl) ?_
  refine lv_iload_n hx hb dX8_heeds_1 rfl (lv_at hl 2 rfl) ?_
  refine lv_icmp_eq (tgt := 16) hx hb dX8_heeds_2 (by decide) (fun c_ => absurd c_ (by decide)) (fun _ => ?_)
  refine lv_aload_n hx hb dX8_heeds_5 rfl (lv_at hl 0 rfl) ?_
  refine bGet (v := .ref mN) (T := TX8) (N := 9) (ci := 8) X Y i_X8_heeds_X8 0 rfl rfl 0 (Nat.le_of_ble_eq_true rfl) f_X8_heeds_7 rfl rfl dX8_heeds_6 ?_
  refine lv_iconst (v := 5) hx hb dX8_heeds_9 (by decide) ?_
  refine bIald (v := nw 5) X Y 1 rfl (bInD (by decide)) dX8_heeds_10 rfl ?_
  refine lv_bipush (v := (-4)) hx hb dX8_heeds_11 (by decide) ?_
  refine lv_icmp_eq (tgt := 20) hx hb dX8_heeds_13 (by decide) (fun c_1 => ?_) (fun c_1 => ?_)
  · have c_1 : nw 5 = (-4) := c_1
    rw [if_pos c_1] at hu
    refine lv_iconst (v := 0) hx hb dX8_heeds_20 (by decide) ?_
    subst hu
    exact bEndZ X Y hr hlk dX8_heeds_21 rfl rfl rfl
  · have c_1 : ¬ (nw 5 = (-4)) := c_1
    rw [if_neg c_1] at hu
    refine lv_iconst (v := 1) hx hb dX8_heeds_16 (by decide) ?_
    refine lv_goto (tgt := 21) hx hb dX8_heeds_17 (by decide) ?_
    subst hu
    exact bEndZ X Y hr hlk dX8_heeds_21 rfl rfl rfl
def s_heeds8_11 : Bool :=
  true
set_option maxHeartbeats 4000000 in
set_option maxRecDepth 100000 in
theorem c_heeds8_11 (l : Launch) (D : va_G) (cyC cyI : ClassId) (mM : Nat) (mN : Nat) (mR : Nat) (mA : Nat) (mP : Nat) (mT : Nat) (mD : Nat) (ch : Int32) (le : Int32) (sp : Int32) (nw : Nat → Int32) (o0 : Bool) (hu : s_heeds8_11 = o0) : CI l yX8_heeds wsX8_heeds { frames := 0, cells := 0, slots := 0, locals := 0 } D cyC cyI [.ref mM, .int 1, .int 1] [(mM, .inr (8, [.ref mN, .ref mR, .ref mA, .ref mP, .int ch, .ref mT, .int le, .int sp, .ref mD])), (mN, .inl (cyI, 515, .inl nw))] (bB o0) [(mM, .inr (8, [.ref mN, .ref mR, .ref mA, .ref mP, .int ch, .ref mT, .int le, .int sp, .ref mD])), (mN, .inl (cyI, 515, .inl nw))] := by
  refine CI.of (cc := cX8_heeds) (n := 3) (ret := (some .boolean)) (by decide +kernel) rfl (Nat.le_of_ble_eq_true rfl) ?_
  intro p_ e_ s_ m_ bl_ me_ cd_ A_ ls X Y hr hlk hl
  have hx := X.1.1
  have hb := X.1.2.1
  have hl : lv_has ls 3 [(0, .ref mM), (1, .int 1), (2, .int 1)] := hl
  unfold s_heeds8_11 at hu
  refine lv_iload_n hx hb dX8_heeds_0 rfl (lv_at hl 1 rfl) ?_
  refine lv_iload_n hx hb dX8_heeds_1 rfl (lv_at hl 2 rfl) ?_
  refine lv_icmp_eq (tgt := 16) hx hb dX8_heeds_2 (by decide) (fun _ => ?_) (fun c_ => absurd (by decide) c_)
  refine lv_iconst (v := 1) hx hb dX8_heeds_16 (by decide) ?_
  refine lv_goto (tgt := 21) hx hb dX8_heeds_17 (by decide) ?_
  subst hu
  exact bEndZ X Y hr hlk dX8_heeds_21 rfl rfl rfl
def s_addsStep8_00 (nw : Nat → Int32) (tk : Int32) (by_ : Int32) : (Nat → Int32) × Unit :=
  if by_ = 0 then
    (nw, ())
  else
    (upd (upd (upd nw 16 tk) 17 by_) 15 1, ())
set_option maxHeartbeats 4000000 in
set_option maxRecDepth 100000 in
theorem c_addsStep8_00 (l : Launch) (D : va_G) (cyC cyI : ClassId) (mM : Nat) (mN : Nat) (mR : Nat) (mA : Nat) (mP : Nat) (mT : Nat) (mD : Nat) (ch : Int32) (le : Int32) (sp : Int32) (nw : Nat → Int32) (tk : Int32) (by_ : Int32) (o0 : Nat → Int32) (hu : s_addsStep8_00 nw tk by_ = (o0, ())) (hk : nw 15 = 0) : CV l yX8_addsStep wsX8_addsStep { frames := 1, cells := 0, slots := 0, locals := 23 } D cyC cyI [.ref mM, .int 0, .int tk, .int by_] [(mM, .inr (8, [.ref mN, .ref mR, .ref mA, .ref mP, .int ch, .ref mT, .int le, .int sp, .ref mD])), (mN, .inl (cyI, 515, .inl nw))] [(mM, .inr (8, [.ref mN, .ref mR, .ref mA, .ref mP, .int ch, .ref mT, .int le, .int sp, .ref mD])), (mN, .inl (cyI, 515, .inl o0))] := by
  refine CV.of (cc := cX8_addsStep) (n := 5) (ret := none) (by decide +kernel) rfl (Nat.le_of_ble_eq_true rfl) ?_
  intro p_ e_ s_ m_ bl_ me_ cd_ A_ ls X Y hr hlk hl
  have hx := X.1.1
  have hb := X.1.2.1
  have hl : lv_has ls 5 [(0, .ref mM), (1, .int 0), (2, .int tk), (3, .int by_)] := hl
  unfold s_addsStep8_00 at hu
  refine lv_iload_n hx hb dX8_addsStep_0 rfl (lv_at hl 3 rfl) ?_
  refine lv_if_eq (tgt := 52) hx hb dX8_addsStep_1 (by decide) (fun c_1 => ?_) (fun c_1 => ?_)
  · have c_1 : by_ = 0 := c_1
    rw [if_pos c_1] at hu
    have h9 := (Prod.mk.inj hu).1
    subst h9
    exact bEndV X Y hr hlk dX8_addsStep_52 rfl
  · have c_1 : ¬ (by_ = 0) := c_1
    rw [if_neg c_1] at hu
    refine lv_aload_n hx hb dX8_addsStep_4 rfl (lv_at hl 0 rfl) ?_
    refine lv_iload_n hx hb dX8_addsStep_5 rfl (lv_at hl 1 rfl) ?_
    refine lv_bipush (v := 8) hx hb dX8_addsStep_6 (by decide) ?_
    refine bVI0 (As := [.int 0, .int 8]) (rest := []) (wc := [(mM, .inr (8, [.ref mN, .ref mR, .ref mA, .ref mP, .int ch, .ref mT, .int le, .int sp, .ref mD])), (mN, .inl (cyI, 515, .inl nw))]) (ci := 8) (q0 := 0) X Y (c_of8 l D cyC cyI mM mN mR mA mP mT mD ch le sp nw 0 8 0 (bOf (i := 15) (by decide) hk) (bInD (by decide))) gX8_addsStep_X8_of rfl ⟨rfl, rfl⟩ hd_X8_of ⟨(Nat.le_of_ble_eq_true rfl), (Nat.le_of_ble_eq_true rfl)⟩ rfl rfl rfl [0, 1] rfl rfl rfl rfl hl.1 (Nat.le_of_ble_eq_true rfl) ⟨Nat.zero_le _, Nat.zero_le _⟩ dX8_addsStep_8 (fun H locs Y => ?_)
    refine lv_istore (lv' := [(4, .int 0), (0, .ref mM), (1, .int 0), (2, .int tk), (3, .int by_)]) hx hb dX8_addsStep_11 hl (by decide) rfl (fun ls hl => ?_)
    refine lv_aload_n hx hb dX8_addsStep_13 rfl (lv_at hl 1 rfl) ?_
    refine lv_iload_n hx hb dX8_addsStep_14 rfl (lv_at hl 2 rfl) ?_
    refine lv_bipush (v := 9) hx hb dX8_addsStep_15 (by decide) ?_
    refine lv_iconst (v := 2) hx hb dX8_addsStep_17 (by decide) ?_
    refine lv_iload hx hb dX8_addsStep_18 (lv_at hl 0 rfl) ?_
    refine bMul (v := 0) X dX8_addsStep_20 (by decide) ?_
    refine bAdd (v := 9) X dX8_addsStep_21 (by decide) ?_
    refine lv_iload_n hx hb dX8_addsStep_22 rfl (lv_at hl 3 rfl) ?_
    refine bVV (As := [.int 0, .int 9, .int tk]) (rest := []) (wc := [(mM, .inr (8, [.ref mN, .ref mR, .ref mA, .ref mP, .int ch, .ref mT, .int le, .int sp, .ref mD])), (mN, .inl (cyI, 515, .inl nw))]) (w1 := [(mM, .inr (8, [.ref mN, .ref mR, .ref mA, .ref mP, .int ch, .ref mT, .int le, .int sp, .ref mD])), (mN, .inl (cyI, 515, .inl (upd nw 16 tk)))]) (ws' := [(mM, .inr (8, [.ref mN, .ref mR, .ref mA, .ref mP, .int ch, .ref mT, .int le, .int sp, .ref mD])), (mN, .inl (cyI, 515, .inl (upd nw 16 tk)))]) (ad := [mM, mN]) (wr := []) (nn := 2) (ci := 8) (q0 := 0) X Y (c_tells8 l D cyC cyI mM mN mR mA mP mT mD ch le sp nw 0 9 tk (upd nw 16 tk) (bTells (i := 16) (by decide) rfl) (bInD (by decide))) gX8_addsStep_X8_tells rfl ⟨rfl, rfl⟩ hd_X8_tells ⟨(Nat.le_of_ble_eq_true rfl), (Nat.le_of_ble_eq_true rfl)⟩ rfl rfl rfl [0, 1] [] rfl rfl rfl rfl rfl rfl rfl rfl (by decide) rfl rfl hl.1 (Nat.le_of_ble_eq_true rfl) ⟨Nat.zero_le _, Nat.zero_le _⟩ dX8_addsStep_23 (fun H locs Y => ?_)
    refine lv_aload_n hx hb dX8_addsStep_26 rfl (lv_at hl 1 rfl) ?_
    refine lv_iload_n hx hb dX8_addsStep_27 rfl (lv_at hl 2 rfl) ?_
    refine lv_bipush (v := 9) hx hb dX8_addsStep_28 (by decide) ?_
    refine lv_iconst (v := 2) hx hb dX8_addsStep_30 (by decide) ?_
    refine lv_iload hx hb dX8_addsStep_31 (lv_at hl 0 rfl) ?_
    refine bMul (v := 0) X dX8_addsStep_33 (by decide) ?_
    refine bAdd (v := 9) X dX8_addsStep_34 (by decide) ?_
    refine lv_iconst (v := 1) hx hb dX8_addsStep_35 (by decide) ?_
    refine bAdd (v := 10) X dX8_addsStep_36 (by decide) ?_
    refine lv_iload_n hx hb dX8_addsStep_37 rfl (lv_at hl 4 rfl) ?_
    refine bVV (As := [.int 0, .int 10, .int by_]) (rest := []) (wc := [(mM, .inr (8, [.ref mN, .ref mR, .ref mA, .ref mP, .int ch, .ref mT, .int le, .int sp, .ref mD])), (mN, .inl (cyI, 515, .inl (upd nw 16 tk)))]) (w1 := [(mM, .inr (8, [.ref mN, .ref mR, .ref mA, .ref mP, .int ch, .ref mT, .int le, .int sp, .ref mD])), (mN, .inl (cyI, 515, .inl (upd (upd nw 16 tk) 17 by_)))]) (ws' := [(mM, .inr (8, [.ref mN, .ref mR, .ref mA, .ref mP, .int ch, .ref mT, .int le, .int sp, .ref mD])), (mN, .inl (cyI, 515, .inl (upd (upd nw 16 tk) 17 by_)))]) (ad := [mM, mN]) (wr := []) (nn := 2) (ci := 8) (q0 := 0) X Y (c_tells8 l D cyC cyI mM mN mR mA mP mT mD ch le sp (upd nw 16 tk) 0 10 by_ (upd (upd nw 16 tk) 17 by_) (bTells (i := 17) (by decide) rfl) (bInD (by decide))) gX8_addsStep_X8_tells rfl ⟨rfl, rfl⟩ hd_X8_tells ⟨(Nat.le_of_ble_eq_true rfl), (Nat.le_of_ble_eq_true rfl)⟩ rfl rfl rfl [0, 1] [] rfl rfl rfl rfl rfl rfl rfl rfl (by decide) rfl rfl hl.1 (Nat.le_of_ble_eq_true rfl) ⟨Nat.zero_le _, Nat.zero_le _⟩ dX8_addsStep_38 (fun H locs Y => ?_)
    refine lv_aload_n hx hb dX8_addsStep_41 rfl (lv_at hl 1 rfl) ?_
    refine lv_iload_n hx hb dX8_addsStep_42 rfl (lv_at hl 2 rfl) ?_
    refine lv_bipush (v := 8) hx hb dX8_addsStep_43 (by decide) ?_
    refine lv_iload hx hb dX8_addsStep_45 (lv_at hl 0 rfl) ?_
    refine lv_iconst (v := 1) hx hb dX8_addsStep_47 (by decide) ?_
    refine bAdd (v := 1) X dX8_addsStep_48 (by decide) ?_
    refine bVV (As := [.int 0, .int 8, .int 1]) (rest := []) (wc := [(mM, .inr (8, [.ref mN, .ref mR, .ref mA, .ref mP, .int ch, .ref mT, .int le, .int sp, .ref mD])), (mN, .inl (cyI, 515, .inl (upd (upd nw 16 tk) 17 by_)))]) (w1 := [(mM, .inr (8, [.ref mN, .ref mR, .ref mA, .ref mP, .int ch, .ref mT, .int le, .int sp, .ref mD])), (mN, .inl (cyI, 515, .inl (upd (upd (upd nw 16 tk) 17 by_) 15 1)))]) (ws' := [(mM, .inr (8, [.ref mN, .ref mR, .ref mA, .ref mP, .int ch, .ref mT, .int le, .int sp, .ref mD])), (mN, .inl (cyI, 515, .inl (upd (upd (upd nw 16 tk) 17 by_) 15 1)))]) (ad := [mM, mN]) (wr := []) (nn := 2) (ci := 8) (q0 := 0) X Y (c_tells8 l D cyC cyI mM mN mR mA mP mT mD ch le sp (upd (upd nw 16 tk) 17 by_) 0 8 1 (upd (upd (upd nw 16 tk) 17 by_) 15 1) (bTells (i := 15) (by decide) rfl) (bInD (by decide))) gX8_addsStep_X8_tells rfl ⟨rfl, rfl⟩ hd_X8_tells ⟨(Nat.le_of_ble_eq_true rfl), (Nat.le_of_ble_eq_true rfl)⟩ rfl rfl rfl [0, 1] [] rfl rfl rfl rfl rfl rfl rfl rfl (by decide) rfl rfl hl.1 (Nat.le_of_ble_eq_true rfl) ⟨Nat.zero_le _, Nat.zero_le _⟩ dX8_addsStep_49 (fun H locs Y => ?_)
    have h9 := (Prod.mk.inj hu).1
    subst h9
    exact bEndV X Y hr hlk dX8_addsStep_52 rfl
def s_addsStep8_01 (nw : Nat → Int32) (tk : Int32) (by_ : Int32) : (Nat → Int32) × Unit :=
  if by_ = 0 then
    (nw, ())
  else
    (upd (upd (upd nw 18 tk) 19 by_) 15 2, ())
set_option maxHeartbeats 4000000 in
set_option maxRecDepth 100000 in
theorem c_addsStep8_01 (l : Launch) (D : va_G) (cyC cyI : ClassId) (mM : Nat) (mN : Nat) (mR : Nat) (mA : Nat) (mP : Nat) (mT : Nat) (mD : Nat) (ch : Int32) (le : Int32) (sp : Int32) (nw : Nat → Int32) (tk : Int32) (by_ : Int32) (o0 : Nat → Int32) (hu : s_addsStep8_01 nw tk by_ = (o0, ())) (hk : nw 15 = 1) : CV l yX8_addsStep wsX8_addsStep { frames := 1, cells := 0, slots := 0, locals := 23 } D cyC cyI [.ref mM, .int 0, .int tk, .int by_] [(mM, .inr (8, [.ref mN, .ref mR, .ref mA, .ref mP, .int ch, .ref mT, .int le, .int sp, .ref mD])), (mN, .inl (cyI, 515, .inl nw))] [(mM, .inr (8, [.ref mN, .ref mR, .ref mA, .ref mP, .int ch, .ref mT, .int le, .int sp, .ref mD])), (mN, .inl (cyI, 515, .inl o0))] := by
  refine CV.of (cc := cX8_addsStep) (n := 5) (ret := none) (by decide +kernel) rfl (Nat.le_of_ble_eq_true rfl) ?_
  intro p_ e_ s_ m_ bl_ me_ cd_ A_ ls X Y hr hlk hl
  have hx := X.1.1
  have hb := X.1.2.1
  have hl : lv_has ls 5 [(0, .ref mM), (1, .int 0), (2, .int tk), (3, .int by_)] := hl
  unfold s_addsStep8_01 at hu
  refine lv_iload_n hx hb dX8_addsStep_0 rfl (lv_at hl 3 rfl) ?_
  refine lv_if_eq (tgt := 52) hx hb dX8_addsStep_1 (by decide) (fun c_1 => ?_) (fun c_1 => ?_)
  · have c_1 : by_ = 0 := c_1
    rw [if_pos c_1] at hu
    have h9 := (Prod.mk.inj hu).1
    subst h9
    exact bEndV X Y hr hlk dX8_addsStep_52 rfl
  · have c_1 : ¬ (by_ = 0) := c_1
    rw [if_neg c_1] at hu
    refine lv_aload_n hx hb dX8_addsStep_4 rfl (lv_at hl 0 rfl) ?_
    refine lv_iload_n hx hb dX8_addsStep_5 rfl (lv_at hl 1 rfl) ?_
    refine lv_bipush (v := 8) hx hb dX8_addsStep_6 (by decide) ?_
    refine bVI0 (As := [.int 0, .int 8]) (rest := []) (wc := [(mM, .inr (8, [.ref mN, .ref mR, .ref mA, .ref mP, .int ch, .ref mT, .int le, .int sp, .ref mD])), (mN, .inl (cyI, 515, .inl nw))]) (ci := 8) (q0 := 0) X Y (c_of8 l D cyC cyI mM mN mR mA mP mT mD ch le sp nw 0 8 1 (bOf (i := 15) (by decide) hk) (bInD (by decide))) gX8_addsStep_X8_of rfl ⟨rfl, rfl⟩ hd_X8_of ⟨(Nat.le_of_ble_eq_true rfl), (Nat.le_of_ble_eq_true rfl)⟩ rfl rfl rfl [0, 1] rfl rfl rfl rfl hl.1 (Nat.le_of_ble_eq_true rfl) ⟨Nat.zero_le _, Nat.zero_le _⟩ dX8_addsStep_8 (fun H locs Y => ?_)
    refine lv_istore (lv' := [(4, .int 1), (0, .ref mM), (1, .int 0), (2, .int tk), (3, .int by_)]) hx hb dX8_addsStep_11 hl (by decide) rfl (fun ls hl => ?_)
    refine lv_aload_n hx hb dX8_addsStep_13 rfl (lv_at hl 1 rfl) ?_
    refine lv_iload_n hx hb dX8_addsStep_14 rfl (lv_at hl 2 rfl) ?_
    refine lv_bipush (v := 9) hx hb dX8_addsStep_15 (by decide) ?_
    refine lv_iconst (v := 2) hx hb dX8_addsStep_17 (by decide) ?_
    refine lv_iload hx hb dX8_addsStep_18 (lv_at hl 0 rfl) ?_
    refine bMul (v := 2) X dX8_addsStep_20 (by decide) ?_
    refine bAdd (v := 11) X dX8_addsStep_21 (by decide) ?_
    refine lv_iload_n hx hb dX8_addsStep_22 rfl (lv_at hl 3 rfl) ?_
    refine bVV (As := [.int 0, .int 11, .int tk]) (rest := []) (wc := [(mM, .inr (8, [.ref mN, .ref mR, .ref mA, .ref mP, .int ch, .ref mT, .int le, .int sp, .ref mD])), (mN, .inl (cyI, 515, .inl nw))]) (w1 := [(mM, .inr (8, [.ref mN, .ref mR, .ref mA, .ref mP, .int ch, .ref mT, .int le, .int sp, .ref mD])), (mN, .inl (cyI, 515, .inl (upd nw 18 tk)))]) (ws' := [(mM, .inr (8, [.ref mN, .ref mR, .ref mA, .ref mP, .int ch, .ref mT, .int le, .int sp, .ref mD])), (mN, .inl (cyI, 515, .inl (upd nw 18 tk)))]) (ad := [mM, mN]) (wr := []) (nn := 2) (ci := 8) (q0 := 0) X Y (c_tells8 l D cyC cyI mM mN mR mA mP mT mD ch le sp nw 0 11 tk (upd nw 18 tk) (bTells (i := 18) (by decide) rfl) (bInD (by decide))) gX8_addsStep_X8_tells rfl ⟨rfl, rfl⟩ hd_X8_tells ⟨(Nat.le_of_ble_eq_true rfl), (Nat.le_of_ble_eq_true rfl)⟩ rfl rfl rfl [0, 1] [] rfl rfl rfl rfl rfl rfl rfl rfl (by decide) rfl rfl hl.1 (Nat.le_of_ble_eq_true rfl) ⟨Nat.zero_le _, Nat.zero_le _⟩ dX8_addsStep_23 (fun H locs Y => ?_)
    refine lv_aload_n hx hb dX8_addsStep_26 rfl (lv_at hl 1 rfl) ?_
    refine lv_iload_n hx hb dX8_addsStep_27 rfl (lv_at hl 2 rfl) ?_
    refine lv_bipush (v := 9) hx hb dX8_addsStep_28 (by decide) ?_
    refine lv_iconst (v := 2) hx hb dX8_addsStep_30 (by decide) ?_
    refine lv_iload hx hb dX8_addsStep_31 (lv_at hl 0 rfl) ?_
    refine bMul (v := 2) X dX8_addsStep_33 (by decide) ?_
    refine bAdd (v := 11) X dX8_addsStep_34 (by decide) ?_
    refine lv_iconst (v := 1) hx hb dX8_addsStep_35 (by decide) ?_
    refine bAdd (v := 12) X dX8_addsStep_36 (by decide) ?_
    refine lv_iload_n hx hb dX8_addsStep_37 rfl (lv_at hl 4 rfl) ?_
    refine bVV (As := [.int 0, .int 12, .int by_]) (rest := []) (wc := [(mM, .inr (8, [.ref mN, .ref mR, .ref mA, .ref mP, .int ch, .ref mT, .int le, .int sp, .ref mD])), (mN, .inl (cyI, 515, .inl (upd nw 18 tk)))]) (w1 := [(mM, .inr (8, [.ref mN, .ref mR, .ref mA, .ref mP, .int ch, .ref mT, .int le, .int sp, .ref mD])), (mN, .inl (cyI, 515, .inl (upd (upd nw 18 tk) 19 by_)))]) (ws' := [(mM, .inr (8, [.ref mN, .ref mR, .ref mA, .ref mP, .int ch, .ref mT, .int le, .int sp, .ref mD])), (mN, .inl (cyI, 515, .inl (upd (upd nw 18 tk) 19 by_)))]) (ad := [mM, mN]) (wr := []) (nn := 2) (ci := 8) (q0 := 0) X Y (c_tells8 l D cyC cyI mM mN mR mA mP mT mD ch le sp (upd nw 18 tk) 0 12 by_ (upd (upd nw 18 tk) 19 by_) (bTells (i := 19) (by decide) rfl) (bInD (by decide))) gX8_addsStep_X8_tells rfl ⟨rfl, rfl⟩ hd_X8_tells ⟨(Nat.le_of_ble_eq_true rfl), (Nat.le_of_ble_eq_true rfl)⟩ rfl rfl rfl [0, 1] [] rfl rfl rfl rfl rfl rfl rfl rfl (by decide) rfl rfl hl.1 (Nat.le_of_ble_eq_true rfl) ⟨Nat.zero_le _, Nat.zero_le _⟩ dX8_addsStep_38 (fun H locs Y => ?_)
    refine lv_aload_n hx hb dX8_addsStep_41 rfl (lv_at hl 1 rfl) ?_
    refine lv_iload_n hx hb dX8_addsStep_42 rfl (lv_at hl 2 rfl) ?_
    refine lv_bipush (v := 8) hx hb dX8_addsStep_43 (by decide) ?_
    refine lv_iload hx hb dX8_addsStep_45 (lv_at hl 0 rfl) ?_
    refine lv_iconst (v := 1) hx hb dX8_addsStep_47 (by decide) ?_
    refine bAdd (v := 2) X dX8_addsStep_48 (by decide) ?_
    refine bVV (As := [.int 0, .int 8, .int 2]) (rest := []) (wc := [(mM, .inr (8, [.ref mN, .ref mR, .ref mA, .ref mP, .int ch, .ref mT, .int le, .int sp, .ref mD])), (mN, .inl (cyI, 515, .inl (upd (upd nw 18 tk) 19 by_)))]) (w1 := [(mM, .inr (8, [.ref mN, .ref mR, .ref mA, .ref mP, .int ch, .ref mT, .int le, .int sp, .ref mD])), (mN, .inl (cyI, 515, .inl (upd (upd (upd nw 18 tk) 19 by_) 15 2)))]) (ws' := [(mM, .inr (8, [.ref mN, .ref mR, .ref mA, .ref mP, .int ch, .ref mT, .int le, .int sp, .ref mD])), (mN, .inl (cyI, 515, .inl (upd (upd (upd nw 18 tk) 19 by_) 15 2)))]) (ad := [mM, mN]) (wr := []) (nn := 2) (ci := 8) (q0 := 0) X Y (c_tells8 l D cyC cyI mM mN mR mA mP mT mD ch le sp (upd (upd nw 18 tk) 19 by_) 0 8 2 (upd (upd (upd nw 18 tk) 19 by_) 15 2) (bTells (i := 15) (by decide) rfl) (bInD (by decide))) gX8_addsStep_X8_tells rfl ⟨rfl, rfl⟩ hd_X8_tells ⟨(Nat.le_of_ble_eq_true rfl), (Nat.le_of_ble_eq_true rfl)⟩ rfl rfl rfl [0, 1] [] rfl rfl rfl rfl rfl rfl rfl rfl (by decide) rfl rfl hl.1 (Nat.le_of_ble_eq_true rfl) ⟨Nat.zero_le _, Nat.zero_le _⟩ dX8_addsStep_49 (fun H locs Y => ?_)
    have h9 := (Prod.mk.inj hu).1
    subst h9
    exact bEndV X Y hr hlk dX8_addsStep_52 rfl
def s_addsStep8_0 (nw : Nat → Int32) (tk : Int32) (by_ : Int32) : (Nat → Int32) × Unit := if nw 15 = 0 then s_addsStep8_00 nw tk by_ else s_addsStep8_01 nw tk by_
theorem c_addsStep8_0 (l : Launch) (D : va_G) (cyC cyI : ClassId) (mM : Nat) (mN : Nat) (mR : Nat) (mA : Nat) (mP : Nat) (mT : Nat) (mD : Nat) (ch : Int32) (le : Int32) (sp : Int32) (nw : Nat → Int32) (tk : Int32) (by_ : Int32) (o0 : Nat → Int32) (hu : s_addsStep8_0 nw tk by_ = (o0, ())) (hst : nw 15 = 0 ∨ nw 15 = 1) : CV l yX8_addsStep wsX8_addsStep { frames := 1, cells := 0, slots := 0, locals := 23 } D cyC cyI [.ref mM, .int 0, .int tk, .int by_] [(mM, .inr (8, [.ref mN, .ref mR, .ref mA, .ref mP, .int ch, .ref mT, .int le, .int sp, .ref mD])), (mN, .inl (cyI, 515, .inl nw))] [(mM, .inr (8, [.ref mN, .ref mR, .ref mA, .ref mP, .int ch, .ref mT, .int le, .int sp, .ref mD])), (mN, .inl (cyI, 515, .inl o0))] := by
  unfold s_addsStep8_0 at hu
  rcases hst with h9 | h9
  · rw [if_pos h9] at hu
    exact c_addsStep8_00 l D cyC cyI mM mN mR mA mP mT mD ch le sp nw tk by_ o0 hu h9
  · rw [if_neg (by rw [h9]; decide)] at hu
    exact c_addsStep8_01 l D cyC cyI mM mN mR mA mP mT mD ch le sp nw tk by_ o0 hu h9
theorem asK_0 {nw A : Nat → Int32} {t b : Int32} (h : s_addsStep8_0 nw t b = (A, ())) (h0 : nw 15 = 0) : A 15 = 0 ∨ A 15 = 1 := by
  have e : A = (s_addsStep8_0 nw t b).1 := by rw [h]
  subst e
  unfold s_addsStep8_0 s_addsStep8_00
  rw [if_pos h0]
  split
  · exact Or.inl h0
  · exact Or.inr rfl
def s_addsStep8_10 (nw : Nat → Int32) (tk : Int32) (by_ : Int32) : (Nat → Int32) × Unit :=
  if by_ = 0 then
    (nw, ())
  else
    (upd (upd (upd nw 29 tk) 30 by_) 28 1, ())
set_option maxHeartbeats 4000000 in
set_option maxRecDepth 100000 in
theorem c_addsStep8_10 (l : Launch) (D : va_G) (cyC cyI : ClassId) (mM : Nat) (mN : Nat) (mR : Nat) (mA : Nat) (mP : Nat) (mT : Nat) (mD : Nat) (ch : Int32) (le : Int32) (sp : Int32) (nw : Nat → Int32) (tk : Int32) (by_ : Int32) (o0 : Nat → Int32) (hu : s_addsStep8_10 nw tk by_ = (o0, ())) (hk : nw 28 = 0) : CV l yX8_addsStep wsX8_addsStep { frames := 1, cells := 0, slots := 0, locals := 23 } D cyC cyI [.ref mM, .int 1, .int tk, .int by_] [(mM, .inr (8, [.ref mN, .ref mR, .ref mA, .ref mP, .int ch, .ref mT, .int le, .int sp, .ref mD])), (mN, .inl (cyI, 515, .inl nw))] [(mM, .inr (8, [.ref mN, .ref mR, .ref mA, .ref mP, .int ch, .ref mT, .int le, .int sp, .ref mD])), (mN, .inl (cyI, 515, .inl o0))] := by
  refine CV.of (cc := cX8_addsStep) (n := 5) (ret := none) (by decide +kernel) rfl (Nat.le_of_ble_eq_true rfl) ?_
  intro p_ e_ s_ m_ bl_ me_ cd_ A_ ls X Y hr hlk hl
  have hx := X.1.1
  have hb := X.1.2.1
  have hl : lv_has ls 5 [(0, .ref mM), (1, .int 1), (2, .int tk), (3, .int by_)] := hl
  unfold s_addsStep8_10 at hu
  refine lv_iload_n hx hb dX8_addsStep_0 rfl (lv_at hl 3 rfl) ?_
  refine lv_if_eq (tgt := 52) hx hb dX8_addsStep_1 (by decide) (fun c_1 => ?_) (fun c_1 => ?_)
  · have c_1 : by_ = 0 := c_1
    rw [if_pos c_1] at hu
    have h9 := (Prod.mk.inj hu).1
    subst h9
    exact bEndV X Y hr hlk dX8_addsStep_52 rfl
  · have c_1 : ¬ (by_ = 0) := c_1
    rw [if_neg c_1] at hu
    refine lv_aload_n hx hb dX8_addsStep_4 rfl (lv_at hl 0 rfl) ?_
    refine lv_iload_n hx hb dX8_addsStep_5 rfl (lv_at hl 1 rfl) ?_
    refine lv_bipush (v := 8) hx hb dX8_addsStep_6 (by decide) ?_
    refine bVI0 (As := [.int 1, .int 8]) (rest := []) (wc := [(mM, .inr (8, [.ref mN, .ref mR, .ref mA, .ref mP, .int ch, .ref mT, .int le, .int sp, .ref mD])), (mN, .inl (cyI, 515, .inl nw))]) (ci := 8) (q0 := 0) X Y (c_of8 l D cyC cyI mM mN mR mA mP mT mD ch le sp nw 1 8 0 (bOf (i := 28) (by decide) hk) (bInD (by decide))) gX8_addsStep_X8_of rfl ⟨rfl, rfl⟩ hd_X8_of ⟨(Nat.le_of_ble_eq_true rfl), (Nat.le_of_ble_eq_true rfl)⟩ rfl rfl rfl [0, 1] rfl rfl rfl rfl hl.1 (Nat.le_of_ble_eq_true rfl) ⟨Nat.zero_le _, Nat.zero_le _⟩ dX8_addsStep_8 (fun H locs Y => ?_)
    refine lv_istore (lv' := [(4, .int 0), (0, .ref mM), (1, .int 1), (2, .int tk), (3, .int by_)]) hx hb dX8_addsStep_11 hl (by decide) rfl (fun ls hl => ?_)
    refine lv_aload_n hx hb dX8_addsStep_13 rfl (lv_at hl 1 rfl) ?_
    refine lv_iload_n hx hb dX8_addsStep_14 rfl (lv_at hl 2 rfl) ?_
    refine lv_bipush (v := 9) hx hb dX8_addsStep_15 (by decide) ?_
    refine lv_iconst (v := 2) hx hb dX8_addsStep_17 (by decide) ?_
    refine lv_iload hx hb dX8_addsStep_18 (lv_at hl 0 rfl) ?_
    refine bMul (v := 0) X dX8_addsStep_20 (by decide) ?_
    refine bAdd (v := 9) X dX8_addsStep_21 (by decide) ?_
    refine lv_iload_n hx hb dX8_addsStep_22 rfl (lv_at hl 3 rfl) ?_
    refine bVV (As := [.int 1, .int 9, .int tk]) (rest := []) (wc := [(mM, .inr (8, [.ref mN, .ref mR, .ref mA, .ref mP, .int ch, .ref mT, .int le, .int sp, .ref mD])), (mN, .inl (cyI, 515, .inl nw))]) (w1 := [(mM, .inr (8, [.ref mN, .ref mR, .ref mA, .ref mP, .int ch, .ref mT, .int le, .int sp, .ref mD])), (mN, .inl (cyI, 515, .inl (upd nw 29 tk)))]) (ws' := [(mM, .inr (8, [.ref mN, .ref mR, .ref mA, .ref mP, .int ch, .ref mT, .int le, .int sp, .ref mD])), (mN, .inl (cyI, 515, .inl (upd nw 29 tk)))]) (ad := [mM, mN]) (wr := []) (nn := 2) (ci := 8) (q0 := 0) X Y (c_tells8 l D cyC cyI mM mN mR mA mP mT mD ch le sp nw 1 9 tk (upd nw 29 tk) (bTells (i := 29) (by decide) rfl) (bInD (by decide))) gX8_addsStep_X8_tells rfl ⟨rfl, rfl⟩ hd_X8_tells ⟨(Nat.le_of_ble_eq_true rfl), (Nat.le_of_ble_eq_true rfl)⟩ rfl rfl rfl [0, 1] [] rfl rfl rfl rfl rfl rfl rfl rfl (by decide) rfl rfl hl.1 (Nat.le_of_ble_eq_true rfl) ⟨Nat.zero_le _, Nat.zero_le _⟩ dX8_addsStep_23 (fun H locs Y => ?_)
    refine lv_aload_n hx hb dX8_addsStep_26 rfl (lv_at hl 1 rfl) ?_
    refine lv_iload_n hx hb dX8_addsStep_27 rfl (lv_at hl 2 rfl) ?_
    refine lv_bipush (v := 9) hx hb dX8_addsStep_28 (by decide) ?_
    refine lv_iconst (v := 2) hx hb dX8_addsStep_30 (by decide) ?_
    refine lv_iload hx hb dX8_addsStep_31 (lv_at hl 0 rfl) ?_
    refine bMul (v := 0) X dX8_addsStep_33 (by decide) ?_
    refine bAdd (v := 9) X dX8_addsStep_34 (by decide) ?_
    refine lv_iconst (v := 1) hx hb dX8_addsStep_35 (by decide) ?_
    refine bAdd (v := 10) X dX8_addsStep_36 (by decide) ?_
    refine lv_iload_n hx hb dX8_addsStep_37 rfl (lv_at hl 4 rfl) ?_
    refine bVV (As := [.int 1, .int 10, .int by_]) (rest := []) (wc := [(mM, .inr (8, [.ref mN, .ref mR, .ref mA, .ref mP, .int ch, .ref mT, .int le, .int sp, .ref mD])), (mN, .inl (cyI, 515, .inl (upd nw 29 tk)))]) (w1 := [(mM, .inr (8, [.ref mN, .ref mR, .ref mA, .ref mP, .int ch, .ref mT, .int le, .int sp, .ref mD])), (mN, .inl (cyI, 515, .inl (upd (upd nw 29 tk) 30 by_)))]) (ws' := [(mM, .inr (8, [.ref mN, .ref mR, .ref mA, .ref mP, .int ch, .ref mT, .int le, .int sp, .ref mD])), (mN, .inl (cyI, 515, .inl (upd (upd nw 29 tk) 30 by_)))]) (ad := [mM, mN]) (wr := []) (nn := 2) (ci := 8) (q0 := 0) X Y (c_tells8 l D cyC cyI mM mN mR mA mP mT mD ch le sp (upd nw 29 tk) 1 10 by_ (upd (upd nw 29 tk) 30 by_) (bTells (i := 30) (by decide) rfl) (bInD (by decide))) gX8_addsStep_X8_tells rfl ⟨rfl, rfl⟩ hd_X8_tells ⟨(Nat.le_of_ble_eq_true rfl), (Nat.le_of_ble_eq_true rfl)⟩ rfl rfl rfl [0, 1] [] rfl rfl rfl rfl rfl rfl rfl rfl (by decide) rfl rfl hl.1 (Nat.le_of_ble_eq_true rfl) ⟨Nat.zero_le _, Nat.zero_le _⟩ dX8_addsStep_38 (fun H locs Y => ?_)
    refine lv_aload_n hx hb dX8_addsStep_41 rfl (lv_at hl 1 rfl) ?_
    refine lv_iload_n hx hb dX8_addsStep_42 rfl (lv_at hl 2 rfl) ?_
    refine lv_bipush (v := 8) hx hb dX8_addsStep_43 (by decide) ?_
    refine lv_iload hx hb dX8_addsStep_45 (lv_at hl 0 rfl) ?_
    refine lv_iconst (v := 1) hx hb dX8_addsStep_47 (by decide) ?_
    refine bAdd (v := 1) X dX8_addsStep_48 (by decide) ?_
    refine bVV (As := [.int 1, .int 8, .int 1]) (rest := []) (wc := [(mM, .inr (8, [.ref mN, .ref mR, .ref mA, .ref mP, .int ch, .ref mT, .int le, .int sp, .ref mD])), (mN, .inl (cyI, 515, .inl (upd (upd nw 29 tk) 30 by_)))]) (w1 := [(mM, .inr (8, [.ref mN, .ref mR, .ref mA, .ref mP, .int ch, .ref mT, .int le, .int sp, .ref mD])), (mN, .inl (cyI, 515, .inl (upd (upd (upd nw 29 tk) 30 by_) 28 1)))]) (ws' := [(mM, .inr (8, [.ref mN, .ref mR, .ref mA, .ref mP, .int ch, .ref mT, .int le, .int sp, .ref mD])), (mN, .inl (cyI, 515, .inl (upd (upd (upd nw 29 tk) 30 by_) 28 1)))]) (ad := [mM, mN]) (wr := []) (nn := 2) (ci := 8) (q0 := 0) X Y (c_tells8 l D cyC cyI mM mN mR mA mP mT mD ch le sp (upd (upd nw 29 tk) 30 by_) 1 8 1 (upd (upd (upd nw 29 tk) 30 by_) 28 1) (bTells (i := 28) (by decide) rfl) (bInD (by decide))) gX8_addsStep_X8_tells rfl ⟨rfl, rfl⟩ hd_X8_tells ⟨(Nat.le_of_ble_eq_true rfl), (Nat.le_of_ble_eq_true rfl)⟩ rfl rfl rfl [0, 1] [] rfl rfl rfl rfl rfl rfl rfl rfl (by decide) rfl rfl hl.1 (Nat.le_of_ble_eq_true rfl) ⟨Nat.zero_le _, Nat.zero_le _⟩ dX8_addsStep_49 (fun H locs Y => ?_)
    have h9 := (Prod.mk.inj hu).1
    subst h9
    exact bEndV X Y hr hlk dX8_addsStep_52 rfl
def s_addsStep8_11 (nw : Nat → Int32) (tk : Int32) (by_ : Int32) : (Nat → Int32) × Unit :=
  if by_ = 0 then
    (nw, ())
  else
    (upd (upd (upd nw 31 tk) 32 by_) 28 2, ())
set_option maxHeartbeats 4000000 in
set_option maxRecDepth 100000 in
theorem c_addsStep8_11 (l : Launch) (D : va_G) (cyC cyI : ClassId) (mM : Nat) (mN : Nat) (mR : Nat) (mA : Nat) (mP : Nat) (mT : Nat) (mD : Nat) (ch : Int32) (le : Int32) (sp : Int32) (nw : Nat → Int32) (tk : Int32) (by_ : Int32) (o0 : Nat → Int32) (hu : s_addsStep8_11 nw tk by_ = (o0, ())) (hk : nw 28 = 1) : CV l yX8_addsStep wsX8_addsStep { frames := 1, cells := 0, slots := 0, locals := 23 } D cyC cyI [.ref mM, .int 1, .int tk, .int by_] [(mM, .inr (8, [.ref mN, .ref mR, .ref mA, .ref mP, .int ch, .ref mT, .int le, .int sp, .ref mD])), (mN, .inl (cyI, 515, .inl nw))] [(mM, .inr (8, [.ref mN, .ref mR, .ref mA, .ref mP, .int ch, .ref mT, .int le, .int sp, .ref mD])), (mN, .inl (cyI, 515, .inl o0))] := by
  refine CV.of (cc := cX8_addsStep) (n := 5) (ret := none) (by decide +kernel) rfl (Nat.le_of_ble_eq_true rfl) ?_
  intro p_ e_ s_ m_ bl_ me_ cd_ A_ ls X Y hr hlk hl
  have hx := X.1.1
  have hb := X.1.2.1
  have hl : lv_has ls 5 [(0, .ref mM), (1, .int 1), (2, .int tk), (3, .int by_)] := hl
  unfold s_addsStep8_11 at hu
  refine lv_iload_n hx hb dX8_addsStep_0 rfl (lv_at hl 3 rfl) ?_
  refine lv_if_eq (tgt := 52) hx hb dX8_addsStep_1 (by decide) (fun c_1 => ?_) (fun c_1 => ?_)
  · have c_1 : by_ = 0 := c_1
    rw [if_pos c_1] at hu
    have h9 := (Prod.mk.inj hu).1
    subst h9
    exact bEndV X Y hr hlk dX8_addsStep_52 rfl
  · have c_1 : ¬ (by_ = 0) := c_1
    rw [if_neg c_1] at hu
    refine lv_aload_n hx hb dX8_addsStep_4 rfl (lv_at hl 0 rfl) ?_
    refine lv_iload_n hx hb dX8_addsStep_5 rfl (lv_at hl 1 rfl) ?_
    refine lv_bipush (v := 8) hx hb dX8_addsStep_6 (by decide) ?_
    refine bVI0 (As := [.int 1, .int 8]) (rest := []) (wc := [(mM, .inr (8, [.ref mN, .ref mR, .ref mA, .ref mP, .int ch, .ref mT, .int le, .int sp, .ref mD])), (mN, .inl (cyI, 515, .inl nw))]) (ci := 8) (q0 := 0) X Y (c_of8 l D cyC cyI mM mN mR mA mP mT mD ch le sp nw 1 8 1 (bOf (i := 28) (by decide) hk) (bInD (by decide))) gX8_addsStep_X8_of rfl ⟨rfl, rfl⟩ hd_X8_of ⟨(Nat.le_of_ble_eq_true rfl), (Nat.le_of_ble_eq_true rfl)⟩ rfl rfl rfl [0, 1] rfl rfl rfl rfl hl.1 (Nat.le_of_ble_eq_true rfl) ⟨Nat.zero_le _, Nat.zero_le _⟩ dX8_addsStep_8 (fun H locs Y => ?_)
    refine lv_istore (lv' := [(4, .int 1), (0, .ref mM), (1, .int 1), (2, .int tk), (3, .int by_)]) hx hb dX8_addsStep_11 hl (by decide) rfl (fun ls hl => ?_)
    refine lv_aload_n hx hb dX8_addsStep_13 rfl (lv_at hl 1 rfl) ?_
    refine lv_iload_n hx hb dX8_addsStep_14 rfl (lv_at hl 2 rfl) ?_
    refine lv_bipush (v := 9) hx hb dX8_addsStep_15 (by decide) ?_
    refine lv_iconst (v := 2) hx hb dX8_addsStep_17 (by decide) ?_
    refine lv_iload hx hb dX8_addsStep_18 (lv_at hl 0 rfl) ?_
    refine bMul (v := 2) X dX8_addsStep_20 (by decide) ?_
    refine bAdd (v := 11) X dX8_addsStep_21 (by decide) ?_
    refine lv_iload_n hx hb dX8_addsStep_22 rfl (lv_at hl 3 rfl) ?_
    refine bVV (As := [.int 1, .int 11, .int tk]) (rest := []) (wc := [(mM, .inr (8, [.ref mN, .ref mR, .ref mA, .ref mP, .int ch, .ref mT, .int le, .int sp, .ref mD])), (mN, .inl (cyI, 515, .inl nw))]) (w1 := [(mM, .inr (8, [.ref mN, .ref mR, .ref mA, .ref mP, .int ch, .ref mT, .int le, .int sp, .ref mD])), (mN, .inl (cyI, 515, .inl (upd nw 31 tk)))]) (ws' := [(mM, .inr (8, [.ref mN, .ref mR, .ref mA, .ref mP, .int ch, .ref mT, .int le, .int sp, .ref mD])), (mN, .inl (cyI, 515, .inl (upd nw 31 tk)))]) (ad := [mM, mN]) (wr := []) (nn := 2) (ci := 8) (q0 := 0) X Y (c_tells8 l D cyC cyI mM mN mR mA mP mT mD ch le sp nw 1 11 tk (upd nw 31 tk) (bTells (i := 31) (by decide) rfl) (bInD (by decide))) gX8_addsStep_X8_tells rfl ⟨rfl, rfl⟩ hd_X8_tells ⟨(Nat.le_of_ble_eq_true rfl), (Nat.le_of_ble_eq_true rfl)⟩ rfl rfl rfl [0, 1] [] rfl rfl rfl rfl rfl rfl rfl rfl (by decide) rfl rfl hl.1 (Nat.le_of_ble_eq_true rfl) ⟨Nat.zero_le _, Nat.zero_le _⟩ dX8_addsStep_23 (fun H locs Y => ?_)
    refine lv_aload_n hx hb dX8_addsStep_26 rfl (lv_at hl 1 rfl) ?_
    refine lv_iload_n hx hb dX8_addsStep_27 rfl (lv_at hl 2 rfl) ?_
    refine lv_bipush (v := 9) hx hb dX8_addsStep_28 (by decide) ?_
    refine lv_iconst (v := 2) hx hb dX8_addsStep_30 (by decide) ?_
    refine lv_iload hx hb dX8_addsStep_31 (lv_at hl 0 rfl) ?_
    refine bMul (v := 2) X dX8_addsStep_33 (by decide) ?_
    refine bAdd (v := 11) X dX8_addsStep_34 (by decide) ?_
    refine lv_iconst (v := 1) hx hb dX8_addsStep_35 (by decide) ?_
    refine bAdd (v := 12) X dX8_addsStep_36 (by decide) ?_
    refine lv_iload_n hx hb dX8_addsStep_37 rfl (lv_at hl 4 rfl) ?_
    refine bVV (As := [.int 1, .int 12, .int by_]) (rest := []) (wc := [(mM, .inr (8, [.ref mN, .ref mR, .ref mA, .ref mP, .int ch, .ref mT, .int le, .int sp, .ref mD])), (mN, .inl (cyI, 515, .inl (upd nw 31 tk)))]) (w1 := [(mM, .inr (8, [.ref mN, .ref mR, .ref mA, .ref mP, .int ch, .ref mT, .int le, .int sp, .ref mD])), (mN, .inl (cyI, 515, .inl (upd (upd nw 31 tk) 32 by_)))]) (ws' := [(mM, .inr (8, [.ref mN, .ref mR, .ref mA, .ref mP, .int ch, .ref mT, .int le, .int sp, .ref mD])), (mN, .inl (cyI, 515, .inl (upd (upd nw 31 tk) 32 by_)))]) (ad := [mM, mN]) (wr := []) (nn := 2) (ci := 8) (q0 := 0) X Y (c_tells8 l D cyC cyI mM mN mR mA mP mT mD ch le sp (upd nw 31 tk) 1 12 by_ (upd (upd nw 31 tk) 32 by_) (bTells (i := 32) (by decide) rfl) (bInD (by decide))) gX8_addsStep_X8_tells rfl ⟨rfl, rfl⟩ hd_X8_tells ⟨(Nat.le_of_ble_eq_true rfl), (Nat.le_of_ble_eq_true rfl)⟩ rfl rfl rfl [0, 1] [] rfl rfl rfl rfl rfl rfl rfl rfl (by decide) rfl rfl hl.1 (Nat.le_of_ble_eq_true rfl) ⟨Nat.zero_le _, Nat.zero_le _⟩ dX8_addsStep_38 (fun H locs Y => ?_)
    refine lv_aload_n hx hb dX8_addsStep_41 rfl (lv_at hl 1 rfl) ?_
    refine lv_iload_n hx hb dX8_addsStep_42 rfl (lv_at hl 2 rfl) ?_
    refine lv_bipush (v := 8) hx hb dX8_addsStep_43 (by decide) ?_
    refine lv_iload hx hb dX8_addsStep_45 (lv_at hl 0 rfl) ?_
    refine lv_iconst (v := 1) hx hb dX8_addsStep_47 (by decide) ?_
    refine bAdd (v := 2) X dX8_addsStep_48 (by decide) ?_
    refine bVV (As := [.int 1, .int 8, .int 2]) (rest := []) (wc := [(mM, .inr (8, [.ref mN, .ref mR, .ref mA, .ref mP, .int ch, .ref mT, .int le, .int sp, .ref mD])), (mN, .inl (cyI, 515, .inl (upd (upd nw 31 tk) 32 by_)))]) (w1 := [(mM, .inr (8, [.ref mN, .ref mR, .ref mA, .ref mP, .int ch, .ref mT, .int le, .int sp, .ref mD])), (mN, .inl (cyI, 515, .inl (upd (upd (upd nw 31 tk) 32 by_) 28 2)))]) (ws' := [(mM, .inr (8, [.ref mN, .ref mR, .ref mA, .ref mP, .int ch, .ref mT, .int le, .int sp, .ref mD])), (mN, .inl (cyI, 515, .inl (upd (upd (upd nw 31 tk) 32 by_) 28 2)))]) (ad := [mM, mN]) (wr := []) (nn := 2) (ci := 8) (q0 := 0) X Y (c_tells8 l D cyC cyI mM mN mR mA mP mT mD ch le sp (upd (upd nw 31 tk) 32 by_) 1 8 2 (upd (upd (upd nw 31 tk) 32 by_) 28 2) (bTells (i := 28) (by decide) rfl) (bInD (by decide))) gX8_addsStep_X8_tells rfl ⟨rfl, rfl⟩ hd_X8_tells ⟨(Nat.le_of_ble_eq_true rfl), (Nat.le_of_ble_eq_true rfl)⟩ rfl rfl rfl [0, 1] [] rfl rfl rfl rfl rfl rfl rfl rfl (by decide) rfl rfl hl.1 (Nat.le_of_ble_eq_true rfl) ⟨Nat.zero_le _, Nat.zero_le _⟩ dX8_addsStep_49 (fun H locs Y => ?_)
    have h9 := (Prod.mk.inj hu).1
    subst h9
    exact bEndV X Y hr hlk dX8_addsStep_52 rfl
def s_addsStep8_1 (nw : Nat → Int32) (tk : Int32) (by_ : Int32) : (Nat → Int32) × Unit := if nw 28 = 0 then s_addsStep8_10 nw tk by_ else s_addsStep8_11 nw tk by_
theorem c_addsStep8_1 (l : Launch) (D : va_G) (cyC cyI : ClassId) (mM : Nat) (mN : Nat) (mR : Nat) (mA : Nat) (mP : Nat) (mT : Nat) (mD : Nat) (ch : Int32) (le : Int32) (sp : Int32) (nw : Nat → Int32) (tk : Int32) (by_ : Int32) (o0 : Nat → Int32) (hu : s_addsStep8_1 nw tk by_ = (o0, ())) (hst : nw 28 = 0 ∨ nw 28 = 1) : CV l yX8_addsStep wsX8_addsStep { frames := 1, cells := 0, slots := 0, locals := 23 } D cyC cyI [.ref mM, .int 1, .int tk, .int by_] [(mM, .inr (8, [.ref mN, .ref mR, .ref mA, .ref mP, .int ch, .ref mT, .int le, .int sp, .ref mD])), (mN, .inl (cyI, 515, .inl nw))] [(mM, .inr (8, [.ref mN, .ref mR, .ref mA, .ref mP, .int ch, .ref mT, .int le, .int sp, .ref mD])), (mN, .inl (cyI, 515, .inl o0))] := by
  unfold s_addsStep8_1 at hu
  rcases hst with h9 | h9
  · rw [if_pos h9] at hu
    exact c_addsStep8_10 l D cyC cyI mM mN mR mA mP mT mD ch le sp nw tk by_ o0 hu h9
  · rw [if_neg (by rw [h9]; decide)] at hu
    exact c_addsStep8_11 l D cyC cyI mM mN mR mA mP mT mD ch le sp nw tk by_ o0 hu h9
theorem asK_1 {nw A : Nat → Int32} {t b : Int32} (h : s_addsStep8_1 nw t b = (A, ())) (h0 : nw 28 = 0) : A 28 = 0 ∨ A 28 = 1 := by
  have e : A = (s_addsStep8_1 nw t b).1 := by rw [h]
  subst e
  unfold s_addsStep8_1 s_addsStep8_10
  rw [if_pos h0]
  split
  · exact Or.inl h0
  · exact Or.inr rfl
theorem hd_X8_heeds : bD1 yX8_heeds RX8 2 := by decide +kernel
theorem i_X8_commands_X8 : ∀ w ∈ wsX80, w ∈ wsX8_commands := by decide +kernel
theorem f_X8_commands_7 : Cond.fieldLink RX8 7 "SwingCranesModel" "now" "[I" ∈ wsX8_commands := by decide +kernel
theorem hd_X8_addsStep : bD1 yX8_addsStep RX8 3 := by decide +kernel
def s_commands8n_0 (nw : Nat → Int32) (w : Int32) : Int32 × (Nat → Int32) :=
  match s_addsStep8_0 (upd (upd (upd (upd (upd nw 15 0) 16 0) 17 0) 18 0) 19 0) ((nw 6) + 1) (w - (nw 13)) with
  | (u_1_0, _) =>
    match s_addsStep8_0 u_1_0 (((u_1_0 6) + 1) + (-1)) ((w - (nw 13)) - (w - (nw 13))) with
    | (u_2_0, _) =>
      if (s_heeds8_10 u_2_0) = true then
        match s_addsStep8_1 (upd (upd (upd (upd (upd u_2_0 28 0) 29 0) 30 0) 31 0) 32 0) ((u_2_0 6) + 1) (w - (u_2_0 26)) with
        | (u_4_0, _) =>
          match s_addsStep8_1 u_4_0 (((u_4_0 6) + 1) + (-1)) ((w - (u_2_0 26)) - (w - (u_2_0 26))) with
          | (u_5_0, _) =>
            (2, u_5_0)
      else
        (1, u_2_0)
set_option maxHeartbeats 4000000 in
set_option maxRecDepth 100000 in
theorem c_commands8n_0 (l : Launch) (D : va_G) (cyC cyI : ClassId) (mM : Nat) (mN : Nat) (mR : Nat) (mA : Nat) (mP : Nat) (mT : Nat) (mD : Nat) (ch : Int32) (le : Int32) (sp : Int32) (nw : Nat → Int32) (w : Int32) (o0 : Int32) (o1 : Nat → Int32) (hu : s_commands8n_0 nw w = (o0, o1)) : CI l yX8_commands wsX8_commands { frames := 2, cells := 0, slots := 0, locals := 47 } D cyC cyI [.ref mM, .int 0, .int w, .int (-1)] [(mM, .inr (8, [.ref mN, .ref mR, .ref mA, .ref mP, .int ch, .ref mT, .int le, .int sp, .ref mD])), (mN, .inl (cyI, 515, .inl nw))] o0 [(mM, .inr (8, [.ref mN, .ref mR, .ref mA, .ref mP, .int ch, .ref mT, .int le, .int sp, .ref mD])), (mN, .inl (cyI, 515, .inl o1))] := by
  refine CI.of (cc := cX8_commands) (n := 8) (ret := (some .int)) (by decide +kernel) rfl (Nat.le_of_ble_eq_true rfl) ?_
  intro p_ e_ s_ m_ bl_ me_ cd_ A_ ls X Y hr hlk hl
  have hx := X.1.1
  have hb := X.1.2.1
  have hl : lv_has ls 8 [(0, .ref mM), (1, .int 0), (2, .int w), (3, .int (-1))] := hl
  unfold s_commands8n_0 at hu
  refine lv_iconst (v := 0) hx hb dX8_commands_0 (by decide) ?_
  refine lv_istore (lv' := [(4, .int 0), (0, .ref mM), (1, .int 0), (2, .int w), (3, .int (-1))]) hx hb dX8_commands_1 hl (by decide) rfl (fun ls hl => ?_)
  refine lv_iconst (v := 0) hx hb dX8_commands_3 (by decide) ?_
  refine lv_istore (lv' := [(5, .int 0), (4, .int 0), (0, .ref mM), (1, .int 0), (2, .int w), (3, .int (-1))]) hx hb dX8_commands_4 hl (by decide) rfl (fun ls hl => ?_)
  refine lv_iload hx hb dX8_commands_6 (lv_at hl 0 rfl) ?_
  refine lv_iconst (v := 2) hx hb dX8_commands_8 (by decide) ?_
  refine lv_icmp_ge (tgt := 124) hx hb dX8_commands_9 (by decide) (fun c_ => absurd c_ (by decide)) (fun _ => ?_)
  refine lv_aload_n hx hb dX8_commands_12 rfl (lv_at hl 2 rfl) ?_
  refine lv_iload hx hb dX8_commands_13 (lv_at hl 0 rfl) ?_
  refine lv_iload_n hx hb dX8_commands_15 rfl (lv_at hl 3 rfl) ?_
  refine bVI0 (As := [.int 0, .int 0]) (rest := []) (wc := [(mM, .inr (8, [.ref mN, .ref mR, .ref mA, .ref mP, .int ch, .ref mT, .int le, .int sp, .ref mD])), (mN, .inl (cyI, 515, .inl nw))]) (ci := 8) (q0 := 0) X Y (c_heeds8_00 l D cyC cyI mM mN mR mA mP mT mD ch le sp nw true rfl) gX8_commands_X8_heeds rfl ⟨rfl, rfl⟩ hd_X8_heeds ⟨(Nat.le_of_ble_eq_true rfl), (Nat.le_of_ble_eq_true rfl)⟩ rfl rfl rfl [0, 1] rfl rfl rfl rfl hl.1 (Nat.le_of_ble_eq_true rfl) ⟨Nat.zero_le _, Nat.zero_le _⟩ dX8_commands_16 (fun H locs Y => ?_)
  refine lv_if_eq (tgt := 118) hx hb dX8_commands_19 (by decide) (fun c_ => absurd c_ (by decide)) (fun _ => ?_)
  refine lv_iinc (v := 1) (lv' := [(4, .int 1), (5, .int 0), (0, .ref mM), (1, .int 0), (2, .int w), (3, .int (-1))]) hx hb dX8_commands_22 hl (k := 1) rfl (by decide) (by decide) rfl (fun ls hl => ?_)
  refine lv_iconst (v := 0) hx hb dX8_commands_25 (by decide) ?_
  refine lv_istore (lv' := [(6, .int 0), (4, .int 1), (5, .int 0), (0, .ref mM), (1, .int 0), (2, .int w), (3, .int (-1))]) hx hb dX8_commands_26 hl (by decide) rfl (fun ls hl => ?_)
  refine lv_iload hx hb dX8_commands_28 (lv_at hl 0 rfl) ?_
  refine lv_iconst (v := 5) hx hb dX8_commands_30 (by decide) ?_
  refine lv_icmp_ge (tgt := 52) hx hb dX8_commands_31 (by decide) (fun c_ => absurd c_ (by decide)) (fun _ => ?_)
  refine lv_aload_n hx hb dX8_commands_34 rfl (lv_at hl 3 rfl) ?_
  refine lv_iload hx hb dX8_commands_35 (lv_at hl 2 rfl) ?_
  refine lv_bipush (v := 8) hx hb dX8_commands_37 (by decide) ?_
  refine lv_iload hx hb dX8_commands_39 (lv_at hl 0 rfl) ?_
  refine bAdd (v := 8) X dX8_commands_41 (by decide) ?_
  refine lv_iconst (v := 0) hx hb dX8_commands_42 (by decide) ?_
  refine bVV (As := [.int 0, .int 8, .int 0]) (rest := []) (wc := [(mM, .inr (8, [.ref mN, .ref mR, .ref mA, .ref mP, .int ch, .ref mT, .int le, .int sp, .ref mD])), (mN, .inl (cyI, 515, .inl nw))]) (w1 := [(mM, .inr (8, [.ref mN, .ref mR, .ref mA, .ref mP, .int ch, .ref mT, .int le, .int sp, .ref mD])), (mN, .inl (cyI, 515, .inl (upd nw 15 0)))]) (ws' := [(mM, .inr (8, [.ref mN, .ref mR, .ref mA, .ref mP, .int ch, .ref mT, .int le, .int sp, .ref mD])), (mN, .inl (cyI, 515, .inl (upd nw 15 0)))]) (ad := [mM, mN]) (wr := []) (nn := 2) (ci := 8) (q0 := 0) X Y (c_tells8 l D cyC cyI mM mN mR mA mP mT mD ch le sp nw 0 8 0 (upd nw 15 0) (bTells (i := 15) (by decide) rfl) (bInD (by decide))) gX8_commands_X8_tells rfl ⟨rfl, rfl⟩ hd_X8_tells ⟨(Nat.le_of_ble_eq_true rfl), (Nat.le_of_ble_eq_true rfl)⟩ rfl rfl rfl [0, 1] [] rfl rfl rfl rfl rfl rfl rfl rfl (by decide) rfl rfl hl.1 (Nat.le_of_ble_eq_true rfl) ⟨Nat.zero_le _, Nat.zero_le _⟩ dX8_commands_43 (fun H locs Y => ?_)
  refine lv_iinc (v := 1) (lv' := [(6, .int 1), (4, .int 1), (5, .int 0), (0, .ref mM), (1, .int 0), (2, .int w), (3, .int (-1))]) hx hb dX8_commands_46 hl (k := 0) rfl (by decide) (by decide) rfl (fun ls hl => ?_)
  refine lv_goto (tgt := 28) hx hb dX8_commands_49 (by decide) ?_
  refine lv_iload hx hb dX8_commands_28 (lv_at hl 0 rfl) ?_
  refine lv_iconst (v := 5) hx hb dX8_commands_30 (by decide) ?_
  refine lv_icmp_ge (tgt := 52) hx hb dX8_commands_31 (by decide) (fun c_ => absurd c_ (by decide)) (fun _ => ?_)
  refine lv_aload_n hx hb dX8_commands_34 rfl (lv_at hl 3 rfl) ?_
  refine lv_iload hx hb dX8_commands_35 (lv_at hl 2 rfl) ?_
  refine lv_bipush (v := 8) hx hb dX8_commands_37 (by decide) ?_
  refine lv_iload hx hb dX8_commands_39 (lv_at hl 0 rfl) ?_
  refine bAdd (v := 9) X dX8_commands_41 (by decide) ?_
  refine lv_iconst (v := 0) hx hb dX8_commands_42 (by decide) ?_
  refine bVV (As := [.int 0, .int 9, .int 0]) (rest := []) (wc := [(mM, .inr (8, [.ref mN, .ref mR, .ref mA, .ref mP, .int ch, .ref mT, .int le, .int sp, .ref mD])), (mN, .inl (cyI, 515, .inl (upd nw 15 0)))]) (w1 := [(mM, .inr (8, [.ref mN, .ref mR, .ref mA, .ref mP, .int ch, .ref mT, .int le, .int sp, .ref mD])), (mN, .inl (cyI, 515, .inl (upd (upd nw 15 0) 16 0)))]) (ws' := [(mM, .inr (8, [.ref mN, .ref mR, .ref mA, .ref mP, .int ch, .ref mT, .int le, .int sp, .ref mD])), (mN, .inl (cyI, 515, .inl (upd (upd nw 15 0) 16 0)))]) (ad := [mM, mN]) (wr := []) (nn := 2) (ci := 8) (q0 := 0) X Y (c_tells8 l D cyC cyI mM mN mR mA mP mT mD ch le sp (upd nw 15 0) 0 9 0 (upd (upd nw 15 0) 16 0) (bTells (i := 16) (by decide) rfl) (bInD (by decide))) gX8_commands_X8_tells rfl ⟨rfl, rfl⟩ hd_X8_tells ⟨(Nat.le_of_ble_eq_true rfl), (Nat.le_of_ble_eq_true rfl)⟩ rfl rfl rfl [0, 1] [] rfl rfl rfl rfl rfl rfl rfl rfl (by decide) rfl rfl hl.1 (Nat.le_of_ble_eq_true rfl) ⟨Nat.zero_le _, Nat.zero_le _⟩ dX8_commands_43 (fun H locs Y => ?_)
  refine lv_iinc (v := 2) (lv' := [(6, .int 2), (4, .int 1), (5, .int 0), (0, .ref mM), (1, .int 0), (2, .int w), (3, .int (-1))]) hx hb dX8_commands_46 hl (k := 0) rfl (by decide) (by decide) rfl (fun ls hl => ?_)
  refine lv_goto (tgt := 28) hx hb dX8_commands_49 (by decide) ?_
  refine lv_iload hx hb dX8_commands_28 (lv_at hl 0 rfl) ?_
  refine lv_iconst (v := 5) hx hb dX8_commands_30 (by decide) ?_
  refine lv_icmp_ge (tgt := 52) hx hb dX8_commands_31 (by decide) (fun c_ => absurd c_ (by decide)) (fun _ => ?_)
  refine lv_aload_n hx hb dX8_commands_34 rfl (lv_at hl 3 rfl) ?_
  refine lv_iload hx hb dX8_commands_35 (lv_at hl 2 rfl) ?_
  refine lv_bipush (v := 8) hx hb dX8_commands_37 (by decide) ?_
  refine lv_iload hx hb dX8_commands_39 (lv_at hl 0 rfl) ?_
  refine bAdd (v := 10) X dX8_commands_41 (by decide) ?_
  refine lv_iconst (v := 0) hx hb dX8_commands_42 (by decide) ?_
  refine bVV (As := [.int 0, .int 10, .int 0]) (rest := []) (wc := [(mM, .inr (8, [.ref mN, .ref mR, .ref mA, .ref mP, .int ch, .ref mT, .int le, .int sp, .ref mD])), (mN, .inl (cyI, 515, .inl (upd (upd nw 15 0) 16 0)))]) (w1 := [(mM, .inr (8, [.ref mN, .ref mR, .ref mA, .ref mP, .int ch, .ref mT, .int le, .int sp, .ref mD])), (mN, .inl (cyI, 515, .inl (upd (upd (upd nw 15 0) 16 0) 17 0)))]) (ws' := [(mM, .inr (8, [.ref mN, .ref mR, .ref mA, .ref mP, .int ch, .ref mT, .int le, .int sp, .ref mD])), (mN, .inl (cyI, 515, .inl (upd (upd (upd nw 15 0) 16 0) 17 0)))]) (ad := [mM, mN]) (wr := []) (nn := 2) (ci := 8) (q0 := 0) X Y (c_tells8 l D cyC cyI mM mN mR mA mP mT mD ch le sp (upd (upd nw 15 0) 16 0) 0 10 0 (upd (upd (upd nw 15 0) 16 0) 17 0) (bTells (i := 17) (by decide) rfl) (bInD (by decide))) gX8_commands_X8_tells rfl ⟨rfl, rfl⟩ hd_X8_tells ⟨(Nat.le_of_ble_eq_true rfl), (Nat.le_of_ble_eq_true rfl)⟩ rfl rfl rfl [0, 1] [] rfl rfl rfl rfl rfl rfl rfl rfl (by decide) rfl rfl hl.1 (Nat.le_of_ble_eq_true rfl) ⟨Nat.zero_le _, Nat.zero_le _⟩ dX8_commands_43 (fun H locs Y => ?_)
  refine lv_iinc (v := 3) (lv' := [(6, .int 3), (4, .int 1), (5, .int 0), (0, .ref mM), (1, .int 0), (2, .int w), (3, .int (-1))]) hx hb dX8_commands_46 hl (k := 0) rfl (by decide) (by decide) rfl (fun ls hl => ?_)
  refine lv_goto (tgt := 28) hx hb dX8_commands_49 (by decide) ?_
  refine lv_iload hx hb dX8_commands_28 (lv_at hl 0 rfl) ?_
  refine lv_iconst (v := 5) hx hb dX8_commands_30 (by decide) ?_
  refine lv_icmp_ge (tgt := 52) hx hb dX8_commands_31 (by decide) (fun c_ => absurd c_ (by decide)) (fun _ => ?_)
  refine lv_aload_n hx hb dX8_commands_34 rfl (lv_at hl 3 rfl) ?_
  refine lv_iload hx hb dX8_commands_35 (lv_at hl 2 rfl) ?_
  refine lv_bipush (v := 8) hx hb dX8_commands_37 (by decide) ?_
  refine lv_iload hx hb dX8_commands_39 (lv_at hl 0 rfl) ?_
  refine bAdd (v := 11) X dX8_commands_41 (by decide) ?_
  refine lv_iconst (v := 0) hx hb dX8_commands_42 (by decide) ?_
  refine bVV (As := [.int 0, .int 11, .int 0]) (rest := []) (wc := [(mM, .inr (8, [.ref mN, .ref mR, .ref mA, .ref mP, .int ch, .ref mT, .int le, .int sp, .ref mD])), (mN, .inl (cyI, 515, .inl (upd (upd (upd nw 15 0) 16 0) 17 0)))]) (w1 := [(mM, .inr (8, [.ref mN, .ref mR, .ref mA, .ref mP, .int ch, .ref mT, .int le, .int sp, .ref mD])), (mN, .inl (cyI, 515, .inl (upd (upd (upd (upd nw 15 0) 16 0) 17 0) 18 0)))]) (ws' := [(mM, .inr (8, [.ref mN, .ref mR, .ref mA, .ref mP, .int ch, .ref mT, .int le, .int sp, .ref mD])), (mN, .inl (cyI, 515, .inl (upd (upd (upd (upd nw 15 0) 16 0) 17 0) 18 0)))]) (ad := [mM, mN]) (wr := []) (nn := 2) (ci := 8) (q0 := 0) X Y (c_tells8 l D cyC cyI mM mN mR mA mP mT mD ch le sp (upd (upd (upd nw 15 0) 16 0) 17 0) 0 11 0 (upd (upd (upd (upd nw 15 0) 16 0) 17 0) 18 0) (bTells (i := 18) (by decide) rfl) (bInD (by decide))) gX8_commands_X8_tells rfl ⟨rfl, rfl⟩ hd_X8_tells ⟨(Nat.le_of_ble_eq_true rfl), (Nat.le_of_ble_eq_true rfl)⟩ rfl rfl rfl [0, 1] [] rfl rfl rfl rfl rfl rfl rfl rfl (by decide) rfl rfl hl.1 (Nat.le_of_ble_eq_true rfl) ⟨Nat.zero_le _, Nat.zero_le _⟩ dX8_commands_43 (fun H locs Y => ?_)
  refine lv_iinc (v := 4) (lv' := [(6, .int 4), (4, .int 1), (5, .int 0), (0, .ref mM), (1, .int 0), (2, .int w), (3, .int (-1))]) hx hb dX8_commands_46 hl (k := 0) rfl (by decide) (by decide) rfl (fun ls hl => ?_)
  refine lv_goto (tgt := 28) hx hb dX8_commands_49 (by decide) ?_
  refine lv_iload hx hb dX8_commands_28 (lv_at hl 0 rfl) ?_
  refine lv_iconst (v := 5) hx hb dX8_commands_30 (by decide) ?_
  refine lv_icmp_ge (tgt := 52) hx hb dX8_commands_31 (by decide) (fun c_ => absurd c_ (by decide)) (fun _ => ?_)
  refine lv_aload_n hx hb dX8_commands_34 rfl (lv_at hl 3 rfl) ?_
  refine lv_iload hx hb dX8_commands_35 (lv_at hl 2 rfl) ?_
  refine lv_bipush (v := 8) hx hb dX8_commands_37 (by decide) ?_
  refine lv_iload hx hb dX8_commands_39 (lv_at hl 0 rfl) ?_
  refine bAdd (v := 12) X dX8_commands_41 (by decide) ?_
  refine lv_iconst (v := 0) hx hb dX8_commands_42 (by decide) ?_
  refine bVV (As := [.int 0, .int 12, .int 0]) (rest := []) (wc := [(mM, .inr (8, [.ref mN, .ref mR, .ref mA, .ref mP, .int ch, .ref mT, .int le, .int sp, .ref mD])), (mN, .inl (cyI, 515, .inl (upd (upd (upd (upd nw 15 0) 16 0) 17 0) 18 0)))]) (w1 := [(mM, .inr (8, [.ref mN, .ref mR, .ref mA, .ref mP, .int ch, .ref mT, .int le, .int sp, .ref mD])), (mN, .inl (cyI, 515, .inl (upd (upd (upd (upd (upd nw 15 0) 16 0) 17 0) 18 0) 19 0)))]) (ws' := [(mM, .inr (8, [.ref mN, .ref mR, .ref mA, .ref mP, .int ch, .ref mT, .int le, .int sp, .ref mD])), (mN, .inl (cyI, 515, .inl (upd (upd (upd (upd (upd nw 15 0) 16 0) 17 0) 18 0) 19 0)))]) (ad := [mM, mN]) (wr := []) (nn := 2) (ci := 8) (q0 := 0) X Y (c_tells8 l D cyC cyI mM mN mR mA mP mT mD ch le sp (upd (upd (upd (upd nw 15 0) 16 0) 17 0) 18 0) 0 12 0 (upd (upd (upd (upd (upd nw 15 0) 16 0) 17 0) 18 0) 19 0) (bTells (i := 19) (by decide) rfl) (bInD (by decide))) gX8_commands_X8_tells rfl ⟨rfl, rfl⟩ hd_X8_tells ⟨(Nat.le_of_ble_eq_true rfl), (Nat.le_of_ble_eq_true rfl)⟩ rfl rfl rfl [0, 1] [] rfl rfl rfl rfl rfl rfl rfl rfl (by decide) rfl rfl hl.1 (Nat.le_of_ble_eq_true rfl) ⟨Nat.zero_le _, Nat.zero_le _⟩ dX8_commands_43 (fun H locs Y => ?_)
  refine lv_iinc (v := 5) (lv' := [(6, .int 5), (4, .int 1), (5, .int 0), (0, .ref mM), (1, .int 0), (2, .int w), (3, .int (-1))]) hx hb dX8_commands_46 hl (k := 0) rfl (by decide) (by decide) rfl (fun ls hl => ?_)
  refine lv_goto (tgt := 28) hx hb dX8_commands_49 (by decide) ?_
  refine lv_iload hx hb dX8_commands_28 (lv_at hl 0 rfl) ?_
  refine lv_iconst (v := 5) hx hb dX8_commands_30 (by decide) ?_
  refine lv_icmp_ge (tgt := 52) hx hb dX8_commands_31 (by decide) (fun _ => ?_) (fun c_ => absurd (by decide) c_)
  refine lv_iload_n hx hb dX8_commands_52 rfl (lv_at hl 5 rfl) ?_
  refine lv_aload_n hx hb dX8_commands_53 rfl (lv_at hl 3 rfl) ?_
  refine lv_iload hx hb dX8_commands_54 (lv_at hl 2 rfl) ?_
  refine lv_bipush (v := 6) hx hb dX8_commands_56 (by decide) ?_
  refine bVI0 (As := [.int 0, .int 6]) (rest := [.int w]) (wc := [(mM, .inr (8, [.ref mN, .ref mR, .ref mA, .ref mP, .int ch, .ref mT, .int le, .int sp, .ref mD])), (mN, .inl (cyI, 515, .inl (upd (upd (upd (upd (upd nw 15 0) 16 0) 17 0) 18 0) 19 0)))]) (ci := 8) (q0 := 0) X Y (c_of8 l D cyC cyI mM mN mR mA mP mT mD ch le sp (upd (upd (upd (upd (upd nw 15 0) 16 0) 17 0) 18 0) 19 0) 0 6 (nw 13) (bOf (i := 13) (by decide) ((upd_ne (by decide)).trans ((upd_ne (by decide)).trans ((upd_ne (by decide)).trans ((upd_ne (by decide)).trans ((upd_ne (by decide)).trans rfl)))))) (bInD (by decide))) gX8_commands_X8_of rfl ⟨rfl, rfl⟩ hd_X8_of ⟨(Nat.le_of_ble_eq_true rfl), (Nat.le_of_ble_eq_true rfl)⟩ rfl rfl rfl [0, 1] rfl rfl rfl rfl hl.1 (Nat.le_of_ble_eq_true rfl) ⟨Nat.zero_le _, Nat.zero_le _⟩ dX8_commands_58 (fun H locs Y => ?_)
  refine bSub (v := w - (nw 13)) X dX8_commands_61 rfl ?_
  refine lv_istore (lv' := [(6, .int (w - (nw 13))), (4, .int 1), (5, .int 0), (0, .ref mM), (1, .int 0), (2, .int w), (3, .int (-1))]) hx hb dX8_commands_62 hl (by decide) rfl (fun ls hl => ?_)
  refine lv_iload_n hx hb dX8_commands_64 rfl (lv_at hl 6 rfl) ?_
  refine lv_if_ge (tgt := 73) hx hb dX8_commands_65 (by decide) (fun c_ => absurd c_ (by decide)) (fun _ => ?_)
  refine lv_iload hx hb dX8_commands_68 (lv_at hl 0 rfl) ?_
  refine lv_goto (tgt := 77) hx hb dX8_commands_70 (by decide) ?_
  refine lv_istore (lv' := [(7, .int (w - (nw 13))), (6, .int (w - (nw 13))), (4, .int 1), (5, .int 0), (0, .ref mM), (1, .int 0), (2, .int w), (3, .int (-1))]) hx hb dX8_commands_77 hl (by decide) rfl (fun ls hl => ?_)
  refine lv_aload_n hx hb dX8_commands_79 rfl (lv_at hl 4 rfl) ?_
  refine lv_iload hx hb dX8_commands_80 (lv_at hl 3 rfl) ?_
  refine lv_aload_n hx hb dX8_commands_82 rfl (lv_at hl 4 rfl) ?_
  refine bGet (v := .ref mN) (T := TX8) (N := 9) (ci := 8) X Y i_X8_commands_X8 0 rfl rfl 0 (Nat.le_of_ble_eq_true rfl) f_X8_commands_7 rfl rfl dX8_commands_83 ?_
  refine lv_bipush (v := 6) hx hb dX8_commands_86 (by decide) ?_
  refine bIald (v := nw 6) X Y 1 rfl (bInD (by decide)) dX8_commands_88 ((upd_ne (by decide)).trans ((upd_ne (by decide)).trans ((upd_ne (by decide)).trans ((upd_ne (by decide)).trans ((upd_ne (by decide)).trans rfl))))) ?_
  refine lv_iconst (v := 1) hx hb dX8_commands_89 (by decide) ?_
  refine bAdd (v := (nw 6) + 1) X dX8_commands_90 rfl ?_
  refine lv_iload hx hb dX8_commands_91 (lv_at hl 0 rfl) ?_
  obtain ⟨u_1_0, hr_1⟩ := bEx1 (s_addsStep8_0 (upd (upd (upd (upd (upd nw 15 0) 16 0) 17 0) 18 0) 19 0) ((nw 6) + 1) (w - (nw 13)))
  rw [hr_1] at hu
  dsimp only at hu
  have asK_0_1 := asK_0 hr_1
  refine bVV (As := [.int 0, .int ((nw 6) + 1), .int (w - (nw 13))]) (rest := []) (wc := [(mM, .inr (8, [.ref mN, .ref mR, .ref mA, .ref mP, .int ch, .ref mT, .int le, .int sp, .ref mD])), (mN, .inl (cyI, 515, .inl (upd (upd (upd (upd (upd nw 15 0) 16 0) 17 0) 18 0) 19 0)))]) (w1 := [(mM, .inr (8, [.ref mN, .ref mR, .ref mA, .ref mP, .int ch, .ref mT, .int le, .int sp, .ref mD])), (mN, .inl (cyI, 515, .inl u_1_0))]) (ws' := [(mM, .inr (8, [.ref mN, .ref mR, .ref mA, .ref mP, .int ch, .ref mT, .int le, .int sp, .ref mD])), (mN, .inl (cyI, 515, .inl u_1_0))]) (ad := [mM, mN]) (wr := []) (nn := 2) (ci := 8) (q0 := 0) X Y (c_addsStep8_0 l D cyC cyI mM mN mR mA mP mT mD ch le sp (upd (upd (upd (upd (upd nw 15 0) 16 0) 17 0) 18 0) 19 0) ((nw 6) + 1) (w - (nw 13)) u_1_0 hr_1 (by first | exact Or.inl rfl | exact asK_0_1 rfl | exact asK_0_2 rfl | exact asK_0_3 rfl | exact asK_0_4 rfl | exact asK_0_5 rfl | exact asK_0_6 rfl | exact asK_0_7 rfl | exact asK_0_8 rfl | exact asK_0_9 rfl | exact asK_0_10 rfl | exact asK_0_11 rfl | exact asK_0_12 rfl | exact asK_0_13 rfl | exact asK_0_14 rfl | exact asK_0_15 rfl | exact asK_0_16 rfl | exact asK_0_17 rfl | exact asK_0_18 rfl | exact asK_0_19 rfl | exact asK_0_20 rfl | exact asK_0_21 rfl | exact asK_0_22 rfl | exact asK_0_23 rfl | exact asK_0_24 rfl | exact asK_0_25 rfl | exact asK_0_26 rfl | exact asK_0_27 rfl | exact asK_0_28 rfl | exact asK_0_29 rfl | exact asK_0_30 rfl | exact asK_0_31 rfl | exact asK_0_32 rfl | exact asK_0_33 rfl | exact asK_0_34 rfl | exact asK_0_35 rfl | exact asK_0_36 rfl | exact asK_0_37 rfl | exact asK_0_38 rfl | exact asK_0_39 rfl)) gX8_commands_X8_addsStep rfl ⟨rfl, rfl⟩ hd_X8_addsStep ⟨(Nat.le_of_ble_eq_true rfl), (Nat.le_of_ble_eq_true rfl)⟩ rfl rfl rfl [0, 1] [] rfl rfl rfl rfl rfl rfl rfl rfl (by decide) rfl rfl hl.1 (Nat.le_of_ble_eq_true rfl) ⟨Nat.zero_le _, Nat.zero_le _⟩ dX8_commands_93 (fun H locs Y => ?_)
  refine lv_aload_n hx hb dX8_commands_96 rfl (lv_at hl 4 rfl) ?_
  refine lv_iload hx hb dX8_commands_97 (lv_at hl 3 rfl) ?_
  refine lv_aload_n hx hb dX8_commands_99 rfl (lv_at hl 4 rfl) ?_
  refine bGet (v := .ref mN) (T := TX8) (N := 9) (ci := 8) X Y i_X8_commands_X8 0 rfl rfl 0 (Nat.le_of_ble_eq_true rfl) f_X8_commands_7 rfl rfl dX8_commands_100 ?_
  refine lv_bipush (v := 6) hx hb dX8_commands_103 (by decide) ?_
  refine bIald (v := u_1_0 6) X Y 1 rfl (bInD (by decide)) dX8_commands_105 rfl ?_
  refine lv_iconst (v := 1) hx hb dX8_commands_106 (by decide) ?_
  refine bAdd (v := (u_1_0 6) + 1) X dX8_commands_107 rfl ?_
  refine lv_iload_n hx hb dX8_commands_108 rfl (lv_at hl 7 rfl) ?_
  refine bAdd (v := ((u_1_0 6) + 1) + (-1)) X dX8_commands_109 rfl ?_
  refine lv_iload hx hb dX8_commands_110 (lv_at hl 1 rfl) ?_
  refine lv_iload hx hb dX8_commands_112 (lv_at hl 0 rfl) ?_
  refine bSub (v := (w - (nw 13)) - (w - (nw 13))) X dX8_commands_114 rfl ?_
  obtain ⟨u_2_0, hr_2⟩ := bEx1 (s_addsStep8_0 u_1_0 (((u_1_0 6) + 1) + (-1)) ((w - (nw 13)) - (w - (nw 13))))
  rw [hr_2] at hu
  dsimp only at hu
  have asK_0_2 := asK_0 hr_2
  refine bVV (As := [.int 0, .int (((u_1_0 6) + 1) + (-1)), .int ((w - (nw 13)) - (w - (nw 13)))]) (rest := []) (wc := [(mM, .inr (8, [.ref mN, .ref mR, .ref mA, .ref mP, .int ch, .ref mT, .int le, .int sp, .ref mD])), (mN, .inl (cyI, 515, .inl u_1_0))]) (w1 := [(mM, .inr (8, [.ref mN, .ref mR, .ref mA, .ref mP, .int ch, .ref mT, .int le, .int sp, .ref mD])), (mN, .inl (cyI, 515, .inl u_2_0))]) (ws' := [(mM, .inr (8, [.ref mN, .ref mR, .ref mA, .ref mP, .int ch, .ref mT, .int le, .int sp, .ref mD])), (mN, .inl (cyI, 515, .inl u_2_0))]) (ad := [mM, mN]) (wr := []) (nn := 2) (ci := 8) (q0 := 0) X Y (c_addsStep8_0 l D cyC cyI mM mN mR mA mP mT mD ch le sp u_1_0 (((u_1_0 6) + 1) + (-1)) ((w - (nw 13)) - (w - (nw 13))) u_2_0 hr_2 (by first | exact Or.inl rfl | exact asK_0_1 rfl | exact asK_0_2 rfl | exact asK_0_3 rfl | exact asK_0_4 rfl | exact asK_0_5 rfl | exact asK_0_6 rfl | exact asK_0_7 rfl | exact asK_0_8 rfl | exact asK_0_9 rfl | exact asK_0_10 rfl | exact asK_0_11 rfl | exact asK_0_12 rfl | exact asK_0_13 rfl | exact asK_0_14 rfl | exact asK_0_15 rfl | exact asK_0_16 rfl | exact asK_0_17 rfl | exact asK_0_18 rfl | exact asK_0_19 rfl | exact asK_0_20 rfl | exact asK_0_21 rfl | exact asK_0_22 rfl | exact asK_0_23 rfl | exact asK_0_24 rfl | exact asK_0_25 rfl | exact asK_0_26 rfl | exact asK_0_27 rfl | exact asK_0_28 rfl | exact asK_0_29 rfl | exact asK_0_30 rfl | exact asK_0_31 rfl | exact asK_0_32 rfl | exact asK_0_33 rfl | exact asK_0_34 rfl | exact asK_0_35 rfl | exact asK_0_36 rfl | exact asK_0_37 rfl | exact asK_0_38 rfl | exact asK_0_39 rfl)) gX8_commands_X8_addsStep rfl ⟨rfl, rfl⟩ hd_X8_addsStep ⟨(Nat.le_of_ble_eq_true rfl), (Nat.le_of_ble_eq_true rfl)⟩ rfl rfl rfl [0, 1] [] rfl rfl rfl rfl rfl rfl rfl rfl (by decide) rfl rfl hl.1 (Nat.le_of_ble_eq_true rfl) ⟨Nat.zero_le _, Nat.zero_le _⟩ dX8_commands_115 (fun H locs Y => ?_)
  refine lv_iinc (v := 1) (lv' := [(5, .int 1), (7, .int (w - (nw 13))), (6, .int (w - (nw 13))), (4, .int 1), (0, .ref mM), (1, .int 0), (2, .int w), (3, .int (-1))]) hx hb dX8_commands_118 hl (k := 3) rfl (by decide) (by decide) rfl (fun ls hl => ?_)
  refine lv_goto (tgt := 6) hx hb dX8_commands_121 (by decide) ?_
  refine lv_iload hx hb dX8_commands_6 (lv_at hl 0 rfl) ?_
  refine lv_iconst (v := 2) hx hb dX8_commands_8 (by decide) ?_
  refine lv_icmp_ge (tgt := 124) hx hb dX8_commands_9 (by decide) (fun c_ => absurd c_ (by decide)) (fun _ => ?_)
  refine lv_aload_n hx hb dX8_commands_12 rfl (lv_at hl 4 rfl) ?_
  refine lv_iload hx hb dX8_commands_13 (lv_at hl 0 rfl) ?_
  refine lv_iload_n hx hb dX8_commands_15 rfl (lv_at hl 5 rfl) ?_
  refine bVI0 (As := [.int 1, .int 0]) (rest := []) (wc := [(mM, .inr (8, [.ref mN, .ref mR, .ref mA, .ref mP, .int ch, .ref mT, .int le, .int sp, .ref mD])), (mN, .inl (cyI, 515, .inl u_2_0))]) (ci := 8) (q0 := 0) X Y (c_heeds8_10 l D cyC cyI mM mN mR mA mP mT mD ch le sp u_2_0 (s_heeds8_10 u_2_0) rfl) gX8_commands_X8_heeds rfl ⟨rfl, rfl⟩ hd_X8_heeds ⟨(Nat.le_of_ble_eq_true rfl), (Nat.le_of_ble_eq_true rfl)⟩ rfl rfl rfl [0, 1] rfl rfl rfl rfl hl.1 (Nat.le_of_ble_eq_true rfl) ⟨Nat.zero_le _, Nat.zero_le _⟩ dX8_commands_16 (fun H locs Y => ?_)
  refine lv_if_eq (tgt := 118) hx hb dX8_commands_19 (by decide) (fun c_3 => ?_) (fun c_3 => ?_)
  · have c_3 := bB_f c_3
    rw [if_neg c_3] at hu
    refine lv_iinc (v := 2) (lv' := [(5, .int 2), (7, .int (w - (nw 13))), (6, .int (w - (nw 13))), (4, .int 1), (0, .ref mM), (1, .int 0), (2, .int w), (3, .int (-1))]) hx hb dX8_commands_118 hl (k := 0) rfl (by decide) (by decide) rfl (fun ls hl => ?_)
    refine lv_goto (tgt := 6) hx hb dX8_commands_121 (by decide) ?_
    refine lv_iload hx hb dX8_commands_6 (lv_at hl 0 rfl) ?_
    refine lv_iconst (v := 2) hx hb dX8_commands_8 (by decide) ?_
    refine lv_icmp_ge (tgt := 124) hx hb dX8_commands_9 (by decide) (fun _ => ?_) (fun c_ => absurd (by decide) c_)
    refine lv_iload hx hb dX8_commands_124 (lv_at hl 3 rfl) ?_
    have h9 := (Prod.mk.inj hu).1; replace hu := (Prod.mk.inj hu).2; subst h9
    subst hu
    exact bEndI X Y hr hlk dX8_commands_126 rfl rfl
  · have c_3 := bB_t c_3
    rw [if_pos c_3] at hu
    refine lv_iinc (v := 2) (lv' := [(4, .int 2), (5, .int 1), (7, .int (w - (nw 13))), (6, .int (w - (nw 13))), (0, .ref mM), (1, .int 0), (2, .int w), (3, .int (-1))]) hx hb dX8_commands_22 hl (k := 3) rfl (by decide) (by decide) rfl (fun ls hl => ?_)
    refine lv_iconst (v := 0) hx hb dX8_commands_25 (by decide) ?_
    refine lv_istore (lv' := [(6, .int 0), (4, .int 2), (5, .int 1), (7, .int (w - (nw 13))), (0, .ref mM), (1, .int 0), (2, .int w), (3, .int (-1))]) hx hb dX8_commands_26 hl (by decide) rfl (fun ls hl => ?_)
    refine lv_iload hx hb dX8_commands_28 (lv_at hl 0 rfl) ?_
    refine lv_iconst (v := 5) hx hb dX8_commands_30 (by decide) ?_
    refine lv_icmp_ge (tgt := 52) hx hb dX8_commands_31 (by decide) (fun c_ => absurd c_ (by decide)) (fun _ => ?_)
    refine lv_aload_n hx hb dX8_commands_34 rfl (lv_at hl 4 rfl) ?_
    refine lv_iload hx hb dX8_commands_35 (lv_at hl 2 rfl) ?_
    refine lv_bipush (v := 8) hx hb dX8_commands_37 (by decide) ?_
    refine lv_iload hx hb dX8_commands_39 (lv_at hl 0 rfl) ?_
    refine bAdd (v := 8) X dX8_commands_41 (by decide) ?_
    refine lv_iconst (v := 0) hx hb dX8_commands_42 (by decide) ?_
    refine bVV (As := [.int 1, .int 8, .int 0]) (rest := []) (wc := [(mM, .inr (8, [.ref mN, .ref mR, .ref mA, .ref mP, .int ch, .ref mT, .int le, .int sp, .ref mD])), (mN, .inl (cyI, 515, .inl u_2_0))]) (w1 := [(mM, .inr (8, [.ref mN, .ref mR, .ref mA, .ref mP, .int ch, .ref mT, .int le, .int sp, .ref mD])), (mN, .inl (cyI, 515, .inl (upd u_2_0 28 0)))]) (ws' := [(mM, .inr (8, [.ref mN, .ref mR, .ref mA, .ref mP, .int ch, .ref mT, .int le, .int sp, .ref mD])), (mN, .inl (cyI, 515, .inl (upd u_2_0 28 0)))]) (ad := [mM, mN]) (wr := []) (nn := 2) (ci := 8) (q0 := 0) X Y (c_tells8 l D cyC cyI mM mN mR mA mP mT mD ch le sp u_2_0 1 8 0 (upd u_2_0 28 0) (bTells (i := 28) (by decide) rfl) (bInD (by decide))) gX8_commands_X8_tells rfl ⟨rfl, rfl⟩ hd_X8_tells ⟨(Nat.le_of_ble_eq_true rfl), (Nat.le_of_ble_eq_true rfl)⟩ rfl rfl rfl [0, 1] [] rfl rfl rfl rfl rfl rfl rfl rfl (by decide) rfl rfl hl.1 (Nat.le_of_ble_eq_true rfl) ⟨Nat.zero_le _, Nat.zero_le _⟩ dX8_commands_43 (fun H locs Y => ?_)
    refine lv_iinc (v := 1) (lv' := [(6, .int 1), (4, .int 2), (5, .int 1), (7, .int (w - (nw 13))), (0, .ref mM), (1, .int 0), (2, .int w), (3, .int (-1))]) hx hb dX8_commands_46 hl (k := 0) rfl (by decide) (by decide) rfl (fun ls hl => ?_)
    refine lv_goto (tgt := 28) hx hb dX8_commands_49 (by decide) ?_
    refine lv_iload hx hb dX8_commands_28 (lv_at hl 0 rfl) ?_
    refine lv_iconst (v := 5) hx hb dX8_commands_30 (by decide) ?_
    refine lv_icmp_ge (tgt := 52) hx hb dX8_commands_31 (by decide) (fun c_ => absurd c_ (by decide)) (fun _ => ?_)
    refine lv_aload_n hx hb dX8_commands_34 rfl (lv_at hl 4 rfl) ?_
    refine lv_iload hx hb dX8_commands_35 (lv_at hl 2 rfl) ?_
    refine lv_bipush (v := 8) hx hb dX8_commands_37 (by decide) ?_
    refine lv_iload hx hb dX8_commands_39 (lv_at hl 0 rfl) ?_
    refine bAdd (v := 9) X dX8_commands_41 (by decide) ?_
    refine lv_iconst (v := 0) hx hb dX8_commands_42 (by decide) ?_
    refine bVV (As := [.int 1, .int 9, .int 0]) (rest := []) (wc := [(mM, .inr (8, [.ref mN, .ref mR, .ref mA, .ref mP, .int ch, .ref mT, .int le, .int sp, .ref mD])), (mN, .inl (cyI, 515, .inl (upd u_2_0 28 0)))]) (w1 := [(mM, .inr (8, [.ref mN, .ref mR, .ref mA, .ref mP, .int ch, .ref mT, .int le, .int sp, .ref mD])), (mN, .inl (cyI, 515, .inl (upd (upd u_2_0 28 0) 29 0)))]) (ws' := [(mM, .inr (8, [.ref mN, .ref mR, .ref mA, .ref mP, .int ch, .ref mT, .int le, .int sp, .ref mD])), (mN, .inl (cyI, 515, .inl (upd (upd u_2_0 28 0) 29 0)))]) (ad := [mM, mN]) (wr := []) (nn := 2) (ci := 8) (q0 := 0) X Y (c_tells8 l D cyC cyI mM mN mR mA mP mT mD ch le sp (upd u_2_0 28 0) 1 9 0 (upd (upd u_2_0 28 0) 29 0) (bTells (i := 29) (by decide) rfl) (bInD (by decide))) gX8_commands_X8_tells rfl ⟨rfl, rfl⟩ hd_X8_tells ⟨(Nat.le_of_ble_eq_true rfl), (Nat.le_of_ble_eq_true rfl)⟩ rfl rfl rfl [0, 1] [] rfl rfl rfl rfl rfl rfl rfl rfl (by decide) rfl rfl hl.1 (Nat.le_of_ble_eq_true rfl) ⟨Nat.zero_le _, Nat.zero_le _⟩ dX8_commands_43 (fun H locs Y => ?_)
    refine lv_iinc (v := 2) (lv' := [(6, .int 2), (4, .int 2), (5, .int 1), (7, .int (w - (nw 13))), (0, .ref mM), (1, .int 0), (2, .int w), (3, .int (-1))]) hx hb dX8_commands_46 hl (k := 0) rfl (by decide) (by decide) rfl (fun ls hl => ?_)
    refine lv_goto (tgt := 28) hx hb dX8_commands_49 (by decide) ?_
    refine lv_iload hx hb dX8_commands_28 (lv_at hl 0 rfl) ?_
    refine lv_iconst (v := 5) hx hb dX8_commands_30 (by decide) ?_
    refine lv_icmp_ge (tgt := 52) hx hb dX8_commands_31 (by decide) (fun c_ => absurd c_ (by decide)) (fun _ => ?_)
    refine lv_aload_n hx hb dX8_commands_34 rfl (lv_at hl 4 rfl) ?_
    refine lv_iload hx hb dX8_commands_35 (lv_at hl 2 rfl) ?_
    refine lv_bipush (v := 8) hx hb dX8_commands_37 (by decide) ?_
    refine lv_iload hx hb dX8_commands_39 (lv_at hl 0 rfl) ?_
    refine bAdd (v := 10) X dX8_commands_41 (by decide) ?_
    refine lv_iconst (v := 0) hx hb dX8_commands_42 (by decide) ?_
    refine bVV (As := [.int 1, .int 10, .int 0]) (rest := []) (wc := [(mM, .inr (8, [.ref mN, .ref mR, .ref mA, .ref mP, .int ch, .ref mT, .int le, .int sp, .ref mD])), (mN, .inl (cyI, 515, .inl (upd (upd u_2_0 28 0) 29 0)))]) (w1 := [(mM, .inr (8, [.ref mN, .ref mR, .ref mA, .ref mP, .int ch, .ref mT, .int le, .int sp, .ref mD])), (mN, .inl (cyI, 515, .inl (upd (upd (upd u_2_0 28 0) 29 0) 30 0)))]) (ws' := [(mM, .inr (8, [.ref mN, .ref mR, .ref mA, .ref mP, .int ch, .ref mT, .int le, .int sp, .ref mD])), (mN, .inl (cyI, 515, .inl (upd (upd (upd u_2_0 28 0) 29 0) 30 0)))]) (ad := [mM, mN]) (wr := []) (nn := 2) (ci := 8) (q0 := 0) X Y (c_tells8 l D cyC cyI mM mN mR mA mP mT mD ch le sp (upd (upd u_2_0 28 0) 29 0) 1 10 0 (upd (upd (upd u_2_0 28 0) 29 0) 30 0) (bTells (i := 30) (by decide) rfl) (bInD (by decide))) gX8_commands_X8_tells rfl ⟨rfl, rfl⟩ hd_X8_tells ⟨(Nat.le_of_ble_eq_true rfl), (Nat.le_of_ble_eq_true rfl)⟩ rfl rfl rfl [0, 1] [] rfl rfl rfl rfl rfl rfl rfl rfl (by decide) rfl rfl hl.1 (Nat.le_of_ble_eq_true rfl) ⟨Nat.zero_le _, Nat.zero_le _⟩ dX8_commands_43 (fun H locs Y => ?_)
    refine lv_iinc (v := 3) (lv' := [(6, .int 3), (4, .int 2), (5, .int 1), (7, .int (w - (nw 13))), (0, .ref mM), (1, .int 0), (2, .int w), (3, .int (-1))]) hx hb dX8_commands_46 hl (k := 0) rfl (by decide) (by decide) rfl (fun ls hl => ?_)
    refine lv_goto (tgt := 28) hx hb dX8_commands_49 (by decide) ?_
    refine lv_iload hx hb dX8_commands_28 (lv_at hl 0 rfl) ?_
    refine lv_iconst (v := 5) hx hb dX8_commands_30 (by decide) ?_
    refine lv_icmp_ge (tgt := 52) hx hb dX8_commands_31 (by decide) (fun c_ => absurd c_ (by decide)) (fun _ => ?_)
    refine lv_aload_n hx hb dX8_commands_34 rfl (lv_at hl 4 rfl) ?_
    refine lv_iload hx hb dX8_commands_35 (lv_at hl 2 rfl) ?_
    refine lv_bipush (v := 8) hx hb dX8_commands_37 (by decide) ?_
    refine lv_iload hx hb dX8_commands_39 (lv_at hl 0 rfl) ?_
    refine bAdd (v := 11) X dX8_commands_41 (by decide) ?_
    refine lv_iconst (v := 0) hx hb dX8_commands_42 (by decide) ?_
    refine bVV (As := [.int 1, .int 11, .int 0]) (rest := []) (wc := [(mM, .inr (8, [.ref mN, .ref mR, .ref mA, .ref mP, .int ch, .ref mT, .int le, .int sp, .ref mD])), (mN, .inl (cyI, 515, .inl (upd (upd (upd u_2_0 28 0) 29 0) 30 0)))]) (w1 := [(mM, .inr (8, [.ref mN, .ref mR, .ref mA, .ref mP, .int ch, .ref mT, .int le, .int sp, .ref mD])), (mN, .inl (cyI, 515, .inl (upd (upd (upd (upd u_2_0 28 0) 29 0) 30 0) 31 0)))]) (ws' := [(mM, .inr (8, [.ref mN, .ref mR, .ref mA, .ref mP, .int ch, .ref mT, .int le, .int sp, .ref mD])), (mN, .inl (cyI, 515, .inl (upd (upd (upd (upd u_2_0 28 0) 29 0) 30 0) 31 0)))]) (ad := [mM, mN]) (wr := []) (nn := 2) (ci := 8) (q0 := 0) X Y (c_tells8 l D cyC cyI mM mN mR mA mP mT mD ch le sp (upd (upd (upd u_2_0 28 0) 29 0) 30 0) 1 11 0 (upd (upd (upd (upd u_2_0 28 0) 29 0) 30 0) 31 0) (bTells (i := 31) (by decide) rfl) (bInD (by decide))) gX8_commands_X8_tells rfl ⟨rfl, rfl⟩ hd_X8_tells ⟨(Nat.le_of_ble_eq_true rfl), (Nat.le_of_ble_eq_true rfl)⟩ rfl rfl rfl [0, 1] [] rfl rfl rfl rfl rfl rfl rfl rfl (by decide) rfl rfl hl.1 (Nat.le_of_ble_eq_true rfl) ⟨Nat.zero_le _, Nat.zero_le _⟩ dX8_commands_43 (fun H locs Y => ?_)
    refine lv_iinc (v := 4) (lv' := [(6, .int 4), (4, .int 2), (5, .int 1), (7, .int (w - (nw 13))), (0, .ref mM), (1, .int 0), (2, .int w), (3, .int (-1))]) hx hb dX8_commands_46 hl (k := 0) rfl (by decide) (by decide) rfl (fun ls hl => ?_)
    refine lv_goto (tgt := 28) hx hb dX8_commands_49 (by decide) ?_
    refine lv_iload hx hb dX8_commands_28 (lv_at hl 0 rfl) ?_
    refine lv_iconst (v := 5) hx hb dX8_commands_30 (by decide) ?_
    refine lv_icmp_ge (tgt := 52) hx hb dX8_commands_31 (by decide) (fun c_ => absurd c_ (by decide)) (fun _ => ?_)
    refine lv_aload_n hx hb dX8_commands_34 rfl (lv_at hl 4 rfl) ?_
    refine lv_iload hx hb dX8_commands_35 (lv_at hl 2 rfl) ?_
    refine lv_bipush (v := 8) hx hb dX8_commands_37 (by decide) ?_
    refine lv_iload hx hb dX8_commands_39 (lv_at hl 0 rfl) ?_
    refine bAdd (v := 12) X dX8_commands_41 (by decide) ?_
    refine lv_iconst (v := 0) hx hb dX8_commands_42 (by decide) ?_
    refine bVV (As := [.int 1, .int 12, .int 0]) (rest := []) (wc := [(mM, .inr (8, [.ref mN, .ref mR, .ref mA, .ref mP, .int ch, .ref mT, .int le, .int sp, .ref mD])), (mN, .inl (cyI, 515, .inl (upd (upd (upd (upd u_2_0 28 0) 29 0) 30 0) 31 0)))]) (w1 := [(mM, .inr (8, [.ref mN, .ref mR, .ref mA, .ref mP, .int ch, .ref mT, .int le, .int sp, .ref mD])), (mN, .inl (cyI, 515, .inl (upd (upd (upd (upd (upd u_2_0 28 0) 29 0) 30 0) 31 0) 32 0)))]) (ws' := [(mM, .inr (8, [.ref mN, .ref mR, .ref mA, .ref mP, .int ch, .ref mT, .int le, .int sp, .ref mD])), (mN, .inl (cyI, 515, .inl (upd (upd (upd (upd (upd u_2_0 28 0) 29 0) 30 0) 31 0) 32 0)))]) (ad := [mM, mN]) (wr := []) (nn := 2) (ci := 8) (q0 := 0) X Y (c_tells8 l D cyC cyI mM mN mR mA mP mT mD ch le sp (upd (upd (upd (upd u_2_0 28 0) 29 0) 30 0) 31 0) 1 12 0 (upd (upd (upd (upd (upd u_2_0 28 0) 29 0) 30 0) 31 0) 32 0) (bTells (i := 32) (by decide) rfl) (bInD (by decide))) gX8_commands_X8_tells rfl ⟨rfl, rfl⟩ hd_X8_tells ⟨(Nat.le_of_ble_eq_true rfl), (Nat.le_of_ble_eq_true rfl)⟩ rfl rfl rfl [0, 1] [] rfl rfl rfl rfl rfl rfl rfl rfl (by decide) rfl rfl hl.1 (Nat.le_of_ble_eq_true rfl) ⟨Nat.zero_le _, Nat.zero_le _⟩ dX8_commands_43 (fun H locs Y => ?_)
    refine lv_iinc (v := 5) (lv' := [(6, .int 5), (4, .int 2), (5, .int 1), (7, .int (w - (nw 13))), (0, .ref mM), (1, .int 0), (2, .int w), (3, .int (-1))]) hx hb dX8_commands_46 hl (k := 0) rfl (by decide) (by decide) rfl (fun ls hl => ?_)
    refine lv_goto (tgt := 28) hx hb dX8_commands_49 (by decide) ?_
    refine lv_iload hx hb dX8_commands_28 (lv_at hl 0 rfl) ?_
    refine lv_iconst (v := 5) hx hb dX8_commands_30 (by decide) ?_
    refine lv_icmp_ge (tgt := 52) hx hb dX8_commands_31 (by decide) (fun _ => ?_) (fun c_ => absurd (by decide) c_)
    refine lv_iload_n hx hb dX8_commands_52 rfl (lv_at hl 6 rfl) ?_
    refine lv_aload_n hx hb dX8_commands_53 rfl (lv_at hl 4 rfl) ?_
    refine lv_iload hx hb dX8_commands_54 (lv_at hl 2 rfl) ?_
    refine lv_bipush (v := 6) hx hb dX8_commands_56 (by decide) ?_
    refine bVI0 (As := [.int 1, .int 6]) (rest := [.int w]) (wc := [(mM, .inr (8, [.ref mN, .ref mR, .ref mA, .ref mP, .int ch, .ref mT, .int le, .int sp, .ref mD])), (mN, .inl (cyI, 515, .inl (upd (upd (upd (upd (upd u_2_0 28 0) 29 0) 30 0) 31 0) 32 0)))]) (ci := 8) (q0 := 0) X Y (c_of8 l D cyC cyI mM mN mR mA mP mT mD ch le sp (upd (upd (upd (upd (upd u_2_0 28 0) 29 0) 30 0) 31 0) 32 0) 1 6 (u_2_0 26) (bOf (i := 26) (by decide) ((upd_ne (by decide)).trans ((upd_ne (by decide)).trans ((upd_ne (by decide)).trans ((upd_ne (by decide)).trans ((upd_ne (by decide)).trans rfl)))))) (bInD (by decide))) gX8_commands_X8_of rfl ⟨rfl, rfl⟩ hd_X8_of ⟨(Nat.le_of_ble_eq_true rfl), (Nat.le_of_ble_eq_true rfl)⟩ rfl rfl rfl [0, 1] rfl rfl rfl rfl hl.1 (Nat.le_of_ble_eq_true rfl) ⟨Nat.zero_le _, Nat.zero_le _⟩ dX8_commands_58 (fun H locs Y => ?_)
    refine bSub (v := w - (u_2_0 26)) X dX8_commands_61 rfl ?_
    refine lv_istore (lv' := [(6, .int (w - (u_2_0 26))), (4, .int 2), (5, .int 1), (7, .int (w - (nw 13))), (0, .ref mM), (1, .int 0), (2, .int w), (3, .int (-1))]) hx hb dX8_commands_62 hl (by decide) rfl (fun ls hl => ?_)
    refine lv_iload_n hx hb dX8_commands_64 rfl (lv_at hl 7 rfl) ?_
    refine lv_if_ge (tgt := 73) hx hb dX8_commands_65 (by decide) (fun c_ => absurd c_ (by decide)) (fun _ => ?_)
    refine lv_iload hx hb dX8_commands_68 (lv_at hl 0 rfl) ?_
    refine lv_goto (tgt := 77) hx hb dX8_commands_70 (by decide) ?_
    refine lv_istore (lv' := [(7, .int (w - (u_2_0 26))), (6, .int (w - (u_2_0 26))), (4, .int 2), (5, .int 1), (0, .ref mM), (1, .int 0), (2, .int w), (3, .int (-1))]) hx hb dX8_commands_77 hl (by decide) rfl (fun ls hl => ?_)
    refine lv_aload_n hx hb dX8_commands_79 rfl (lv_at hl 4 rfl) ?_
    refine lv_iload hx hb dX8_commands_80 (lv_at hl 3 rfl) ?_
    refine lv_aload_n hx hb dX8_commands_82 rfl (lv_at hl 4 rfl) ?_
    refine bGet (v := .ref mN) (T := TX8) (N := 9) (ci := 8) X Y i_X8_commands_X8 0 rfl rfl 0 (Nat.le_of_ble_eq_true rfl) f_X8_commands_7 rfl rfl dX8_commands_83 ?_
    refine lv_bipush (v := 6) hx hb dX8_commands_86 (by decide) ?_
    refine bIald (v := u_2_0 6) X Y 1 rfl (bInD (by decide)) dX8_commands_88 ((upd_ne (by decide)).trans ((upd_ne (by decide)).trans ((upd_ne (by decide)).trans ((upd_ne (by decide)).trans ((upd_ne (by decide)).trans rfl))))) ?_
    refine lv_iconst (v := 1) hx hb dX8_commands_89 (by decide) ?_
    refine bAdd (v := (u_2_0 6) + 1) X dX8_commands_90 rfl ?_
    refine lv_iload hx hb dX8_commands_91 (lv_at hl 0 rfl) ?_
    obtain ⟨u_4_0, hr_4⟩ := bEx1 (s_addsStep8_1 (upd (upd (upd (upd (upd u_2_0 28 0) 29 0) 30 0) 31 0) 32 0) ((u_2_0 6) + 1) (w - (u_2_0 26)))
    rw [hr_4] at hu
    dsimp only at hu
    have asK_1_4 := asK_1 hr_4
    refine bVV (As := [.int 1, .int ((u_2_0 6) + 1), .int (w - (u_2_0 26))]) (rest := []) (wc := [(mM, .inr (8, [.ref mN, .ref mR, .ref mA, .ref mP, .int ch, .ref mT, .int le, .int sp, .ref mD])), (mN, .inl (cyI, 515, .inl (upd (upd (upd (upd (upd u_2_0 28 0) 29 0) 30 0) 31 0) 32 0)))]) (w1 := [(mM, .inr (8, [.ref mN, .ref mR, .ref mA, .ref mP, .int ch, .ref mT, .int le, .int sp, .ref mD])), (mN, .inl (cyI, 515, .inl u_4_0))]) (ws' := [(mM, .inr (8, [.ref mN, .ref mR, .ref mA, .ref mP, .int ch, .ref mT, .int le, .int sp, .ref mD])), (mN, .inl (cyI, 515, .inl u_4_0))]) (ad := [mM, mN]) (wr := []) (nn := 2) (ci := 8) (q0 := 0) X Y (c_addsStep8_1 l D cyC cyI mM mN mR mA mP mT mD ch le sp (upd (upd (upd (upd (upd u_2_0 28 0) 29 0) 30 0) 31 0) 32 0) ((u_2_0 6) + 1) (w - (u_2_0 26)) u_4_0 hr_4 (by first | exact Or.inl rfl | exact asK_1_1 rfl | exact asK_1_2 rfl | exact asK_1_3 rfl | exact asK_1_4 rfl | exact asK_1_5 rfl | exact asK_1_6 rfl | exact asK_1_7 rfl | exact asK_1_8 rfl | exact asK_1_9 rfl | exact asK_1_10 rfl | exact asK_1_11 rfl | exact asK_1_12 rfl | exact asK_1_13 rfl | exact asK_1_14 rfl | exact asK_1_15 rfl | exact asK_1_16 rfl | exact asK_1_17 rfl | exact asK_1_18 rfl | exact asK_1_19 rfl | exact asK_1_20 rfl | exact asK_1_21 rfl | exact asK_1_22 rfl | exact asK_1_23 rfl | exact asK_1_24 rfl | exact asK_1_25 rfl | exact asK_1_26 rfl | exact asK_1_27 rfl | exact asK_1_28 rfl | exact asK_1_29 rfl | exact asK_1_30 rfl | exact asK_1_31 rfl | exact asK_1_32 rfl | exact asK_1_33 rfl | exact asK_1_34 rfl | exact asK_1_35 rfl | exact asK_1_36 rfl | exact asK_1_37 rfl | exact asK_1_38 rfl | exact asK_1_39 rfl)) gX8_commands_X8_addsStep rfl ⟨rfl, rfl⟩ hd_X8_addsStep ⟨(Nat.le_of_ble_eq_true rfl), (Nat.le_of_ble_eq_true rfl)⟩ rfl rfl rfl [0, 1] [] rfl rfl rfl rfl rfl rfl rfl rfl (by decide) rfl rfl hl.1 (Nat.le_of_ble_eq_true rfl) ⟨Nat.zero_le _, Nat.zero_le _⟩ dX8_commands_93 (fun H locs Y => ?_)
    refine lv_aload_n hx hb dX8_commands_96 rfl (lv_at hl 4 rfl) ?_
    refine lv_iload hx hb dX8_commands_97 (lv_at hl 3 rfl) ?_
    refine lv_aload_n hx hb dX8_commands_99 rfl (lv_at hl 4 rfl) ?_
    refine bGet (v := .ref mN) (T := TX8) (N := 9) (ci := 8) X Y i_X8_commands_X8 0 rfl rfl 0 (Nat.le_of_ble_eq_true rfl) f_X8_commands_7 rfl rfl dX8_commands_100 ?_
    refine lv_bipush (v := 6) hx hb dX8_commands_103 (by decide) ?_
    refine bIald (v := u_4_0 6) X Y 1 rfl (bInD (by decide)) dX8_commands_105 rfl ?_
    refine lv_iconst (v := 1) hx hb dX8_commands_106 (by decide) ?_
    refine bAdd (v := (u_4_0 6) + 1) X dX8_commands_107 rfl ?_
    refine lv_iload_n hx hb dX8_commands_108 rfl (lv_at hl 7 rfl) ?_
    refine bAdd (v := ((u_4_0 6) + 1) + (-1)) X dX8_commands_109 rfl ?_
    refine lv_iload hx hb dX8_commands_110 (lv_at hl 1 rfl) ?_
    refine lv_iload hx hb dX8_commands_112 (lv_at hl 0 rfl) ?_
    refine bSub (v := (w - (u_2_0 26)) - (w - (u_2_0 26))) X dX8_commands_114 rfl ?_
    obtain ⟨u_5_0, hr_5⟩ := bEx1 (s_addsStep8_1 u_4_0 (((u_4_0 6) + 1) + (-1)) ((w - (u_2_0 26)) - (w - (u_2_0 26))))
    rw [hr_5] at hu
    dsimp only at hu
    have asK_1_5 := asK_1 hr_5
    refine bVV (As := [.int 1, .int (((u_4_0 6) + 1) + (-1)), .int ((w - (u_2_0 26)) - (w - (u_2_0 26)))]) (rest := []) (wc := [(mM, .inr (8, [.ref mN, .ref mR, .ref mA, .ref mP, .int ch, .ref mT, .int le, .int sp, .ref mD])), (mN, .inl (cyI, 515, .inl u_4_0))]) (w1 := [(mM, .inr (8, [.ref mN, .ref mR, .ref mA, .ref mP, .int ch, .ref mT, .int le, .int sp, .ref mD])), (mN, .inl (cyI, 515, .inl u_5_0))]) (ws' := [(mM, .inr (8, [.ref mN, .ref mR, .ref mA, .ref mP, .int ch, .ref mT, .int le, .int sp, .ref mD])), (mN, .inl (cyI, 515, .inl u_5_0))]) (ad := [mM, mN]) (wr := []) (nn := 2) (ci := 8) (q0 := 0) X Y (c_addsStep8_1 l D cyC cyI mM mN mR mA mP mT mD ch le sp u_4_0 (((u_4_0 6) + 1) + (-1)) ((w - (u_2_0 26)) - (w - (u_2_0 26))) u_5_0 hr_5 (by first | exact Or.inl rfl | exact asK_1_1 rfl | exact asK_1_2 rfl | exact asK_1_3 rfl | exact asK_1_4 rfl | exact asK_1_5 rfl | exact asK_1_6 rfl | exact asK_1_7 rfl | exact asK_1_8 rfl | exact asK_1_9 rfl | exact asK_1_10 rfl | exact asK_1_11 rfl | exact asK_1_12 rfl | exact asK_1_13 rfl | exact asK_1_14 rfl | exact asK_1_15 rfl | exact asK_1_16 rfl | exact asK_1_17 rfl | exact asK_1_18 rfl | exact asK_1_19 rfl | exact asK_1_20 rfl | exact asK_1_21 rfl | exact asK_1_22 rfl | exact asK_1_23 rfl | exact asK_1_24 rfl | exact asK_1_25 rfl | exact asK_1_26 rfl | exact asK_1_27 rfl | exact asK_1_28 rfl | exact asK_1_29 rfl | exact asK_1_30 rfl | exact asK_1_31 rfl | exact asK_1_32 rfl | exact asK_1_33 rfl | exact asK_1_34 rfl | exact asK_1_35 rfl | exact asK_1_36 rfl | exact asK_1_37 rfl | exact asK_1_38 rfl | exact asK_1_39 rfl)) gX8_commands_X8_addsStep rfl ⟨rfl, rfl⟩ hd_X8_addsStep ⟨(Nat.le_of_ble_eq_true rfl), (Nat.le_of_ble_eq_true rfl)⟩ rfl rfl rfl [0, 1] [] rfl rfl rfl rfl rfl rfl rfl rfl (by decide) rfl rfl hl.1 (Nat.le_of_ble_eq_true rfl) ⟨Nat.zero_le _, Nat.zero_le _⟩ dX8_commands_115 (fun H locs Y => ?_)
    refine lv_iinc (v := 2) (lv' := [(5, .int 2), (7, .int (w - (u_2_0 26))), (6, .int (w - (u_2_0 26))), (4, .int 2), (0, .ref mM), (1, .int 0), (2, .int w), (3, .int (-1))]) hx hb dX8_commands_118 hl (k := 3) rfl (by decide) (by decide) rfl (fun ls hl => ?_)
    refine lv_goto (tgt := 6) hx hb dX8_commands_121 (by decide) ?_
    refine lv_iload hx hb dX8_commands_6 (lv_at hl 0 rfl) ?_
    refine lv_iconst (v := 2) hx hb dX8_commands_8 (by decide) ?_
    refine lv_icmp_ge (tgt := 124) hx hb dX8_commands_9 (by decide) (fun _ => ?_) (fun c_ => absurd (by decide) c_)
    refine lv_iload hx hb dX8_commands_124 (lv_at hl 3 rfl) ?_
    have h9 := (Prod.mk.inj hu).1; replace hu := (Prod.mk.inj hu).2; subst h9
    subst hu
    exact bEndI X Y hr hlk dX8_commands_126 rfl rfl
def s_commands8p_0 (nw : Nat → Int32) (w : Int32) (pa : Int32) : Int32 × (Nat → Int32) :=
  if 0 ≤ pa then
    match s_addsStep8_0 (upd (upd (upd (upd (upd nw 15 0) 16 0) 17 0) 18 0) 19 0) ((nw 6) + 1) ((w - (nw 13)) / 2) with
    | (u_2_0, _) =>
      match s_addsStep8_0 u_2_0 (((u_2_0 6) + 1) + pa) ((w - (nw 13)) - ((w - (nw 13)) / 2)) with
      | (u_3_0, _) =>
        if (s_heeds8_10 u_3_0) = true then
          match s_addsStep8_1 (upd (upd (upd (upd (upd u_3_0 28 0) 29 0) 30 0) 31 0) 32 0) ((u_3_0 6) + 1) ((w - (u_3_0 26)) / 2) with
          | (u_6_0, _) =>
            match s_addsStep8_1 u_6_0 (((u_6_0 6) + 1) + pa) ((w - (u_3_0 26)) - ((w - (u_3_0 26)) / 2)) with
            | (u_7_0, _) =>
              (2, u_7_0)
        else
          (1, u_3_0)
  else
    match s_addsStep8_0 (upd (upd (upd (upd (upd nw 15 0) 16 0) 17 0) 18 0) 19 0) ((nw 6) + 1) (w - (nw 13)) with
    | (u_8_0, _) =>
      match s_addsStep8_0 u_8_0 (((u_8_0 6) + 1) + pa) ((w - (nw 13)) - (w - (nw 13))) with
      | (u_9_0, _) =>
        if (s_heeds8_10 u_9_0) = true then
          match s_addsStep8_1 (upd (upd (upd (upd (upd u_9_0 28 0) 29 0) 30 0) 31 0) 32 0) ((u_9_0 6) + 1) (w - (u_9_0 26)) with
          | (u_12_0, _) =>
            match s_addsStep8_1 u_12_0 (((u_12_0 6) + 1) + pa) ((w - (u_9_0 26)) - (w - (u_9_0 26))) with
            | (u_13_0, _) =>
              (2, u_13_0)
        else
          (1, u_9_0)
set_option maxHeartbeats 4000000 in
set_option maxRecDepth 100000 in
theorem c_commands8p_0 (l : Launch) (D : va_G) (cyC cyI : ClassId) (mM : Nat) (mN : Nat) (mR : Nat) (mA : Nat) (mP : Nat) (mT : Nat) (mD : Nat) (ch : Int32) (le : Int32) (sp : Int32) (nw : Nat → Int32) (w : Int32) (pa : Int32) (o0 : Int32) (o1 : Nat → Int32) (hu : s_commands8p_0 nw w pa = (o0, o1)) : CI l yX8_commands wsX8_commands { frames := 2, cells := 0, slots := 0, locals := 47 } D cyC cyI [.ref mM, .int 0, .int w, .int pa] [(mM, .inr (8, [.ref mN, .ref mR, .ref mA, .ref mP, .int ch, .ref mT, .int le, .int sp, .ref mD])), (mN, .inl (cyI, 515, .inl nw))] o0 [(mM, .inr (8, [.ref mN, .ref mR, .ref mA, .ref mP, .int ch, .ref mT, .int le, .int sp, .ref mD])), (mN, .inl (cyI, 515, .inl o1))] := by
  refine CI.of (cc := cX8_commands) (n := 8) (ret := (some .int)) (by decide +kernel) rfl (Nat.le_of_ble_eq_true rfl) ?_
  intro p_ e_ s_ m_ bl_ me_ cd_ A_ ls X Y hr hlk hl
  have hx := X.1.1
  have hb := X.1.2.1
  have hl : lv_has ls 8 [(0, .ref mM), (1, .int 0), (2, .int w), (3, .int pa)] := hl
  unfold s_commands8p_0 at hu
  refine lv_iconst (v := 0) hx hb dX8_commands_0 (by decide) ?_
  refine lv_istore (lv' := [(4, .int 0), (0, .ref mM), (1, .int 0), (2, .int w), (3, .int pa)]) hx hb dX8_commands_1 hl (by decide) rfl (fun ls hl => ?_)
  refine lv_iconst (v := 0) hx hb dX8_commands_3 (by decide) ?_
  refine lv_istore (lv' := [(5, .int 0), (4, .int 0), (0, .ref mM), (1, .int 0), (2, .int w), (3, .int pa)]) hx hb dX8_commands_4 hl (by decide) rfl (fun ls hl => ?_)
  refine lv_iload hx hb dX8_commands_6 (lv_at hl 0 rfl) ?_
  refine lv_iconst (v := 2) hx hb dX8_commands_8 (by decide) ?_
  refine lv_icmp_ge (tgt := 124) hx hb dX8_commands_9 (by decide) (fun c_ => absurd c_ (by decide)) (fun _ => ?_)
  refine lv_aload_n hx hb dX8_commands_12 rfl (lv_at hl 2 rfl) ?_
  refine lv_iload hx hb dX8_commands_13 (lv_at hl 0 rfl) ?_
  refine lv_iload_n hx hb dX8_commands_15 rfl (lv_at hl 3 rfl) ?_
  refine bVI0 (As := [.int 0, .int 0]) (rest := []) (wc := [(mM, .inr (8, [.ref mN, .ref mR, .ref mA, .ref mP, .int ch, .ref mT, .int le, .int sp, .ref mD])), (mN, .inl (cyI, 515, .inl nw))]) (ci := 8) (q0 := 0) X Y (c_heeds8_00 l D cyC cyI mM mN mR mA mP mT mD ch le sp nw true rfl) gX8_commands_X8_heeds rfl ⟨rfl, rfl⟩ hd_X8_heeds ⟨(Nat.le_of_ble_eq_true rfl), (Nat.le_of_ble_eq_true rfl)⟩ rfl rfl rfl [0, 1] rfl rfl rfl rfl hl.1 (Nat.le_of_ble_eq_true rfl) ⟨Nat.zero_le _, Nat.zero_le _⟩ dX8_commands_16 (fun H locs Y => ?_)
  refine lv_if_eq (tgt := 118) hx hb dX8_commands_19 (by decide) (fun c_ => absurd c_ (by decide)) (fun _ => ?_)
  refine lv_iinc (v := 1) (lv' := [(4, .int 1), (5, .int 0), (0, .ref mM), (1, .int 0), (2, .int w), (3, .int pa)]) hx hb dX8_commands_22 hl (k := 1) rfl (by decide) (by decide) rfl (fun ls hl => ?_)
  refine lv_iconst (v := 0) hx hb dX8_commands_25 (by decide) ?_
  refine lv_istore (lv' := [(6, .int 0), (4, .int 1), (5, .int 0), (0, .ref mM), (1, .int 0), (2, .int w), (3, .int pa)]) hx hb dX8_commands_26 hl (by decide) rfl (fun ls hl => ?_)
  refine lv_iload hx hb dX8_commands_28 (lv_at hl 0 rfl) ?_
  refine lv_iconst (v := 5) hx hb dX8_commands_30 (by decide) ?_
  refine lv_icmp_ge (tgt := 52) hx hb dX8_commands_31 (by decide) (fun c_ => absurd c_ (by decide)) (fun _ => ?_)
  refine lv_aload_n hx hb dX8_commands_34 rfl (lv_at hl 3 rfl) ?_
  refine lv_iload hx hb dX8_commands_35 (lv_at hl 2 rfl) ?_
  refine lv_bipush (v := 8) hx hb dX8_commands_37 (by decide) ?_
  refine lv_iload hx hb dX8_commands_39 (lv_at hl 0 rfl) ?_
  refine bAdd (v := 8) X dX8_commands_41 (by decide) ?_
  refine lv_iconst (v := 0) hx hb dX8_commands_42 (by decide) ?_
  refine bVV (As := [.int 0, .int 8, .int 0]) (rest := []) (wc := [(mM, .inr (8, [.ref mN, .ref mR, .ref mA, .ref mP, .int ch, .ref mT, .int le, .int sp, .ref mD])), (mN, .inl (cyI, 515, .inl nw))]) (w1 := [(mM, .inr (8, [.ref mN, .ref mR, .ref mA, .ref mP, .int ch, .ref mT, .int le, .int sp, .ref mD])), (mN, .inl (cyI, 515, .inl (upd nw 15 0)))]) (ws' := [(mM, .inr (8, [.ref mN, .ref mR, .ref mA, .ref mP, .int ch, .ref mT, .int le, .int sp, .ref mD])), (mN, .inl (cyI, 515, .inl (upd nw 15 0)))]) (ad := [mM, mN]) (wr := []) (nn := 2) (ci := 8) (q0 := 0) X Y (c_tells8 l D cyC cyI mM mN mR mA mP mT mD ch le sp nw 0 8 0 (upd nw 15 0) (bTells (i := 15) (by decide) rfl) (bInD (by decide))) gX8_commands_X8_tells rfl ⟨rfl, rfl⟩ hd_X8_tells ⟨(Nat.le_of_ble_eq_true rfl), (Nat.le_of_ble_eq_true rfl)⟩ rfl rfl rfl [0, 1] [] rfl rfl rfl rfl rfl rfl rfl rfl (by decide) rfl rfl hl.1 (Nat.le_of_ble_eq_true rfl) ⟨Nat.zero_le _, Nat.zero_le _⟩ dX8_commands_43 (fun H locs Y => ?_)
  refine lv_iinc (v := 1) (lv' := [(6, .int 1), (4, .int 1), (5, .int 0), (0, .ref mM), (1, .int 0), (2, .int w), (3, .int pa)]) hx hb dX8_commands_46 hl (k := 0) rfl (by decide) (by decide) rfl (fun ls hl => ?_)
  refine lv_goto (tgt := 28) hx hb dX8_commands_49 (by decide) ?_
  refine lv_iload hx hb dX8_commands_28 (lv_at hl 0 rfl) ?_
  refine lv_iconst (v := 5) hx hb dX8_commands_30 (by decide) ?_
  refine lv_icmp_ge (tgt := 52) hx hb dX8_commands_31 (by decide) (fun c_ => absurd c_ (by decide)) (fun _ => ?_)
  refine lv_aload_n hx hb dX8_commands_34 rfl (lv_at hl 3 rfl) ?_
  refine lv_iload hx hb dX8_commands_35 (lv_at hl 2 rfl) ?_
  refine lv_bipush (v := 8) hx hb dX8_commands_37 (by decide) ?_
  refine lv_iload hx hb dX8_commands_39 (lv_at hl 0 rfl) ?_
  refine bAdd (v := 9) X dX8_commands_41 (by decide) ?_
  refine lv_iconst (v := 0) hx hb dX8_commands_42 (by decide) ?_
  refine bVV (As := [.int 0, .int 9, .int 0]) (rest := []) (wc := [(mM, .inr (8, [.ref mN, .ref mR, .ref mA, .ref mP, .int ch, .ref mT, .int le, .int sp, .ref mD])), (mN, .inl (cyI, 515, .inl (upd nw 15 0)))]) (w1 := [(mM, .inr (8, [.ref mN, .ref mR, .ref mA, .ref mP, .int ch, .ref mT, .int le, .int sp, .ref mD])), (mN, .inl (cyI, 515, .inl (upd (upd nw 15 0) 16 0)))]) (ws' := [(mM, .inr (8, [.ref mN, .ref mR, .ref mA, .ref mP, .int ch, .ref mT, .int le, .int sp, .ref mD])), (mN, .inl (cyI, 515, .inl (upd (upd nw 15 0) 16 0)))]) (ad := [mM, mN]) (wr := []) (nn := 2) (ci := 8) (q0 := 0) X Y (c_tells8 l D cyC cyI mM mN mR mA mP mT mD ch le sp (upd nw 15 0) 0 9 0 (upd (upd nw 15 0) 16 0) (bTells (i := 16) (by decide) rfl) (bInD (by decide))) gX8_commands_X8_tells rfl ⟨rfl, rfl⟩ hd_X8_tells ⟨(Nat.le_of_ble_eq_true rfl), (Nat.le_of_ble_eq_true rfl)⟩ rfl rfl rfl [0, 1] [] rfl rfl rfl rfl rfl rfl rfl rfl (by decide) rfl rfl hl.1 (Nat.le_of_ble_eq_true rfl) ⟨Nat.zero_le _, Nat.zero_le _⟩ dX8_commands_43 (fun H locs Y => ?_)
  refine lv_iinc (v := 2) (lv' := [(6, .int 2), (4, .int 1), (5, .int 0), (0, .ref mM), (1, .int 0), (2, .int w), (3, .int pa)]) hx hb dX8_commands_46 hl (k := 0) rfl (by decide) (by decide) rfl (fun ls hl => ?_)
  refine lv_goto (tgt := 28) hx hb dX8_commands_49 (by decide) ?_
  refine lv_iload hx hb dX8_commands_28 (lv_at hl 0 rfl) ?_
  refine lv_iconst (v := 5) hx hb dX8_commands_30 (by decide) ?_
  refine lv_icmp_ge (tgt := 52) hx hb dX8_commands_31 (by decide) (fun c_ => absurd c_ (by decide)) (fun _ => ?_)
  refine lv_aload_n hx hb dX8_commands_34 rfl (lv_at hl 3 rfl) ?_
  refine lv_iload hx hb dX8_commands_35 (lv_at hl 2 rfl) ?_
  refine lv_bipush (v := 8) hx hb dX8_commands_37 (by decide) ?_
  refine lv_iload hx hb dX8_commands_39 (lv_at hl 0 rfl) ?_
  refine bAdd (v := 10) X dX8_commands_41 (by decide) ?_
  refine lv_iconst (v := 0) hx hb dX8_commands_42 (by decide) ?_
  refine bVV (As := [.int 0, .int 10, .int 0]) (rest := []) (wc := [(mM, .inr (8, [.ref mN, .ref mR, .ref mA, .ref mP, .int ch, .ref mT, .int le, .int sp, .ref mD])), (mN, .inl (cyI, 515, .inl (upd (upd nw 15 0) 16 0)))]) (w1 := [(mM, .inr (8, [.ref mN, .ref mR, .ref mA, .ref mP, .int ch, .ref mT, .int le, .int sp, .ref mD])), (mN, .inl (cyI, 515, .inl (upd (upd (upd nw 15 0) 16 0) 17 0)))]) (ws' := [(mM, .inr (8, [.ref mN, .ref mR, .ref mA, .ref mP, .int ch, .ref mT, .int le, .int sp, .ref mD])), (mN, .inl (cyI, 515, .inl (upd (upd (upd nw 15 0) 16 0) 17 0)))]) (ad := [mM, mN]) (wr := []) (nn := 2) (ci := 8) (q0 := 0) X Y (c_tells8 l D cyC cyI mM mN mR mA mP mT mD ch le sp (upd (upd nw 15 0) 16 0) 0 10 0 (upd (upd (upd nw 15 0) 16 0) 17 0) (bTells (i := 17) (by decide) rfl) (bInD (by decide))) gX8_commands_X8_tells rfl ⟨rfl, rfl⟩ hd_X8_tells ⟨(Nat.le_of_ble_eq_true rfl), (Nat.le_of_ble_eq_true rfl)⟩ rfl rfl rfl [0, 1] [] rfl rfl rfl rfl rfl rfl rfl rfl (by decide) rfl rfl hl.1 (Nat.le_of_ble_eq_true rfl) ⟨Nat.zero_le _, Nat.zero_le _⟩ dX8_commands_43 (fun H locs Y => ?_)
  refine lv_iinc (v := 3) (lv' := [(6, .int 3), (4, .int 1), (5, .int 0), (0, .ref mM), (1, .int 0), (2, .int w), (3, .int pa)]) hx hb dX8_commands_46 hl (k := 0) rfl (by decide) (by decide) rfl (fun ls hl => ?_)
  refine lv_goto (tgt := 28) hx hb dX8_commands_49 (by decide) ?_
  refine lv_iload hx hb dX8_commands_28 (lv_at hl 0 rfl) ?_
  refine lv_iconst (v := 5) hx hb dX8_commands_30 (by decide) ?_
  refine lv_icmp_ge (tgt := 52) hx hb dX8_commands_31 (by decide) (fun c_ => absurd c_ (by decide)) (fun _ => ?_)
  refine lv_aload_n hx hb dX8_commands_34 rfl (lv_at hl 3 rfl) ?_
  refine lv_iload hx hb dX8_commands_35 (lv_at hl 2 rfl) ?_
  refine lv_bipush (v := 8) hx hb dX8_commands_37 (by decide) ?_
  refine lv_iload hx hb dX8_commands_39 (lv_at hl 0 rfl) ?_
  refine bAdd (v := 11) X dX8_commands_41 (by decide) ?_
  refine lv_iconst (v := 0) hx hb dX8_commands_42 (by decide) ?_
  refine bVV (As := [.int 0, .int 11, .int 0]) (rest := []) (wc := [(mM, .inr (8, [.ref mN, .ref mR, .ref mA, .ref mP, .int ch, .ref mT, .int le, .int sp, .ref mD])), (mN, .inl (cyI, 515, .inl (upd (upd (upd nw 15 0) 16 0) 17 0)))]) (w1 := [(mM, .inr (8, [.ref mN, .ref mR, .ref mA, .ref mP, .int ch, .ref mT, .int le, .int sp, .ref mD])), (mN, .inl (cyI, 515, .inl (upd (upd (upd (upd nw 15 0) 16 0) 17 0) 18 0)))]) (ws' := [(mM, .inr (8, [.ref mN, .ref mR, .ref mA, .ref mP, .int ch, .ref mT, .int le, .int sp, .ref mD])), (mN, .inl (cyI, 515, .inl (upd (upd (upd (upd nw 15 0) 16 0) 17 0) 18 0)))]) (ad := [mM, mN]) (wr := []) (nn := 2) (ci := 8) (q0 := 0) X Y (c_tells8 l D cyC cyI mM mN mR mA mP mT mD ch le sp (upd (upd (upd nw 15 0) 16 0) 17 0) 0 11 0 (upd (upd (upd (upd nw 15 0) 16 0) 17 0) 18 0) (bTells (i := 18) (by decide) rfl) (bInD (by decide))) gX8_commands_X8_tells rfl ⟨rfl, rfl⟩ hd_X8_tells ⟨(Nat.le_of_ble_eq_true rfl), (Nat.le_of_ble_eq_true rfl)⟩ rfl rfl rfl [0, 1] [] rfl rfl rfl rfl rfl rfl rfl rfl (by decide) rfl rfl hl.1 (Nat.le_of_ble_eq_true rfl) ⟨Nat.zero_le _, Nat.zero_le _⟩ dX8_commands_43 (fun H locs Y => ?_)
  refine lv_iinc (v := 4) (lv' := [(6, .int 4), (4, .int 1), (5, .int 0), (0, .ref mM), (1, .int 0), (2, .int w), (3, .int pa)]) hx hb dX8_commands_46 hl (k := 0) rfl (by decide) (by decide) rfl (fun ls hl => ?_)
  refine lv_goto (tgt := 28) hx hb dX8_commands_49 (by decide) ?_
  refine lv_iload hx hb dX8_commands_28 (lv_at hl 0 rfl) ?_
  refine lv_iconst (v := 5) hx hb dX8_commands_30 (by decide) ?_
  refine lv_icmp_ge (tgt := 52) hx hb dX8_commands_31 (by decide) (fun c_ => absurd c_ (by decide)) (fun _ => ?_)
  refine lv_aload_n hx hb dX8_commands_34 rfl (lv_at hl 3 rfl) ?_
  refine lv_iload hx hb dX8_commands_35 (lv_at hl 2 rfl) ?_
  refine lv_bipush (v := 8) hx hb dX8_commands_37 (by decide) ?_
  refine lv_iload hx hb dX8_commands_39 (lv_at hl 0 rfl) ?_
  refine bAdd (v := 12) X dX8_commands_41 (by decide) ?_
  refine lv_iconst (v := 0) hx hb dX8_commands_42 (by decide) ?_
  refine bVV (As := [.int 0, .int 12, .int 0]) (rest := []) (wc := [(mM, .inr (8, [.ref mN, .ref mR, .ref mA, .ref mP, .int ch, .ref mT, .int le, .int sp, .ref mD])), (mN, .inl (cyI, 515, .inl (upd (upd (upd (upd nw 15 0) 16 0) 17 0) 18 0)))]) (w1 := [(mM, .inr (8, [.ref mN, .ref mR, .ref mA, .ref mP, .int ch, .ref mT, .int le, .int sp, .ref mD])), (mN, .inl (cyI, 515, .inl (upd (upd (upd (upd (upd nw 15 0) 16 0) 17 0) 18 0) 19 0)))]) (ws' := [(mM, .inr (8, [.ref mN, .ref mR, .ref mA, .ref mP, .int ch, .ref mT, .int le, .int sp, .ref mD])), (mN, .inl (cyI, 515, .inl (upd (upd (upd (upd (upd nw 15 0) 16 0) 17 0) 18 0) 19 0)))]) (ad := [mM, mN]) (wr := []) (nn := 2) (ci := 8) (q0 := 0) X Y (c_tells8 l D cyC cyI mM mN mR mA mP mT mD ch le sp (upd (upd (upd (upd nw 15 0) 16 0) 17 0) 18 0) 0 12 0 (upd (upd (upd (upd (upd nw 15 0) 16 0) 17 0) 18 0) 19 0) (bTells (i := 19) (by decide) rfl) (bInD (by decide))) gX8_commands_X8_tells rfl ⟨rfl, rfl⟩ hd_X8_tells ⟨(Nat.le_of_ble_eq_true rfl), (Nat.le_of_ble_eq_true rfl)⟩ rfl rfl rfl [0, 1] [] rfl rfl rfl rfl rfl rfl rfl rfl (by decide) rfl rfl hl.1 (Nat.le_of_ble_eq_true rfl) ⟨Nat.zero_le _, Nat.zero_le _⟩ dX8_commands_43 (fun H locs Y => ?_)
  refine lv_iinc (v := 5) (lv' := [(6, .int 5), (4, .int 1), (5, .int 0), (0, .ref mM), (1, .int 0), (2, .int w), (3, .int pa)]) hx hb dX8_commands_46 hl (k := 0) rfl (by decide) (by decide) rfl (fun ls hl => ?_)
  refine lv_goto (tgt := 28) hx hb dX8_commands_49 (by decide) ?_
  refine lv_iload hx hb dX8_commands_28 (lv_at hl 0 rfl) ?_
  refine lv_iconst (v := 5) hx hb dX8_commands_30 (by decide) ?_
  refine lv_icmp_ge (tgt := 52) hx hb dX8_commands_31 (by decide) (fun _ => ?_) (fun c_ => absurd (by decide) c_)
  refine lv_iload_n hx hb dX8_commands_52 rfl (lv_at hl 5 rfl) ?_
  refine lv_aload_n hx hb dX8_commands_53 rfl (lv_at hl 3 rfl) ?_
  refine lv_iload hx hb dX8_commands_54 (lv_at hl 2 rfl) ?_
  refine lv_bipush (v := 6) hx hb dX8_commands_56 (by decide) ?_
  refine bVI0 (As := [.int 0, .int 6]) (rest := [.int w]) (wc := [(mM, .inr (8, [.ref mN, .ref mR, .ref mA, .ref mP, .int ch, .ref mT, .int le, .int sp, .ref mD])), (mN, .inl (cyI, 515, .inl (upd (upd (upd (upd (upd nw 15 0) 16 0) 17 0) 18 0) 19 0)))]) (ci := 8) (q0 := 0) X Y (c_of8 l D cyC cyI mM mN mR mA mP mT mD ch le sp (upd (upd (upd (upd (upd nw 15 0) 16 0) 17 0) 18 0) 19 0) 0 6 (nw 13) (bOf (i := 13) (by decide) ((upd_ne (by decide)).trans ((upd_ne (by decide)).trans ((upd_ne (by decide)).trans ((upd_ne (by decide)).trans ((upd_ne (by decide)).trans rfl)))))) (bInD (by decide))) gX8_commands_X8_of rfl ⟨rfl, rfl⟩ hd_X8_of ⟨(Nat.le_of_ble_eq_true rfl), (Nat.le_of_ble_eq_true rfl)⟩ rfl rfl rfl [0, 1] rfl rfl rfl rfl hl.1 (Nat.le_of_ble_eq_true rfl) ⟨Nat.zero_le _, Nat.zero_le _⟩ dX8_commands_58 (fun H locs Y => ?_)
  refine bSub (v := w - (nw 13)) X dX8_commands_61 rfl ?_
  refine lv_istore (lv' := [(6, .int (w - (nw 13))), (4, .int 1), (5, .int 0), (0, .ref mM), (1, .int 0), (2, .int w), (3, .int pa)]) hx hb dX8_commands_62 hl (by decide) rfl (fun ls hl => ?_)
  refine lv_iload_n hx hb dX8_commands_64 rfl (lv_at hl 6 rfl) ?_
  refine lv_if_ge (tgt := 73) hx hb dX8_commands_65 (by decide) (fun c_1 => ?_) (fun c_1 => ?_)
  · have c_1 : 0 ≤ pa := c_1
    rw [if_pos c_1] at hu
    refine lv_iload hx hb dX8_commands_73 (lv_at hl 0 rfl) ?_
    refine lv_iconst (v := 2) hx hb dX8_commands_75 (by decide) ?_
    refine bDiv (v := (w - (nw 13)) / 2) X dX8_commands_76 (by decide) rfl ?_
    refine lv_istore (lv' := [(7, .int ((w - (nw 13)) / 2)), (6, .int (w - (nw 13))), (4, .int 1), (5, .int 0), (0, .ref mM), (1, .int 0), (2, .int w), (3, .int pa)]) hx hb dX8_commands_77 hl (by decide) rfl (fun ls hl => ?_)
    refine lv_aload_n hx hb dX8_commands_79 rfl (lv_at hl 4 rfl) ?_
    refine lv_iload hx hb dX8_commands_80 (lv_at hl 3 rfl) ?_
    refine lv_aload_n hx hb dX8_commands_82 rfl (lv_at hl 4 rfl) ?_
    refine bGet (v := .ref mN) (T := TX8) (N := 9) (ci := 8) X Y i_X8_commands_X8 0 rfl rfl 0 (Nat.le_of_ble_eq_true rfl) f_X8_commands_7 rfl rfl dX8_commands_83 ?_
    refine lv_bipush (v := 6) hx hb dX8_commands_86 (by decide) ?_
    refine bIald (v := nw 6) X Y 1 rfl (bInD (by decide)) dX8_commands_88 ((upd_ne (by decide)).trans ((upd_ne (by decide)).trans ((upd_ne (by decide)).trans ((upd_ne (by decide)).trans ((upd_ne (by decide)).trans rfl))))) ?_
    refine lv_iconst (v := 1) hx hb dX8_commands_89 (by decide) ?_
    refine bAdd (v := (nw 6) + 1) X dX8_commands_90 rfl ?_
    refine lv_iload hx hb dX8_commands_91 (lv_at hl 0 rfl) ?_
    obtain ⟨u_2_0, hr_2⟩ := bEx1 (s_addsStep8_0 (upd (upd (upd (upd (upd nw 15 0) 16 0) 17 0) 18 0) 19 0) ((nw 6) + 1) ((w - (nw 13)) / 2))
    rw [hr_2] at hu
    dsimp only at hu
    have asK_0_2 := asK_0 hr_2
    refine bVV (As := [.int 0, .int ((nw 6) + 1), .int ((w - (nw 13)) / 2)]) (rest := []) (wc := [(mM, .inr (8, [.ref mN, .ref mR, .ref mA, .ref mP, .int ch, .ref mT, .int le, .int sp, .ref mD])), (mN, .inl (cyI, 515, .inl (upd (upd (upd (upd (upd nw 15 0) 16 0) 17 0) 18 0) 19 0)))]) (w1 := [(mM, .inr (8, [.ref mN, .ref mR, .ref mA, .ref mP, .int ch, .ref mT, .int le, .int sp, .ref mD])), (mN, .inl (cyI, 515, .inl u_2_0))]) (ws' := [(mM, .inr (8, [.ref mN, .ref mR, .ref mA, .ref mP, .int ch, .ref mT, .int le, .int sp, .ref mD])), (mN, .inl (cyI, 515, .inl u_2_0))]) (ad := [mM, mN]) (wr := []) (nn := 2) (ci := 8) (q0 := 0) X Y (c_addsStep8_0 l D cyC cyI mM mN mR mA mP mT mD ch le sp (upd (upd (upd (upd (upd nw 15 0) 16 0) 17 0) 18 0) 19 0) ((nw 6) + 1) ((w - (nw 13)) / 2) u_2_0 hr_2 (by first | exact Or.inl rfl | exact asK_0_1 rfl | exact asK_0_2 rfl | exact asK_0_3 rfl | exact asK_0_4 rfl | exact asK_0_5 rfl | exact asK_0_6 rfl | exact asK_0_7 rfl | exact asK_0_8 rfl | exact asK_0_9 rfl | exact asK_0_10 rfl | exact asK_0_11 rfl | exact asK_0_12 rfl | exact asK_0_13 rfl | exact asK_0_14 rfl | exact asK_0_15 rfl | exact asK_0_16 rfl | exact asK_0_17 rfl | exact asK_0_18 rfl | exact asK_0_19 rfl | exact asK_0_20 rfl | exact asK_0_21 rfl | exact asK_0_22 rfl | exact asK_0_23 rfl | exact asK_0_24 rfl | exact asK_0_25 rfl | exact asK_0_26 rfl | exact asK_0_27 rfl | exact asK_0_28 rfl | exact asK_0_29 rfl | exact asK_0_30 rfl | exact asK_0_31 rfl | exact asK_0_32 rfl | exact asK_0_33 rfl | exact asK_0_34 rfl | exact asK_0_35 rfl | exact asK_0_36 rfl | exact asK_0_37 rfl | exact asK_0_38 rfl | exact asK_0_39 rfl)) gX8_commands_X8_addsStep rfl ⟨rfl, rfl⟩ hd_X8_addsStep ⟨(Nat.le_of_ble_eq_true rfl), (Nat.le_of_ble_eq_true rfl)⟩ rfl rfl rfl [0, 1] [] rfl rfl rfl rfl rfl rfl rfl rfl (by decide) rfl rfl hl.1 (Nat.le_of_ble_eq_true rfl) ⟨Nat.zero_le _, Nat.zero_le _⟩ dX8_commands_93 (fun H locs Y => ?_)
    refine lv_aload_n hx hb dX8_commands_96 rfl (lv_at hl 4 rfl) ?_
    refine lv_iload hx hb dX8_commands_97 (lv_at hl 3 rfl) ?_
    refine lv_aload_n hx hb dX8_commands_99 rfl (lv_at hl 4 rfl) ?_
    refine bGet (v := .ref mN) (T := TX8) (N := 9) (ci := 8) X Y i_X8_commands_X8 0 rfl rfl 0 (Nat.le_of_ble_eq_true rfl) f_X8_commands_7 rfl rfl dX8_commands_100 ?_
    refine lv_bipush (v := 6) hx hb dX8_commands_103 (by decide) ?_
    refine bIald (v := u_2_0 6) X Y 1 rfl (bInD (by decide)) dX8_commands_105 rfl ?_
    refine lv_iconst (v := 1) hx hb dX8_commands_106 (by decide) ?_
    refine bAdd (v := (u_2_0 6) + 1) X dX8_commands_107 rfl ?_
    refine lv_iload_n hx hb dX8_commands_108 rfl (lv_at hl 7 rfl) ?_
    refine bAdd (v := ((u_2_0 6) + 1) + pa) X dX8_commands_109 rfl ?_
    refine lv_iload hx hb dX8_commands_110 (lv_at hl 1 rfl) ?_
    refine lv_iload hx hb dX8_commands_112 (lv_at hl 0 rfl) ?_
    refine bSub (v := (w - (nw 13)) - ((w - (nw 13)) / 2)) X dX8_commands_114 rfl ?_
    obtain ⟨u_3_0, hr_3⟩ := bEx1 (s_addsStep8_0 u_2_0 (((u_2_0 6) + 1) + pa) ((w - (nw 13)) - ((w - (nw 13)) / 2)))
    rw [hr_3] at hu
    dsimp only at hu
    have asK_0_3 := asK_0 hr_3
    refine bVV (As := [.int 0, .int (((u_2_0 6) + 1) + pa), .int ((w - (nw 13)) - ((w - (nw 13)) / 2))]) (rest := []) (wc := [(mM, .inr (8, [.ref mN, .ref mR, .ref mA, .ref mP, .int ch, .ref mT, .int le, .int sp, .ref mD])), (mN, .inl (cyI, 515, .inl u_2_0))]) (w1 := [(mM, .inr (8, [.ref mN, .ref mR, .ref mA, .ref mP, .int ch, .ref mT, .int le, .int sp, .ref mD])), (mN, .inl (cyI, 515, .inl u_3_0))]) (ws' := [(mM, .inr (8, [.ref mN, .ref mR, .ref mA, .ref mP, .int ch, .ref mT, .int le, .int sp, .ref mD])), (mN, .inl (cyI, 515, .inl u_3_0))]) (ad := [mM, mN]) (wr := []) (nn := 2) (ci := 8) (q0 := 0) X Y (c_addsStep8_0 l D cyC cyI mM mN mR mA mP mT mD ch le sp u_2_0 (((u_2_0 6) + 1) + pa) ((w - (nw 13)) - ((w - (nw 13)) / 2)) u_3_0 hr_3 (by first | exact Or.inl rfl | exact asK_0_1 rfl | exact asK_0_2 rfl | exact asK_0_3 rfl | exact asK_0_4 rfl | exact asK_0_5 rfl | exact asK_0_6 rfl | exact asK_0_7 rfl | exact asK_0_8 rfl | exact asK_0_9 rfl | exact asK_0_10 rfl | exact asK_0_11 rfl | exact asK_0_12 rfl | exact asK_0_13 rfl | exact asK_0_14 rfl | exact asK_0_15 rfl | exact asK_0_16 rfl | exact asK_0_17 rfl | exact asK_0_18 rfl | exact asK_0_19 rfl | exact asK_0_20 rfl | exact asK_0_21 rfl | exact asK_0_22 rfl | exact asK_0_23 rfl | exact asK_0_24 rfl | exact asK_0_25 rfl | exact asK_0_26 rfl | exact asK_0_27 rfl | exact asK_0_28 rfl | exact asK_0_29 rfl | exact asK_0_30 rfl | exact asK_0_31 rfl | exact asK_0_32 rfl | exact asK_0_33 rfl | exact asK_0_34 rfl | exact asK_0_35 rfl | exact asK_0_36 rfl | exact asK_0_37 rfl | exact asK_0_38 rfl | exact asK_0_39 rfl)) gX8_commands_X8_addsStep rfl ⟨rfl, rfl⟩ hd_X8_addsStep ⟨(Nat.le_of_ble_eq_true rfl), (Nat.le_of_ble_eq_true rfl)⟩ rfl rfl rfl [0, 1] [] rfl rfl rfl rfl rfl rfl rfl rfl (by decide) rfl rfl hl.1 (Nat.le_of_ble_eq_true rfl) ⟨Nat.zero_le _, Nat.zero_le _⟩ dX8_commands_115 (fun H locs Y => ?_)
    refine lv_iinc (v := 1) (lv' := [(5, .int 1), (7, .int ((w - (nw 13)) / 2)), (6, .int (w - (nw 13))), (4, .int 1), (0, .ref mM), (1, .int 0), (2, .int w), (3, .int pa)]) hx hb dX8_commands_118 hl (k := 3) rfl (by decide) (by decide) rfl (fun ls hl => ?_)
    refine lv_goto (tgt := 6) hx hb dX8_commands_121 (by decide) ?_
    refine lv_iload hx hb dX8_commands_6 (lv_at hl 0 rfl) ?_
    refine lv_iconst (v := 2) hx hb dX8_commands_8 (by decide) ?_
    refine lv_icmp_ge (tgt := 124) hx hb dX8_commands_9 (by decide) (fun c_ => absurd c_ (by decide)) (fun _ => ?_)
    refine lv_aload_n hx hb dX8_commands_12 rfl (lv_at hl 4 rfl) ?_
    refine lv_iload hx hb dX8_commands_13 (lv_at hl 0 rfl) ?_
    refine lv_iload_n hx hb dX8_commands_15 rfl (lv_at hl 5 rfl) ?_
    refine bVI0 (As := [.int 1, .int 0]) (rest := []) (wc := [(mM, .inr (8, [.ref mN, .ref mR, .ref mA, .ref mP, .int ch, .ref mT, .int le, .int sp, .ref mD])), (mN, .inl (cyI, 515, .inl u_3_0))]) (ci := 8) (q0 := 0) X Y (c_heeds8_10 l D cyC cyI mM mN mR mA mP mT mD ch le sp u_3_0 (s_heeds8_10 u_3_0) rfl) gX8_commands_X8_heeds rfl ⟨rfl, rfl⟩ hd_X8_heeds ⟨(Nat.le_of_ble_eq_true rfl), (Nat.le_of_ble_eq_true rfl)⟩ rfl rfl rfl [0, 1] rfl rfl rfl rfl hl.1 (Nat.le_of_ble_eq_true rfl) ⟨Nat.zero_le _, Nat.zero_le _⟩ dX8_commands_16 (fun H locs Y => ?_)
    refine lv_if_eq (tgt := 118) hx hb dX8_commands_19 (by decide) (fun c_4 => ?_) (fun c_4 => ?_)
    · have c_4 := bB_f c_4
      rw [if_neg c_4] at hu
      refine lv_iinc (v := 2) (lv' := [(5, .int 2), (7, .int ((w - (nw 13)) / 2)), (6, .int (w - (nw 13))), (4, .int 1), (0, .ref mM), (1, .int 0), (2, .int w), (3, .int pa)]) hx hb dX8_commands_118 hl (k := 0) rfl (by decide) (by decide) rfl (fun ls hl => ?_)
      refine lv_goto (tgt := 6) hx hb dX8_commands_121 (by decide) ?_
      refine lv_iload hx hb dX8_commands_6 (lv_at hl 0 rfl) ?_
      refine lv_iconst (v := 2) hx hb dX8_commands_8 (by decide) ?_
      refine lv_icmp_ge (tgt := 124) hx hb dX8_commands_9 (by decide) (fun _ => ?_) (fun c_ => absurd (by decide) c_)
      refine lv_iload hx hb dX8_commands_124 (lv_at hl 3 rfl) ?_
      have h9 := (Prod.mk.inj hu).1; replace hu := (Prod.mk.inj hu).2; subst h9
      subst hu
      exact bEndI X Y hr hlk dX8_commands_126 rfl rfl
    · have c_4 := bB_t c_4
      rw [if_pos c_4] at hu
      refine lv_iinc (v := 2) (lv' := [(4, .int 2), (5, .int 1), (7, .int ((w - (nw 13)) / 2)), (6, .int (w - (nw 13))), (0, .ref mM), (1, .int 0), (2, .int w), (3, .int pa)]) hx hb dX8_commands_22 hl (k := 3) rfl (by decide) (by decide) rfl (fun ls hl => ?_)
      refine lv_iconst (v := 0) hx hb dX8_commands_25 (by decide) ?_
      refine lv_istore (lv' := [(6, .int 0), (4, .int 2), (5, .int 1), (7, .int ((w - (nw 13)) / 2)), (0, .ref mM), (1, .int 0), (2, .int w), (3, .int pa)]) hx hb dX8_commands_26 hl (by decide) rfl (fun ls hl => ?_)
      refine lv_iload hx hb dX8_commands_28 (lv_at hl 0 rfl) ?_
      refine lv_iconst (v := 5) hx hb dX8_commands_30 (by decide) ?_
      refine lv_icmp_ge (tgt := 52) hx hb dX8_commands_31 (by decide) (fun c_ => absurd c_ (by decide)) (fun _ => ?_)
      refine lv_aload_n hx hb dX8_commands_34 rfl (lv_at hl 4 rfl) ?_
      refine lv_iload hx hb dX8_commands_35 (lv_at hl 2 rfl) ?_
      refine lv_bipush (v := 8) hx hb dX8_commands_37 (by decide) ?_
      refine lv_iload hx hb dX8_commands_39 (lv_at hl 0 rfl) ?_
      refine bAdd (v := 8) X dX8_commands_41 (by decide) ?_
      refine lv_iconst (v := 0) hx hb dX8_commands_42 (by decide) ?_
      refine bVV (As := [.int 1, .int 8, .int 0]) (rest := []) (wc := [(mM, .inr (8, [.ref mN, .ref mR, .ref mA, .ref mP, .int ch, .ref mT, .int le, .int sp, .ref mD])), (mN, .inl (cyI, 515, .inl u_3_0))]) (w1 := [(mM, .inr (8, [.ref mN, .ref mR, .ref mA, .ref mP, .int ch, .ref mT, .int le, .int sp, .ref mD])), (mN, .inl (cyI, 515, .inl (upd u_3_0 28 0)))]) (ws' := [(mM, .inr (8, [.ref mN, .ref mR, .ref mA, .ref mP, .int ch, .ref mT, .int le, .int sp, .ref mD])), (mN, .inl (cyI, 515, .inl (upd u_3_0 28 0)))]) (ad := [mM, mN]) (wr := []) (nn := 2) (ci := 8) (q0 := 0) X Y (c_tells8 l D cyC cyI mM mN mR mA mP mT mD ch le sp u_3_0 1 8 0 (upd u_3_0 28 0) (bTells (i := 28) (by decide) rfl) (bInD (by decide))) gX8_commands_X8_tells rfl ⟨rfl, rfl⟩ hd_X8_tells ⟨(Nat.le_of_ble_eq_true rfl), (Nat.le_of_ble_eq_true rfl)⟩ rfl rfl rfl [0, 1] [] rfl rfl rfl rfl rfl rfl rfl rfl (by decide) rfl rfl hl.1 (Nat.le_of_ble_eq_true rfl) ⟨Nat.zero_le _, Nat.zero_le _⟩ dX8_commands_43 (fun H locs Y => ?_)
      refine lv_iinc (v := 1) (lv' := [(6, .int 1), (4, .int 2), (5, .int 1), (7, .int ((w - (nw 13)) / 2)), (0, .ref mM), (1, .int 0), (2, .int w), (3, .int pa)]) hx hb dX8_commands_46 hl (k := 0) rfl (by decide) (by decide) rfl (fun ls hl => ?_)
      refine lv_goto (tgt := 28) hx hb dX8_commands_49 (by decide) ?_
      refine lv_iload hx hb dX8_commands_28 (lv_at hl 0 rfl) ?_
      refine lv_iconst (v := 5) hx hb dX8_commands_30 (by decide) ?_
      refine lv_icmp_ge (tgt := 52) hx hb dX8_commands_31 (by decide) (fun c_ => absurd c_ (by decide)) (fun _ => ?_)
      refine lv_aload_n hx hb dX8_commands_34 rfl (lv_at hl 4 rfl) ?_
      refine lv_iload hx hb dX8_commands_35 (lv_at hl 2 rfl) ?_
      refine lv_bipush (v := 8) hx hb dX8_commands_37 (by decide) ?_
      refine lv_iload hx hb dX8_commands_39 (lv_at hl 0 rfl) ?_
      refine bAdd (v := 9) X dX8_commands_41 (by decide) ?_
      refine lv_iconst (v := 0) hx hb dX8_commands_42 (by decide) ?_
      refine bVV (As := [.int 1, .int 9, .int 0]) (rest := []) (wc := [(mM, .inr (8, [.ref mN, .ref mR, .ref mA, .ref mP, .int ch, .ref mT, .int le, .int sp, .ref mD])), (mN, .inl (cyI, 515, .inl (upd u_3_0 28 0)))]) (w1 := [(mM, .inr (8, [.ref mN, .ref mR, .ref mA, .ref mP, .int ch, .ref mT, .int le, .int sp, .ref mD])), (mN, .inl (cyI, 515, .inl (upd (upd u_3_0 28 0) 29 0)))]) (ws' := [(mM, .inr (8, [.ref mN, .ref mR, .ref mA, .ref mP, .int ch, .ref mT, .int le, .int sp, .ref mD])), (mN, .inl (cyI, 515, .inl (upd (upd u_3_0 28 0) 29 0)))]) (ad := [mM, mN]) (wr := []) (nn := 2) (ci := 8) (q0 := 0) X Y (c_tells8 l D cyC cyI mM mN mR mA mP mT mD ch le sp (upd u_3_0 28 0) 1 9 0 (upd (upd u_3_0 28 0) 29 0) (bTells (i := 29) (by decide) rfl) (bInD (by decide))) gX8_commands_X8_tells rfl ⟨rfl, rfl⟩ hd_X8_tells ⟨(Nat.le_of_ble_eq_true rfl), (Nat.le_of_ble_eq_true rfl)⟩ rfl rfl rfl [0, 1] [] rfl rfl rfl rfl rfl rfl rfl rfl (by decide) rfl rfl hl.1 (Nat.le_of_ble_eq_true rfl) ⟨Nat.zero_le _, Nat.zero_le _⟩ dX8_commands_43 (fun H locs Y => ?_)
      refine lv_iinc (v := 2) (lv' := [(6, .int 2), (4, .int 2), (5, .int 1), (7, .int ((w - (nw 13)) / 2)), (0, .ref mM), (1, .int 0), (2, .int w), (3, .int pa)]) hx hb dX8_commands_46 hl (k := 0) rfl (by decide) (by decide) rfl (fun ls hl => ?_)
      refine lv_goto (tgt := 28) hx hb dX8_commands_49 (by decide) ?_
      refine lv_iload hx hb dX8_commands_28 (lv_at hl 0 rfl) ?_
      refine lv_iconst (v := 5) hx hb dX8_commands_30 (by decide) ?_
      refine lv_icmp_ge (tgt := 52) hx hb dX8_commands_31 (by decide) (fun c_ => absurd c_ (by decide)) (fun _ => ?_)
      refine lv_aload_n hx hb dX8_commands_34 rfl (lv_at hl 4 rfl) ?_
      refine lv_iload hx hb dX8_commands_35 (lv_at hl 2 rfl) ?_
      refine lv_bipush (v := 8) hx hb dX8_commands_37 (by decide) ?_
      refine lv_iload hx hb dX8_commands_39 (lv_at hl 0 rfl) ?_
      refine bAdd (v := 10) X dX8_commands_41 (by decide) ?_
      refine lv_iconst (v := 0) hx hb dX8_commands_42 (by decide) ?_
      refine bVV (As := [.int 1, .int 10, .int 0]) (rest := []) (wc := [(mM, .inr (8, [.ref mN, .ref mR, .ref mA, .ref mP, .int ch, .ref mT, .int le, .int sp, .ref mD])), (mN, .inl (cyI, 515, .inl (upd (upd u_3_0 28 0) 29 0)))]) (w1 := [(mM, .inr (8, [.ref mN, .ref mR, .ref mA, .ref mP, .int ch, .ref mT, .int le, .int sp, .ref mD])), (mN, .inl (cyI, 515, .inl (upd (upd (upd u_3_0 28 0) 29 0) 30 0)))]) (ws' := [(mM, .inr (8, [.ref mN, .ref mR, .ref mA, .ref mP, .int ch, .ref mT, .int le, .int sp, .ref mD])), (mN, .inl (cyI, 515, .inl (upd (upd (upd u_3_0 28 0) 29 0) 30 0)))]) (ad := [mM, mN]) (wr := []) (nn := 2) (ci := 8) (q0 := 0) X Y (c_tells8 l D cyC cyI mM mN mR mA mP mT mD ch le sp (upd (upd u_3_0 28 0) 29 0) 1 10 0 (upd (upd (upd u_3_0 28 0) 29 0) 30 0) (bTells (i := 30) (by decide) rfl) (bInD (by decide))) gX8_commands_X8_tells rfl ⟨rfl, rfl⟩ hd_X8_tells ⟨(Nat.le_of_ble_eq_true rfl), (Nat.le_of_ble_eq_true rfl)⟩ rfl rfl rfl [0, 1] [] rfl rfl rfl rfl rfl rfl rfl rfl (by decide) rfl rfl hl.1 (Nat.le_of_ble_eq_true rfl) ⟨Nat.zero_le _, Nat.zero_le _⟩ dX8_commands_43 (fun H locs Y => ?_)
      refine lv_iinc (v := 3) (lv' := [(6, .int 3), (4, .int 2), (5, .int 1), (7, .int ((w - (nw 13)) / 2)), (0, .ref mM), (1, .int 0), (2, .int w), (3, .int pa)]) hx hb dX8_commands_46 hl (k := 0) rfl (by decide) (by decide) rfl (fun ls hl => ?_)
      refine lv_goto (tgt := 28) hx hb dX8_commands_49 (by decide) ?_
      refine lv_iload hx hb dX8_commands_28 (lv_at hl 0 rfl) ?_
      refine lv_iconst (v := 5) hx hb dX8_commands_30 (by decide) ?_
      refine lv_icmp_ge (tgt := 52) hx hb dX8_commands_31 (by decide) (fun c_ => absurd c_ (by decide)) (fun _ => ?_)
      refine lv_aload_n hx hb dX8_commands_34 rfl (lv_at hl 4 rfl) ?_
      refine lv_iload hx hb dX8_commands_35 (lv_at hl 2 rfl) ?_
      refine lv_bipush (v := 8) hx hb dX8_commands_37 (by decide) ?_
      refine lv_iload hx hb dX8_commands_39 (lv_at hl 0 rfl) ?_
      refine bAdd (v := 11) X dX8_commands_41 (by decide) ?_
      refine lv_iconst (v := 0) hx hb dX8_commands_42 (by decide) ?_
      refine bVV (As := [.int 1, .int 11, .int 0]) (rest := []) (wc := [(mM, .inr (8, [.ref mN, .ref mR, .ref mA, .ref mP, .int ch, .ref mT, .int le, .int sp, .ref mD])), (mN, .inl (cyI, 515, .inl (upd (upd (upd u_3_0 28 0) 29 0) 30 0)))]) (w1 := [(mM, .inr (8, [.ref mN, .ref mR, .ref mA, .ref mP, .int ch, .ref mT, .int le, .int sp, .ref mD])), (mN, .inl (cyI, 515, .inl (upd (upd (upd (upd u_3_0 28 0) 29 0) 30 0) 31 0)))]) (ws' := [(mM, .inr (8, [.ref mN, .ref mR, .ref mA, .ref mP, .int ch, .ref mT, .int le, .int sp, .ref mD])), (mN, .inl (cyI, 515, .inl (upd (upd (upd (upd u_3_0 28 0) 29 0) 30 0) 31 0)))]) (ad := [mM, mN]) (wr := []) (nn := 2) (ci := 8) (q0 := 0) X Y (c_tells8 l D cyC cyI mM mN mR mA mP mT mD ch le sp (upd (upd (upd u_3_0 28 0) 29 0) 30 0) 1 11 0 (upd (upd (upd (upd u_3_0 28 0) 29 0) 30 0) 31 0) (bTells (i := 31) (by decide) rfl) (bInD (by decide))) gX8_commands_X8_tells rfl ⟨rfl, rfl⟩ hd_X8_tells ⟨(Nat.le_of_ble_eq_true rfl), (Nat.le_of_ble_eq_true rfl)⟩ rfl rfl rfl [0, 1] [] rfl rfl rfl rfl rfl rfl rfl rfl (by decide) rfl rfl hl.1 (Nat.le_of_ble_eq_true rfl) ⟨Nat.zero_le _, Nat.zero_le _⟩ dX8_commands_43 (fun H locs Y => ?_)
      refine lv_iinc (v := 4) (lv' := [(6, .int 4), (4, .int 2), (5, .int 1), (7, .int ((w - (nw 13)) / 2)), (0, .ref mM), (1, .int 0), (2, .int w), (3, .int pa)]) hx hb dX8_commands_46 hl (k := 0) rfl (by decide) (by decide) rfl (fun ls hl => ?_)
      refine lv_goto (tgt := 28) hx hb dX8_commands_49 (by decide) ?_
      refine lv_iload hx hb dX8_commands_28 (lv_at hl 0 rfl) ?_
      refine lv_iconst (v := 5) hx hb dX8_commands_30 (by decide) ?_
      refine lv_icmp_ge (tgt := 52) hx hb dX8_commands_31 (by decide) (fun c_ => absurd c_ (by decide)) (fun _ => ?_)
      refine lv_aload_n hx hb dX8_commands_34 rfl (lv_at hl 4 rfl) ?_
      refine lv_iload hx hb dX8_commands_35 (lv_at hl 2 rfl) ?_
      refine lv_bipush (v := 8) hx hb dX8_commands_37 (by decide) ?_
      refine lv_iload hx hb dX8_commands_39 (lv_at hl 0 rfl) ?_
      refine bAdd (v := 12) X dX8_commands_41 (by decide) ?_
      refine lv_iconst (v := 0) hx hb dX8_commands_42 (by decide) ?_
      refine bVV (As := [.int 1, .int 12, .int 0]) (rest := []) (wc := [(mM, .inr (8, [.ref mN, .ref mR, .ref mA, .ref mP, .int ch, .ref mT, .int le, .int sp, .ref mD])), (mN, .inl (cyI, 515, .inl (upd (upd (upd (upd u_3_0 28 0) 29 0) 30 0) 31 0)))]) (w1 := [(mM, .inr (8, [.ref mN, .ref mR, .ref mA, .ref mP, .int ch, .ref mT, .int le, .int sp, .ref mD])), (mN, .inl (cyI, 515, .inl (upd (upd (upd (upd (upd u_3_0 28 0) 29 0) 30 0) 31 0) 32 0)))]) (ws' := [(mM, .inr (8, [.ref mN, .ref mR, .ref mA, .ref mP, .int ch, .ref mT, .int le, .int sp, .ref mD])), (mN, .inl (cyI, 515, .inl (upd (upd (upd (upd (upd u_3_0 28 0) 29 0) 30 0) 31 0) 32 0)))]) (ad := [mM, mN]) (wr := []) (nn := 2) (ci := 8) (q0 := 0) X Y (c_tells8 l D cyC cyI mM mN mR mA mP mT mD ch le sp (upd (upd (upd (upd u_3_0 28 0) 29 0) 30 0) 31 0) 1 12 0 (upd (upd (upd (upd (upd u_3_0 28 0) 29 0) 30 0) 31 0) 32 0) (bTells (i := 32) (by decide) rfl) (bInD (by decide))) gX8_commands_X8_tells rfl ⟨rfl, rfl⟩ hd_X8_tells ⟨(Nat.le_of_ble_eq_true rfl), (Nat.le_of_ble_eq_true rfl)⟩ rfl rfl rfl [0, 1] [] rfl rfl rfl rfl rfl rfl rfl rfl (by decide) rfl rfl hl.1 (Nat.le_of_ble_eq_true rfl) ⟨Nat.zero_le _, Nat.zero_le _⟩ dX8_commands_43 (fun H locs Y => ?_)
      refine lv_iinc (v := 5) (lv' := [(6, .int 5), (4, .int 2), (5, .int 1), (7, .int ((w - (nw 13)) / 2)), (0, .ref mM), (1, .int 0), (2, .int w), (3, .int pa)]) hx hb dX8_commands_46 hl (k := 0) rfl (by decide) (by decide) rfl (fun ls hl => ?_)
      refine lv_goto (tgt := 28) hx hb dX8_commands_49 (by decide) ?_
      refine lv_iload hx hb dX8_commands_28 (lv_at hl 0 rfl) ?_
      refine lv_iconst (v := 5) hx hb dX8_commands_30 (by decide) ?_
      refine lv_icmp_ge (tgt := 52) hx hb dX8_commands_31 (by decide) (fun _ => ?_) (fun c_ => absurd (by decide) c_)
      refine lv_iload_n hx hb dX8_commands_52 rfl (lv_at hl 6 rfl) ?_
      refine lv_aload_n hx hb dX8_commands_53 rfl (lv_at hl 4 rfl) ?_
      refine lv_iload hx hb dX8_commands_54 (lv_at hl 2 rfl) ?_
      refine lv_bipush (v := 6) hx hb dX8_commands_56 (by decide) ?_
      refine bVI0 (As := [.int 1, .int 6]) (rest := [.int w]) (wc := [(mM, .inr (8, [.ref mN, .ref mR, .ref mA, .ref mP, .int ch, .ref mT, .int le, .int sp, .ref mD])), (mN, .inl (cyI, 515, .inl (upd (upd (upd (upd (upd u_3_0 28 0) 29 0) 30 0) 31 0) 32 0)))]) (ci := 8) (q0 := 0) X Y (c_of8 l D cyC cyI mM mN mR mA mP mT mD ch le sp (upd (upd (upd (upd (upd u_3_0 28 0) 29 0) 30 0) 31 0) 32 0) 1 6 (u_3_0 26) (bOf (i := 26) (by decide) ((upd_ne (by decide)).trans ((upd_ne (by decide)).trans ((upd_ne (by decide)).trans ((upd_ne (by decide)).trans ((upd_ne (by decide)).trans rfl)))))) (bInD (by decide))) gX8_commands_X8_of rfl ⟨rfl, rfl⟩ hd_X8_of ⟨(Nat.le_of_ble_eq_true rfl), (Nat.le_of_ble_eq_true rfl)⟩ rfl rfl rfl [0, 1] rfl rfl rfl rfl hl.1 (Nat.le_of_ble_eq_true rfl) ⟨Nat.zero_le _, Nat.zero_le _⟩ dX8_commands_58 (fun H locs Y => ?_)
      refine bSub (v := w - (u_3_0 26)) X dX8_commands_61 rfl ?_
      refine lv_istore (lv' := [(6, .int (w - (u_3_0 26))), (4, .int 2), (5, .int 1), (7, .int ((w - (nw 13)) / 2)), (0, .ref mM), (1, .int 0), (2, .int w), (3, .int pa)]) hx hb dX8_commands_62 hl (by decide) rfl (fun ls hl => ?_)
      refine lv_iload_n hx hb dX8_commands_64 rfl (lv_at hl 7 rfl) ?_
      refine lv_if_ge (tgt := 73) hx hb dX8_commands_65 (by decide) (fun c_5 => ?_) (fun c_5 => ?_)
      · have c_5 : 0 ≤ pa := c_5
        refine lv_iload hx hb dX8_commands_73 (lv_at hl 0 rfl) ?_
        refine lv_iconst (v := 2) hx hb dX8_commands_75 (by decide) ?_
        refine bDiv (v := (w - (u_3_0 26)) / 2) X dX8_commands_76 (by decide) rfl ?_
        refine lv_istore (lv' := [(7, .int ((w - (u_3_0 26)) / 2)), (6, .int (w - (u_3_0 26))), (4, .int 2), (5, .int 1), (0, .ref mM), (1, .int 0), (2, .int w), (3, .int pa)]) hx hb dX8_commands_77 hl (by decide) rfl (fun ls hl => ?_)
        refine lv_aload_n hx hb dX8_commands_79 rfl (lv_at hl 4 rfl) ?_
        refine lv_iload hx hb dX8_commands_80 (lv_at hl 3 rfl) ?_
        refine lv_aload_n hx hb dX8_commands_82 rfl (lv_at hl 4 rfl) ?_
        refine bGet (v := .ref mN) (T := TX8) (N := 9) (ci := 8) X Y i_X8_commands_X8 0 rfl rfl 0 (Nat.le_of_ble_eq_true rfl) f_X8_commands_7 rfl rfl dX8_commands_83 ?_
        refine lv_bipush (v := 6) hx hb dX8_commands_86 (by decide) ?_
        refine bIald (v := u_3_0 6) X Y 1 rfl (bInD (by decide)) dX8_commands_88 ((upd_ne (by decide)).trans ((upd_ne (by decide)).trans ((upd_ne (by decide)).trans ((upd_ne (by decide)).trans ((upd_ne (by decide)).trans rfl))))) ?_
        refine lv_iconst (v := 1) hx hb dX8_commands_89 (by decide) ?_
        refine bAdd (v := (u_3_0 6) + 1) X dX8_commands_90 rfl ?_
        refine lv_iload hx hb dX8_commands_91 (lv_at hl 0 rfl) ?_
        obtain ⟨u_6_0, hr_6⟩ := bEx1 (s_addsStep8_1 (upd (upd (upd (upd (upd u_3_0 28 0) 29 0) 30 0) 31 0) 32 0) ((u_3_0 6) + 1) ((w - (u_3_0 26)) / 2))
        rw [hr_6] at hu
        dsimp only at hu
        have asK_1_6 := asK_1 hr_6
        refine bVV (As := [.int 1, .int ((u_3_0 6) + 1), .int ((w - (u_3_0 26)) / 2)]) (rest := []) (wc := [(mM, .inr (8, [.ref mN, .ref mR, .ref mA, .ref mP, .int ch, .ref mT, .int le, .int sp, .ref mD])), (mN, .inl (cyI, 515, .inl (upd (upd (upd (upd (upd u_3_0 28 0) 29 0) 30 0) 31 0) 32 0)))]) (w1 := [(mM, .inr (8, [.ref mN, .ref mR, .ref mA, .ref mP, .int ch, .ref mT, .int le, .int sp, .ref mD])), (mN, .inl (cyI, 515, .inl u_6_0))]) (ws' := [(mM, .inr (8, [.ref mN, .ref mR, .ref mA, .ref mP, .int ch, .ref mT, .int le, .int sp, .ref mD])), (mN, .inl (cyI, 515, .inl u_6_0))]) (ad := [mM, mN]) (wr := []) (nn := 2) (ci := 8) (q0 := 0) X Y (c_addsStep8_1 l D cyC cyI mM mN mR mA mP mT mD ch le sp (upd (upd (upd (upd (upd u_3_0 28 0) 29 0) 30 0) 31 0) 32 0) ((u_3_0 6) + 1) ((w - (u_3_0 26)) / 2) u_6_0 hr_6 (by first | exact Or.inl rfl | exact asK_1_1 rfl | exact asK_1_2 rfl | exact asK_1_3 rfl | exact asK_1_4 rfl | exact asK_1_5 rfl | exact asK_1_6 rfl | exact asK_1_7 rfl | exact asK_1_8 rfl | exact asK_1_9 rfl | exact asK_1_10 rfl | exact asK_1_11 rfl | exact asK_1_12 rfl | exact asK_1_13 rfl | exact asK_1_14 rfl | exact asK_1_15 rfl | exact asK_1_16 rfl | exact asK_1_17 rfl | exact asK_1_18 rfl | exact asK_1_19 rfl | exact asK_1_20 rfl | exact asK_1_21 rfl | exact asK_1_22 rfl | exact asK_1_23 rfl | exact asK_1_24 rfl | exact asK_1_25 rfl | exact asK_1_26 rfl | exact asK_1_27 rfl | exact asK_1_28 rfl | exact asK_1_29 rfl | exact asK_1_30 rfl | exact asK_1_31 rfl | exact asK_1_32 rfl | exact asK_1_33 rfl | exact asK_1_34 rfl | exact asK_1_35 rfl | exact asK_1_36 rfl | exact asK_1_37 rfl | exact asK_1_38 rfl | exact asK_1_39 rfl)) gX8_commands_X8_addsStep rfl ⟨rfl, rfl⟩ hd_X8_addsStep ⟨(Nat.le_of_ble_eq_true rfl), (Nat.le_of_ble_eq_true rfl)⟩ rfl rfl rfl [0, 1] [] rfl rfl rfl rfl rfl rfl rfl rfl (by decide) rfl rfl hl.1 (Nat.le_of_ble_eq_true rfl) ⟨Nat.zero_le _, Nat.zero_le _⟩ dX8_commands_93 (fun H locs Y => ?_)
        refine lv_aload_n hx hb dX8_commands_96 rfl (lv_at hl 4 rfl) ?_
        refine lv_iload hx hb dX8_commands_97 (lv_at hl 3 rfl) ?_
        refine lv_aload_n hx hb dX8_commands_99 rfl (lv_at hl 4 rfl) ?_
        refine bGet (v := .ref mN) (T := TX8) (N := 9) (ci := 8) X Y i_X8_commands_X8 0 rfl rfl 0 (Nat.le_of_ble_eq_true rfl) f_X8_commands_7 rfl rfl dX8_commands_100 ?_
        refine lv_bipush (v := 6) hx hb dX8_commands_103 (by decide) ?_
        refine bIald (v := u_6_0 6) X Y 1 rfl (bInD (by decide)) dX8_commands_105 rfl ?_
        refine lv_iconst (v := 1) hx hb dX8_commands_106 (by decide) ?_
        refine bAdd (v := (u_6_0 6) + 1) X dX8_commands_107 rfl ?_
        refine lv_iload_n hx hb dX8_commands_108 rfl (lv_at hl 7 rfl) ?_
        refine bAdd (v := ((u_6_0 6) + 1) + pa) X dX8_commands_109 rfl ?_
        refine lv_iload hx hb dX8_commands_110 (lv_at hl 1 rfl) ?_
        refine lv_iload hx hb dX8_commands_112 (lv_at hl 0 rfl) ?_
        refine bSub (v := (w - (u_3_0 26)) - ((w - (u_3_0 26)) / 2)) X dX8_commands_114 rfl ?_
        obtain ⟨u_7_0, hr_7⟩ := bEx1 (s_addsStep8_1 u_6_0 (((u_6_0 6) + 1) + pa) ((w - (u_3_0 26)) - ((w - (u_3_0 26)) / 2)))
        rw [hr_7] at hu
        dsimp only at hu
        have asK_1_7 := asK_1 hr_7
        refine bVV (As := [.int 1, .int (((u_6_0 6) + 1) + pa), .int ((w - (u_3_0 26)) - ((w - (u_3_0 26)) / 2))]) (rest := []) (wc := [(mM, .inr (8, [.ref mN, .ref mR, .ref mA, .ref mP, .int ch, .ref mT, .int le, .int sp, .ref mD])), (mN, .inl (cyI, 515, .inl u_6_0))]) (w1 := [(mM, .inr (8, [.ref mN, .ref mR, .ref mA, .ref mP, .int ch, .ref mT, .int le, .int sp, .ref mD])), (mN, .inl (cyI, 515, .inl u_7_0))]) (ws' := [(mM, .inr (8, [.ref mN, .ref mR, .ref mA, .ref mP, .int ch, .ref mT, .int le, .int sp, .ref mD])), (mN, .inl (cyI, 515, .inl u_7_0))]) (ad := [mM, mN]) (wr := []) (nn := 2) (ci := 8) (q0 := 0) X Y (c_addsStep8_1 l D cyC cyI mM mN mR mA mP mT mD ch le sp u_6_0 (((u_6_0 6) + 1) + pa) ((w - (u_3_0 26)) - ((w - (u_3_0 26)) / 2)) u_7_0 hr_7 (by first | exact Or.inl rfl | exact asK_1_1 rfl | exact asK_1_2 rfl | exact asK_1_3 rfl | exact asK_1_4 rfl | exact asK_1_5 rfl | exact asK_1_6 rfl | exact asK_1_7 rfl | exact asK_1_8 rfl | exact asK_1_9 rfl | exact asK_1_10 rfl | exact asK_1_11 rfl | exact asK_1_12 rfl | exact asK_1_13 rfl | exact asK_1_14 rfl | exact asK_1_15 rfl | exact asK_1_16 rfl | exact asK_1_17 rfl | exact asK_1_18 rfl | exact asK_1_19 rfl | exact asK_1_20 rfl | exact asK_1_21 rfl | exact asK_1_22 rfl | exact asK_1_23 rfl | exact asK_1_24 rfl | exact asK_1_25 rfl | exact asK_1_26 rfl | exact asK_1_27 rfl | exact asK_1_28 rfl | exact asK_1_29 rfl | exact asK_1_30 rfl | exact asK_1_31 rfl | exact asK_1_32 rfl | exact asK_1_33 rfl | exact asK_1_34 rfl | exact asK_1_35 rfl | exact asK_1_36 rfl | exact asK_1_37 rfl | exact asK_1_38 rfl | exact asK_1_39 rfl)) gX8_commands_X8_addsStep rfl ⟨rfl, rfl⟩ hd_X8_addsStep ⟨(Nat.le_of_ble_eq_true rfl), (Nat.le_of_ble_eq_true rfl)⟩ rfl rfl rfl [0, 1] [] rfl rfl rfl rfl rfl rfl rfl rfl (by decide) rfl rfl hl.1 (Nat.le_of_ble_eq_true rfl) ⟨Nat.zero_le _, Nat.zero_le _⟩ dX8_commands_115 (fun H locs Y => ?_)
        refine lv_iinc (v := 2) (lv' := [(5, .int 2), (7, .int ((w - (u_3_0 26)) / 2)), (6, .int (w - (u_3_0 26))), (4, .int 2), (0, .ref mM), (1, .int 0), (2, .int w), (3, .int pa)]) hx hb dX8_commands_118 hl (k := 3) rfl (by decide) (by decide) rfl (fun ls hl => ?_)
        refine lv_goto (tgt := 6) hx hb dX8_commands_121 (by decide) ?_
        refine lv_iload hx hb dX8_commands_6 (lv_at hl 0 rfl) ?_
        refine lv_iconst (v := 2) hx hb dX8_commands_8 (by decide) ?_
        refine lv_icmp_ge (tgt := 124) hx hb dX8_commands_9 (by decide) (fun _ => ?_) (fun c_ => absurd (by decide) c_)
        refine lv_iload hx hb dX8_commands_124 (lv_at hl 3 rfl) ?_
        have h9 := (Prod.mk.inj hu).1; replace hu := (Prod.mk.inj hu).2; subst h9
        subst hu
        exact bEndI X Y hr hlk dX8_commands_126 rfl rfl
      · have c_5 : ¬ (0 ≤ pa) := c_5
        exact absurd c_1 c_5
  · have c_1 : ¬ (0 ≤ pa) := c_1
    rw [if_neg c_1] at hu
    refine lv_iload hx hb dX8_commands_68 (lv_at hl 0 rfl) ?_
    refine lv_goto (tgt := 77) hx hb dX8_commands_70 (by decide) ?_
    refine lv_istore (lv' := [(7, .int (w - (nw 13))), (6, .int (w - (nw 13))), (4, .int 1), (5, .int 0), (0, .ref mM), (1, .int 0), (2, .int w), (3, .int pa)]) hx hb dX8_commands_77 hl (by decide) rfl (fun ls hl => ?_)
    refine lv_aload_n hx hb dX8_commands_79 rfl (lv_at hl 4 rfl) ?_
    refine lv_iload hx hb dX8_commands_80 (lv_at hl 3 rfl) ?_
    refine lv_aload_n hx hb dX8_commands_82 rfl (lv_at hl 4 rfl) ?_
    refine bGet (v := .ref mN) (T := TX8) (N := 9) (ci := 8) X Y i_X8_commands_X8 0 rfl rfl 0 (Nat.le_of_ble_eq_true rfl) f_X8_commands_7 rfl rfl dX8_commands_83 ?_
    refine lv_bipush (v := 6) hx hb dX8_commands_86 (by decide) ?_
    refine bIald (v := nw 6) X Y 1 rfl (bInD (by decide)) dX8_commands_88 ((upd_ne (by decide)).trans ((upd_ne (by decide)).trans ((upd_ne (by decide)).trans ((upd_ne (by decide)).trans ((upd_ne (by decide)).trans rfl))))) ?_
    refine lv_iconst (v := 1) hx hb dX8_commands_89 (by decide) ?_
    refine bAdd (v := (nw 6) + 1) X dX8_commands_90 rfl ?_
    refine lv_iload hx hb dX8_commands_91 (lv_at hl 0 rfl) ?_
    obtain ⟨u_8_0, hr_8⟩ := bEx1 (s_addsStep8_0 (upd (upd (upd (upd (upd nw 15 0) 16 0) 17 0) 18 0) 19 0) ((nw 6) + 1) (w - (nw 13)))
    rw [hr_8] at hu
    dsimp only at hu
    have asK_0_8 := asK_0 hr_8
    refine bVV (As := [.int 0, .int ((nw 6) + 1), .int (w - (nw 13))]) (rest := []) (wc := [(mM, .inr (8, [.ref mN, .ref mR, .ref mA, .ref mP, .int ch, .ref mT, .int le, .int sp, .ref mD])), (mN, .inl (cyI, 515, .inl (upd (upd (upd (upd (upd nw 15 0) 16 0) 17 0) 18 0) 19 0)))]) (w1 := [(mM, .inr (8, [.ref mN, .ref mR, .ref mA, .ref mP, .int ch, .ref mT, .int le, .int sp, .ref mD])), (mN, .inl (cyI, 515, .inl u_8_0))]) (ws' := [(mM, .inr (8, [.ref mN, .ref mR, .ref mA, .ref mP, .int ch, .ref mT, .int le, .int sp, .ref mD])), (mN, .inl (cyI, 515, .inl u_8_0))]) (ad := [mM, mN]) (wr := []) (nn := 2) (ci := 8) (q0 := 0) X Y (c_addsStep8_0 l D cyC cyI mM mN mR mA mP mT mD ch le sp (upd (upd (upd (upd (upd nw 15 0) 16 0) 17 0) 18 0) 19 0) ((nw 6) + 1) (w - (nw 13)) u_8_0 hr_8 (by first | exact Or.inl rfl | exact asK_0_1 rfl | exact asK_0_2 rfl | exact asK_0_3 rfl | exact asK_0_4 rfl | exact asK_0_5 rfl | exact asK_0_6 rfl | exact asK_0_7 rfl | exact asK_0_8 rfl | exact asK_0_9 rfl | exact asK_0_10 rfl | exact asK_0_11 rfl | exact asK_0_12 rfl | exact asK_0_13 rfl | exact asK_0_14 rfl | exact asK_0_15 rfl | exact asK_0_16 rfl | exact asK_0_17 rfl | exact asK_0_18 rfl | exact asK_0_19 rfl | exact asK_0_20 rfl | exact asK_0_21 rfl | exact asK_0_22 rfl | exact asK_0_23 rfl | exact asK_0_24 rfl | exact asK_0_25 rfl | exact asK_0_26 rfl | exact asK_0_27 rfl | exact asK_0_28 rfl | exact asK_0_29 rfl | exact asK_0_30 rfl | exact asK_0_31 rfl | exact asK_0_32 rfl | exact asK_0_33 rfl | exact asK_0_34 rfl | exact asK_0_35 rfl | exact asK_0_36 rfl | exact asK_0_37 rfl | exact asK_0_38 rfl | exact asK_0_39 rfl)) gX8_commands_X8_addsStep rfl ⟨rfl, rfl⟩ hd_X8_addsStep ⟨(Nat.le_of_ble_eq_true rfl), (Nat.le_of_ble_eq_true rfl)⟩ rfl rfl rfl [0, 1] [] rfl rfl rfl rfl rfl rfl rfl rfl (by decide) rfl rfl hl.1 (Nat.le_of_ble_eq_true rfl) ⟨Nat.zero_le _, Nat.zero_le _⟩ dX8_commands_93 (fun H locs Y => ?_)
    refine lv_aload_n hx hb dX8_commands_96 rfl (lv_at hl 4 rfl) ?_
    refine lv_iload hx hb dX8_commands_97 (lv_at hl 3 rfl) ?_
    refine lv_aload_n hx hb dX8_commands_99 rfl (lv_at hl 4 rfl) ?_
    refine bGet (v := .ref mN) (T := TX8) (N := 9) (ci := 8) X Y i_X8_commands_X8 0 rfl rfl 0 (Nat.le_of_ble_eq_true rfl) f_X8_commands_7 rfl rfl dX8_commands_100 ?_
    refine lv_bipush (v := 6) hx hb dX8_commands_103 (by decide) ?_
    refine bIald (v := u_8_0 6) X Y 1 rfl (bInD (by decide)) dX8_commands_105 rfl ?_
    refine lv_iconst (v := 1) hx hb dX8_commands_106 (by decide) ?_
    refine bAdd (v := (u_8_0 6) + 1) X dX8_commands_107 rfl ?_
    refine lv_iload_n hx hb dX8_commands_108 rfl (lv_at hl 7 rfl) ?_
    refine bAdd (v := ((u_8_0 6) + 1) + pa) X dX8_commands_109 rfl ?_
    refine lv_iload hx hb dX8_commands_110 (lv_at hl 1 rfl) ?_
    refine lv_iload hx hb dX8_commands_112 (lv_at hl 0 rfl) ?_
    refine bSub (v := (w - (nw 13)) - (w - (nw 13))) X dX8_commands_114 rfl ?_
    obtain ⟨u_9_0, hr_9⟩ := bEx1 (s_addsStep8_0 u_8_0 (((u_8_0 6) + 1) + pa) ((w - (nw 13)) - (w - (nw 13))))
    rw [hr_9] at hu
    dsimp only at hu
    have asK_0_9 := asK_0 hr_9
    refine bVV (As := [.int 0, .int (((u_8_0 6) + 1) + pa), .int ((w - (nw 13)) - (w - (nw 13)))]) (rest := []) (wc := [(mM, .inr (8, [.ref mN, .ref mR, .ref mA, .ref mP, .int ch, .ref mT, .int le, .int sp, .ref mD])), (mN, .inl (cyI, 515, .inl u_8_0))]) (w1 := [(mM, .inr (8, [.ref mN, .ref mR, .ref mA, .ref mP, .int ch, .ref mT, .int le, .int sp, .ref mD])), (mN, .inl (cyI, 515, .inl u_9_0))]) (ws' := [(mM, .inr (8, [.ref mN, .ref mR, .ref mA, .ref mP, .int ch, .ref mT, .int le, .int sp, .ref mD])), (mN, .inl (cyI, 515, .inl u_9_0))]) (ad := [mM, mN]) (wr := []) (nn := 2) (ci := 8) (q0 := 0) X Y (c_addsStep8_0 l D cyC cyI mM mN mR mA mP mT mD ch le sp u_8_0 (((u_8_0 6) + 1) + pa) ((w - (nw 13)) - (w - (nw 13))) u_9_0 hr_9 (by first | exact Or.inl rfl | exact asK_0_1 rfl | exact asK_0_2 rfl | exact asK_0_3 rfl | exact asK_0_4 rfl | exact asK_0_5 rfl | exact asK_0_6 rfl | exact asK_0_7 rfl | exact asK_0_8 rfl | exact asK_0_9 rfl | exact asK_0_10 rfl | exact asK_0_11 rfl | exact asK_0_12 rfl | exact asK_0_13 rfl | exact asK_0_14 rfl | exact asK_0_15 rfl | exact asK_0_16 rfl | exact asK_0_17 rfl | exact asK_0_18 rfl | exact asK_0_19 rfl | exact asK_0_20 rfl | exact asK_0_21 rfl | exact asK_0_22 rfl | exact asK_0_23 rfl | exact asK_0_24 rfl | exact asK_0_25 rfl | exact asK_0_26 rfl | exact asK_0_27 rfl | exact asK_0_28 rfl | exact asK_0_29 rfl | exact asK_0_30 rfl | exact asK_0_31 rfl | exact asK_0_32 rfl | exact asK_0_33 rfl | exact asK_0_34 rfl | exact asK_0_35 rfl | exact asK_0_36 rfl | exact asK_0_37 rfl | exact asK_0_38 rfl | exact asK_0_39 rfl)) gX8_commands_X8_addsStep rfl ⟨rfl, rfl⟩ hd_X8_addsStep ⟨(Nat.le_of_ble_eq_true rfl), (Nat.le_of_ble_eq_true rfl)⟩ rfl rfl rfl [0, 1] [] rfl rfl rfl rfl rfl rfl rfl rfl (by decide) rfl rfl hl.1 (Nat.le_of_ble_eq_true rfl) ⟨Nat.zero_le _, Nat.zero_le _⟩ dX8_commands_115 (fun H locs Y => ?_)
    refine lv_iinc (v := 1) (lv' := [(5, .int 1), (7, .int (w - (nw 13))), (6, .int (w - (nw 13))), (4, .int 1), (0, .ref mM), (1, .int 0), (2, .int w), (3, .int pa)]) hx hb dX8_commands_118 hl (k := 3) rfl (by decide) (by decide) rfl (fun ls hl => ?_)
    refine lv_goto (tgt := 6) hx hb dX8_commands_121 (by decide) ?_
    refine lv_iload hx hb dX8_commands_6 (lv_at hl 0 rfl) ?_
    refine lv_iconst (v := 2) hx hb dX8_commands_8 (by decide) ?_
    refine lv_icmp_ge (tgt := 124) hx hb dX8_commands_9 (by decide) (fun c_ => absurd c_ (by decide)) (fun _ => ?_)
    refine lv_aload_n hx hb dX8_commands_12 rfl (lv_at hl 4 rfl) ?_
    refine lv_iload hx hb dX8_commands_13 (lv_at hl 0 rfl) ?_
    refine lv_iload_n hx hb dX8_commands_15 rfl (lv_at hl 5 rfl) ?_
    refine bVI0 (As := [.int 1, .int 0]) (rest := []) (wc := [(mM, .inr (8, [.ref mN, .ref mR, .ref mA, .ref mP, .int ch, .ref mT, .int le, .int sp, .ref mD])), (mN, .inl (cyI, 515, .inl u_9_0))]) (ci := 8) (q0 := 0) X Y (c_heeds8_10 l D cyC cyI mM mN mR mA mP mT mD ch le sp u_9_0 (s_heeds8_10 u_9_0) rfl) gX8_commands_X8_heeds rfl ⟨rfl, rfl⟩ hd_X8_heeds ⟨(Nat.le_of_ble_eq_true rfl), (Nat.le_of_ble_eq_true rfl)⟩ rfl rfl rfl [0, 1] rfl rfl rfl rfl hl.1 (Nat.le_of_ble_eq_true rfl) ⟨Nat.zero_le _, Nat.zero_le _⟩ dX8_commands_16 (fun H locs Y => ?_)
    refine lv_if_eq (tgt := 118) hx hb dX8_commands_19 (by decide) (fun c_10 => ?_) (fun c_10 => ?_)
    · have c_10 := bB_f c_10
      rw [if_neg c_10] at hu
      refine lv_iinc (v := 2) (lv' := [(5, .int 2), (7, .int (w - (nw 13))), (6, .int (w - (nw 13))), (4, .int 1), (0, .ref mM), (1, .int 0), (2, .int w), (3, .int pa)]) hx hb dX8_commands_118 hl (k := 0) rfl (by decide) (by decide) rfl (fun ls hl => ?_)
      refine lv_goto (tgt := 6) hx hb dX8_commands_121 (by decide) ?_
      refine lv_iload hx hb dX8_commands_6 (lv_at hl 0 rfl) ?_
      refine lv_iconst (v := 2) hx hb dX8_commands_8 (by decide) ?_
      refine lv_icmp_ge (tgt := 124) hx hb dX8_commands_9 (by decide) (fun _ => ?_) (fun c_ => absurd (by decide) c_)
      refine lv_iload hx hb dX8_commands_124 (lv_at hl 3 rfl) ?_
      have h9 := (Prod.mk.inj hu).1; replace hu := (Prod.mk.inj hu).2; subst h9
      subst hu
      exact bEndI X Y hr hlk dX8_commands_126 rfl rfl
    · have c_10 := bB_t c_10
      rw [if_pos c_10] at hu
      refine lv_iinc (v := 2) (lv' := [(4, .int 2), (5, .int 1), (7, .int (w - (nw 13))), (6, .int (w - (nw 13))), (0, .ref mM), (1, .int 0), (2, .int w), (3, .int pa)]) hx hb dX8_commands_22 hl (k := 3) rfl (by decide) (by decide) rfl (fun ls hl => ?_)
      refine lv_iconst (v := 0) hx hb dX8_commands_25 (by decide) ?_
      refine lv_istore (lv' := [(6, .int 0), (4, .int 2), (5, .int 1), (7, .int (w - (nw 13))), (0, .ref mM), (1, .int 0), (2, .int w), (3, .int pa)]) hx hb dX8_commands_26 hl (by decide) rfl (fun ls hl => ?_)
      refine lv_iload hx hb dX8_commands_28 (lv_at hl 0 rfl) ?_
      refine lv_iconst (v := 5) hx hb dX8_commands_30 (by decide) ?_
      refine lv_icmp_ge (tgt := 52) hx hb dX8_commands_31 (by decide) (fun c_ => absurd c_ (by decide)) (fun _ => ?_)
      refine lv_aload_n hx hb dX8_commands_34 rfl (lv_at hl 4 rfl) ?_
      refine lv_iload hx hb dX8_commands_35 (lv_at hl 2 rfl) ?_
      refine lv_bipush (v := 8) hx hb dX8_commands_37 (by decide) ?_
      refine lv_iload hx hb dX8_commands_39 (lv_at hl 0 rfl) ?_
      refine bAdd (v := 8) X dX8_commands_41 (by decide) ?_
      refine lv_iconst (v := 0) hx hb dX8_commands_42 (by decide) ?_
      refine bVV (As := [.int 1, .int 8, .int 0]) (rest := []) (wc := [(mM, .inr (8, [.ref mN, .ref mR, .ref mA, .ref mP, .int ch, .ref mT, .int le, .int sp, .ref mD])), (mN, .inl (cyI, 515, .inl u_9_0))]) (w1 := [(mM, .inr (8, [.ref mN, .ref mR, .ref mA, .ref mP, .int ch, .ref mT, .int le, .int sp, .ref mD])), (mN, .inl (cyI, 515, .inl (upd u_9_0 28 0)))]) (ws' := [(mM, .inr (8, [.ref mN, .ref mR, .ref mA, .ref mP, .int ch, .ref mT, .int le, .int sp, .ref mD])), (mN, .inl (cyI, 515, .inl (upd u_9_0 28 0)))]) (ad := [mM, mN]) (wr := []) (nn := 2) (ci := 8) (q0 := 0) X Y (c_tells8 l D cyC cyI mM mN mR mA mP mT mD ch le sp u_9_0 1 8 0 (upd u_9_0 28 0) (bTells (i := 28) (by decide) rfl) (bInD (by decide))) gX8_commands_X8_tells rfl ⟨rfl, rfl⟩ hd_X8_tells ⟨(Nat.le_of_ble_eq_true rfl), (Nat.le_of_ble_eq_true rfl)⟩ rfl rfl rfl [0, 1] [] rfl rfl rfl rfl rfl rfl rfl rfl (by decide) rfl rfl hl.1 (Nat.le_of_ble_eq_true rfl) ⟨Nat.zero_le _, Nat.zero_le _⟩ dX8_commands_43 (fun H locs Y => ?_)
      refine lv_iinc (v := 1) (lv' := [(6, .int 1), (4, .int 2), (5, .int 1), (7, .int (w - (nw 13))), (0, .ref mM), (1, .int 0), (2, .int w), (3, .int pa)]) hx hb dX8_commands_46 hl (k := 0) rfl (by decide) (by decide) rfl (fun ls hl => ?_)
      refine lv_goto (tgt := 28) hx hb dX8_commands_49 (by decide) ?_
      refine lv_iload hx hb dX8_commands_28 (lv_at hl 0 rfl) ?_
      refine lv_iconst (v := 5) hx hb dX8_commands_30 (by decide) ?_
      refine lv_icmp_ge (tgt := 52) hx hb dX8_commands_31 (by decide) (fun c_ => absurd c_ (by decide)) (fun _ => ?_)
      refine lv_aload_n hx hb dX8_commands_34 rfl (lv_at hl 4 rfl) ?_
      refine lv_iload hx hb dX8_commands_35 (lv_at hl 2 rfl) ?_
      refine lv_bipush (v := 8) hx hb dX8_commands_37 (by decide) ?_
      refine lv_iload hx hb dX8_commands_39 (lv_at hl 0 rfl) ?_
      refine bAdd (v := 9) X dX8_commands_41 (by decide) ?_
      refine lv_iconst (v := 0) hx hb dX8_commands_42 (by decide) ?_
      refine bVV (As := [.int 1, .int 9, .int 0]) (rest := []) (wc := [(mM, .inr (8, [.ref mN, .ref mR, .ref mA, .ref mP, .int ch, .ref mT, .int le, .int sp, .ref mD])), (mN, .inl (cyI, 515, .inl (upd u_9_0 28 0)))]) (w1 := [(mM, .inr (8, [.ref mN, .ref mR, .ref mA, .ref mP, .int ch, .ref mT, .int le, .int sp, .ref mD])), (mN, .inl (cyI, 515, .inl (upd (upd u_9_0 28 0) 29 0)))]) (ws' := [(mM, .inr (8, [.ref mN, .ref mR, .ref mA, .ref mP, .int ch, .ref mT, .int le, .int sp, .ref mD])), (mN, .inl (cyI, 515, .inl (upd (upd u_9_0 28 0) 29 0)))]) (ad := [mM, mN]) (wr := []) (nn := 2) (ci := 8) (q0 := 0) X Y (c_tells8 l D cyC cyI mM mN mR mA mP mT mD ch le sp (upd u_9_0 28 0) 1 9 0 (upd (upd u_9_0 28 0) 29 0) (bTells (i := 29) (by decide) rfl) (bInD (by decide))) gX8_commands_X8_tells rfl ⟨rfl, rfl⟩ hd_X8_tells ⟨(Nat.le_of_ble_eq_true rfl), (Nat.le_of_ble_eq_true rfl)⟩ rfl rfl rfl [0, 1] [] rfl rfl rfl rfl rfl rfl rfl rfl (by decide) rfl rfl hl.1 (Nat.le_of_ble_eq_true rfl) ⟨Nat.zero_le _, Nat.zero_le _⟩ dX8_commands_43 (fun H locs Y => ?_)
      refine lv_iinc (v := 2) (lv' := [(6, .int 2), (4, .int 2), (5, .int 1), (7, .int (w - (nw 13))), (0, .ref mM), (1, .int 0), (2, .int w), (3, .int pa)]) hx hb dX8_commands_46 hl (k := 0) rfl (by decide) (by decide) rfl (fun ls hl => ?_)
      refine lv_goto (tgt := 28) hx hb dX8_commands_49 (by decide) ?_
      refine lv_iload hx hb dX8_commands_28 (lv_at hl 0 rfl) ?_
      refine lv_iconst (v := 5) hx hb dX8_commands_30 (by decide) ?_
      refine lv_icmp_ge (tgt := 52) hx hb dX8_commands_31 (by decide) (fun c_ => absurd c_ (by decide)) (fun _ => ?_)
      refine lv_aload_n hx hb dX8_commands_34 rfl (lv_at hl 4 rfl) ?_
      refine lv_iload hx hb dX8_commands_35 (lv_at hl 2 rfl) ?_
      refine lv_bipush (v := 8) hx hb dX8_commands_37 (by decide) ?_
      refine lv_iload hx hb dX8_commands_39 (lv_at hl 0 rfl) ?_
      refine bAdd (v := 10) X dX8_commands_41 (by decide) ?_
      refine lv_iconst (v := 0) hx hb dX8_commands_42 (by decide) ?_
      refine bVV (As := [.int 1, .int 10, .int 0]) (rest := []) (wc := [(mM, .inr (8, [.ref mN, .ref mR, .ref mA, .ref mP, .int ch, .ref mT, .int le, .int sp, .ref mD])), (mN, .inl (cyI, 515, .inl (upd (upd u_9_0 28 0) 29 0)))]) (w1 := [(mM, .inr (8, [.ref mN, .ref mR, .ref mA, .ref mP, .int ch, .ref mT, .int le, .int sp, .ref mD])), (mN, .inl (cyI, 515, .inl (upd (upd (upd u_9_0 28 0) 29 0) 30 0)))]) (ws' := [(mM, .inr (8, [.ref mN, .ref mR, .ref mA, .ref mP, .int ch, .ref mT, .int le, .int sp, .ref mD])), (mN, .inl (cyI, 515, .inl (upd (upd (upd u_9_0 28 0) 29 0) 30 0)))]) (ad := [mM, mN]) (wr := []) (nn := 2) (ci := 8) (q0 := 0) X Y (c_tells8 l D cyC cyI mM mN mR mA mP mT mD ch le sp (upd (upd u_9_0 28 0) 29 0) 1 10 0 (upd (upd (upd u_9_0 28 0) 29 0) 30 0) (bTells (i := 30) (by decide) rfl) (bInD (by decide))) gX8_commands_X8_tells rfl ⟨rfl, rfl⟩ hd_X8_tells ⟨(Nat.le_of_ble_eq_true rfl), (Nat.le_of_ble_eq_true rfl)⟩ rfl rfl rfl [0, 1] [] rfl rfl rfl rfl rfl rfl rfl rfl (by decide) rfl rfl hl.1 (Nat.le_of_ble_eq_true rfl) ⟨Nat.zero_le _, Nat.zero_le _⟩ dX8_commands_43 (fun H locs Y => ?_)
      refine lv_iinc (v := 3) (lv' := [(6, .int 3), (4, .int 2), (5, .int 1), (7, .int (w - (nw 13))), (0, .ref mM), (1, .int 0), (2, .int w), (3, .int pa)]) hx hb dX8_commands_46 hl (k := 0) rfl (by decide) (by decide) rfl (fun ls hl => ?_)
      refine lv_goto (tgt := 28) hx hb dX8_commands_49 (by decide) ?_
      refine lv_iload hx hb dX8_commands_28 (lv_at hl 0 rfl) ?_
      refine lv_iconst (v := 5) hx hb dX8_commands_30 (by decide) ?_
      refine lv_icmp_ge (tgt := 52) hx hb dX8_commands_31 (by decide) (fun c_ => absurd c_ (by decide)) (fun _ => ?_)
      refine lv_aload_n hx hb dX8_commands_34 rfl (lv_at hl 4 rfl) ?_
      refine lv_iload hx hb dX8_commands_35 (lv_at hl 2 rfl) ?_
      refine lv_bipush (v := 8) hx hb dX8_commands_37 (by decide) ?_
      refine lv_iload hx hb dX8_commands_39 (lv_at hl 0 rfl) ?_
      refine bAdd (v := 11) X dX8_commands_41 (by decide) ?_
      refine lv_iconst (v := 0) hx hb dX8_commands_42 (by decide) ?_
      refine bVV (As := [.int 1, .int 11, .int 0]) (rest := []) (wc := [(mM, .inr (8, [.ref mN, .ref mR, .ref mA, .ref mP, .int ch, .ref mT, .int le, .int sp, .ref mD])), (mN, .inl (cyI, 515, .inl (upd (upd (upd u_9_0 28 0) 29 0) 30 0)))]) (w1 := [(mM, .inr (8, [.ref mN, .ref mR, .ref mA, .ref mP, .int ch, .ref mT, .int le, .int sp, .ref mD])), (mN, .inl (cyI, 515, .inl (upd (upd (upd (upd u_9_0 28 0) 29 0) 30 0) 31 0)))]) (ws' := [(mM, .inr (8, [.ref mN, .ref mR, .ref mA, .ref mP, .int ch, .ref mT, .int le, .int sp, .ref mD])), (mN, .inl (cyI, 515, .inl (upd (upd (upd (upd u_9_0 28 0) 29 0) 30 0) 31 0)))]) (ad := [mM, mN]) (wr := []) (nn := 2) (ci := 8) (q0 := 0) X Y (c_tells8 l D cyC cyI mM mN mR mA mP mT mD ch le sp (upd (upd (upd u_9_0 28 0) 29 0) 30 0) 1 11 0 (upd (upd (upd (upd u_9_0 28 0) 29 0) 30 0) 31 0) (bTells (i := 31) (by decide) rfl) (bInD (by decide))) gX8_commands_X8_tells rfl ⟨rfl, rfl⟩ hd_X8_tells ⟨(Nat.le_of_ble_eq_true rfl), (Nat.le_of_ble_eq_true rfl)⟩ rfl rfl rfl [0, 1] [] rfl rfl rfl rfl rfl rfl rfl rfl (by decide) rfl rfl hl.1 (Nat.le_of_ble_eq_true rfl) ⟨Nat.zero_le _, Nat.zero_le _⟩ dX8_commands_43 (fun H locs Y => ?_)
      refine lv_iinc (v := 4) (lv' := [(6, .int 4), (4, .int 2), (5, .int 1), (7, .int (w - (nw 13))), (0, .ref mM), (1, .int 0), (2, .int w), (3, .int pa)]) hx hb dX8_commands_46 hl (k := 0) rfl (by decide) (by decide) rfl (fun ls hl => ?_)
      refine lv_goto (tgt := 28) hx hb dX8_commands_49 (by decide) ?_
      refine lv_iload hx hb dX8_commands_28 (lv_at hl 0 rfl) ?_
      refine lv_iconst (v := 5) hx hb dX8_commands_30 (by decide) ?_
      refine lv_icmp_ge (tgt := 52) hx hb dX8_commands_31 (by decide) (fun c_ => absurd c_ (by decide)) (fun _ => ?_)
      refine lv_aload_n hx hb dX8_commands_34 rfl (lv_at hl 4 rfl) ?_
      refine lv_iload hx hb dX8_commands_35 (lv_at hl 2 rfl) ?_
      refine lv_bipush (v := 8) hx hb dX8_commands_37 (by decide) ?_
      refine lv_iload hx hb dX8_commands_39 (lv_at hl 0 rfl) ?_
      refine bAdd (v := 12) X dX8_commands_41 (by decide) ?_
      refine lv_iconst (v := 0) hx hb dX8_commands_42 (by decide) ?_
      refine bVV (As := [.int 1, .int 12, .int 0]) (rest := []) (wc := [(mM, .inr (8, [.ref mN, .ref mR, .ref mA, .ref mP, .int ch, .ref mT, .int le, .int sp, .ref mD])), (mN, .inl (cyI, 515, .inl (upd (upd (upd (upd u_9_0 28 0) 29 0) 30 0) 31 0)))]) (w1 := [(mM, .inr (8, [.ref mN, .ref mR, .ref mA, .ref mP, .int ch, .ref mT, .int le, .int sp, .ref mD])), (mN, .inl (cyI, 515, .inl (upd (upd (upd (upd (upd u_9_0 28 0) 29 0) 30 0) 31 0) 32 0)))]) (ws' := [(mM, .inr (8, [.ref mN, .ref mR, .ref mA, .ref mP, .int ch, .ref mT, .int le, .int sp, .ref mD])), (mN, .inl (cyI, 515, .inl (upd (upd (upd (upd (upd u_9_0 28 0) 29 0) 30 0) 31 0) 32 0)))]) (ad := [mM, mN]) (wr := []) (nn := 2) (ci := 8) (q0 := 0) X Y (c_tells8 l D cyC cyI mM mN mR mA mP mT mD ch le sp (upd (upd (upd (upd u_9_0 28 0) 29 0) 30 0) 31 0) 1 12 0 (upd (upd (upd (upd (upd u_9_0 28 0) 29 0) 30 0) 31 0) 32 0) (bTells (i := 32) (by decide) rfl) (bInD (by decide))) gX8_commands_X8_tells rfl ⟨rfl, rfl⟩ hd_X8_tells ⟨(Nat.le_of_ble_eq_true rfl), (Nat.le_of_ble_eq_true rfl)⟩ rfl rfl rfl [0, 1] [] rfl rfl rfl rfl rfl rfl rfl rfl (by decide) rfl rfl hl.1 (Nat.le_of_ble_eq_true rfl) ⟨Nat.zero_le _, Nat.zero_le _⟩ dX8_commands_43 (fun H locs Y => ?_)
      refine lv_iinc (v := 5) (lv' := [(6, .int 5), (4, .int 2), (5, .int 1), (7, .int (w - (nw 13))), (0, .ref mM), (1, .int 0), (2, .int w), (3, .int pa)]) hx hb dX8_commands_46 hl (k := 0) rfl (by decide) (by decide) rfl (fun ls hl => ?_)
      refine lv_goto (tgt := 28) hx hb dX8_commands_49 (by decide) ?_
      refine lv_iload hx hb dX8_commands_28 (lv_at hl 0 rfl) ?_
      refine lv_iconst (v := 5) hx hb dX8_commands_30 (by decide) ?_
      refine lv_icmp_ge (tgt := 52) hx hb dX8_commands_31 (by decide) (fun _ => ?_) (fun c_ => absurd (by decide) c_)
      refine lv_iload_n hx hb dX8_commands_52 rfl (lv_at hl 6 rfl) ?_
      refine lv_aload_n hx hb dX8_commands_53 rfl (lv_at hl 4 rfl) ?_
      refine lv_iload hx hb dX8_commands_54 (lv_at hl 2 rfl) ?_
      refine lv_bipush (v := 6) hx hb dX8_commands_56 (by decide) ?_
      refine bVI0 (As := [.int 1, .int 6]) (rest := [.int w]) (wc := [(mM, .inr (8, [.ref mN, .ref mR, .ref mA, .ref mP, .int ch, .ref mT, .int le, .int sp, .ref mD])), (mN, .inl (cyI, 515, .inl (upd (upd (upd (upd (upd u_9_0 28 0) 29 0) 30 0) 31 0) 32 0)))]) (ci := 8) (q0 := 0) X Y (c_of8 l D cyC cyI mM mN mR mA mP mT mD ch le sp (upd (upd (upd (upd (upd u_9_0 28 0) 29 0) 30 0) 31 0) 32 0) 1 6 (u_9_0 26) (bOf (i := 26) (by decide) ((upd_ne (by decide)).trans ((upd_ne (by decide)).trans ((upd_ne (by decide)).trans ((upd_ne (by decide)).trans ((upd_ne (by decide)).trans rfl)))))) (bInD (by decide))) gX8_commands_X8_of rfl ⟨rfl, rfl⟩ hd_X8_of ⟨(Nat.le_of_ble_eq_true rfl), (Nat.le_of_ble_eq_true rfl)⟩ rfl rfl rfl [0, 1] rfl rfl rfl rfl hl.1 (Nat.le_of_ble_eq_true rfl) ⟨Nat.zero_le _, Nat.zero_le _⟩ dX8_commands_58 (fun H locs Y => ?_)
      refine bSub (v := w - (u_9_0 26)) X dX8_commands_61 rfl ?_
      refine lv_istore (lv' := [(6, .int (w - (u_9_0 26))), (4, .int 2), (5, .int 1), (7, .int (w - (nw 13))), (0, .ref mM), (1, .int 0), (2, .int w), (3, .int pa)]) hx hb dX8_commands_62 hl (by decide) rfl (fun ls hl => ?_)
      refine lv_iload_n hx hb dX8_commands_64 rfl (lv_at hl 7 rfl) ?_
      refine lv_if_ge (tgt := 73) hx hb dX8_commands_65 (by decide) (fun c_11 => ?_) (fun c_11 => ?_)
      · have c_11 : 0 ≤ pa := c_11
        exact absurd c_11 c_1
      · have c_11 : ¬ (0 ≤ pa) := c_11
        refine lv_iload hx hb dX8_commands_68 (lv_at hl 0 rfl) ?_
        refine lv_goto (tgt := 77) hx hb dX8_commands_70 (by decide) ?_
        refine lv_istore (lv' := [(7, .int (w - (u_9_0 26))), (6, .int (w - (u_9_0 26))), (4, .int 2), (5, .int 1), (0, .ref mM), (1, .int 0), (2, .int w), (3, .int pa)]) hx hb dX8_commands_77 hl (by decide) rfl (fun ls hl => ?_)
        refine lv_aload_n hx hb dX8_commands_79 rfl (lv_at hl 4 rfl) ?_
        refine lv_iload hx hb dX8_commands_80 (lv_at hl 3 rfl) ?_
        refine lv_aload_n hx hb dX8_commands_82 rfl (lv_at hl 4 rfl) ?_
        refine bGet (v := .ref mN) (T := TX8) (N := 9) (ci := 8) X Y i_X8_commands_X8 0 rfl rfl 0 (Nat.le_of_ble_eq_true rfl) f_X8_commands_7 rfl rfl dX8_commands_83 ?_
        refine lv_bipush (v := 6) hx hb dX8_commands_86 (by decide) ?_
        refine bIald (v := u_9_0 6) X Y 1 rfl (bInD (by decide)) dX8_commands_88 ((upd_ne (by decide)).trans ((upd_ne (by decide)).trans ((upd_ne (by decide)).trans ((upd_ne (by decide)).trans ((upd_ne (by decide)).trans rfl))))) ?_
        refine lv_iconst (v := 1) hx hb dX8_commands_89 (by decide) ?_
        refine bAdd (v := (u_9_0 6) + 1) X dX8_commands_90 rfl ?_
        refine lv_iload hx hb dX8_commands_91 (lv_at hl 0 rfl) ?_
        obtain ⟨u_12_0, hr_12⟩ := bEx1 (s_addsStep8_1 (upd (upd (upd (upd (upd u_9_0 28 0) 29 0) 30 0) 31 0) 32 0) ((u_9_0 6) + 1) (w - (u_9_0 26)))
        rw [hr_12] at hu
        dsimp only at hu
        have asK_1_12 := asK_1 hr_12
        refine bVV (As := [.int 1, .int ((u_9_0 6) + 1), .int (w - (u_9_0 26))]) (rest := []) (wc := [(mM, .inr (8, [.ref mN, .ref mR, .ref mA, .ref mP, .int ch, .ref mT, .int le, .int sp, .ref mD])), (mN, .inl (cyI, 515, .inl (upd (upd (upd (upd (upd u_9_0 28 0) 29 0) 30 0) 31 0) 32 0)))]) (w1 := [(mM, .inr (8, [.ref mN, .ref mR, .ref mA, .ref mP, .int ch, .ref mT, .int le, .int sp, .ref mD])), (mN, .inl (cyI, 515, .inl u_12_0))]) (ws' := [(mM, .inr (8, [.ref mN, .ref mR, .ref mA, .ref mP, .int ch, .ref mT, .int le, .int sp, .ref mD])), (mN, .inl (cyI, 515, .inl u_12_0))]) (ad := [mM, mN]) (wr := []) (nn := 2) (ci := 8) (q0 := 0) X Y (c_addsStep8_1 l D cyC cyI mM mN mR mA mP mT mD ch le sp (upd (upd (upd (upd (upd u_9_0 28 0) 29 0) 30 0) 31 0) 32 0) ((u_9_0 6) + 1) (w - (u_9_0 26)) u_12_0 hr_12 (by first | exact Or.inl rfl | exact asK_1_1 rfl | exact asK_1_2 rfl | exact asK_1_3 rfl | exact asK_1_4 rfl | exact asK_1_5 rfl | exact asK_1_6 rfl | exact asK_1_7 rfl | exact asK_1_8 rfl | exact asK_1_9 rfl | exact asK_1_10 rfl | exact asK_1_11 rfl | exact asK_1_12 rfl | exact asK_1_13 rfl | exact asK_1_14 rfl | exact asK_1_15 rfl | exact asK_1_16 rfl | exact asK_1_17 rfl | exact asK_1_18 rfl | exact asK_1_19 rfl | exact asK_1_20 rfl | exact asK_1_21 rfl | exact asK_1_22 rfl | exact asK_1_23 rfl | exact asK_1_24 rfl | exact asK_1_25 rfl | exact asK_1_26 rfl | exact asK_1_27 rfl | exact asK_1_28 rfl | exact asK_1_29 rfl | exact asK_1_30 rfl | exact asK_1_31 rfl | exact asK_1_32 rfl | exact asK_1_33 rfl | exact asK_1_34 rfl | exact asK_1_35 rfl | exact asK_1_36 rfl | exact asK_1_37 rfl | exact asK_1_38 rfl | exact asK_1_39 rfl)) gX8_commands_X8_addsStep rfl ⟨rfl, rfl⟩ hd_X8_addsStep ⟨(Nat.le_of_ble_eq_true rfl), (Nat.le_of_ble_eq_true rfl)⟩ rfl rfl rfl [0, 1] [] rfl rfl rfl rfl rfl rfl rfl rfl (by decide) rfl rfl hl.1 (Nat.le_of_ble_eq_true rfl) ⟨Nat.zero_le _, Nat.zero_le _⟩ dX8_commands_93 (fun H locs Y => ?_)
        refine lv_aload_n hx hb dX8_commands_96 rfl (lv_at hl 4 rfl) ?_
        refine lv_iload hx hb dX8_commands_97 (lv_at hl 3 rfl) ?_
        refine lv_aload_n hx hb dX8_commands_99 rfl (lv_at hl 4 rfl) ?_
        refine bGet (v := .ref mN) (T := TX8) (N := 9) (ci := 8) X Y i_X8_commands_X8 0 rfl rfl 0 (Nat.le_of_ble_eq_true rfl) f_X8_commands_7 rfl rfl dX8_commands_100 ?_
        refine lv_bipush (v := 6) hx hb dX8_commands_103 (by decide) ?_
        refine bIald (v := u_12_0 6) X Y 1 rfl (bInD (by decide)) dX8_commands_105 rfl ?_
        refine lv_iconst (v := 1) hx hb dX8_commands_106 (by decide) ?_
        refine bAdd (v := (u_12_0 6) + 1) X dX8_commands_107 rfl ?_
        refine lv_iload_n hx hb dX8_commands_108 rfl (lv_at hl 7 rfl) ?_
        refine bAdd (v := ((u_12_0 6) + 1) + pa) X dX8_commands_109 rfl ?_
        refine lv_iload hx hb dX8_commands_110 (lv_at hl 1 rfl) ?_
        refine lv_iload hx hb dX8_commands_112 (lv_at hl 0 rfl) ?_
        refine bSub (v := (w - (u_9_0 26)) - (w - (u_9_0 26))) X dX8_commands_114 rfl ?_
        obtain ⟨u_13_0, hr_13⟩ := bEx1 (s_addsStep8_1 u_12_0 (((u_12_0 6) + 1) + pa) ((w - (u_9_0 26)) - (w - (u_9_0 26))))
        rw [hr_13] at hu
        dsimp only at hu
        have asK_1_13 := asK_1 hr_13
        refine bVV (As := [.int 1, .int (((u_12_0 6) + 1) + pa), .int ((w - (u_9_0 26)) - (w - (u_9_0 26)))]) (rest := []) (wc := [(mM, .inr (8, [.ref mN, .ref mR, .ref mA, .ref mP, .int ch, .ref mT, .int le, .int sp, .ref mD])), (mN, .inl (cyI, 515, .inl u_12_0))]) (w1 := [(mM, .inr (8, [.ref mN, .ref mR, .ref mA, .ref mP, .int ch, .ref mT, .int le, .int sp, .ref mD])), (mN, .inl (cyI, 515, .inl u_13_0))]) (ws' := [(mM, .inr (8, [.ref mN, .ref mR, .ref mA, .ref mP, .int ch, .ref mT, .int le, .int sp, .ref mD])), (mN, .inl (cyI, 515, .inl u_13_0))]) (ad := [mM, mN]) (wr := []) (nn := 2) (ci := 8) (q0 := 0) X Y (c_addsStep8_1 l D cyC cyI mM mN mR mA mP mT mD ch le sp u_12_0 (((u_12_0 6) + 1) + pa) ((w - (u_9_0 26)) - (w - (u_9_0 26))) u_13_0 hr_13 (by first | exact Or.inl rfl | exact asK_1_1 rfl | exact asK_1_2 rfl | exact asK_1_3 rfl | exact asK_1_4 rfl | exact asK_1_5 rfl | exact asK_1_6 rfl | exact asK_1_7 rfl | exact asK_1_8 rfl | exact asK_1_9 rfl | exact asK_1_10 rfl | exact asK_1_11 rfl | exact asK_1_12 rfl | exact asK_1_13 rfl | exact asK_1_14 rfl | exact asK_1_15 rfl | exact asK_1_16 rfl | exact asK_1_17 rfl | exact asK_1_18 rfl | exact asK_1_19 rfl | exact asK_1_20 rfl | exact asK_1_21 rfl | exact asK_1_22 rfl | exact asK_1_23 rfl | exact asK_1_24 rfl | exact asK_1_25 rfl | exact asK_1_26 rfl | exact asK_1_27 rfl | exact asK_1_28 rfl | exact asK_1_29 rfl | exact asK_1_30 rfl | exact asK_1_31 rfl | exact asK_1_32 rfl | exact asK_1_33 rfl | exact asK_1_34 rfl | exact asK_1_35 rfl | exact asK_1_36 rfl | exact asK_1_37 rfl | exact asK_1_38 rfl | exact asK_1_39 rfl)) gX8_commands_X8_addsStep rfl ⟨rfl, rfl⟩ hd_X8_addsStep ⟨(Nat.le_of_ble_eq_true rfl), (Nat.le_of_ble_eq_true rfl)⟩ rfl rfl rfl [0, 1] [] rfl rfl rfl rfl rfl rfl rfl rfl (by decide) rfl rfl hl.1 (Nat.le_of_ble_eq_true rfl) ⟨Nat.zero_le _, Nat.zero_le _⟩ dX8_commands_115 (fun H locs Y => ?_)
        refine lv_iinc (v := 2) (lv' := [(5, .int 2), (7, .int (w - (u_9_0 26))), (6, .int (w - (u_9_0 26))), (4, .int 2), (0, .ref mM), (1, .int 0), (2, .int w), (3, .int pa)]) hx hb dX8_commands_118 hl (k := 3) rfl (by decide) (by decide) rfl (fun ls hl => ?_)
        refine lv_goto (tgt := 6) hx hb dX8_commands_121 (by decide) ?_
        refine lv_iload hx hb dX8_commands_6 (lv_at hl 0 rfl) ?_
        refine lv_iconst (v := 2) hx hb dX8_commands_8 (by decide) ?_
        refine lv_icmp_ge (tgt := 124) hx hb dX8_commands_9 (by decide) (fun _ => ?_) (fun c_ => absurd (by decide) c_)
        refine lv_iload hx hb dX8_commands_124 (lv_at hl 3 rfl) ?_
        have h9 := (Prod.mk.inj hu).1; replace hu := (Prod.mk.inj hu).2; subst h9
        subst hu
        exact bEndI X Y hr hlk dX8_commands_126 rfl rfl
def s_commands8n_1 (nw : Nat → Int32) (w : Int32) : Int32 × (Nat → Int32) :=
  if (s_heeds8_01 nw) = true then
    match s_addsStep8_0 (upd (upd (upd (upd (upd nw 15 0) 16 0) 17 0) 18 0) 19 0) ((nw 6) + 1) (w - (nw 13)) with
    | (u_4_0, _) =>
      match s_addsStep8_0 u_4_0 (((u_4_0 6) + 1) + (-1)) ((w - (nw 13)) - (w - (nw 13))) with
      | (u_5_0, _) =>
        match s_addsStep8_1 (upd (upd (upd (upd (upd u_5_0 28 0) 29 0) 30 0) 31 0) 32 0) ((u_5_0 6) + 1) (w - (u_5_0 26)) with
        | (u_6_0, _) =>
          match s_addsStep8_1 u_6_0 (((u_6_0 6) + 1) + (-1)) ((w - (u_5_0 26)) - (w - (u_5_0 26))) with
          | (u_7_0, _) =>
            (2, u_7_0)
  else
    match s_addsStep8_1 (upd (upd (upd (upd (upd nw 28 0) 29 0) 30 0) 31 0) 32 0) ((nw 6) + 1) (w - (nw 26)) with
    | (u_2_0, _) =>
      match s_addsStep8_1 u_2_0 (((u_2_0 6) + 1) + (-1)) ((w - (nw 26)) - (w - (nw 26))) with
      | (u_3_0, _) =>
        (1, u_3_0)
set_option maxHeartbeats 4000000 in
set_option maxRecDepth 100000 in
theorem c_commands8n_1 (l : Launch) (D : va_G) (cyC cyI : ClassId) (mM : Nat) (mN : Nat) (mR : Nat) (mA : Nat) (mP : Nat) (mT : Nat) (mD : Nat) (ch : Int32) (le : Int32) (sp : Int32) (nw : Nat → Int32) (w : Int32) (o0 : Int32) (o1 : Nat → Int32) (hu : s_commands8n_1 nw w = (o0, o1)) : CI l yX8_commands wsX8_commands { frames := 2, cells := 0, slots := 0, locals := 47 } D cyC cyI [.ref mM, .int 1, .int w, .int (-1)] [(mM, .inr (8, [.ref mN, .ref mR, .ref mA, .ref mP, .int ch, .ref mT, .int le, .int sp, .ref mD])), (mN, .inl (cyI, 515, .inl nw))] o0 [(mM, .inr (8, [.ref mN, .ref mR, .ref mA, .ref mP, .int ch, .ref mT, .int le, .int sp, .ref mD])), (mN, .inl (cyI, 515, .inl o1))] := by
  refine CI.of (cc := cX8_commands) (n := 8) (ret := (some .int)) (by decide +kernel) rfl (Nat.le_of_ble_eq_true rfl) ?_
  intro p_ e_ s_ m_ bl_ me_ cd_ A_ ls X Y hr hlk hl
  have hx := X.1.1
  have hb := X.1.2.1
  have hl : lv_has ls 8 [(0, .ref mM), (1, .int 1), (2, .int w), (3, .int (-1))] := hl
  unfold s_commands8n_1 at hu
  refine lv_iconst (v := 0) hx hb dX8_commands_0 (by decide) ?_
  refine lv_istore (lv' := [(4, .int 0), (0, .ref mM), (1, .int 1), (2, .int w), (3, .int (-1))]) hx hb dX8_commands_1 hl (by decide) rfl (fun ls hl => ?_)
  refine lv_iconst (v := 0) hx hb dX8_commands_3 (by decide) ?_
  refine lv_istore (lv' := [(5, .int 0), (4, .int 0), (0, .ref mM), (1, .int 1), (2, .int w), (3, .int (-1))]) hx hb dX8_commands_4 hl (by decide) rfl (fun ls hl => ?_)
  refine lv_iload hx hb dX8_commands_6 (lv_at hl 0 rfl) ?_
  refine lv_iconst (v := 2) hx hb dX8_commands_8 (by decide) ?_
  refine lv_icmp_ge (tgt := 124) hx hb dX8_commands_9 (by decide) (fun c_ => absurd c_ (by decide)) (fun _ => ?_)
  refine lv_aload_n hx hb dX8_commands_12 rfl (lv_at hl 2 rfl) ?_
  refine lv_iload hx hb dX8_commands_13 (lv_at hl 0 rfl) ?_
  refine lv_iload_n hx hb dX8_commands_15 rfl (lv_at hl 3 rfl) ?_
  refine bVI0 (As := [.int 0, .int 1]) (rest := []) (wc := [(mM, .inr (8, [.ref mN, .ref mR, .ref mA, .ref mP, .int ch, .ref mT, .int le, .int sp, .ref mD])), (mN, .inl (cyI, 515, .inl nw))]) (ci := 8) (q0 := 0) X Y (c_heeds8_01 l D cyC cyI mM mN mR mA mP mT mD ch le sp nw (s_heeds8_01 nw) rfl) gX8_commands_X8_heeds rfl ⟨rfl, rfl⟩ hd_X8_heeds ⟨(Nat.le_of_ble_eq_true rfl), (Nat.le_of_ble_eq_true rfl)⟩ rfl rfl rfl [0, 1] rfl rfl rfl rfl hl.1 (Nat.le_of_ble_eq_true rfl) ⟨Nat.zero_le _, Nat.zero_le _⟩ dX8_commands_16 (fun H locs Y => ?_)
  refine lv_if_eq (tgt := 118) hx hb dX8_commands_19 (by decide) (fun c_1 => ?_) (fun c_1 => ?_)
  · have c_1 := bB_f c_1
    rw [if_neg c_1] at hu
    refine lv_iinc (v := 1) (lv' := [(5, .int 1), (4, .int 0), (0, .ref mM), (1, .int 1), (2, .int w), (3, .int (-1))]) hx hb dX8_commands_118 hl (k := 0) rfl (by decide) (by decide) rfl (fun ls hl => ?_)
    refine lv_goto (tgt := 6) hx hb dX8_commands_121 (by decide) ?_
    refine lv_iload hx hb dX8_commands_6 (lv_at hl 0 rfl) ?_
    refine lv_iconst (v := 2) hx hb dX8_commands_8 (by decide) ?_
    refine lv_icmp_ge (tgt := 124) hx hb dX8_commands_9 (by decide) (fun c_ => absurd c_ (by decide)) (fun _ => ?_)
    refine lv_aload_n hx hb dX8_commands_12 rfl (lv_at hl 2 rfl) ?_
    refine lv_iload hx hb dX8_commands_13 (lv_at hl 0 rfl) ?_
    refine lv_iload_n hx hb dX8_commands_15 rfl (lv_at hl 3 rfl) ?_
    refine bVI0 (As := [.int 1, .int 1]) (rest := []) (wc := [(mM, .inr (8, [.ref mN, .ref mR, .ref mA, .ref mP, .int ch, .ref mT, .int le, .int sp, .ref mD])), (mN, .inl (cyI, 515, .inl nw))]) (ci := 8) (q0 := 0) X Y (c_heeds8_11 l D cyC cyI mM mN mR mA mP mT mD ch le sp nw true rfl) gX8_commands_X8_heeds rfl ⟨rfl, rfl⟩ hd_X8_heeds ⟨(Nat.le_of_ble_eq_true rfl), (Nat.le_of_ble_eq_true rfl)⟩ rfl rfl rfl [0, 1] rfl rfl rfl rfl hl.1 (Nat.le_of_ble_eq_true rfl) ⟨Nat.zero_le _, Nat.zero_le _⟩ dX8_commands_16 (fun H locs Y => ?_)
    refine lv_if_eq (tgt := 118) hx hb dX8_commands_19 (by decide) (fun c_ => absurd c_ (by decide)) (fun _ => ?_)
    refine lv_iinc (v := 1) (lv' := [(4, .int 1), (5, .int 1), (0, .ref mM), (1, .int 1), (2, .int w), (3, .int (-1))]) hx hb dX8_commands_22 hl (k := 1) rfl (by decide) (by decide) rfl (fun ls hl => ?_)
    refine lv_iconst (v := 0) hx hb dX8_commands_25 (by decide) ?_
    refine lv_istore (lv' := [(6, .int 0), (4, .int 1), (5, .int 1), (0, .ref mM), (1, .int 1), (2, .int w), (3, .int (-1))]) hx hb dX8_commands_26 hl (by decide) rfl (fun ls hl => ?_)
    refine lv_iload hx hb dX8_commands_28 (lv_at hl 0 rfl) ?_
    refine lv_iconst (v := 5) hx hb dX8_commands_30 (by decide) ?_
    refine lv_icmp_ge (tgt := 52) hx hb dX8_commands_31 (by decide) (fun c_ => absurd c_ (by decide)) (fun _ => ?_)
    refine lv_aload_n hx hb dX8_commands_34 rfl (lv_at hl 3 rfl) ?_
    refine lv_iload hx hb dX8_commands_35 (lv_at hl 2 rfl) ?_
    refine lv_bipush (v := 8) hx hb dX8_commands_37 (by decide) ?_
    refine lv_iload hx hb dX8_commands_39 (lv_at hl 0 rfl) ?_
    refine bAdd (v := 8) X dX8_commands_41 (by decide) ?_
    refine lv_iconst (v := 0) hx hb dX8_commands_42 (by decide) ?_
    refine bVV (As := [.int 1, .int 8, .int 0]) (rest := []) (wc := [(mM, .inr (8, [.ref mN, .ref mR, .ref mA, .ref mP, .int ch, .ref mT, .int le, .int sp, .ref mD])), (mN, .inl (cyI, 515, .inl nw))]) (w1 := [(mM, .inr (8, [.ref mN, .ref mR, .ref mA, .ref mP, .int ch, .ref mT, .int le, .int sp, .ref mD])), (mN, .inl (cyI, 515, .inl (upd nw 28 0)))]) (ws' := [(mM, .inr (8, [.ref mN, .ref mR, .ref mA, .ref mP, .int ch, .ref mT, .int le, .int sp, .ref mD])), (mN, .inl (cyI, 515, .inl (upd nw 28 0)))]) (ad := [mM, mN]) (wr := []) (nn := 2) (ci := 8) (q0 := 0) X Y (c_tells8 l D cyC cyI mM mN mR mA mP mT mD ch le sp nw 1 8 0 (upd nw 28 0) (bTells (i := 28) (by decide) rfl) (bInD (by decide))) gX8_commands_X8_tells rfl ⟨rfl, rfl⟩ hd_X8_tells ⟨(Nat.le_of_ble_eq_true rfl), (Nat.le_of_ble_eq_true rfl)⟩ rfl rfl rfl [0, 1] [] rfl rfl rfl rfl rfl rfl rfl rfl (by decide) rfl rfl hl.1 (Nat.le_of_ble_eq_true rfl) ⟨Nat.zero_le _, Nat.zero_le _⟩ dX8_commands_43 (fun H locs Y => ?_)
    refine lv_iinc (v := 1) (lv' := [(6, .int 1), (4, .int 1), (5, .int 1), (0, .ref mM), (1, .int 1), (2, .int w), (3, .int (-1))]) hx hb dX8_commands_46 hl (k := 0) rfl (by decide) (by decide) rfl (fun ls hl => ?_)
    refine lv_goto (tgt := 28) hx hb dX8_commands_49 (by decide) ?_
    refine lv_iload hx hb dX8_commands_28 (lv_at hl 0 rfl) ?_
    refine lv_iconst (v := 5) hx hb dX8_commands_30 (by decide) ?_
    refine lv_icmp_ge (tgt := 52) hx hb dX8_commands_31 (by decide) (fun c_ => absurd c_ (by decide)) (fun _ => ?_)
    refine lv_aload_n hx hb dX8_commands_34 rfl (lv_at hl 3 rfl) ?_
    refine lv_iload hx hb dX8_commands_35 (lv_at hl 2 rfl) ?_
    refine lv_bipush (v := 8) hx hb dX8_commands_37 (by decide) ?_
    refine lv_iload hx hb dX8_commands_39 (lv_at hl 0 rfl) ?_
    refine bAdd (v := 9) X dX8_commands_41 (by decide) ?_
    refine lv_iconst (v := 0) hx hb dX8_commands_42 (by decide) ?_
    refine bVV (As := [.int 1, .int 9, .int 0]) (rest := []) (wc := [(mM, .inr (8, [.ref mN, .ref mR, .ref mA, .ref mP, .int ch, .ref mT, .int le, .int sp, .ref mD])), (mN, .inl (cyI, 515, .inl (upd nw 28 0)))]) (w1 := [(mM, .inr (8, [.ref mN, .ref mR, .ref mA, .ref mP, .int ch, .ref mT, .int le, .int sp, .ref mD])), (mN, .inl (cyI, 515, .inl (upd (upd nw 28 0) 29 0)))]) (ws' := [(mM, .inr (8, [.ref mN, .ref mR, .ref mA, .ref mP, .int ch, .ref mT, .int le, .int sp, .ref mD])), (mN, .inl (cyI, 515, .inl (upd (upd nw 28 0) 29 0)))]) (ad := [mM, mN]) (wr := []) (nn := 2) (ci := 8) (q0 := 0) X Y (c_tells8 l D cyC cyI mM mN mR mA mP mT mD ch le sp (upd nw 28 0) 1 9 0 (upd (upd nw 28 0) 29 0) (bTells (i := 29) (by decide) rfl) (bInD (by decide))) gX8_commands_X8_tells rfl ⟨rfl, rfl⟩ hd_X8_tells ⟨(Nat.le_of_ble_eq_true rfl), (Nat.le_of_ble_eq_true rfl)⟩ rfl rfl rfl [0, 1] [] rfl rfl rfl rfl rfl rfl rfl rfl (by decide) rfl rfl hl.1 (Nat.le_of_ble_eq_true rfl) ⟨Nat.zero_le _, Nat.zero_le _⟩ dX8_commands_43 (fun H locs Y => ?_)
    refine lv_iinc (v := 2) (lv' := [(6, .int 2), (4, .int 1), (5, .int 1), (0, .ref mM), (1, .int 1), (2, .int w), (3, .int (-1))]) hx hb dX8_commands_46 hl (k := 0) rfl (by decide) (by decide) rfl (fun ls hl => ?_)
    refine lv_goto (tgt := 28) hx hb dX8_commands_49 (by decide) ?_
    refine lv_iload hx hb dX8_commands_28 (lv_at hl 0 rfl) ?_
    refine lv_iconst (v := 5) hx hb dX8_commands_30 (by decide) ?_
    refine lv_icmp_ge (tgt := 52) hx hb dX8_commands_31 (by decide) (fun c_ => absurd c_ (by decide)) (fun _ => ?_)
    refine lv_aload_n hx hb dX8_commands_34 rfl (lv_at hl 3 rfl) ?_
    refine lv_iload hx hb dX8_commands_35 (lv_at hl 2 rfl) ?_
    refine lv_bipush (v := 8) hx hb dX8_commands_37 (by decide) ?_
    refine lv_iload hx hb dX8_commands_39 (lv_at hl 0 rfl) ?_
    refine bAdd (v := 10) X dX8_commands_41 (by decide) ?_
    refine lv_iconst (v := 0) hx hb dX8_commands_42 (by decide) ?_
    refine bVV (As := [.int 1, .int 10, .int 0]) (rest := []) (wc := [(mM, .inr (8, [.ref mN, .ref mR, .ref mA, .ref mP, .int ch, .ref mT, .int le, .int sp, .ref mD])), (mN, .inl (cyI, 515, .inl (upd (upd nw 28 0) 29 0)))]) (w1 := [(mM, .inr (8, [.ref mN, .ref mR, .ref mA, .ref mP, .int ch, .ref mT, .int le, .int sp, .ref mD])), (mN, .inl (cyI, 515, .inl (upd (upd (upd nw 28 0) 29 0) 30 0)))]) (ws' := [(mM, .inr (8, [.ref mN, .ref mR, .ref mA, .ref mP, .int ch, .ref mT, .int le, .int sp, .ref mD])), (mN, .inl (cyI, 515, .inl (upd (upd (upd nw 28 0) 29 0) 30 0)))]) (ad := [mM, mN]) (wr := []) (nn := 2) (ci := 8) (q0 := 0) X Y (c_tells8 l D cyC cyI mM mN mR mA mP mT mD ch le sp (upd (upd nw 28 0) 29 0) 1 10 0 (upd (upd (upd nw 28 0) 29 0) 30 0) (bTells (i := 30) (by decide) rfl) (bInD (by decide))) gX8_commands_X8_tells rfl ⟨rfl, rfl⟩ hd_X8_tells ⟨(Nat.le_of_ble_eq_true rfl), (Nat.le_of_ble_eq_true rfl)⟩ rfl rfl rfl [0, 1] [] rfl rfl rfl rfl rfl rfl rfl rfl (by decide) rfl rfl hl.1 (Nat.le_of_ble_eq_true rfl) ⟨Nat.zero_le _, Nat.zero_le _⟩ dX8_commands_43 (fun H locs Y => ?_)
    refine lv_iinc (v := 3) (lv' := [(6, .int 3), (4, .int 1), (5, .int 1), (0, .ref mM), (1, .int 1), (2, .int w), (3, .int (-1))]) hx hb dX8_commands_46 hl (k := 0) rfl (by decide) (by decide) rfl (fun ls hl => ?_)
    refine lv_goto (tgt := 28) hx hb dX8_commands_49 (by decide) ?_
    refine lv_iload hx hb dX8_commands_28 (lv_at hl 0 rfl) ?_
    refine lv_iconst (v := 5) hx hb dX8_commands_30 (by decide) ?_
    refine lv_icmp_ge (tgt := 52) hx hb dX8_commands_31 (by decide) (fun c_ => absurd c_ (by decide)) (fun _ => ?_)
    refine lv_aload_n hx hb dX8_commands_34 rfl (lv_at hl 3 rfl) ?_
    refine lv_iload hx hb dX8_commands_35 (lv_at hl 2 rfl) ?_
    refine lv_bipush (v := 8) hx hb dX8_commands_37 (by decide) ?_
    refine lv_iload hx hb dX8_commands_39 (lv_at hl 0 rfl) ?_
    refine bAdd (v := 11) X dX8_commands_41 (by decide) ?_
    refine lv_iconst (v := 0) hx hb dX8_commands_42 (by decide) ?_
    refine bVV (As := [.int 1, .int 11, .int 0]) (rest := []) (wc := [(mM, .inr (8, [.ref mN, .ref mR, .ref mA, .ref mP, .int ch, .ref mT, .int le, .int sp, .ref mD])), (mN, .inl (cyI, 515, .inl (upd (upd (upd nw 28 0) 29 0) 30 0)))]) (w1 := [(mM, .inr (8, [.ref mN, .ref mR, .ref mA, .ref mP, .int ch, .ref mT, .int le, .int sp, .ref mD])), (mN, .inl (cyI, 515, .inl (upd (upd (upd (upd nw 28 0) 29 0) 30 0) 31 0)))]) (ws' := [(mM, .inr (8, [.ref mN, .ref mR, .ref mA, .ref mP, .int ch, .ref mT, .int le, .int sp, .ref mD])), (mN, .inl (cyI, 515, .inl (upd (upd (upd (upd nw 28 0) 29 0) 30 0) 31 0)))]) (ad := [mM, mN]) (wr := []) (nn := 2) (ci := 8) (q0 := 0) X Y (c_tells8 l D cyC cyI mM mN mR mA mP mT mD ch le sp (upd (upd (upd nw 28 0) 29 0) 30 0) 1 11 0 (upd (upd (upd (upd nw 28 0) 29 0) 30 0) 31 0) (bTells (i := 31) (by decide) rfl) (bInD (by decide))) gX8_commands_X8_tells rfl ⟨rfl, rfl⟩ hd_X8_tells ⟨(Nat.le_of_ble_eq_true rfl), (Nat.le_of_ble_eq_true rfl)⟩ rfl rfl rfl [0, 1] [] rfl rfl rfl rfl rfl rfl rfl rfl (by decide) rfl rfl hl.1 (Nat.le_of_ble_eq_true rfl) ⟨Nat.zero_le _, Nat.zero_le _⟩ dX8_commands_43 (fun H locs Y => ?_)
    refine lv_iinc (v := 4) (lv' := [(6, .int 4), (4, .int 1), (5, .int 1), (0, .ref mM), (1, .int 1), (2, .int w), (3, .int (-1))]) hx hb dX8_commands_46 hl (k := 0) rfl (by decide) (by decide) rfl (fun ls hl => ?_)
    refine lv_goto (tgt := 28) hx hb dX8_commands_49 (by decide) ?_
    refine lv_iload hx hb dX8_commands_28 (lv_at hl 0 rfl) ?_
    refine lv_iconst (v := 5) hx hb dX8_commands_30 (by decide) ?_
    refine lv_icmp_ge (tgt := 52) hx hb dX8_commands_31 (by decide) (fun c_ => absurd c_ (by decide)) (fun _ => ?_)
    refine lv_aload_n hx hb dX8_commands_34 rfl (lv_at hl 3 rfl) ?_
    refine lv_iload hx hb dX8_commands_35 (lv_at hl 2 rfl) ?_
    refine lv_bipush (v := 8) hx hb dX8_commands_37 (by decide) ?_
    refine lv_iload hx hb dX8_commands_39 (lv_at hl 0 rfl) ?_
    refine bAdd (v := 12) X dX8_commands_41 (by decide) ?_
    refine lv_iconst (v := 0) hx hb dX8_commands_42 (by decide) ?_
    refine bVV (As := [.int 1, .int 12, .int 0]) (rest := []) (wc := [(mM, .inr (8, [.ref mN, .ref mR, .ref mA, .ref mP, .int ch, .ref mT, .int le, .int sp, .ref mD])), (mN, .inl (cyI, 515, .inl (upd (upd (upd (upd nw 28 0) 29 0) 30 0) 31 0)))]) (w1 := [(mM, .inr (8, [.ref mN, .ref mR, .ref mA, .ref mP, .int ch, .ref mT, .int le, .int sp, .ref mD])), (mN, .inl (cyI, 515, .inl (upd (upd (upd (upd (upd nw 28 0) 29 0) 30 0) 31 0) 32 0)))]) (ws' := [(mM, .inr (8, [.ref mN, .ref mR, .ref mA, .ref mP, .int ch, .ref mT, .int le, .int sp, .ref mD])), (mN, .inl (cyI, 515, .inl (upd (upd (upd (upd (upd nw 28 0) 29 0) 30 0) 31 0) 32 0)))]) (ad := [mM, mN]) (wr := []) (nn := 2) (ci := 8) (q0 := 0) X Y (c_tells8 l D cyC cyI mM mN mR mA mP mT mD ch le sp (upd (upd (upd (upd nw 28 0) 29 0) 30 0) 31 0) 1 12 0 (upd (upd (upd (upd (upd nw 28 0) 29 0) 30 0) 31 0) 32 0) (bTells (i := 32) (by decide) rfl) (bInD (by decide))) gX8_commands_X8_tells rfl ⟨rfl, rfl⟩ hd_X8_tells ⟨(Nat.le_of_ble_eq_true rfl), (Nat.le_of_ble_eq_true rfl)⟩ rfl rfl rfl [0, 1] [] rfl rfl rfl rfl rfl rfl rfl rfl (by decide) rfl rfl hl.1 (Nat.le_of_ble_eq_true rfl) ⟨Nat.zero_le _, Nat.zero_le _⟩ dX8_commands_43 (fun H locs Y => ?_)
    refine lv_iinc (v := 5) (lv' := [(6, .int 5), (4, .int 1), (5, .int 1), (0, .ref mM), (1, .int 1), (2, .int w), (3, .int (-1))]) hx hb dX8_commands_46 hl (k := 0) rfl (by decide) (by decide) rfl (fun ls hl => ?_)
    refine lv_goto (tgt := 28) hx hb dX8_commands_49 (by decide) ?_
    refine lv_iload hx hb dX8_commands_28 (lv_at hl 0 rfl) ?_
    refine lv_iconst (v := 5) hx hb dX8_commands_30 (by decide) ?_
    refine lv_icmp_ge (tgt := 52) hx hb dX8_commands_31 (by decide) (fun _ => ?_) (fun c_ => absurd (by decide) c_)
    refine lv_iload_n hx hb dX8_commands_52 rfl (lv_at hl 5 rfl) ?_
    refine lv_aload_n hx hb dX8_commands_53 rfl (lv_at hl 3 rfl) ?_
    refine lv_iload hx hb dX8_commands_54 (lv_at hl 2 rfl) ?_
    refine lv_bipush (v := 6) hx hb dX8_commands_56 (by decide) ?_
    refine bVI0 (As := [.int 1, .int 6]) (rest := [.int w]) (wc := [(mM, .inr (8, [.ref mN, .ref mR, .ref mA, .ref mP, .int ch, .ref mT, .int le, .int sp, .ref mD])), (mN, .inl (cyI, 515, .inl (upd (upd (upd (upd (upd nw 28 0) 29 0) 30 0) 31 0) 32 0)))]) (ci := 8) (q0 := 0) X Y (c_of8 l D cyC cyI mM mN mR mA mP mT mD ch le sp (upd (upd (upd (upd (upd nw 28 0) 29 0) 30 0) 31 0) 32 0) 1 6 (nw 26) (bOf (i := 26) (by decide) ((upd_ne (by decide)).trans ((upd_ne (by decide)).trans ((upd_ne (by decide)).trans ((upd_ne (by decide)).trans ((upd_ne (by decide)).trans rfl)))))) (bInD (by decide))) gX8_commands_X8_of rfl ⟨rfl, rfl⟩ hd_X8_of ⟨(Nat.le_of_ble_eq_true rfl), (Nat.le_of_ble_eq_true rfl)⟩ rfl rfl rfl [0, 1] rfl rfl rfl rfl hl.1 (Nat.le_of_ble_eq_true rfl) ⟨Nat.zero_le _, Nat.zero_le _⟩ dX8_commands_58 (fun H locs Y => ?_)
    refine bSub (v := w - (nw 26)) X dX8_commands_61 rfl ?_
    refine lv_istore (lv' := [(6, .int (w - (nw 26))), (4, .int 1), (5, .int 1), (0, .ref mM), (1, .int 1), (2, .int w), (3, .int (-1))]) hx hb dX8_commands_62 hl (by decide) rfl (fun ls hl => ?_)
    refine lv_iload_n hx hb dX8_commands_64 rfl (lv_at hl 6 rfl) ?_
    refine lv_if_ge (tgt := 73) hx hb dX8_commands_65 (by decide) (fun c_ => absurd c_ (by decide)) (fun _ => ?_)
    refine lv_iload hx hb dX8_commands_68 (lv_at hl 0 rfl) ?_
    refine lv_goto (tgt := 77) hx hb dX8_commands_70 (by decide) ?_
    refine lv_istore (lv' := [(7, .int (w - (nw 26))), (6, .int (w - (nw 26))), (4, .int 1), (5, .int 1), (0, .ref mM), (1, .int 1), (2, .int w), (3, .int (-1))]) hx hb dX8_commands_77 hl (by decide) rfl (fun ls hl => ?_)
    refine lv_aload_n hx hb dX8_commands_79 rfl (lv_at hl 4 rfl) ?_
    refine lv_iload hx hb dX8_commands_80 (lv_at hl 3 rfl) ?_
    refine lv_aload_n hx hb dX8_commands_82 rfl (lv_at hl 4 rfl) ?_
    refine bGet (v := .ref mN) (T := TX8) (N := 9) (ci := 8) X Y i_X8_commands_X8 0 rfl rfl 0 (Nat.le_of_ble_eq_true rfl) f_X8_commands_7 rfl rfl dX8_commands_83 ?_
    refine lv_bipush (v := 6) hx hb dX8_commands_86 (by decide) ?_
    refine bIald (v := nw 6) X Y 1 rfl (bInD (by decide)) dX8_commands_88 ((upd_ne (by decide)).trans ((upd_ne (by decide)).trans ((upd_ne (by decide)).trans ((upd_ne (by decide)).trans ((upd_ne (by decide)).trans rfl))))) ?_
    refine lv_iconst (v := 1) hx hb dX8_commands_89 (by decide) ?_
    refine bAdd (v := (nw 6) + 1) X dX8_commands_90 rfl ?_
    refine lv_iload hx hb dX8_commands_91 (lv_at hl 0 rfl) ?_
    obtain ⟨u_2_0, hr_2⟩ := bEx1 (s_addsStep8_1 (upd (upd (upd (upd (upd nw 28 0) 29 0) 30 0) 31 0) 32 0) ((nw 6) + 1) (w - (nw 26)))
    rw [hr_2] at hu
    dsimp only at hu
    have asK_1_2 := asK_1 hr_2
    refine bVV (As := [.int 1, .int ((nw 6) + 1), .int (w - (nw 26))]) (rest := []) (wc := [(mM, .inr (8, [.ref mN, .ref mR, .ref mA, .ref mP, .int ch, .ref mT, .int le, .int sp, .ref mD])), (mN, .inl (cyI, 515, .inl (upd (upd (upd (upd (upd nw 28 0) 29 0) 30 0) 31 0) 32 0)))]) (w1 := [(mM, .inr (8, [.ref mN, .ref mR, .ref mA, .ref mP, .int ch, .ref mT, .int le, .int sp, .ref mD])), (mN, .inl (cyI, 515, .inl u_2_0))]) (ws' := [(mM, .inr (8, [.ref mN, .ref mR, .ref mA, .ref mP, .int ch, .ref mT, .int le, .int sp, .ref mD])), (mN, .inl (cyI, 515, .inl u_2_0))]) (ad := [mM, mN]) (wr := []) (nn := 2) (ci := 8) (q0 := 0) X Y (c_addsStep8_1 l D cyC cyI mM mN mR mA mP mT mD ch le sp (upd (upd (upd (upd (upd nw 28 0) 29 0) 30 0) 31 0) 32 0) ((nw 6) + 1) (w - (nw 26)) u_2_0 hr_2 (by first | exact Or.inl rfl | exact asK_1_1 rfl | exact asK_1_2 rfl | exact asK_1_3 rfl | exact asK_1_4 rfl | exact asK_1_5 rfl | exact asK_1_6 rfl | exact asK_1_7 rfl | exact asK_1_8 rfl | exact asK_1_9 rfl | exact asK_1_10 rfl | exact asK_1_11 rfl | exact asK_1_12 rfl | exact asK_1_13 rfl | exact asK_1_14 rfl | exact asK_1_15 rfl | exact asK_1_16 rfl | exact asK_1_17 rfl | exact asK_1_18 rfl | exact asK_1_19 rfl | exact asK_1_20 rfl | exact asK_1_21 rfl | exact asK_1_22 rfl | exact asK_1_23 rfl | exact asK_1_24 rfl | exact asK_1_25 rfl | exact asK_1_26 rfl | exact asK_1_27 rfl | exact asK_1_28 rfl | exact asK_1_29 rfl | exact asK_1_30 rfl | exact asK_1_31 rfl | exact asK_1_32 rfl | exact asK_1_33 rfl | exact asK_1_34 rfl | exact asK_1_35 rfl | exact asK_1_36 rfl | exact asK_1_37 rfl | exact asK_1_38 rfl | exact asK_1_39 rfl)) gX8_commands_X8_addsStep rfl ⟨rfl, rfl⟩ hd_X8_addsStep ⟨(Nat.le_of_ble_eq_true rfl), (Nat.le_of_ble_eq_true rfl)⟩ rfl rfl rfl [0, 1] [] rfl rfl rfl rfl rfl rfl rfl rfl (by decide) rfl rfl hl.1 (Nat.le_of_ble_eq_true rfl) ⟨Nat.zero_le _, Nat.zero_le _⟩ dX8_commands_93 (fun H locs Y => ?_)
    refine lv_aload_n hx hb dX8_commands_96 rfl (lv_at hl 4 rfl) ?_
    refine lv_iload hx hb dX8_commands_97 (lv_at hl 3 rfl) ?_
    refine lv_aload_n hx hb dX8_commands_99 rfl (lv_at hl 4 rfl) ?_
    refine bGet (v := .ref mN) (T := TX8) (N := 9) (ci := 8) X Y i_X8_commands_X8 0 rfl rfl 0 (Nat.le_of_ble_eq_true rfl) f_X8_commands_7 rfl rfl dX8_commands_100 ?_
    refine lv_bipush (v := 6) hx hb dX8_commands_103 (by decide) ?_
    refine bIald (v := u_2_0 6) X Y 1 rfl (bInD (by decide)) dX8_commands_105 rfl ?_
    refine lv_iconst (v := 1) hx hb dX8_commands_106 (by decide) ?_
    refine bAdd (v := (u_2_0 6) + 1) X dX8_commands_107 rfl ?_
    refine lv_iload_n hx hb dX8_commands_108 rfl (lv_at hl 7 rfl) ?_
    refine bAdd (v := ((u_2_0 6) + 1) + (-1)) X dX8_commands_109 rfl ?_
    refine lv_iload hx hb dX8_commands_110 (lv_at hl 1 rfl) ?_
    refine lv_iload hx hb dX8_commands_112 (lv_at hl 0 rfl) ?_
    refine bSub (v := (w - (nw 26)) - (w - (nw 26))) X dX8_commands_114 rfl ?_
    obtain ⟨u_3_0, hr_3⟩ := bEx1 (s_addsStep8_1 u_2_0 (((u_2_0 6) + 1) + (-1)) ((w - (nw 26)) - (w - (nw 26))))
    rw [hr_3] at hu
    dsimp only at hu
    have asK_1_3 := asK_1 hr_3
    refine bVV (As := [.int 1, .int (((u_2_0 6) + 1) + (-1)), .int ((w - (nw 26)) - (w - (nw 26)))]) (rest := []) (wc := [(mM, .inr (8, [.ref mN, .ref mR, .ref mA, .ref mP, .int ch, .ref mT, .int le, .int sp, .ref mD])), (mN, .inl (cyI, 515, .inl u_2_0))]) (w1 := [(mM, .inr (8, [.ref mN, .ref mR, .ref mA, .ref mP, .int ch, .ref mT, .int le, .int sp, .ref mD])), (mN, .inl (cyI, 515, .inl u_3_0))]) (ws' := [(mM, .inr (8, [.ref mN, .ref mR, .ref mA, .ref mP, .int ch, .ref mT, .int le, .int sp, .ref mD])), (mN, .inl (cyI, 515, .inl u_3_0))]) (ad := [mM, mN]) (wr := []) (nn := 2) (ci := 8) (q0 := 0) X Y (c_addsStep8_1 l D cyC cyI mM mN mR mA mP mT mD ch le sp u_2_0 (((u_2_0 6) + 1) + (-1)) ((w - (nw 26)) - (w - (nw 26))) u_3_0 hr_3 (by first | exact Or.inl rfl | exact asK_1_1 rfl | exact asK_1_2 rfl | exact asK_1_3 rfl | exact asK_1_4 rfl | exact asK_1_5 rfl | exact asK_1_6 rfl | exact asK_1_7 rfl | exact asK_1_8 rfl | exact asK_1_9 rfl | exact asK_1_10 rfl | exact asK_1_11 rfl | exact asK_1_12 rfl | exact asK_1_13 rfl | exact asK_1_14 rfl | exact asK_1_15 rfl | exact asK_1_16 rfl | exact asK_1_17 rfl | exact asK_1_18 rfl | exact asK_1_19 rfl | exact asK_1_20 rfl | exact asK_1_21 rfl | exact asK_1_22 rfl | exact asK_1_23 rfl | exact asK_1_24 rfl | exact asK_1_25 rfl | exact asK_1_26 rfl | exact asK_1_27 rfl | exact asK_1_28 rfl | exact asK_1_29 rfl | exact asK_1_30 rfl | exact asK_1_31 rfl | exact asK_1_32 rfl | exact asK_1_33 rfl | exact asK_1_34 rfl | exact asK_1_35 rfl | exact asK_1_36 rfl | exact asK_1_37 rfl | exact asK_1_38 rfl | exact asK_1_39 rfl)) gX8_commands_X8_addsStep rfl ⟨rfl, rfl⟩ hd_X8_addsStep ⟨(Nat.le_of_ble_eq_true rfl), (Nat.le_of_ble_eq_true rfl)⟩ rfl rfl rfl [0, 1] [] rfl rfl rfl rfl rfl rfl rfl rfl (by decide) rfl rfl hl.1 (Nat.le_of_ble_eq_true rfl) ⟨Nat.zero_le _, Nat.zero_le _⟩ dX8_commands_115 (fun H locs Y => ?_)
    refine lv_iinc (v := 2) (lv' := [(5, .int 2), (7, .int (w - (nw 26))), (6, .int (w - (nw 26))), (4, .int 1), (0, .ref mM), (1, .int 1), (2, .int w), (3, .int (-1))]) hx hb dX8_commands_118 hl (k := 3) rfl (by decide) (by decide) rfl (fun ls hl => ?_)
    refine lv_goto (tgt := 6) hx hb dX8_commands_121 (by decide) ?_
    refine lv_iload hx hb dX8_commands_6 (lv_at hl 0 rfl) ?_
    refine lv_iconst (v := 2) hx hb dX8_commands_8 (by decide) ?_
    refine lv_icmp_ge (tgt := 124) hx hb dX8_commands_9 (by decide) (fun _ => ?_) (fun c_ => absurd (by decide) c_)
    refine lv_iload hx hb dX8_commands_124 (lv_at hl 3 rfl) ?_
    have h9 := (Prod.mk.inj hu).1; replace hu := (Prod.mk.inj hu).2; subst h9
    subst hu
    exact bEndI X Y hr hlk dX8_commands_126 rfl rfl
  · have c_1 := bB_t c_1
    rw [if_pos c_1] at hu
    refine lv_iinc (v := 1) (lv' := [(4, .int 1), (5, .int 0), (0, .ref mM), (1, .int 1), (2, .int w), (3, .int (-1))]) hx hb dX8_commands_22 hl (k := 1) rfl (by decide) (by decide) rfl (fun ls hl => ?_)
    refine lv_iconst (v := 0) hx hb dX8_commands_25 (by decide) ?_
    refine lv_istore (lv' := [(6, .int 0), (4, .int 1), (5, .int 0), (0, .ref mM), (1, .int 1), (2, .int w), (3, .int (-1))]) hx hb dX8_commands_26 hl (by decide) rfl (fun ls hl => ?_)
    refine lv_iload hx hb dX8_commands_28 (lv_at hl 0 rfl) ?_
    refine lv_iconst (v := 5) hx hb dX8_commands_30 (by decide) ?_
    refine lv_icmp_ge (tgt := 52) hx hb dX8_commands_31 (by decide) (fun c_ => absurd c_ (by decide)) (fun _ => ?_)
    refine lv_aload_n hx hb dX8_commands_34 rfl (lv_at hl 3 rfl) ?_
    refine lv_iload hx hb dX8_commands_35 (lv_at hl 2 rfl) ?_
    refine lv_bipush (v := 8) hx hb dX8_commands_37 (by decide) ?_
    refine lv_iload hx hb dX8_commands_39 (lv_at hl 0 rfl) ?_
    refine bAdd (v := 8) X dX8_commands_41 (by decide) ?_
    refine lv_iconst (v := 0) hx hb dX8_commands_42 (by decide) ?_
    refine bVV (As := [.int 0, .int 8, .int 0]) (rest := []) (wc := [(mM, .inr (8, [.ref mN, .ref mR, .ref mA, .ref mP, .int ch, .ref mT, .int le, .int sp, .ref mD])), (mN, .inl (cyI, 515, .inl nw))]) (w1 := [(mM, .inr (8, [.ref mN, .ref mR, .ref mA, .ref mP, .int ch, .ref mT, .int le, .int sp, .ref mD])), (mN, .inl (cyI, 515, .inl (upd nw 15 0)))]) (ws' := [(mM, .inr (8, [.ref mN, .ref mR, .ref mA, .ref mP, .int ch, .ref mT, .int le, .int sp, .ref mD])), (mN, .inl (cyI, 515, .inl (upd nw 15 0)))]) (ad := [mM, mN]) (wr := []) (nn := 2) (ci := 8) (q0 := 0) X Y (c_tells8 l D cyC cyI mM mN mR mA mP mT mD ch le sp nw 0 8 0 (upd nw 15 0) (bTells (i := 15) (by decide) rfl) (bInD (by decide))) gX8_commands_X8_tells rfl ⟨rfl, rfl⟩ hd_X8_tells ⟨(Nat.le_of_ble_eq_true rfl), (Nat.le_of_ble_eq_true rfl)⟩ rfl rfl rfl [0, 1] [] rfl rfl rfl rfl rfl rfl rfl rfl (by decide) rfl rfl hl.1 (Nat.le_of_ble_eq_true rfl) ⟨Nat.zero_le _, Nat.zero_le _⟩ dX8_commands_43 (fun H locs Y => ?_)
    refine lv_iinc (v := 1) (lv' := [(6, .int 1), (4, .int 1), (5, .int 0), (0, .ref mM), (1, .int 1), (2, .int w), (3, .int (-1))]) hx hb dX8_commands_46 hl (k := 0) rfl (by decide) (by decide) rfl (fun ls hl => ?_)
    refine lv_goto (tgt := 28) hx hb dX8_commands_49 (by decide) ?_
    refine lv_iload hx hb dX8_commands_28 (lv_at hl 0 rfl) ?_
    refine lv_iconst (v := 5) hx hb dX8_commands_30 (by decide) ?_
    refine lv_icmp_ge (tgt := 52) hx hb dX8_commands_31 (by decide) (fun c_ => absurd c_ (by decide)) (fun _ => ?_)
    refine lv_aload_n hx hb dX8_commands_34 rfl (lv_at hl 3 rfl) ?_
    refine lv_iload hx hb dX8_commands_35 (lv_at hl 2 rfl) ?_
    refine lv_bipush (v := 8) hx hb dX8_commands_37 (by decide) ?_
    refine lv_iload hx hb dX8_commands_39 (lv_at hl 0 rfl) ?_
    refine bAdd (v := 9) X dX8_commands_41 (by decide) ?_
    refine lv_iconst (v := 0) hx hb dX8_commands_42 (by decide) ?_
    refine bVV (As := [.int 0, .int 9, .int 0]) (rest := []) (wc := [(mM, .inr (8, [.ref mN, .ref mR, .ref mA, .ref mP, .int ch, .ref mT, .int le, .int sp, .ref mD])), (mN, .inl (cyI, 515, .inl (upd nw 15 0)))]) (w1 := [(mM, .inr (8, [.ref mN, .ref mR, .ref mA, .ref mP, .int ch, .ref mT, .int le, .int sp, .ref mD])), (mN, .inl (cyI, 515, .inl (upd (upd nw 15 0) 16 0)))]) (ws' := [(mM, .inr (8, [.ref mN, .ref mR, .ref mA, .ref mP, .int ch, .ref mT, .int le, .int sp, .ref mD])), (mN, .inl (cyI, 515, .inl (upd (upd nw 15 0) 16 0)))]) (ad := [mM, mN]) (wr := []) (nn := 2) (ci := 8) (q0 := 0) X Y (c_tells8 l D cyC cyI mM mN mR mA mP mT mD ch le sp (upd nw 15 0) 0 9 0 (upd (upd nw 15 0) 16 0) (bTells (i := 16) (by decide) rfl) (bInD (by decide))) gX8_commands_X8_tells rfl ⟨rfl, rfl⟩ hd_X8_tells ⟨(Nat.le_of_ble_eq_true rfl), (Nat.le_of_ble_eq_true rfl)⟩ rfl rfl rfl [0, 1] [] rfl rfl rfl rfl rfl rfl rfl rfl (by decide) rfl rfl hl.1 (Nat.le_of_ble_eq_true rfl) ⟨Nat.zero_le _, Nat.zero_le _⟩ dX8_commands_43 (fun H locs Y => ?_)
    refine lv_iinc (v := 2) (lv' := [(6, .int 2), (4, .int 1), (5, .int 0), (0, .ref mM), (1, .int 1), (2, .int w), (3, .int (-1))]) hx hb dX8_commands_46 hl (k := 0) rfl (by decide) (by decide) rfl (fun ls hl => ?_)
    refine lv_goto (tgt := 28) hx hb dX8_commands_49 (by decide) ?_
    refine lv_iload hx hb dX8_commands_28 (lv_at hl 0 rfl) ?_
    refine lv_iconst (v := 5) hx hb dX8_commands_30 (by decide) ?_
    refine lv_icmp_ge (tgt := 52) hx hb dX8_commands_31 (by decide) (fun c_ => absurd c_ (by decide)) (fun _ => ?_)
    refine lv_aload_n hx hb dX8_commands_34 rfl (lv_at hl 3 rfl) ?_
    refine lv_iload hx hb dX8_commands_35 (lv_at hl 2 rfl) ?_
    refine lv_bipush (v := 8) hx hb dX8_commands_37 (by decide) ?_
    refine lv_iload hx hb dX8_commands_39 (lv_at hl 0 rfl) ?_
    refine bAdd (v := 10) X dX8_commands_41 (by decide) ?_
    refine lv_iconst (v := 0) hx hb dX8_commands_42 (by decide) ?_
    refine bVV (As := [.int 0, .int 10, .int 0]) (rest := []) (wc := [(mM, .inr (8, [.ref mN, .ref mR, .ref mA, .ref mP, .int ch, .ref mT, .int le, .int sp, .ref mD])), (mN, .inl (cyI, 515, .inl (upd (upd nw 15 0) 16 0)))]) (w1 := [(mM, .inr (8, [.ref mN, .ref mR, .ref mA, .ref mP, .int ch, .ref mT, .int le, .int sp, .ref mD])), (mN, .inl (cyI, 515, .inl (upd (upd (upd nw 15 0) 16 0) 17 0)))]) (ws' := [(mM, .inr (8, [.ref mN, .ref mR, .ref mA, .ref mP, .int ch, .ref mT, .int le, .int sp, .ref mD])), (mN, .inl (cyI, 515, .inl (upd (upd (upd nw 15 0) 16 0) 17 0)))]) (ad := [mM, mN]) (wr := []) (nn := 2) (ci := 8) (q0 := 0) X Y (c_tells8 l D cyC cyI mM mN mR mA mP mT mD ch le sp (upd (upd nw 15 0) 16 0) 0 10 0 (upd (upd (upd nw 15 0) 16 0) 17 0) (bTells (i := 17) (by decide) rfl) (bInD (by decide))) gX8_commands_X8_tells rfl ⟨rfl, rfl⟩ hd_X8_tells ⟨(Nat.le_of_ble_eq_true rfl), (Nat.le_of_ble_eq_true rfl)⟩ rfl rfl rfl [0, 1] [] rfl rfl rfl rfl rfl rfl rfl rfl (by decide) rfl rfl hl.1 (Nat.le_of_ble_eq_true rfl) ⟨Nat.zero_le _, Nat.zero_le _⟩ dX8_commands_43 (fun H locs Y => ?_)
    refine lv_iinc (v := 3) (lv' := [(6, .int 3), (4, .int 1), (5, .int 0), (0, .ref mM), (1, .int 1), (2, .int w), (3, .int (-1))]) hx hb dX8_commands_46 hl (k := 0) rfl (by decide) (by decide) rfl (fun ls hl => ?_)
    refine lv_goto (tgt := 28) hx hb dX8_commands_49 (by decide) ?_
    refine lv_iload hx hb dX8_commands_28 (lv_at hl 0 rfl) ?_
    refine lv_iconst (v := 5) hx hb dX8_commands_30 (by decide) ?_
    refine lv_icmp_ge (tgt := 52) hx hb dX8_commands_31 (by decide) (fun c_ => absurd c_ (by decide)) (fun _ => ?_)
    refine lv_aload_n hx hb dX8_commands_34 rfl (lv_at hl 3 rfl) ?_
    refine lv_iload hx hb dX8_commands_35 (lv_at hl 2 rfl) ?_
    refine lv_bipush (v := 8) hx hb dX8_commands_37 (by decide) ?_
    refine lv_iload hx hb dX8_commands_39 (lv_at hl 0 rfl) ?_
    refine bAdd (v := 11) X dX8_commands_41 (by decide) ?_
    refine lv_iconst (v := 0) hx hb dX8_commands_42 (by decide) ?_
    refine bVV (As := [.int 0, .int 11, .int 0]) (rest := []) (wc := [(mM, .inr (8, [.ref mN, .ref mR, .ref mA, .ref mP, .int ch, .ref mT, .int le, .int sp, .ref mD])), (mN, .inl (cyI, 515, .inl (upd (upd (upd nw 15 0) 16 0) 17 0)))]) (w1 := [(mM, .inr (8, [.ref mN, .ref mR, .ref mA, .ref mP, .int ch, .ref mT, .int le, .int sp, .ref mD])), (mN, .inl (cyI, 515, .inl (upd (upd (upd (upd nw 15 0) 16 0) 17 0) 18 0)))]) (ws' := [(mM, .inr (8, [.ref mN, .ref mR, .ref mA, .ref mP, .int ch, .ref mT, .int le, .int sp, .ref mD])), (mN, .inl (cyI, 515, .inl (upd (upd (upd (upd nw 15 0) 16 0) 17 0) 18 0)))]) (ad := [mM, mN]) (wr := []) (nn := 2) (ci := 8) (q0 := 0) X Y (c_tells8 l D cyC cyI mM mN mR mA mP mT mD ch le sp (upd (upd (upd nw 15 0) 16 0) 17 0) 0 11 0 (upd (upd (upd (upd nw 15 0) 16 0) 17 0) 18 0) (bTells (i := 18) (by decide) rfl) (bInD (by decide))) gX8_commands_X8_tells rfl ⟨rfl, rfl⟩ hd_X8_tells ⟨(Nat.le_of_ble_eq_true rfl), (Nat.le_of_ble_eq_true rfl)⟩ rfl rfl rfl [0, 1] [] rfl rfl rfl rfl rfl rfl rfl rfl (by decide) rfl rfl hl.1 (Nat.le_of_ble_eq_true rfl) ⟨Nat.zero_le _, Nat.zero_le _⟩ dX8_commands_43 (fun H locs Y => ?_)
    refine lv_iinc (v := 4) (lv' := [(6, .int 4), (4, .int 1), (5, .int 0), (0, .ref mM), (1, .int 1), (2, .int w), (3, .int (-1))]) hx hb dX8_commands_46 hl (k := 0) rfl (by decide) (by decide) rfl (fun ls hl => ?_)
    refine lv_goto (tgt := 28) hx hb dX8_commands_49 (by decide) ?_
    refine lv_iload hx hb dX8_commands_28 (lv_at hl 0 rfl) ?_
    refine lv_iconst (v := 5) hx hb dX8_commands_30 (by decide) ?_
    refine lv_icmp_ge (tgt := 52) hx hb dX8_commands_31 (by decide) (fun c_ => absurd c_ (by decide)) (fun _ => ?_)
    refine lv_aload_n hx hb dX8_commands_34 rfl (lv_at hl 3 rfl) ?_
    refine lv_iload hx hb dX8_commands_35 (lv_at hl 2 rfl) ?_
    refine lv_bipush (v := 8) hx hb dX8_commands_37 (by decide) ?_
    refine lv_iload hx hb dX8_commands_39 (lv_at hl 0 rfl) ?_
    refine bAdd (v := 12) X dX8_commands_41 (by decide) ?_
    refine lv_iconst (v := 0) hx hb dX8_commands_42 (by decide) ?_
    refine bVV (As := [.int 0, .int 12, .int 0]) (rest := []) (wc := [(mM, .inr (8, [.ref mN, .ref mR, .ref mA, .ref mP, .int ch, .ref mT, .int le, .int sp, .ref mD])), (mN, .inl (cyI, 515, .inl (upd (upd (upd (upd nw 15 0) 16 0) 17 0) 18 0)))]) (w1 := [(mM, .inr (8, [.ref mN, .ref mR, .ref mA, .ref mP, .int ch, .ref mT, .int le, .int sp, .ref mD])), (mN, .inl (cyI, 515, .inl (upd (upd (upd (upd (upd nw 15 0) 16 0) 17 0) 18 0) 19 0)))]) (ws' := [(mM, .inr (8, [.ref mN, .ref mR, .ref mA, .ref mP, .int ch, .ref mT, .int le, .int sp, .ref mD])), (mN, .inl (cyI, 515, .inl (upd (upd (upd (upd (upd nw 15 0) 16 0) 17 0) 18 0) 19 0)))]) (ad := [mM, mN]) (wr := []) (nn := 2) (ci := 8) (q0 := 0) X Y (c_tells8 l D cyC cyI mM mN mR mA mP mT mD ch le sp (upd (upd (upd (upd nw 15 0) 16 0) 17 0) 18 0) 0 12 0 (upd (upd (upd (upd (upd nw 15 0) 16 0) 17 0) 18 0) 19 0) (bTells (i := 19) (by decide) rfl) (bInD (by decide))) gX8_commands_X8_tells rfl ⟨rfl, rfl⟩ hd_X8_tells ⟨(Nat.le_of_ble_eq_true rfl), (Nat.le_of_ble_eq_true rfl)⟩ rfl rfl rfl [0, 1] [] rfl rfl rfl rfl rfl rfl rfl rfl (by decide) rfl rfl hl.1 (Nat.le_of_ble_eq_true rfl) ⟨Nat.zero_le _, Nat.zero_le _⟩ dX8_commands_43 (fun H locs Y => ?_)
    refine lv_iinc (v := 5) (lv' := [(6, .int 5), (4, .int 1), (5, .int 0), (0, .ref mM), (1, .int 1), (2, .int w), (3, .int (-1))]) hx hb dX8_commands_46 hl (k := 0) rfl (by decide) (by decide) rfl (fun ls hl => ?_)
    refine lv_goto (tgt := 28) hx hb dX8_commands_49 (by decide) ?_
    refine lv_iload hx hb dX8_commands_28 (lv_at hl 0 rfl) ?_
    refine lv_iconst (v := 5) hx hb dX8_commands_30 (by decide) ?_
    refine lv_icmp_ge (tgt := 52) hx hb dX8_commands_31 (by decide) (fun _ => ?_) (fun c_ => absurd (by decide) c_)
    refine lv_iload_n hx hb dX8_commands_52 rfl (lv_at hl 5 rfl) ?_
    refine lv_aload_n hx hb dX8_commands_53 rfl (lv_at hl 3 rfl) ?_
    refine lv_iload hx hb dX8_commands_54 (lv_at hl 2 rfl) ?_
    refine lv_bipush (v := 6) hx hb dX8_commands_56 (by decide) ?_
    refine bVI0 (As := [.int 0, .int 6]) (rest := [.int w]) (wc := [(mM, .inr (8, [.ref mN, .ref mR, .ref mA, .ref mP, .int ch, .ref mT, .int le, .int sp, .ref mD])), (mN, .inl (cyI, 515, .inl (upd (upd (upd (upd (upd nw 15 0) 16 0) 17 0) 18 0) 19 0)))]) (ci := 8) (q0 := 0) X Y (c_of8 l D cyC cyI mM mN mR mA mP mT mD ch le sp (upd (upd (upd (upd (upd nw 15 0) 16 0) 17 0) 18 0) 19 0) 0 6 (nw 13) (bOf (i := 13) (by decide) ((upd_ne (by decide)).trans ((upd_ne (by decide)).trans ((upd_ne (by decide)).trans ((upd_ne (by decide)).trans ((upd_ne (by decide)).trans rfl)))))) (bInD (by decide))) gX8_commands_X8_of rfl ⟨rfl, rfl⟩ hd_X8_of ⟨(Nat.le_of_ble_eq_true rfl), (Nat.le_of_ble_eq_true rfl)⟩ rfl rfl rfl [0, 1] rfl rfl rfl rfl hl.1 (Nat.le_of_ble_eq_true rfl) ⟨Nat.zero_le _, Nat.zero_le _⟩ dX8_commands_58 (fun H locs Y => ?_)
    refine bSub (v := w - (nw 13)) X dX8_commands_61 rfl ?_
    refine lv_istore (lv' := [(6, .int (w - (nw 13))), (4, .int 1), (5, .int 0), (0, .ref mM), (1, .int 1), (2, .int w), (3, .int (-1))]) hx hb dX8_commands_62 hl (by decide) rfl (fun ls hl => ?_)
    refine lv_iload_n hx hb dX8_commands_64 rfl (lv_at hl 6 rfl) ?_
    refine lv_if_ge (tgt := 73) hx hb dX8_commands_65 (by decide) (fun c_ => absurd c_ (by decide)) (fun _ => ?_)
    refine lv_iload hx hb dX8_commands_68 (lv_at hl 0 rfl) ?_
    refine lv_goto (tgt := 77) hx hb dX8_commands_70 (by decide) ?_
    refine lv_istore (lv' := [(7, .int (w - (nw 13))), (6, .int (w - (nw 13))), (4, .int 1), (5, .int 0), (0, .ref mM), (1, .int 1), (2, .int w), (3, .int (-1))]) hx hb dX8_commands_77 hl (by decide) rfl (fun ls hl => ?_)
    refine lv_aload_n hx hb dX8_commands_79 rfl (lv_at hl 4 rfl) ?_
    refine lv_iload hx hb dX8_commands_80 (lv_at hl 3 rfl) ?_
    refine lv_aload_n hx hb dX8_commands_82 rfl (lv_at hl 4 rfl) ?_
    refine bGet (v := .ref mN) (T := TX8) (N := 9) (ci := 8) X Y i_X8_commands_X8 0 rfl rfl 0 (Nat.le_of_ble_eq_true rfl) f_X8_commands_7 rfl rfl dX8_commands_83 ?_
    refine lv_bipush (v := 6) hx hb dX8_commands_86 (by decide) ?_
    refine bIald (v := nw 6) X Y 1 rfl (bInD (by decide)) dX8_commands_88 ((upd_ne (by decide)).trans ((upd_ne (by decide)).trans ((upd_ne (by decide)).trans ((upd_ne (by decide)).trans ((upd_ne (by decide)).trans rfl))))) ?_
    refine lv_iconst (v := 1) hx hb dX8_commands_89 (by decide) ?_
    refine bAdd (v := (nw 6) + 1) X dX8_commands_90 rfl ?_
    refine lv_iload hx hb dX8_commands_91 (lv_at hl 0 rfl) ?_
    obtain ⟨u_4_0, hr_4⟩ := bEx1 (s_addsStep8_0 (upd (upd (upd (upd (upd nw 15 0) 16 0) 17 0) 18 0) 19 0) ((nw 6) + 1) (w - (nw 13)))
    rw [hr_4] at hu
    dsimp only at hu
    have asK_0_4 := asK_0 hr_4
    refine bVV (As := [.int 0, .int ((nw 6) + 1), .int (w - (nw 13))]) (rest := []) (wc := [(mM, .inr (8, [.ref mN, .ref mR, .ref mA, .ref mP, .int ch, .ref mT, .int le, .int sp, .ref mD])), (mN, .inl (cyI, 515, .inl (upd (upd (upd (upd (upd nw 15 0) 16 0) 17 0) 18 0) 19 0)))]) (w1 := [(mM, .inr (8, [.ref mN, .ref mR, .ref mA, .ref mP, .int ch, .ref mT, .int le, .int sp, .ref mD])), (mN, .inl (cyI, 515, .inl u_4_0))]) (ws' := [(mM, .inr (8, [.ref mN, .ref mR, .ref mA, .ref mP, .int ch, .ref mT, .int le, .int sp, .ref mD])), (mN, .inl (cyI, 515, .inl u_4_0))]) (ad := [mM, mN]) (wr := []) (nn := 2) (ci := 8) (q0 := 0) X Y (c_addsStep8_0 l D cyC cyI mM mN mR mA mP mT mD ch le sp (upd (upd (upd (upd (upd nw 15 0) 16 0) 17 0) 18 0) 19 0) ((nw 6) + 1) (w - (nw 13)) u_4_0 hr_4 (by first | exact Or.inl rfl | exact asK_0_1 rfl | exact asK_0_2 rfl | exact asK_0_3 rfl | exact asK_0_4 rfl | exact asK_0_5 rfl | exact asK_0_6 rfl | exact asK_0_7 rfl | exact asK_0_8 rfl | exact asK_0_9 rfl | exact asK_0_10 rfl | exact asK_0_11 rfl | exact asK_0_12 rfl | exact asK_0_13 rfl | exact asK_0_14 rfl | exact asK_0_15 rfl | exact asK_0_16 rfl | exact asK_0_17 rfl | exact asK_0_18 rfl | exact asK_0_19 rfl | exact asK_0_20 rfl | exact asK_0_21 rfl | exact asK_0_22 rfl | exact asK_0_23 rfl | exact asK_0_24 rfl | exact asK_0_25 rfl | exact asK_0_26 rfl | exact asK_0_27 rfl | exact asK_0_28 rfl | exact asK_0_29 rfl | exact asK_0_30 rfl | exact asK_0_31 rfl | exact asK_0_32 rfl | exact asK_0_33 rfl | exact asK_0_34 rfl | exact asK_0_35 rfl | exact asK_0_36 rfl | exact asK_0_37 rfl | exact asK_0_38 rfl | exact asK_0_39 rfl)) gX8_commands_X8_addsStep rfl ⟨rfl, rfl⟩ hd_X8_addsStep ⟨(Nat.le_of_ble_eq_true rfl), (Nat.le_of_ble_eq_true rfl)⟩ rfl rfl rfl [0, 1] [] rfl rfl rfl rfl rfl rfl rfl rfl (by decide) rfl rfl hl.1 (Nat.le_of_ble_eq_true rfl) ⟨Nat.zero_le _, Nat.zero_le _⟩ dX8_commands_93 (fun H locs Y => ?_)
    refine lv_aload_n hx hb dX8_commands_96 rfl (lv_at hl 4 rfl) ?_
    refine lv_iload hx hb dX8_commands_97 (lv_at hl 3 rfl) ?_
    refine lv_aload_n hx hb dX8_commands_99 rfl (lv_at hl 4 rfl) ?_
    refine bGet (v := .ref mN) (T := TX8) (N := 9) (ci := 8) X Y i_X8_commands_X8 0 rfl rfl 0 (Nat.le_of_ble_eq_true rfl) f_X8_commands_7 rfl rfl dX8_commands_100 ?_
    refine lv_bipush (v := 6) hx hb dX8_commands_103 (by decide) ?_
    refine bIald (v := u_4_0 6) X Y 1 rfl (bInD (by decide)) dX8_commands_105 rfl ?_
    refine lv_iconst (v := 1) hx hb dX8_commands_106 (by decide) ?_
    refine bAdd (v := (u_4_0 6) + 1) X dX8_commands_107 rfl ?_
    refine lv_iload_n hx hb dX8_commands_108 rfl (lv_at hl 7 rfl) ?_
    refine bAdd (v := ((u_4_0 6) + 1) + (-1)) X dX8_commands_109 rfl ?_
    refine lv_iload hx hb dX8_commands_110 (lv_at hl 1 rfl) ?_
    refine lv_iload hx hb dX8_commands_112 (lv_at hl 0 rfl) ?_
    refine bSub (v := (w - (nw 13)) - (w - (nw 13))) X dX8_commands_114 rfl ?_
    obtain ⟨u_5_0, hr_5⟩ := bEx1 (s_addsStep8_0 u_4_0 (((u_4_0 6) + 1) + (-1)) ((w - (nw 13)) - (w - (nw 13))))
    rw [hr_5] at hu
    dsimp only at hu
    have asK_0_5 := asK_0 hr_5
    refine bVV (As := [.int 0, .int (((u_4_0 6) + 1) + (-1)), .int ((w - (nw 13)) - (w - (nw 13)))]) (rest := []) (wc := [(mM, .inr (8, [.ref mN, .ref mR, .ref mA, .ref mP, .int ch, .ref mT, .int le, .int sp, .ref mD])), (mN, .inl (cyI, 515, .inl u_4_0))]) (w1 := [(mM, .inr (8, [.ref mN, .ref mR, .ref mA, .ref mP, .int ch, .ref mT, .int le, .int sp, .ref mD])), (mN, .inl (cyI, 515, .inl u_5_0))]) (ws' := [(mM, .inr (8, [.ref mN, .ref mR, .ref mA, .ref mP, .int ch, .ref mT, .int le, .int sp, .ref mD])), (mN, .inl (cyI, 515, .inl u_5_0))]) (ad := [mM, mN]) (wr := []) (nn := 2) (ci := 8) (q0 := 0) X Y (c_addsStep8_0 l D cyC cyI mM mN mR mA mP mT mD ch le sp u_4_0 (((u_4_0 6) + 1) + (-1)) ((w - (nw 13)) - (w - (nw 13))) u_5_0 hr_5 (by first | exact Or.inl rfl | exact asK_0_1 rfl | exact asK_0_2 rfl | exact asK_0_3 rfl | exact asK_0_4 rfl | exact asK_0_5 rfl | exact asK_0_6 rfl | exact asK_0_7 rfl | exact asK_0_8 rfl | exact asK_0_9 rfl | exact asK_0_10 rfl | exact asK_0_11 rfl | exact asK_0_12 rfl | exact asK_0_13 rfl | exact asK_0_14 rfl | exact asK_0_15 rfl | exact asK_0_16 rfl | exact asK_0_17 rfl | exact asK_0_18 rfl | exact asK_0_19 rfl | exact asK_0_20 rfl | exact asK_0_21 rfl | exact asK_0_22 rfl | exact asK_0_23 rfl | exact asK_0_24 rfl | exact asK_0_25 rfl | exact asK_0_26 rfl | exact asK_0_27 rfl | exact asK_0_28 rfl | exact asK_0_29 rfl | exact asK_0_30 rfl | exact asK_0_31 rfl | exact asK_0_32 rfl | exact asK_0_33 rfl | exact asK_0_34 rfl | exact asK_0_35 rfl | exact asK_0_36 rfl | exact asK_0_37 rfl | exact asK_0_38 rfl | exact asK_0_39 rfl)) gX8_commands_X8_addsStep rfl ⟨rfl, rfl⟩ hd_X8_addsStep ⟨(Nat.le_of_ble_eq_true rfl), (Nat.le_of_ble_eq_true rfl)⟩ rfl rfl rfl [0, 1] [] rfl rfl rfl rfl rfl rfl rfl rfl (by decide) rfl rfl hl.1 (Nat.le_of_ble_eq_true rfl) ⟨Nat.zero_le _, Nat.zero_le _⟩ dX8_commands_115 (fun H locs Y => ?_)
    refine lv_iinc (v := 1) (lv' := [(5, .int 1), (7, .int (w - (nw 13))), (6, .int (w - (nw 13))), (4, .int 1), (0, .ref mM), (1, .int 1), (2, .int w), (3, .int (-1))]) hx hb dX8_commands_118 hl (k := 3) rfl (by decide) (by decide) rfl (fun ls hl => ?_)
    refine lv_goto (tgt := 6) hx hb dX8_commands_121 (by decide) ?_
    refine lv_iload hx hb dX8_commands_6 (lv_at hl 0 rfl) ?_
    refine lv_iconst (v := 2) hx hb dX8_commands_8 (by decide) ?_
    refine lv_icmp_ge (tgt := 124) hx hb dX8_commands_9 (by decide) (fun c_ => absurd c_ (by decide)) (fun _ => ?_)
    refine lv_aload_n hx hb dX8_commands_12 rfl (lv_at hl 4 rfl) ?_
    refine lv_iload hx hb dX8_commands_13 (lv_at hl 0 rfl) ?_
    refine lv_iload_n hx hb dX8_commands_15 rfl (lv_at hl 5 rfl) ?_
    refine bVI0 (As := [.int 1, .int 1]) (rest := []) (wc := [(mM, .inr (8, [.ref mN, .ref mR, .ref mA, .ref mP, .int ch, .ref mT, .int le, .int sp, .ref mD])), (mN, .inl (cyI, 515, .inl u_5_0))]) (ci := 8) (q0 := 0) X Y (c_heeds8_11 l D cyC cyI mM mN mR mA mP mT mD ch le sp u_5_0 true rfl) gX8_commands_X8_heeds rfl ⟨rfl, rfl⟩ hd_X8_heeds ⟨(Nat.le_of_ble_eq_true rfl), (Nat.le_of_ble_eq_true rfl)⟩ rfl rfl rfl [0, 1] rfl rfl rfl rfl hl.1 (Nat.le_of_ble_eq_true rfl) ⟨Nat.zero_le _, Nat.zero_le _⟩ dX8_commands_16 (fun H locs Y => ?_)
    refine lv_if_eq (tgt := 118) hx hb dX8_commands_19 (by decide) (fun c_ => absurd c_ (by decide)) (fun _ => ?_)
    refine lv_iinc (v := 2) (lv' := [(4, .int 2), (5, .int 1), (7, .int (w - (nw 13))), (6, .int (w - (nw 13))), (0, .ref mM), (1, .int 1), (2, .int w), (3, .int (-1))]) hx hb dX8_commands_22 hl (k := 3) rfl (by decide) (by decide) rfl (fun ls hl => ?_)
    refine lv_iconst (v := 0) hx hb dX8_commands_25 (by decide) ?_
    refine lv_istore (lv' := [(6, .int 0), (4, .int 2), (5, .int 1), (7, .int (w - (nw 13))), (0, .ref mM), (1, .int 1), (2, .int w), (3, .int (-1))]) hx hb dX8_commands_26 hl (by decide) rfl (fun ls hl => ?_)
    refine lv_iload hx hb dX8_commands_28 (lv_at hl 0 rfl) ?_
    refine lv_iconst (v := 5) hx hb dX8_commands_30 (by decide) ?_
    refine lv_icmp_ge (tgt := 52) hx hb dX8_commands_31 (by decide) (fun c_ => absurd c_ (by decide)) (fun _ => ?_)
    refine lv_aload_n hx hb dX8_commands_34 rfl (lv_at hl 4 rfl) ?_
    refine lv_iload hx hb dX8_commands_35 (lv_at hl 2 rfl) ?_
    refine lv_bipush (v := 8) hx hb dX8_commands_37 (by decide) ?_
    refine lv_iload hx hb dX8_commands_39 (lv_at hl 0 rfl) ?_
    refine bAdd (v := 8) X dX8_commands_41 (by decide) ?_
    refine lv_iconst (v := 0) hx hb dX8_commands_42 (by decide) ?_
    refine bVV (As := [.int 1, .int 8, .int 0]) (rest := []) (wc := [(mM, .inr (8, [.ref mN, .ref mR, .ref mA, .ref mP, .int ch, .ref mT, .int le, .int sp, .ref mD])), (mN, .inl (cyI, 515, .inl u_5_0))]) (w1 := [(mM, .inr (8, [.ref mN, .ref mR, .ref mA, .ref mP, .int ch, .ref mT, .int le, .int sp, .ref mD])), (mN, .inl (cyI, 515, .inl (upd u_5_0 28 0)))]) (ws' := [(mM, .inr (8, [.ref mN, .ref mR, .ref mA, .ref mP, .int ch, .ref mT, .int le, .int sp, .ref mD])), (mN, .inl (cyI, 515, .inl (upd u_5_0 28 0)))]) (ad := [mM, mN]) (wr := []) (nn := 2) (ci := 8) (q0 := 0) X Y (c_tells8 l D cyC cyI mM mN mR mA mP mT mD ch le sp u_5_0 1 8 0 (upd u_5_0 28 0) (bTells (i := 28) (by decide) rfl) (bInD (by decide))) gX8_commands_X8_tells rfl ⟨rfl, rfl⟩ hd_X8_tells ⟨(Nat.le_of_ble_eq_true rfl), (Nat.le_of_ble_eq_true rfl)⟩ rfl rfl rfl [0, 1] [] rfl rfl rfl rfl rfl rfl rfl rfl (by decide) rfl rfl hl.1 (Nat.le_of_ble_eq_true rfl) ⟨Nat.zero_le _, Nat.zero_le _⟩ dX8_commands_43 (fun H locs Y => ?_)
    refine lv_iinc (v := 1) (lv' := [(6, .int 1), (4, .int 2), (5, .int 1), (7, .int (w - (nw 13))), (0, .ref mM), (1, .int 1), (2, .int w), (3, .int (-1))]) hx hb dX8_commands_46 hl (k := 0) rfl (by decide) (by decide) rfl (fun ls hl => ?_)
    refine lv_goto (tgt := 28) hx hb dX8_commands_49 (by decide) ?_
    refine lv_iload hx hb dX8_commands_28 (lv_at hl 0 rfl) ?_
    refine lv_iconst (v := 5) hx hb dX8_commands_30 (by decide) ?_
    refine lv_icmp_ge (tgt := 52) hx hb dX8_commands_31 (by decide) (fun c_ => absurd c_ (by decide)) (fun _ => ?_)
    refine lv_aload_n hx hb dX8_commands_34 rfl (lv_at hl 4 rfl) ?_
    refine lv_iload hx hb dX8_commands_35 (lv_at hl 2 rfl) ?_
    refine lv_bipush (v := 8) hx hb dX8_commands_37 (by decide) ?_
    refine lv_iload hx hb dX8_commands_39 (lv_at hl 0 rfl) ?_
    refine bAdd (v := 9) X dX8_commands_41 (by decide) ?_
    refine lv_iconst (v := 0) hx hb dX8_commands_42 (by decide) ?_
    refine bVV (As := [.int 1, .int 9, .int 0]) (rest := []) (wc := [(mM, .inr (8, [.ref mN, .ref mR, .ref mA, .ref mP, .int ch, .ref mT, .int le, .int sp, .ref mD])), (mN, .inl (cyI, 515, .inl (upd u_5_0 28 0)))]) (w1 := [(mM, .inr (8, [.ref mN, .ref mR, .ref mA, .ref mP, .int ch, .ref mT, .int le, .int sp, .ref mD])), (mN, .inl (cyI, 515, .inl (upd (upd u_5_0 28 0) 29 0)))]) (ws' := [(mM, .inr (8, [.ref mN, .ref mR, .ref mA, .ref mP, .int ch, .ref mT, .int le, .int sp, .ref mD])), (mN, .inl (cyI, 515, .inl (upd (upd u_5_0 28 0) 29 0)))]) (ad := [mM, mN]) (wr := []) (nn := 2) (ci := 8) (q0 := 0) X Y (c_tells8 l D cyC cyI mM mN mR mA mP mT mD ch le sp (upd u_5_0 28 0) 1 9 0 (upd (upd u_5_0 28 0) 29 0) (bTells (i := 29) (by decide) rfl) (bInD (by decide))) gX8_commands_X8_tells rfl ⟨rfl, rfl⟩ hd_X8_tells ⟨(Nat.le_of_ble_eq_true rfl), (Nat.le_of_ble_eq_true rfl)⟩ rfl rfl rfl [0, 1] [] rfl rfl rfl rfl rfl rfl rfl rfl (by decide) rfl rfl hl.1 (Nat.le_of_ble_eq_true rfl) ⟨Nat.zero_le _, Nat.zero_le _⟩ dX8_commands_43 (fun H locs Y => ?_)
    refine lv_iinc (v := 2) (lv' := [(6, .int 2), (4, .int 2), (5, .int 1), (7, .int (w - (nw 13))), (0, .ref mM), (1, .int 1), (2, .int w), (3, .int (-1))]) hx hb dX8_commands_46 hl (k := 0) rfl (by decide) (by decide) rfl (fun ls hl => ?_)
    refine lv_goto (tgt := 28) hx hb dX8_commands_49 (by decide) ?_
    refine lv_iload hx hb dX8_commands_28 (lv_at hl 0 rfl) ?_
    refine lv_iconst (v := 5) hx hb dX8_commands_30 (by decide) ?_
    refine lv_icmp_ge (tgt := 52) hx hb dX8_commands_31 (by decide) (fun c_ => absurd c_ (by decide)) (fun _ => ?_)
    refine lv_aload_n hx hb dX8_commands_34 rfl (lv_at hl 4 rfl) ?_
    refine lv_iload hx hb dX8_commands_35 (lv_at hl 2 rfl) ?_
    refine lv_bipush (v := 8) hx hb dX8_commands_37 (by decide) ?_
    refine lv_iload hx hb dX8_commands_39 (lv_at hl 0 rfl) ?_
    refine bAdd (v := 10) X dX8_commands_41 (by decide) ?_
    refine lv_iconst (v := 0) hx hb dX8_commands_42 (by decide) ?_
    refine bVV (As := [.int 1, .int 10, .int 0]) (rest := []) (wc := [(mM, .inr (8, [.ref mN, .ref mR, .ref mA, .ref mP, .int ch, .ref mT, .int le, .int sp, .ref mD])), (mN, .inl (cyI, 515, .inl (upd (upd u_5_0 28 0) 29 0)))]) (w1 := [(mM, .inr (8, [.ref mN, .ref mR, .ref mA, .ref mP, .int ch, .ref mT, .int le, .int sp, .ref mD])), (mN, .inl (cyI, 515, .inl (upd (upd (upd u_5_0 28 0) 29 0) 30 0)))]) (ws' := [(mM, .inr (8, [.ref mN, .ref mR, .ref mA, .ref mP, .int ch, .ref mT, .int le, .int sp, .ref mD])), (mN, .inl (cyI, 515, .inl (upd (upd (upd u_5_0 28 0) 29 0) 30 0)))]) (ad := [mM, mN]) (wr := []) (nn := 2) (ci := 8) (q0 := 0) X Y (c_tells8 l D cyC cyI mM mN mR mA mP mT mD ch le sp (upd (upd u_5_0 28 0) 29 0) 1 10 0 (upd (upd (upd u_5_0 28 0) 29 0) 30 0) (bTells (i := 30) (by decide) rfl) (bInD (by decide))) gX8_commands_X8_tells rfl ⟨rfl, rfl⟩ hd_X8_tells ⟨(Nat.le_of_ble_eq_true rfl), (Nat.le_of_ble_eq_true rfl)⟩ rfl rfl rfl [0, 1] [] rfl rfl rfl rfl rfl rfl rfl rfl (by decide) rfl rfl hl.1 (Nat.le_of_ble_eq_true rfl) ⟨Nat.zero_le _, Nat.zero_le _⟩ dX8_commands_43 (fun H locs Y => ?_)
    refine lv_iinc (v := 3) (lv' := [(6, .int 3), (4, .int 2), (5, .int 1), (7, .int (w - (nw 13))), (0, .ref mM), (1, .int 1), (2, .int w), (3, .int (-1))]) hx hb dX8_commands_46 hl (k := 0) rfl (by decide) (by decide) rfl (fun ls hl => ?_)
    refine lv_goto (tgt := 28) hx hb dX8_commands_49 (by decide) ?_
    refine lv_iload hx hb dX8_commands_28 (lv_at hl 0 rfl) ?_
    refine lv_iconst (v := 5) hx hb dX8_commands_30 (by decide) ?_
    refine lv_icmp_ge (tgt := 52) hx hb dX8_commands_31 (by decide) (fun c_ => absurd c_ (by decide)) (fun _ => ?_)
    refine lv_aload_n hx hb dX8_commands_34 rfl (lv_at hl 4 rfl) ?_
    refine lv_iload hx hb dX8_commands_35 (lv_at hl 2 rfl) ?_
    refine lv_bipush (v := 8) hx hb dX8_commands_37 (by decide) ?_
    refine lv_iload hx hb dX8_commands_39 (lv_at hl 0 rfl) ?_
    refine bAdd (v := 11) X dX8_commands_41 (by decide) ?_
    refine lv_iconst (v := 0) hx hb dX8_commands_42 (by decide) ?_
    refine bVV (As := [.int 1, .int 11, .int 0]) (rest := []) (wc := [(mM, .inr (8, [.ref mN, .ref mR, .ref mA, .ref mP, .int ch, .ref mT, .int le, .int sp, .ref mD])), (mN, .inl (cyI, 515, .inl (upd (upd (upd u_5_0 28 0) 29 0) 30 0)))]) (w1 := [(mM, .inr (8, [.ref mN, .ref mR, .ref mA, .ref mP, .int ch, .ref mT, .int le, .int sp, .ref mD])), (mN, .inl (cyI, 515, .inl (upd (upd (upd (upd u_5_0 28 0) 29 0) 30 0) 31 0)))]) (ws' := [(mM, .inr (8, [.ref mN, .ref mR, .ref mA, .ref mP, .int ch, .ref mT, .int le, .int sp, .ref mD])), (mN, .inl (cyI, 515, .inl (upd (upd (upd (upd u_5_0 28 0) 29 0) 30 0) 31 0)))]) (ad := [mM, mN]) (wr := []) (nn := 2) (ci := 8) (q0 := 0) X Y (c_tells8 l D cyC cyI mM mN mR mA mP mT mD ch le sp (upd (upd (upd u_5_0 28 0) 29 0) 30 0) 1 11 0 (upd (upd (upd (upd u_5_0 28 0) 29 0) 30 0) 31 0) (bTells (i := 31) (by decide) rfl) (bInD (by decide))) gX8_commands_X8_tells rfl ⟨rfl, rfl⟩ hd_X8_tells ⟨(Nat.le_of_ble_eq_true rfl), (Nat.le_of_ble_eq_true rfl)⟩ rfl rfl rfl [0, 1] [] rfl rfl rfl rfl rfl rfl rfl rfl (by decide) rfl rfl hl.1 (Nat.le_of_ble_eq_true rfl) ⟨Nat.zero_le _, Nat.zero_le _⟩ dX8_commands_43 (fun H locs Y => ?_)
    refine lv_iinc (v := 4) (lv' := [(6, .int 4), (4, .int 2), (5, .int 1), (7, .int (w - (nw 13))), (0, .ref mM), (1, .int 1), (2, .int w), (3, .int (-1))]) hx hb dX8_commands_46 hl (k := 0) rfl (by decide) (by decide) rfl (fun ls hl => ?_)
    refine lv_goto (tgt := 28) hx hb dX8_commands_49 (by decide) ?_
    refine lv_iload hx hb dX8_commands_28 (lv_at hl 0 rfl) ?_
    refine lv_iconst (v := 5) hx hb dX8_commands_30 (by decide) ?_
    refine lv_icmp_ge (tgt := 52) hx hb dX8_commands_31 (by decide) (fun c_ => absurd c_ (by decide)) (fun _ => ?_)
    refine lv_aload_n hx hb dX8_commands_34 rfl (lv_at hl 4 rfl) ?_
    refine lv_iload hx hb dX8_commands_35 (lv_at hl 2 rfl) ?_
    refine lv_bipush (v := 8) hx hb dX8_commands_37 (by decide) ?_
    refine lv_iload hx hb dX8_commands_39 (lv_at hl 0 rfl) ?_
    refine bAdd (v := 12) X dX8_commands_41 (by decide) ?_
    refine lv_iconst (v := 0) hx hb dX8_commands_42 (by decide) ?_
    refine bVV (As := [.int 1, .int 12, .int 0]) (rest := []) (wc := [(mM, .inr (8, [.ref mN, .ref mR, .ref mA, .ref mP, .int ch, .ref mT, .int le, .int sp, .ref mD])), (mN, .inl (cyI, 515, .inl (upd (upd (upd (upd u_5_0 28 0) 29 0) 30 0) 31 0)))]) (w1 := [(mM, .inr (8, [.ref mN, .ref mR, .ref mA, .ref mP, .int ch, .ref mT, .int le, .int sp, .ref mD])), (mN, .inl (cyI, 515, .inl (upd (upd (upd (upd (upd u_5_0 28 0) 29 0) 30 0) 31 0) 32 0)))]) (ws' := [(mM, .inr (8, [.ref mN, .ref mR, .ref mA, .ref mP, .int ch, .ref mT, .int le, .int sp, .ref mD])), (mN, .inl (cyI, 515, .inl (upd (upd (upd (upd (upd u_5_0 28 0) 29 0) 30 0) 31 0) 32 0)))]) (ad := [mM, mN]) (wr := []) (nn := 2) (ci := 8) (q0 := 0) X Y (c_tells8 l D cyC cyI mM mN mR mA mP mT mD ch le sp (upd (upd (upd (upd u_5_0 28 0) 29 0) 30 0) 31 0) 1 12 0 (upd (upd (upd (upd (upd u_5_0 28 0) 29 0) 30 0) 31 0) 32 0) (bTells (i := 32) (by decide) rfl) (bInD (by decide))) gX8_commands_X8_tells rfl ⟨rfl, rfl⟩ hd_X8_tells ⟨(Nat.le_of_ble_eq_true rfl), (Nat.le_of_ble_eq_true rfl)⟩ rfl rfl rfl [0, 1] [] rfl rfl rfl rfl rfl rfl rfl rfl (by decide) rfl rfl hl.1 (Nat.le_of_ble_eq_true rfl) ⟨Nat.zero_le _, Nat.zero_le _⟩ dX8_commands_43 (fun H locs Y => ?_)
    refine lv_iinc (v := 5) (lv' := [(6, .int 5), (4, .int 2), (5, .int 1), (7, .int (w - (nw 13))), (0, .ref mM), (1, .int 1), (2, .int w), (3, .int (-1))]) hx hb dX8_commands_46 hl (k := 0) rfl (by decide) (by decide) rfl (fun ls hl => ?_)
    refine lv_goto (tgt := 28) hx hb dX8_commands_49 (by decide) ?_
    refine lv_iload hx hb dX8_commands_28 (lv_at hl 0 rfl) ?_
    refine lv_iconst (v := 5) hx hb dX8_commands_30 (by decide) ?_
    refine lv_icmp_ge (tgt := 52) hx hb dX8_commands_31 (by decide) (fun _ => ?_) (fun c_ => absurd (by decide) c_)
    refine lv_iload_n hx hb dX8_commands_52 rfl (lv_at hl 6 rfl) ?_
    refine lv_aload_n hx hb dX8_commands_53 rfl (lv_at hl 4 rfl) ?_
    refine lv_iload hx hb dX8_commands_54 (lv_at hl 2 rfl) ?_
    refine lv_bipush (v := 6) hx hb dX8_commands_56 (by decide) ?_
    refine bVI0 (As := [.int 1, .int 6]) (rest := [.int w]) (wc := [(mM, .inr (8, [.ref mN, .ref mR, .ref mA, .ref mP, .int ch, .ref mT, .int le, .int sp, .ref mD])), (mN, .inl (cyI, 515, .inl (upd (upd (upd (upd (upd u_5_0 28 0) 29 0) 30 0) 31 0) 32 0)))]) (ci := 8) (q0 := 0) X Y (c_of8 l D cyC cyI mM mN mR mA mP mT mD ch le sp (upd (upd (upd (upd (upd u_5_0 28 0) 29 0) 30 0) 31 0) 32 0) 1 6 (u_5_0 26) (bOf (i := 26) (by decide) ((upd_ne (by decide)).trans ((upd_ne (by decide)).trans ((upd_ne (by decide)).trans ((upd_ne (by decide)).trans ((upd_ne (by decide)).trans rfl)))))) (bInD (by decide))) gX8_commands_X8_of rfl ⟨rfl, rfl⟩ hd_X8_of ⟨(Nat.le_of_ble_eq_true rfl), (Nat.le_of_ble_eq_true rfl)⟩ rfl rfl rfl [0, 1] rfl rfl rfl rfl hl.1 (Nat.le_of_ble_eq_true rfl) ⟨Nat.zero_le _, Nat.zero_le _⟩ dX8_commands_58 (fun H locs Y => ?_)
    refine bSub (v := w - (u_5_0 26)) X dX8_commands_61 rfl ?_
    refine lv_istore (lv' := [(6, .int (w - (u_5_0 26))), (4, .int 2), (5, .int 1), (7, .int (w - (nw 13))), (0, .ref mM), (1, .int 1), (2, .int w), (3, .int (-1))]) hx hb dX8_commands_62 hl (by decide) rfl (fun ls hl => ?_)
    refine lv_iload_n hx hb dX8_commands_64 rfl (lv_at hl 7 rfl) ?_
    refine lv_if_ge (tgt := 73) hx hb dX8_commands_65 (by decide) (fun c_ => absurd c_ (by decide)) (fun _ => ?_)
    refine lv_iload hx hb dX8_commands_68 (lv_at hl 0 rfl) ?_
    refine lv_goto (tgt := 77) hx hb dX8_commands_70 (by decide) ?_
    refine lv_istore (lv' := [(7, .int (w - (u_5_0 26))), (6, .int (w - (u_5_0 26))), (4, .int 2), (5, .int 1), (0, .ref mM), (1, .int 1), (2, .int w), (3, .int (-1))]) hx hb dX8_commands_77 hl (by decide) rfl (fun ls hl => ?_)
    refine lv_aload_n hx hb dX8_commands_79 rfl (lv_at hl 4 rfl) ?_
    refine lv_iload hx hb dX8_commands_80 (lv_at hl 3 rfl) ?_
    refine lv_aload_n hx hb dX8_commands_82 rfl (lv_at hl 4 rfl) ?_
    refine bGet (v := .ref mN) (T := TX8) (N := 9) (ci := 8) X Y i_X8_commands_X8 0 rfl rfl 0 (Nat.le_of_ble_eq_true rfl) f_X8_commands_7 rfl rfl dX8_commands_83 ?_
    refine lv_bipush (v := 6) hx hb dX8_commands_86 (by decide) ?_
    refine bIald (v := u_5_0 6) X Y 1 rfl (bInD (by decide)) dX8_commands_88 ((upd_ne (by decide)).trans ((upd_ne (by decide)).trans ((upd_ne (by decide)).trans ((upd_ne (by decide)).trans ((upd_ne (by decide)).trans rfl))))) ?_
    refine lv_iconst (v := 1) hx hb dX8_commands_89 (by decide) ?_
    refine bAdd (v := (u_5_0 6) + 1) X dX8_commands_90 rfl ?_
    refine lv_iload hx hb dX8_commands_91 (lv_at hl 0 rfl) ?_
    obtain ⟨u_6_0, hr_6⟩ := bEx1 (s_addsStep8_1 (upd (upd (upd (upd (upd u_5_0 28 0) 29 0) 30 0) 31 0) 32 0) ((u_5_0 6) + 1) (w - (u_5_0 26)))
    rw [hr_6] at hu
    dsimp only at hu
    have asK_1_6 := asK_1 hr_6
    refine bVV (As := [.int 1, .int ((u_5_0 6) + 1), .int (w - (u_5_0 26))]) (rest := []) (wc := [(mM, .inr (8, [.ref mN, .ref mR, .ref mA, .ref mP, .int ch, .ref mT, .int le, .int sp, .ref mD])), (mN, .inl (cyI, 515, .inl (upd (upd (upd (upd (upd u_5_0 28 0) 29 0) 30 0) 31 0) 32 0)))]) (w1 := [(mM, .inr (8, [.ref mN, .ref mR, .ref mA, .ref mP, .int ch, .ref mT, .int le, .int sp, .ref mD])), (mN, .inl (cyI, 515, .inl u_6_0))]) (ws' := [(mM, .inr (8, [.ref mN, .ref mR, .ref mA, .ref mP, .int ch, .ref mT, .int le, .int sp, .ref mD])), (mN, .inl (cyI, 515, .inl u_6_0))]) (ad := [mM, mN]) (wr := []) (nn := 2) (ci := 8) (q0 := 0) X Y (c_addsStep8_1 l D cyC cyI mM mN mR mA mP mT mD ch le sp (upd (upd (upd (upd (upd u_5_0 28 0) 29 0) 30 0) 31 0) 32 0) ((u_5_0 6) + 1) (w - (u_5_0 26)) u_6_0 hr_6 (by first | exact Or.inl rfl | exact asK_1_1 rfl | exact asK_1_2 rfl | exact asK_1_3 rfl | exact asK_1_4 rfl | exact asK_1_5 rfl | exact asK_1_6 rfl | exact asK_1_7 rfl | exact asK_1_8 rfl | exact asK_1_9 rfl | exact asK_1_10 rfl | exact asK_1_11 rfl | exact asK_1_12 rfl | exact asK_1_13 rfl | exact asK_1_14 rfl | exact asK_1_15 rfl | exact asK_1_16 rfl | exact asK_1_17 rfl | exact asK_1_18 rfl | exact asK_1_19 rfl | exact asK_1_20 rfl | exact asK_1_21 rfl | exact asK_1_22 rfl | exact asK_1_23 rfl | exact asK_1_24 rfl | exact asK_1_25 rfl | exact asK_1_26 rfl | exact asK_1_27 rfl | exact asK_1_28 rfl | exact asK_1_29 rfl | exact asK_1_30 rfl | exact asK_1_31 rfl | exact asK_1_32 rfl | exact asK_1_33 rfl | exact asK_1_34 rfl | exact asK_1_35 rfl | exact asK_1_36 rfl | exact asK_1_37 rfl | exact asK_1_38 rfl | exact asK_1_39 rfl)) gX8_commands_X8_addsStep rfl ⟨rfl, rfl⟩ hd_X8_addsStep ⟨(Nat.le_of_ble_eq_true rfl), (Nat.le_of_ble_eq_true rfl)⟩ rfl rfl rfl [0, 1] [] rfl rfl rfl rfl rfl rfl rfl rfl (by decide) rfl rfl hl.1 (Nat.le_of_ble_eq_true rfl) ⟨Nat.zero_le _, Nat.zero_le _⟩ dX8_commands_93 (fun H locs Y => ?_)
    refine lv_aload_n hx hb dX8_commands_96 rfl (lv_at hl 4 rfl) ?_
    refine lv_iload hx hb dX8_commands_97 (lv_at hl 3 rfl) ?_
    refine lv_aload_n hx hb dX8_commands_99 rfl (lv_at hl 4 rfl) ?_
    refine bGet (v := .ref mN) (T := TX8) (N := 9) (ci := 8) X Y i_X8_commands_X8 0 rfl rfl 0 (Nat.le_of_ble_eq_true rfl) f_X8_commands_7 rfl rfl dX8_commands_100 ?_
    refine lv_bipush (v := 6) hx hb dX8_commands_103 (by decide) ?_
    refine bIald (v := u_6_0 6) X Y 1 rfl (bInD (by decide)) dX8_commands_105 rfl ?_
    refine lv_iconst (v := 1) hx hb dX8_commands_106 (by decide) ?_
    refine bAdd (v := (u_6_0 6) + 1) X dX8_commands_107 rfl ?_
    refine lv_iload_n hx hb dX8_commands_108 rfl (lv_at hl 7 rfl) ?_
    refine bAdd (v := ((u_6_0 6) + 1) + (-1)) X dX8_commands_109 rfl ?_
    refine lv_iload hx hb dX8_commands_110 (lv_at hl 1 rfl) ?_
    refine lv_iload hx hb dX8_commands_112 (lv_at hl 0 rfl) ?_
    refine bSub (v := (w - (u_5_0 26)) - (w - (u_5_0 26))) X dX8_commands_114 rfl ?_
    obtain ⟨u_7_0, hr_7⟩ := bEx1 (s_addsStep8_1 u_6_0 (((u_6_0 6) + 1) + (-1)) ((w - (u_5_0 26)) - (w - (u_5_0 26))))
    rw [hr_7] at hu
    dsimp only at hu
    have asK_1_7 := asK_1 hr_7
    refine bVV (As := [.int 1, .int (((u_6_0 6) + 1) + (-1)), .int ((w - (u_5_0 26)) - (w - (u_5_0 26)))]) (rest := []) (wc := [(mM, .inr (8, [.ref mN, .ref mR, .ref mA, .ref mP, .int ch, .ref mT, .int le, .int sp, .ref mD])), (mN, .inl (cyI, 515, .inl u_6_0))]) (w1 := [(mM, .inr (8, [.ref mN, .ref mR, .ref mA, .ref mP, .int ch, .ref mT, .int le, .int sp, .ref mD])), (mN, .inl (cyI, 515, .inl u_7_0))]) (ws' := [(mM, .inr (8, [.ref mN, .ref mR, .ref mA, .ref mP, .int ch, .ref mT, .int le, .int sp, .ref mD])), (mN, .inl (cyI, 515, .inl u_7_0))]) (ad := [mM, mN]) (wr := []) (nn := 2) (ci := 8) (q0 := 0) X Y (c_addsStep8_1 l D cyC cyI mM mN mR mA mP mT mD ch le sp u_6_0 (((u_6_0 6) + 1) + (-1)) ((w - (u_5_0 26)) - (w - (u_5_0 26))) u_7_0 hr_7 (by first | exact Or.inl rfl | exact asK_1_1 rfl | exact asK_1_2 rfl | exact asK_1_3 rfl | exact asK_1_4 rfl | exact asK_1_5 rfl | exact asK_1_6 rfl | exact asK_1_7 rfl | exact asK_1_8 rfl | exact asK_1_9 rfl | exact asK_1_10 rfl | exact asK_1_11 rfl | exact asK_1_12 rfl | exact asK_1_13 rfl | exact asK_1_14 rfl | exact asK_1_15 rfl | exact asK_1_16 rfl | exact asK_1_17 rfl | exact asK_1_18 rfl | exact asK_1_19 rfl | exact asK_1_20 rfl | exact asK_1_21 rfl | exact asK_1_22 rfl | exact asK_1_23 rfl | exact asK_1_24 rfl | exact asK_1_25 rfl | exact asK_1_26 rfl | exact asK_1_27 rfl | exact asK_1_28 rfl | exact asK_1_29 rfl | exact asK_1_30 rfl | exact asK_1_31 rfl | exact asK_1_32 rfl | exact asK_1_33 rfl | exact asK_1_34 rfl | exact asK_1_35 rfl | exact asK_1_36 rfl | exact asK_1_37 rfl | exact asK_1_38 rfl | exact asK_1_39 rfl)) gX8_commands_X8_addsStep rfl ⟨rfl, rfl⟩ hd_X8_addsStep ⟨(Nat.le_of_ble_eq_true rfl), (Nat.le_of_ble_eq_true rfl)⟩ rfl rfl rfl [0, 1] [] rfl rfl rfl rfl rfl rfl rfl rfl (by decide) rfl rfl hl.1 (Nat.le_of_ble_eq_true rfl) ⟨Nat.zero_le _, Nat.zero_le _⟩ dX8_commands_115 (fun H locs Y => ?_)
    refine lv_iinc (v := 2) (lv' := [(5, .int 2), (7, .int (w - (u_5_0 26))), (6, .int (w - (u_5_0 26))), (4, .int 2), (0, .ref mM), (1, .int 1), (2, .int w), (3, .int (-1))]) hx hb dX8_commands_118 hl (k := 3) rfl (by decide) (by decide) rfl (fun ls hl => ?_)
    refine lv_goto (tgt := 6) hx hb dX8_commands_121 (by decide) ?_
    refine lv_iload hx hb dX8_commands_6 (lv_at hl 0 rfl) ?_
    refine lv_iconst (v := 2) hx hb dX8_commands_8 (by decide) ?_
    refine lv_icmp_ge (tgt := 124) hx hb dX8_commands_9 (by decide) (fun _ => ?_) (fun c_ => absurd (by decide) c_)
    refine lv_iload hx hb dX8_commands_124 (lv_at hl 3 rfl) ?_
    have h9 := (Prod.mk.inj hu).1; replace hu := (Prod.mk.inj hu).2; subst h9
    subst hu
    exact bEndI X Y hr hlk dX8_commands_126 rfl rfl
def s_commands8p_1 (nw : Nat → Int32) (w : Int32) (pa : Int32) : Int32 × (Nat → Int32) :=
  if (s_heeds8_01 nw) = true then
    if 0 ≤ pa then
      match s_addsStep8_0 (upd (upd (upd (upd (upd nw 15 0) 16 0) 17 0) 18 0) 19 0) ((nw 6) + 1) ((w - (nw 13)) / 2) with
      | (u_8_0, _) =>
        match s_addsStep8_0 u_8_0 (((u_8_0 6) + 1) + pa) ((w - (nw 13)) - ((w - (nw 13)) / 2)) with
        | (u_9_0, _) =>
          match s_addsStep8_1 (upd (upd (upd (upd (upd u_9_0 28 0) 29 0) 30 0) 31 0) 32 0) ((u_9_0 6) + 1) ((w - (u_9_0 26)) / 2) with
          | (u_11_0, _) =>
            match s_addsStep8_1 u_11_0 (((u_11_0 6) + 1) + pa) ((w - (u_9_0 26)) - ((w - (u_9_0 26)) / 2)) with
            | (u_12_0, _) =>
              (2, u_12_0)
    else
      match s_addsStep8_0 (upd (upd (upd (upd (upd nw 15 0) 16 0) 17 0) 18 0) 19 0) ((nw 6) + 1) (w - (nw 13)) with
      | (u_13_0, _) =>
        match s_addsStep8_0 u_13_0 (((u_13_0 6) + 1) + pa) ((w - (nw 13)) - (w - (nw 13))) with
        | (u_14_0, _) =>
          match s_addsStep8_1 (upd (upd (upd (upd (upd u_14_0 28 0) 29 0) 30 0) 31 0) 32 0) ((u_14_0 6) + 1) (w - (u_14_0 26)) with
          | (u_16_0, _) =>
            match s_addsStep8_1 u_16_0 (((u_16_0 6) + 1) + pa) ((w - (u_14_0 26)) - (w - (u_14_0 26))) with
            | (u_17_0, _) =>
              (2, u_17_0)
  else
    if 0 ≤ pa then
      match s_addsStep8_1 (upd (upd (upd (upd (upd nw 28 0) 29 0) 30 0) 31 0) 32 0) ((nw 6) + 1) ((w - (nw 26)) / 2) with
      | (u_3_0, _) =>
        match s_addsStep8_1 u_3_0 (((u_3_0 6) + 1) + pa) ((w - (nw 26)) - ((w - (nw 26)) / 2)) with
        | (u_4_0, _) =>
          (1, u_4_0)
    else
      match s_addsStep8_1 (upd (upd (upd (upd (upd nw 28 0) 29 0) 30 0) 31 0) 32 0) ((nw 6) + 1) (w - (nw 26)) with
      | (u_5_0, _) =>
        match s_addsStep8_1 u_5_0 (((u_5_0 6) + 1) + pa) ((w - (nw 26)) - (w - (nw 26))) with
        | (u_6_0, _) =>
          (1, u_6_0)
set_option maxHeartbeats 4000000 in
set_option maxRecDepth 100000 in
theorem c_commands8p_1 (l : Launch) (D : va_G) (cyC cyI : ClassId) (mM : Nat) (mN : Nat) (mR : Nat) (mA : Nat) (mP : Nat) (mT : Nat) (mD : Nat) (ch : Int32) (le : Int32) (sp : Int32) (nw : Nat → Int32) (w : Int32) (pa : Int32) (o0 : Int32) (o1 : Nat → Int32) (hu : s_commands8p_1 nw w pa = (o0, o1)) : CI l yX8_commands wsX8_commands { frames := 2, cells := 0, slots := 0, locals := 47 } D cyC cyI [.ref mM, .int 1, .int w, .int pa] [(mM, .inr (8, [.ref mN, .ref mR, .ref mA, .ref mP, .int ch, .ref mT, .int le, .int sp, .ref mD])), (mN, .inl (cyI, 515, .inl nw))] o0 [(mM, .inr (8, [.ref mN, .ref mR, .ref mA, .ref mP, .int ch, .ref mT, .int le, .int sp, .ref mD])), (mN, .inl (cyI, 515, .inl o1))] := by
  refine CI.of (cc := cX8_commands) (n := 8) (ret := (some .int)) (by decide +kernel) rfl (Nat.le_of_ble_eq_true rfl) ?_
  intro p_ e_ s_ m_ bl_ me_ cd_ A_ ls X Y hr hlk hl
  have hx := X.1.1
  have hb := X.1.2.1
  have hl : lv_has ls 8 [(0, .ref mM), (1, .int 1), (2, .int w), (3, .int pa)] := hl
  unfold s_commands8p_1 at hu
  refine lv_iconst (v := 0) hx hb dX8_commands_0 (by decide) ?_
  refine lv_istore (lv' := [(4, .int 0), (0, .ref mM), (1, .int 1), (2, .int w), (3, .int pa)]) hx hb dX8_commands_1 hl (by decide) rfl (fun ls hl => ?_)
  refine lv_iconst (v := 0) hx hb dX8_commands_3 (by decide) ?_
  refine lv_istore (lv' := [(5, .int 0), (4, .int 0), (0, .ref mM), (1, .int 1), (2, .int w), (3, .int pa)]) hx hb dX8_commands_4 hl (by decide) rfl (fun ls hl => ?_)
  refine lv_iload hx hb dX8_commands_6 (lv_at hl 0 rfl) ?_
  refine lv_iconst (v := 2) hx hb dX8_commands_8 (by decide) ?_
  refine lv_icmp_ge (tgt := 124) hx hb dX8_commands_9 (by decide) (fun c_ => absurd c_ (by decide)) (fun _ => ?_)
  refine lv_aload_n hx hb dX8_commands_12 rfl (lv_at hl 2 rfl) ?_
  refine lv_iload hx hb dX8_commands_13 (lv_at hl 0 rfl) ?_
  refine lv_iload_n hx hb dX8_commands_15 rfl (lv_at hl 3 rfl) ?_
  refine bVI0 (As := [.int 0, .int 1]) (rest := []) (wc := [(mM, .inr (8, [.ref mN, .ref mR, .ref mA, .ref mP, .int ch, .ref mT, .int le, .int sp, .ref mD])), (mN, .inl (cyI, 515, .inl nw))]) (ci := 8) (q0 := 0) X Y (c_heeds8_01 l D cyC cyI mM mN mR mA mP mT mD ch le sp nw (s_heeds8_01 nw) rfl) gX8_commands_X8_heeds rfl ⟨rfl, rfl⟩ hd_X8_heeds ⟨(Nat.le_of_ble_eq_true rfl), (Nat.le_of_ble_eq_true rfl)⟩ rfl rfl rfl [0, 1] rfl rfl rfl rfl hl.1 (Nat.le_of_ble_eq_true rfl) ⟨Nat.zero_le _, Nat.zero_le _⟩ dX8_commands_16 (fun H locs Y => ?_)
  refine lv_if_eq (tgt := 118) hx hb dX8_commands_19 (by decide) (fun c_1 => ?_) (fun c_1 => ?_)
  · have c_1 := bB_f c_1
    rw [if_neg c_1] at hu
    refine lv_iinc (v := 1) (lv' := [(5, .int 1), (4, .int 0), (0, .ref mM), (1, .int 1), (2, .int w), (3, .int pa)]) hx hb dX8_commands_118 hl (k := 0) rfl (by decide) (by decide) rfl (fun ls hl => ?_)
    refine lv_goto (tgt := 6) hx hb dX8_commands_121 (by decide) ?_
    refine lv_iload hx hb dX8_commands_6 (lv_at hl 0 rfl) ?_
    refine lv_iconst (v := 2) hx hb dX8_commands_8 (by decide) ?_
    refine lv_icmp_ge (tgt := 124) hx hb dX8_commands_9 (by decide) (fun c_ => absurd c_ (by decide)) (fun _ => ?_)
    refine lv_aload_n hx hb dX8_commands_12 rfl (lv_at hl 2 rfl) ?_
    refine lv_iload hx hb dX8_commands_13 (lv_at hl 0 rfl) ?_
    refine lv_iload_n hx hb dX8_commands_15 rfl (lv_at hl 3 rfl) ?_
    refine bVI0 (As := [.int 1, .int 1]) (rest := []) (wc := [(mM, .inr (8, [.ref mN, .ref mR, .ref mA, .ref mP, .int ch, .ref mT, .int le, .int sp, .ref mD])), (mN, .inl (cyI, 515, .inl nw))]) (ci := 8) (q0 := 0) X Y (c_heeds8_11 l D cyC cyI mM mN mR mA mP mT mD ch le sp nw true rfl) gX8_commands_X8_heeds rfl ⟨rfl, rfl⟩ hd_X8_heeds ⟨(Nat.le_of_ble_eq_true rfl), (Nat.le_of_ble_eq_true rfl)⟩ rfl rfl rfl [0, 1] rfl rfl rfl rfl hl.1 (Nat.le_of_ble_eq_true rfl) ⟨Nat.zero_le _, Nat.zero_le _⟩ dX8_commands_16 (fun H locs Y => ?_)
    refine lv_if_eq (tgt := 118) hx hb dX8_commands_19 (by decide) (fun c_ => absurd c_ (by decide)) (fun _ => ?_)
    refine lv_iinc (v := 1) (lv' := [(4, .int 1), (5, .int 1), (0, .ref mM), (1, .int 1), (2, .int w), (3, .int pa)]) hx hb dX8_commands_22 hl (k := 1) rfl (by decide) (by decide) rfl (fun ls hl => ?_)
    refine lv_iconst (v := 0) hx hb dX8_commands_25 (by decide) ?_
    refine lv_istore (lv' := [(6, .int 0), (4, .int 1), (5, .int 1), (0, .ref mM), (1, .int 1), (2, .int w), (3, .int pa)]) hx hb dX8_commands_26 hl (by decide) rfl (fun ls hl => ?_)
    refine lv_iload hx hb dX8_commands_28 (lv_at hl 0 rfl) ?_
    refine lv_iconst (v := 5) hx hb dX8_commands_30 (by decide) ?_
    refine lv_icmp_ge (tgt := 52) hx hb dX8_commands_31 (by decide) (fun c_ => absurd c_ (by decide)) (fun _ => ?_)
    refine lv_aload_n hx hb dX8_commands_34 rfl (lv_at hl 3 rfl) ?_
    refine lv_iload hx hb dX8_commands_35 (lv_at hl 2 rfl) ?_
    refine lv_bipush (v := 8) hx hb dX8_commands_37 (by decide) ?_
    refine lv_iload hx hb dX8_commands_39 (lv_at hl 0 rfl) ?_
    refine bAdd (v := 8) X dX8_commands_41 (by decide) ?_
    refine lv_iconst (v := 0) hx hb dX8_commands_42 (by decide) ?_
    refine bVV (As := [.int 1, .int 8, .int 0]) (rest := []) (wc := [(mM, .inr (8, [.ref mN, .ref mR, .ref mA, .ref mP, .int ch, .ref mT, .int le, .int sp, .ref mD])), (mN, .inl (cyI, 515, .inl nw))]) (w1 := [(mM, .inr (8, [.ref mN, .ref mR, .ref mA, .ref mP, .int ch, .ref mT, .int le, .int sp, .ref mD])), (mN, .inl (cyI, 515, .inl (upd nw 28 0)))]) (ws' := [(mM, .inr (8, [.ref mN, .ref mR, .ref mA, .ref mP, .int ch, .ref mT, .int le, .int sp, .ref mD])), (mN, .inl (cyI, 515, .inl (upd nw 28 0)))]) (ad := [mM, mN]) (wr := []) (nn := 2) (ci := 8) (q0 := 0) X Y (c_tells8 l D cyC cyI mM mN mR mA mP mT mD ch le sp nw 1 8 0 (upd nw 28 0) (bTells (i := 28) (by decide) rfl) (bInD (by decide))) gX8_commands_X8_tells rfl ⟨rfl, rfl⟩ hd_X8_tells ⟨(Nat.le_of_ble_eq_true rfl), (Nat.le_of_ble_eq_true rfl)⟩ rfl rfl rfl [0, 1] [] rfl rfl rfl rfl rfl rfl rfl rfl (by decide) rfl rfl hl.1 (Nat.le_of_ble_eq_true rfl) ⟨Nat.zero_le _, Nat.zero_le _⟩ dX8_commands_43 (fun H locs Y => ?_)
    refine lv_iinc (v := 1) (lv' := [(6, .int 1), (4, .int 1), (5, .int 1), (0, .ref mM), (1, .int 1), (2, .int w), (3, .int pa)]) hx hb dX8_commands_46 hl (k := 0) rfl (by decide) (by decide) rfl (fun ls hl => ?_)
    refine lv_goto (tgt := 28) hx hb dX8_commands_49 (by decide) ?_
    refine lv_iload hx hb dX8_commands_28 (lv_at hl 0 rfl) ?_
    refine lv_iconst (v := 5) hx hb dX8_commands_30 (by decide) ?_
    refine lv_icmp_ge (tgt := 52) hx hb dX8_commands_31 (by decide) (fun c_ => absurd c_ (by decide)) (fun _ => ?_)
    refine lv_aload_n hx hb dX8_commands_34 rfl (lv_at hl 3 rfl) ?_
    refine lv_iload hx hb dX8_commands_35 (lv_at hl 2 rfl) ?_
    refine lv_bipush (v := 8) hx hb dX8_commands_37 (by decide) ?_
    refine lv_iload hx hb dX8_commands_39 (lv_at hl 0 rfl) ?_
    refine bAdd (v := 9) X dX8_commands_41 (by decide) ?_
    refine lv_iconst (v := 0) hx hb dX8_commands_42 (by decide) ?_
    refine bVV (As := [.int 1, .int 9, .int 0]) (rest := []) (wc := [(mM, .inr (8, [.ref mN, .ref mR, .ref mA, .ref mP, .int ch, .ref mT, .int le, .int sp, .ref mD])), (mN, .inl (cyI, 515, .inl (upd nw 28 0)))]) (w1 := [(mM, .inr (8, [.ref mN, .ref mR, .ref mA, .ref mP, .int ch, .ref mT, .int le, .int sp, .ref mD])), (mN, .inl (cyI, 515, .inl (upd (upd nw 28 0) 29 0)))]) (ws' := [(mM, .inr (8, [.ref mN, .ref mR, .ref mA, .ref mP, .int ch, .ref mT, .int le, .int sp, .ref mD])), (mN, .inl (cyI, 515, .inl (upd (upd nw 28 0) 29 0)))]) (ad := [mM, mN]) (wr := []) (nn := 2) (ci := 8) (q0 := 0) X Y (c_tells8 l D cyC cyI mM mN mR mA mP mT mD ch le sp (upd nw 28 0) 1 9 0 (upd (upd nw 28 0) 29 0) (bTells (i := 29) (by decide) rfl) (bInD (by decide))) gX8_commands_X8_tells rfl ⟨rfl, rfl⟩ hd_X8_tells ⟨(Nat.le_of_ble_eq_true rfl), (Nat.le_of_ble_eq_true rfl)⟩ rfl rfl rfl [0, 1] [] rfl rfl rfl rfl rfl rfl rfl rfl (by decide) rfl rfl hl.1 (Nat.le_of_ble_eq_true rfl) ⟨Nat.zero_le _, Nat.zero_le _⟩ dX8_commands_43 (fun H locs Y => ?_)
    refine lv_iinc (v := 2) (lv' := [(6, .int 2), (4, .int 1), (5, .int 1), (0, .ref mM), (1, .int 1), (2, .int w), (3, .int pa)]) hx hb dX8_commands_46 hl (k := 0) rfl (by decide) (by decide) rfl (fun ls hl => ?_)
    refine lv_goto (tgt := 28) hx hb dX8_commands_49 (by decide) ?_
    refine lv_iload hx hb dX8_commands_28 (lv_at hl 0 rfl) ?_
    refine lv_iconst (v := 5) hx hb dX8_commands_30 (by decide) ?_
    refine lv_icmp_ge (tgt := 52) hx hb dX8_commands_31 (by decide) (fun c_ => absurd c_ (by decide)) (fun _ => ?_)
    refine lv_aload_n hx hb dX8_commands_34 rfl (lv_at hl 3 rfl) ?_
    refine lv_iload hx hb dX8_commands_35 (lv_at hl 2 rfl) ?_
    refine lv_bipush (v := 8) hx hb dX8_commands_37 (by decide) ?_
    refine lv_iload hx hb dX8_commands_39 (lv_at hl 0 rfl) ?_
    refine bAdd (v := 10) X dX8_commands_41 (by decide) ?_
    refine lv_iconst (v := 0) hx hb dX8_commands_42 (by decide) ?_
    refine bVV (As := [.int 1, .int 10, .int 0]) (rest := []) (wc := [(mM, .inr (8, [.ref mN, .ref mR, .ref mA, .ref mP, .int ch, .ref mT, .int le, .int sp, .ref mD])), (mN, .inl (cyI, 515, .inl (upd (upd nw 28 0) 29 0)))]) (w1 := [(mM, .inr (8, [.ref mN, .ref mR, .ref mA, .ref mP, .int ch, .ref mT, .int le, .int sp, .ref mD])), (mN, .inl (cyI, 515, .inl (upd (upd (upd nw 28 0) 29 0) 30 0)))]) (ws' := [(mM, .inr (8, [.ref mN, .ref mR, .ref mA, .ref mP, .int ch, .ref mT, .int le, .int sp, .ref mD])), (mN, .inl (cyI, 515, .inl (upd (upd (upd nw 28 0) 29 0) 30 0)))]) (ad := [mM, mN]) (wr := []) (nn := 2) (ci := 8) (q0 := 0) X Y (c_tells8 l D cyC cyI mM mN mR mA mP mT mD ch le sp (upd (upd nw 28 0) 29 0) 1 10 0 (upd (upd (upd nw 28 0) 29 0) 30 0) (bTells (i := 30) (by decide) rfl) (bInD (by decide))) gX8_commands_X8_tells rfl ⟨rfl, rfl⟩ hd_X8_tells ⟨(Nat.le_of_ble_eq_true rfl), (Nat.le_of_ble_eq_true rfl)⟩ rfl rfl rfl [0, 1] [] rfl rfl rfl rfl rfl rfl rfl rfl (by decide) rfl rfl hl.1 (Nat.le_of_ble_eq_true rfl) ⟨Nat.zero_le _, Nat.zero_le _⟩ dX8_commands_43 (fun H locs Y => ?_)
    refine lv_iinc (v := 3) (lv' := [(6, .int 3), (4, .int 1), (5, .int 1), (0, .ref mM), (1, .int 1), (2, .int w), (3, .int pa)]) hx hb dX8_commands_46 hl (k := 0) rfl (by decide) (by decide) rfl (fun ls hl => ?_)
    refine lv_goto (tgt := 28) hx hb dX8_commands_49 (by decide) ?_
    refine lv_iload hx hb dX8_commands_28 (lv_at hl 0 rfl) ?_
    refine lv_iconst (v := 5) hx hb dX8_commands_30 (by decide) ?_
    refine lv_icmp_ge (tgt := 52) hx hb dX8_commands_31 (by decide) (fun c_ => absurd c_ (by decide)) (fun _ => ?_)
    refine lv_aload_n hx hb dX8_commands_34 rfl (lv_at hl 3 rfl) ?_
    refine lv_iload hx hb dX8_commands_35 (lv_at hl 2 rfl) ?_
    refine lv_bipush (v := 8) hx hb dX8_commands_37 (by decide) ?_
    refine lv_iload hx hb dX8_commands_39 (lv_at hl 0 rfl) ?_
    refine bAdd (v := 11) X dX8_commands_41 (by decide) ?_
    refine lv_iconst (v := 0) hx hb dX8_commands_42 (by decide) ?_
    refine bVV (As := [.int 1, .int 11, .int 0]) (rest := []) (wc := [(mM, .inr (8, [.ref mN, .ref mR, .ref mA, .ref mP, .int ch, .ref mT, .int le, .int sp, .ref mD])), (mN, .inl (cyI, 515, .inl (upd (upd (upd nw 28 0) 29 0) 30 0)))]) (w1 := [(mM, .inr (8, [.ref mN, .ref mR, .ref mA, .ref mP, .int ch, .ref mT, .int le, .int sp, .ref mD])), (mN, .inl (cyI, 515, .inl (upd (upd (upd (upd nw 28 0) 29 0) 30 0) 31 0)))]) (ws' := [(mM, .inr (8, [.ref mN, .ref mR, .ref mA, .ref mP, .int ch, .ref mT, .int le, .int sp, .ref mD])), (mN, .inl (cyI, 515, .inl (upd (upd (upd (upd nw 28 0) 29 0) 30 0) 31 0)))]) (ad := [mM, mN]) (wr := []) (nn := 2) (ci := 8) (q0 := 0) X Y (c_tells8 l D cyC cyI mM mN mR mA mP mT mD ch le sp (upd (upd (upd nw 28 0) 29 0) 30 0) 1 11 0 (upd (upd (upd (upd nw 28 0) 29 0) 30 0) 31 0) (bTells (i := 31) (by decide) rfl) (bInD (by decide))) gX8_commands_X8_tells rfl ⟨rfl, rfl⟩ hd_X8_tells ⟨(Nat.le_of_ble_eq_true rfl), (Nat.le_of_ble_eq_true rfl)⟩ rfl rfl rfl [0, 1] [] rfl rfl rfl rfl rfl rfl rfl rfl (by decide) rfl rfl hl.1 (Nat.le_of_ble_eq_true rfl) ⟨Nat.zero_le _, Nat.zero_le _⟩ dX8_commands_43 (fun H locs Y => ?_)
    refine lv_iinc (v := 4) (lv' := [(6, .int 4), (4, .int 1), (5, .int 1), (0, .ref mM), (1, .int 1), (2, .int w), (3, .int pa)]) hx hb dX8_commands_46 hl (k := 0) rfl (by decide) (by decide) rfl (fun ls hl => ?_)
    refine lv_goto (tgt := 28) hx hb dX8_commands_49 (by decide) ?_
    refine lv_iload hx hb dX8_commands_28 (lv_at hl 0 rfl) ?_
    refine lv_iconst (v := 5) hx hb dX8_commands_30 (by decide) ?_
    refine lv_icmp_ge (tgt := 52) hx hb dX8_commands_31 (by decide) (fun c_ => absurd c_ (by decide)) (fun _ => ?_)
    refine lv_aload_n hx hb dX8_commands_34 rfl (lv_at hl 3 rfl) ?_
    refine lv_iload hx hb dX8_commands_35 (lv_at hl 2 rfl) ?_
    refine lv_bipush (v := 8) hx hb dX8_commands_37 (by decide) ?_
    refine lv_iload hx hb dX8_commands_39 (lv_at hl 0 rfl) ?_
    refine bAdd (v := 12) X dX8_commands_41 (by decide) ?_
    refine lv_iconst (v := 0) hx hb dX8_commands_42 (by decide) ?_
    refine bVV (As := [.int 1, .int 12, .int 0]) (rest := []) (wc := [(mM, .inr (8, [.ref mN, .ref mR, .ref mA, .ref mP, .int ch, .ref mT, .int le, .int sp, .ref mD])), (mN, .inl (cyI, 515, .inl (upd (upd (upd (upd nw 28 0) 29 0) 30 0) 31 0)))]) (w1 := [(mM, .inr (8, [.ref mN, .ref mR, .ref mA, .ref mP, .int ch, .ref mT, .int le, .int sp, .ref mD])), (mN, .inl (cyI, 515, .inl (upd (upd (upd (upd (upd nw 28 0) 29 0) 30 0) 31 0) 32 0)))]) (ws' := [(mM, .inr (8, [.ref mN, .ref mR, .ref mA, .ref mP, .int ch, .ref mT, .int le, .int sp, .ref mD])), (mN, .inl (cyI, 515, .inl (upd (upd (upd (upd (upd nw 28 0) 29 0) 30 0) 31 0) 32 0)))]) (ad := [mM, mN]) (wr := []) (nn := 2) (ci := 8) (q0 := 0) X Y (c_tells8 l D cyC cyI mM mN mR mA mP mT mD ch le sp (upd (upd (upd (upd nw 28 0) 29 0) 30 0) 31 0) 1 12 0 (upd (upd (upd (upd (upd nw 28 0) 29 0) 30 0) 31 0) 32 0) (bTells (i := 32) (by decide) rfl) (bInD (by decide))) gX8_commands_X8_tells rfl ⟨rfl, rfl⟩ hd_X8_tells ⟨(Nat.le_of_ble_eq_true rfl), (Nat.le_of_ble_eq_true rfl)⟩ rfl rfl rfl [0, 1] [] rfl rfl rfl rfl rfl rfl rfl rfl (by decide) rfl rfl hl.1 (Nat.le_of_ble_eq_true rfl) ⟨Nat.zero_le _, Nat.zero_le _⟩ dX8_commands_43 (fun H locs Y => ?_)
    refine lv_iinc (v := 5) (lv' := [(6, .int 5), (4, .int 1), (5, .int 1), (0, .ref mM), (1, .int 1), (2, .int w), (3, .int pa)]) hx hb dX8_commands_46 hl (k := 0) rfl (by decide) (by decide) rfl (fun ls hl => ?_)
    refine lv_goto (tgt := 28) hx hb dX8_commands_49 (by decide) ?_
    refine lv_iload hx hb dX8_commands_28 (lv_at hl 0 rfl) ?_
    refine lv_iconst (v := 5) hx hb dX8_commands_30 (by decide) ?_
    refine lv_icmp_ge (tgt := 52) hx hb dX8_commands_31 (by decide) (fun _ => ?_) (fun c_ => absurd (by decide) c_)
    refine lv_iload_n hx hb dX8_commands_52 rfl (lv_at hl 5 rfl) ?_
    refine lv_aload_n hx hb dX8_commands_53 rfl (lv_at hl 3 rfl) ?_
    refine lv_iload hx hb dX8_commands_54 (lv_at hl 2 rfl) ?_
    refine lv_bipush (v := 6) hx hb dX8_commands_56 (by decide) ?_
    refine bVI0 (As := [.int 1, .int 6]) (rest := [.int w]) (wc := [(mM, .inr (8, [.ref mN, .ref mR, .ref mA, .ref mP, .int ch, .ref mT, .int le, .int sp, .ref mD])), (mN, .inl (cyI, 515, .inl (upd (upd (upd (upd (upd nw 28 0) 29 0) 30 0) 31 0) 32 0)))]) (ci := 8) (q0 := 0) X Y (c_of8 l D cyC cyI mM mN mR mA mP mT mD ch le sp (upd (upd (upd (upd (upd nw 28 0) 29 0) 30 0) 31 0) 32 0) 1 6 (nw 26) (bOf (i := 26) (by decide) ((upd_ne (by decide)).trans ((upd_ne (by decide)).trans ((upd_ne (by decide)).trans ((upd_ne (by decide)).trans ((upd_ne (by decide)).trans rfl)))))) (bInD (by decide))) gX8_commands_X8_of rfl ⟨rfl, rfl⟩ hd_X8_of ⟨(Nat.le_of_ble_eq_true rfl), (Nat.le_of_ble_eq_true rfl)⟩ rfl rfl rfl [0, 1] rfl rfl rfl rfl hl.1 (Nat.le_of_ble_eq_true rfl) ⟨Nat.zero_le _, Nat.zero_le _⟩ dX8_commands_58 (fun H locs Y => ?_)
    refine bSub (v := w - (nw 26)) X dX8_commands_61 rfl ?_
    refine lv_istore (lv' := [(6, .int (w - (nw 26))), (4, .int 1), (5, .int 1), (0, .ref mM), (1, .int 1), (2, .int w), (3, .int pa)]) hx hb dX8_commands_62 hl (by decide) rfl (fun ls hl => ?_)
    refine lv_iload_n hx hb dX8_commands_64 rfl (lv_at hl 6 rfl) ?_
    refine lv_if_ge (tgt := 73) hx hb dX8_commands_65 (by decide) (fun c_2 => ?_) (fun c_2 => ?_)
    · have c_2 : 0 ≤ pa := c_2
      rw [if_pos c_2] at hu
      refine lv_iload hx hb dX8_commands_73 (lv_at hl 0 rfl) ?_
      refine lv_iconst (v := 2) hx hb dX8_commands_75 (by decide) ?_
      refine bDiv (v := (w - (nw 26)) / 2) X dX8_commands_76 (by decide) rfl ?_
      refine lv_istore (lv' := [(7, .int ((w - (nw 26)) / 2)), (6, .int (w - (nw 26))), (4, .int 1), (5, .int 1), (0, .ref mM), (1, .int 1), (2, .int w), (3, .int pa)]) hx hb dX8_commands_77 hl (by decide) rfl (fun ls hl => ?_)
      refine lv_aload_n hx hb dX8_commands_79 rfl (lv_at hl 4 rfl) ?_
      refine lv_iload hx hb dX8_commands_80 (lv_at hl 3 rfl) ?_
      refine lv_aload_n hx hb dX8_commands_82 rfl (lv_at hl 4 rfl) ?_
      refine bGet (v := .ref mN) (T := TX8) (N := 9) (ci := 8) X Y i_X8_commands_X8 0 rfl rfl 0 (Nat.le_of_ble_eq_true rfl) f_X8_commands_7 rfl rfl dX8_commands_83 ?_
      refine lv_bipush (v := 6) hx hb dX8_commands_86 (by decide) ?_
      refine bIald (v := nw 6) X Y 1 rfl (bInD (by decide)) dX8_commands_88 ((upd_ne (by decide)).trans ((upd_ne (by decide)).trans ((upd_ne (by decide)).trans ((upd_ne (by decide)).trans ((upd_ne (by decide)).trans rfl))))) ?_
      refine lv_iconst (v := 1) hx hb dX8_commands_89 (by decide) ?_
      refine bAdd (v := (nw 6) + 1) X dX8_commands_90 rfl ?_
      refine lv_iload hx hb dX8_commands_91 (lv_at hl 0 rfl) ?_
      obtain ⟨u_3_0, hr_3⟩ := bEx1 (s_addsStep8_1 (upd (upd (upd (upd (upd nw 28 0) 29 0) 30 0) 31 0) 32 0) ((nw 6) + 1) ((w - (nw 26)) / 2))
      rw [hr_3] at hu
      dsimp only at hu
      have asK_1_3 := asK_1 hr_3
      refine bVV (As := [.int 1, .int ((nw 6) + 1), .int ((w - (nw 26)) / 2)]) (rest := []) (wc := [(mM, .inr (8, [.ref mN, .ref mR, .ref mA, .ref mP, .int ch, .ref mT, .int le, .int sp, .ref mD])), (mN, .inl (cyI, 515, .inl (upd (upd (upd (upd (upd nw 28 0) 29 0) 30 0) 31 0) 32 0)))]) (w1 := [(mM, .inr (8, [.ref mN, .ref mR, .ref mA, .ref mP, .int ch, .ref mT, .int le, .int sp, .ref mD])), (mN, .inl (cyI, 515, .inl u_3_0))]) (ws' := [(mM, .inr (8, [.ref mN, .ref mR, .ref mA, .ref mP, .int ch, .ref mT, .int le, .int sp, .ref mD])), (mN, .inl (cyI, 515, .inl u_3_0))]) (ad := [mM, mN]) (wr := []) (nn := 2) (ci := 8) (q0 := 0) X Y (c_addsStep8_1 l D cyC cyI mM mN mR mA mP mT mD ch le sp (upd (upd (upd (upd (upd nw 28 0) 29 0) 30 0) 31 0) 32 0) ((nw 6) + 1) ((w - (nw 26)) / 2) u_3_0 hr_3 (by first | exact Or.inl rfl | exact asK_1_1 rfl | exact asK_1_2 rfl | exact asK_1_3 rfl | exact asK_1_4 rfl | exact asK_1_5 rfl | exact asK_1_6 rfl | exact asK_1_7 rfl | exact asK_1_8 rfl | exact asK_1_9 rfl | exact asK_1_10 rfl | exact asK_1_11 rfl | exact asK_1_12 rfl | exact asK_1_13 rfl | exact asK_1_14 rfl | exact asK_1_15 rfl | exact asK_1_16 rfl | exact asK_1_17 rfl | exact asK_1_18 rfl | exact asK_1_19 rfl | exact asK_1_20 rfl | exact asK_1_21 rfl | exact asK_1_22 rfl | exact asK_1_23 rfl | exact asK_1_24 rfl | exact asK_1_25 rfl | exact asK_1_26 rfl | exact asK_1_27 rfl | exact asK_1_28 rfl | exact asK_1_29 rfl | exact asK_1_30 rfl | exact asK_1_31 rfl | exact asK_1_32 rfl | exact asK_1_33 rfl | exact asK_1_34 rfl | exact asK_1_35 rfl | exact asK_1_36 rfl | exact asK_1_37 rfl | exact asK_1_38 rfl | exact asK_1_39 rfl)) gX8_commands_X8_addsStep rfl ⟨rfl, rfl⟩ hd_X8_addsStep ⟨(Nat.le_of_ble_eq_true rfl), (Nat.le_of_ble_eq_true rfl)⟩ rfl rfl rfl [0, 1] [] rfl rfl rfl rfl rfl rfl rfl rfl (by decide) rfl rfl hl.1 (Nat.le_of_ble_eq_true rfl) ⟨Nat.zero_le _, Nat.zero_le _⟩ dX8_commands_93 (fun H locs Y => ?_)
      refine lv_aload_n hx hb dX8_commands_96 rfl (lv_at hl 4 rfl) ?_
      refine lv_iload hx hb dX8_commands_97 (lv_at hl 3 rfl) ?_
      refine lv_aload_n hx hb dX8_commands_99 rfl (lv_at hl 4 rfl) ?_
      refine bGet (v := .ref mN) (T := TX8) (N := 9) (ci := 8) X Y i_X8_commands_X8 0 rfl rfl 0 (Nat.le_of_ble_eq_true rfl) f_X8_commands_7 rfl rfl dX8_commands_100 ?_
      refine lv_bipush (v := 6) hx hb dX8_commands_103 (by decide) ?_
      refine bIald (v := u_3_0 6) X Y 1 rfl (bInD (by decide)) dX8_commands_105 rfl ?_
      refine lv_iconst (v := 1) hx hb dX8_commands_106 (by decide) ?_
      refine bAdd (v := (u_3_0 6) + 1) X dX8_commands_107 rfl ?_
      refine lv_iload_n hx hb dX8_commands_108 rfl (lv_at hl 7 rfl) ?_
      refine bAdd (v := ((u_3_0 6) + 1) + pa) X dX8_commands_109 rfl ?_
      refine lv_iload hx hb dX8_commands_110 (lv_at hl 1 rfl) ?_
      refine lv_iload hx hb dX8_commands_112 (lv_at hl 0 rfl) ?_
      refine bSub (v := (w - (nw 26)) - ((w - (nw 26)) / 2)) X dX8_commands_114 rfl ?_
      obtain ⟨u_4_0, hr_4⟩ := bEx1 (s_addsStep8_1 u_3_0 (((u_3_0 6) + 1) + pa) ((w - (nw 26)) - ((w - (nw 26)) / 2)))
      rw [hr_4] at hu
      dsimp only at hu
      have asK_1_4 := asK_1 hr_4
      refine bVV (As := [.int 1, .int (((u_3_0 6) + 1) + pa), .int ((w - (nw 26)) - ((w - (nw 26)) / 2))]) (rest := []) (wc := [(mM, .inr (8, [.ref mN, .ref mR, .ref mA, .ref mP, .int ch, .ref mT, .int le, .int sp, .ref mD])), (mN, .inl (cyI, 515, .inl u_3_0))]) (w1 := [(mM, .inr (8, [.ref mN, .ref mR, .ref mA, .ref mP, .int ch, .ref mT, .int le, .int sp, .ref mD])), (mN, .inl (cyI, 515, .inl u_4_0))]) (ws' := [(mM, .inr (8, [.ref mN, .ref mR, .ref mA, .ref mP, .int ch, .ref mT, .int le, .int sp, .ref mD])), (mN, .inl (cyI, 515, .inl u_4_0))]) (ad := [mM, mN]) (wr := []) (nn := 2) (ci := 8) (q0 := 0) X Y (c_addsStep8_1 l D cyC cyI mM mN mR mA mP mT mD ch le sp u_3_0 (((u_3_0 6) + 1) + pa) ((w - (nw 26)) - ((w - (nw 26)) / 2)) u_4_0 hr_4 (by first | exact Or.inl rfl | exact asK_1_1 rfl | exact asK_1_2 rfl | exact asK_1_3 rfl | exact asK_1_4 rfl | exact asK_1_5 rfl | exact asK_1_6 rfl | exact asK_1_7 rfl | exact asK_1_8 rfl | exact asK_1_9 rfl | exact asK_1_10 rfl | exact asK_1_11 rfl | exact asK_1_12 rfl | exact asK_1_13 rfl | exact asK_1_14 rfl | exact asK_1_15 rfl | exact asK_1_16 rfl | exact asK_1_17 rfl | exact asK_1_18 rfl | exact asK_1_19 rfl | exact asK_1_20 rfl | exact asK_1_21 rfl | exact asK_1_22 rfl | exact asK_1_23 rfl | exact asK_1_24 rfl | exact asK_1_25 rfl | exact asK_1_26 rfl | exact asK_1_27 rfl | exact asK_1_28 rfl | exact asK_1_29 rfl | exact asK_1_30 rfl | exact asK_1_31 rfl | exact asK_1_32 rfl | exact asK_1_33 rfl | exact asK_1_34 rfl | exact asK_1_35 rfl | exact asK_1_36 rfl | exact asK_1_37 rfl | exact asK_1_38 rfl | exact asK_1_39 rfl)) gX8_commands_X8_addsStep rfl ⟨rfl, rfl⟩ hd_X8_addsStep ⟨(Nat.le_of_ble_eq_true rfl), (Nat.le_of_ble_eq_true rfl)⟩ rfl rfl rfl [0, 1] [] rfl rfl rfl rfl rfl rfl rfl rfl (by decide) rfl rfl hl.1 (Nat.le_of_ble_eq_true rfl) ⟨Nat.zero_le _, Nat.zero_le _⟩ dX8_commands_115 (fun H locs Y => ?_)
      refine lv_iinc (v := 2) (lv' := [(5, .int 2), (7, .int ((w - (nw 26)) / 2)), (6, .int (w - (nw 26))), (4, .int 1), (0, .ref mM), (1, .int 1), (2, .int w), (3, .int pa)]) hx hb dX8_commands_118 hl (k := 3) rfl (by decide) (by decide) rfl (fun ls hl => ?_)
      refine lv_goto (tgt := 6) hx hb dX8_commands_121 (by decide) ?_
      refine lv_iload hx hb dX8_commands_6 (lv_at hl 0 rfl) ?_
      refine lv_iconst (v := 2) hx hb dX8_commands_8 (by decide) ?_
      refine lv_icmp_ge (tgt := 124) hx hb dX8_commands_9 (by decide) (fun _ => ?_) (fun c_ => absurd (by decide) c_)
      refine lv_iload hx hb dX8_commands_124 (lv_at hl 3 rfl) ?_
      have h9 := (Prod.mk.inj hu).1; replace hu := (Prod.mk.inj hu).2; subst h9
      subst hu
      exact bEndI X Y hr hlk dX8_commands_126 rfl rfl
    · have c_2 : ¬ (0 ≤ pa) := c_2
      rw [if_neg c_2] at hu
      refine lv_iload hx hb dX8_commands_68 (lv_at hl 0 rfl) ?_
      refine lv_goto (tgt := 77) hx hb dX8_commands_70 (by decide) ?_
      refine lv_istore (lv' := [(7, .int (w - (nw 26))), (6, .int (w - (nw 26))), (4, .int 1), (5, .int 1), (0, .ref mM), (1, .int 1), (2, .int w), (3, .int pa)]) hx hb dX8_commands_77 hl (by decide) rfl (fun ls hl => ?_)
      refine lv_aload_n hx hb dX8_commands_79 rfl (lv_at hl 4 rfl) ?_
      refine lv_iload hx hb dX8_commands_80 (lv_at hl 3 rfl) ?_
      refine lv_aload_n hx hb dX8_commands_82 rfl (lv_at hl 4 rfl) ?_
      refine bGet (v := .ref mN) (T := TX8) (N := 9) (ci := 8) X Y i_X8_commands_X8 0 rfl rfl 0 (Nat.le_of_ble_eq_true rfl) f_X8_commands_7 rfl rfl dX8_commands_83 ?_
      refine lv_bipush (v := 6) hx hb dX8_commands_86 (by decide) ?_
      refine bIald (v := nw 6) X Y 1 rfl (bInD (by decide)) dX8_commands_88 ((upd_ne (by decide)).trans ((upd_ne (by decide)).trans ((upd_ne (by decide)).trans ((upd_ne (by decide)).trans ((upd_ne (by decide)).trans rfl))))) ?_
      refine lv_iconst (v := 1) hx hb dX8_commands_89 (by decide) ?_
      refine bAdd (v := (nw 6) + 1) X dX8_commands_90 rfl ?_
      refine lv_iload hx hb dX8_commands_91 (lv_at hl 0 rfl) ?_
      obtain ⟨u_5_0, hr_5⟩ := bEx1 (s_addsStep8_1 (upd (upd (upd (upd (upd nw 28 0) 29 0) 30 0) 31 0) 32 0) ((nw 6) + 1) (w - (nw 26)))
      rw [hr_5] at hu
      dsimp only at hu
      have asK_1_5 := asK_1 hr_5
      refine bVV (As := [.int 1, .int ((nw 6) + 1), .int (w - (nw 26))]) (rest := []) (wc := [(mM, .inr (8, [.ref mN, .ref mR, .ref mA, .ref mP, .int ch, .ref mT, .int le, .int sp, .ref mD])), (mN, .inl (cyI, 515, .inl (upd (upd (upd (upd (upd nw 28 0) 29 0) 30 0) 31 0) 32 0)))]) (w1 := [(mM, .inr (8, [.ref mN, .ref mR, .ref mA, .ref mP, .int ch, .ref mT, .int le, .int sp, .ref mD])), (mN, .inl (cyI, 515, .inl u_5_0))]) (ws' := [(mM, .inr (8, [.ref mN, .ref mR, .ref mA, .ref mP, .int ch, .ref mT, .int le, .int sp, .ref mD])), (mN, .inl (cyI, 515, .inl u_5_0))]) (ad := [mM, mN]) (wr := []) (nn := 2) (ci := 8) (q0 := 0) X Y (c_addsStep8_1 l D cyC cyI mM mN mR mA mP mT mD ch le sp (upd (upd (upd (upd (upd nw 28 0) 29 0) 30 0) 31 0) 32 0) ((nw 6) + 1) (w - (nw 26)) u_5_0 hr_5 (by first | exact Or.inl rfl | exact asK_1_1 rfl | exact asK_1_2 rfl | exact asK_1_3 rfl | exact asK_1_4 rfl | exact asK_1_5 rfl | exact asK_1_6 rfl | exact asK_1_7 rfl | exact asK_1_8 rfl | exact asK_1_9 rfl | exact asK_1_10 rfl | exact asK_1_11 rfl | exact asK_1_12 rfl | exact asK_1_13 rfl | exact asK_1_14 rfl | exact asK_1_15 rfl | exact asK_1_16 rfl | exact asK_1_17 rfl | exact asK_1_18 rfl | exact asK_1_19 rfl | exact asK_1_20 rfl | exact asK_1_21 rfl | exact asK_1_22 rfl | exact asK_1_23 rfl | exact asK_1_24 rfl | exact asK_1_25 rfl | exact asK_1_26 rfl | exact asK_1_27 rfl | exact asK_1_28 rfl | exact asK_1_29 rfl | exact asK_1_30 rfl | exact asK_1_31 rfl | exact asK_1_32 rfl | exact asK_1_33 rfl | exact asK_1_34 rfl | exact asK_1_35 rfl | exact asK_1_36 rfl | exact asK_1_37 rfl | exact asK_1_38 rfl | exact asK_1_39 rfl)) gX8_commands_X8_addsStep rfl ⟨rfl, rfl⟩ hd_X8_addsStep ⟨(Nat.le_of_ble_eq_true rfl), (Nat.le_of_ble_eq_true rfl)⟩ rfl rfl rfl [0, 1] [] rfl rfl rfl rfl rfl rfl rfl rfl (by decide) rfl rfl hl.1 (Nat.le_of_ble_eq_true rfl) ⟨Nat.zero_le _, Nat.zero_le _⟩ dX8_commands_93 (fun H locs Y => ?_)
      refine lv_aload_n hx hb dX8_commands_96 rfl (lv_at hl 4 rfl) ?_
      refine lv_iload hx hb dX8_commands_97 (lv_at hl 3 rfl) ?_
      refine lv_aload_n hx hb dX8_commands_99 rfl (lv_at hl 4 rfl) ?_
      refine bGet (v := .ref mN) (T := TX8) (N := 9) (ci := 8) X Y i_X8_commands_X8 0 rfl rfl 0 (Nat.le_of_ble_eq_true rfl) f_X8_commands_7 rfl rfl dX8_commands_100 ?_
      refine lv_bipush (v := 6) hx hb dX8_commands_103 (by decide) ?_
      refine bIald (v := u_5_0 6) X Y 1 rfl (bInD (by decide)) dX8_commands_105 rfl ?_
      refine lv_iconst (v := 1) hx hb dX8_commands_106 (by decide) ?_
      refine bAdd (v := (u_5_0 6) + 1) X dX8_commands_107 rfl ?_
      refine lv_iload_n hx hb dX8_commands_108 rfl (lv_at hl 7 rfl) ?_
      refine bAdd (v := ((u_5_0 6) + 1) + pa) X dX8_commands_109 rfl ?_
      refine lv_iload hx hb dX8_commands_110 (lv_at hl 1 rfl) ?_
      refine lv_iload hx hb dX8_commands_112 (lv_at hl 0 rfl) ?_
      refine bSub (v := (w - (nw 26)) - (w - (nw 26))) X dX8_commands_114 rfl ?_
      obtain ⟨u_6_0, hr_6⟩ := bEx1 (s_addsStep8_1 u_5_0 (((u_5_0 6) + 1) + pa) ((w - (nw 26)) - (w - (nw 26))))
      rw [hr_6] at hu
      dsimp only at hu
      have asK_1_6 := asK_1 hr_6
      refine bVV (As := [.int 1, .int (((u_5_0 6) + 1) + pa), .int ((w - (nw 26)) - (w - (nw 26)))]) (rest := []) (wc := [(mM, .inr (8, [.ref mN, .ref mR, .ref mA, .ref mP, .int ch, .ref mT, .int le, .int sp, .ref mD])), (mN, .inl (cyI, 515, .inl u_5_0))]) (w1 := [(mM, .inr (8, [.ref mN, .ref mR, .ref mA, .ref mP, .int ch, .ref mT, .int le, .int sp, .ref mD])), (mN, .inl (cyI, 515, .inl u_6_0))]) (ws' := [(mM, .inr (8, [.ref mN, .ref mR, .ref mA, .ref mP, .int ch, .ref mT, .int le, .int sp, .ref mD])), (mN, .inl (cyI, 515, .inl u_6_0))]) (ad := [mM, mN]) (wr := []) (nn := 2) (ci := 8) (q0 := 0) X Y (c_addsStep8_1 l D cyC cyI mM mN mR mA mP mT mD ch le sp u_5_0 (((u_5_0 6) + 1) + pa) ((w - (nw 26)) - (w - (nw 26))) u_6_0 hr_6 (by first | exact Or.inl rfl | exact asK_1_1 rfl | exact asK_1_2 rfl | exact asK_1_3 rfl | exact asK_1_4 rfl | exact asK_1_5 rfl | exact asK_1_6 rfl | exact asK_1_7 rfl | exact asK_1_8 rfl | exact asK_1_9 rfl | exact asK_1_10 rfl | exact asK_1_11 rfl | exact asK_1_12 rfl | exact asK_1_13 rfl | exact asK_1_14 rfl | exact asK_1_15 rfl | exact asK_1_16 rfl | exact asK_1_17 rfl | exact asK_1_18 rfl | exact asK_1_19 rfl | exact asK_1_20 rfl | exact asK_1_21 rfl | exact asK_1_22 rfl | exact asK_1_23 rfl | exact asK_1_24 rfl | exact asK_1_25 rfl | exact asK_1_26 rfl | exact asK_1_27 rfl | exact asK_1_28 rfl | exact asK_1_29 rfl | exact asK_1_30 rfl | exact asK_1_31 rfl | exact asK_1_32 rfl | exact asK_1_33 rfl | exact asK_1_34 rfl | exact asK_1_35 rfl | exact asK_1_36 rfl | exact asK_1_37 rfl | exact asK_1_38 rfl | exact asK_1_39 rfl)) gX8_commands_X8_addsStep rfl ⟨rfl, rfl⟩ hd_X8_addsStep ⟨(Nat.le_of_ble_eq_true rfl), (Nat.le_of_ble_eq_true rfl)⟩ rfl rfl rfl [0, 1] [] rfl rfl rfl rfl rfl rfl rfl rfl (by decide) rfl rfl hl.1 (Nat.le_of_ble_eq_true rfl) ⟨Nat.zero_le _, Nat.zero_le _⟩ dX8_commands_115 (fun H locs Y => ?_)
      refine lv_iinc (v := 2) (lv' := [(5, .int 2), (7, .int (w - (nw 26))), (6, .int (w - (nw 26))), (4, .int 1), (0, .ref mM), (1, .int 1), (2, .int w), (3, .int pa)]) hx hb dX8_commands_118 hl (k := 3) rfl (by decide) (by decide) rfl (fun ls hl => ?_)
      refine lv_goto (tgt := 6) hx hb dX8_commands_121 (by decide) ?_
      refine lv_iload hx hb dX8_commands_6 (lv_at hl 0 rfl) ?_
      refine lv_iconst (v := 2) hx hb dX8_commands_8 (by decide) ?_
      refine lv_icmp_ge (tgt := 124) hx hb dX8_commands_9 (by decide) (fun _ => ?_) (fun c_ => absurd (by decide) c_)
      refine lv_iload hx hb dX8_commands_124 (lv_at hl 3 rfl) ?_
      have h9 := (Prod.mk.inj hu).1; replace hu := (Prod.mk.inj hu).2; subst h9
      subst hu
      exact bEndI X Y hr hlk dX8_commands_126 rfl rfl
  · have c_1 := bB_t c_1
    rw [if_pos c_1] at hu
    refine lv_iinc (v := 1) (lv' := [(4, .int 1), (5, .int 0), (0, .ref mM), (1, .int 1), (2, .int w), (3, .int pa)]) hx hb dX8_commands_22 hl (k := 1) rfl (by decide) (by decide) rfl (fun ls hl => ?_)
    refine lv_iconst (v := 0) hx hb dX8_commands_25 (by decide) ?_
    refine lv_istore (lv' := [(6, .int 0), (4, .int 1), (5, .int 0), (0, .ref mM), (1, .int 1), (2, .int w), (3, .int pa)]) hx hb dX8_commands_26 hl (by decide) rfl (fun ls hl => ?_)
    refine lv_iload hx hb dX8_commands_28 (lv_at hl 0 rfl) ?_
    refine lv_iconst (v := 5) hx hb dX8_commands_30 (by decide) ?_
    refine lv_icmp_ge (tgt := 52) hx hb dX8_commands_31 (by decide) (fun c_ => absurd c_ (by decide)) (fun _ => ?_)
    refine lv_aload_n hx hb dX8_commands_34 rfl (lv_at hl 3 rfl) ?_
    refine lv_iload hx hb dX8_commands_35 (lv_at hl 2 rfl) ?_
    refine lv_bipush (v := 8) hx hb dX8_commands_37 (by decide) ?_
    refine lv_iload hx hb dX8_commands_39 (lv_at hl 0 rfl) ?_
    refine bAdd (v := 8) X dX8_commands_41 (by decide) ?_
    refine lv_iconst (v := 0) hx hb dX8_commands_42 (by decide) ?_
    refine bVV (As := [.int 0, .int 8, .int 0]) (rest := []) (wc := [(mM, .inr (8, [.ref mN, .ref mR, .ref mA, .ref mP, .int ch, .ref mT, .int le, .int sp, .ref mD])), (mN, .inl (cyI, 515, .inl nw))]) (w1 := [(mM, .inr (8, [.ref mN, .ref mR, .ref mA, .ref mP, .int ch, .ref mT, .int le, .int sp, .ref mD])), (mN, .inl (cyI, 515, .inl (upd nw 15 0)))]) (ws' := [(mM, .inr (8, [.ref mN, .ref mR, .ref mA, .ref mP, .int ch, .ref mT, .int le, .int sp, .ref mD])), (mN, .inl (cyI, 515, .inl (upd nw 15 0)))]) (ad := [mM, mN]) (wr := []) (nn := 2) (ci := 8) (q0 := 0) X Y (c_tells8 l D cyC cyI mM mN mR mA mP mT mD ch le sp nw 0 8 0 (upd nw 15 0) (bTells (i := 15) (by decide) rfl) (bInD (by decide))) gX8_commands_X8_tells rfl ⟨rfl, rfl⟩ hd_X8_tells ⟨(Nat.le_of_ble_eq_true rfl), (Nat.le_of_ble_eq_true rfl)⟩ rfl rfl rfl [0, 1] [] rfl rfl rfl rfl rfl rfl rfl rfl (by decide) rfl rfl hl.1 (Nat.le_of_ble_eq_true rfl) ⟨Nat.zero_le _, Nat.zero_le _⟩ dX8_commands_43 (fun H locs Y => ?_)
    refine lv_iinc (v := 1) (lv' := [(6, .int 1), (4, .int 1), (5, .int 0), (0, .ref mM), (1, .int 1), (2, .int w), (3, .int pa)]) hx hb dX8_commands_46 hl (k := 0) rfl (by decide) (by decide) rfl (fun ls hl => ?_)
    refine lv_goto (tgt := 28) hx hb dX8_commands_49 (by decide) ?_
    refine lv_iload hx hb dX8_commands_28 (lv_at hl 0 rfl) ?_
    refine lv_iconst (v := 5) hx hb dX8_commands_30 (by decide) ?_
    refine lv_icmp_ge (tgt := 52) hx hb dX8_commands_31 (by decide) (fun c_ => absurd c_ (by decide)) (fun _ => ?_)
    refine lv_aload_n hx hb dX8_commands_34 rfl (lv_at hl 3 rfl) ?_
    refine lv_iload hx hb dX8_commands_35 (lv_at hl 2 rfl) ?_
    refine lv_bipush (v := 8) hx hb dX8_commands_37 (by decide) ?_
    refine lv_iload hx hb dX8_commands_39 (lv_at hl 0 rfl) ?_
    refine bAdd (v := 9) X dX8_commands_41 (by decide) ?_
    refine lv_iconst (v := 0) hx hb dX8_commands_42 (by decide) ?_
    refine bVV (As := [.int 0, .int 9, .int 0]) (rest := []) (wc := [(mM, .inr (8, [.ref mN, .ref mR, .ref mA, .ref mP, .int ch, .ref mT, .int le, .int sp, .ref mD])), (mN, .inl (cyI, 515, .inl (upd nw 15 0)))]) (w1 := [(mM, .inr (8, [.ref mN, .ref mR, .ref mA, .ref mP, .int ch, .ref mT, .int le, .int sp, .ref mD])), (mN, .inl (cyI, 515, .inl (upd (upd nw 15 0) 16 0)))]) (ws' := [(mM, .inr (8, [.ref mN, .ref mR, .ref mA, .ref mP, .int ch, .ref mT, .int le, .int sp, .ref mD])), (mN, .inl (cyI, 515, .inl (upd (upd nw 15 0) 16 0)))]) (ad := [mM, mN]) (wr := []) (nn := 2) (ci := 8) (q0 := 0) X Y (c_tells8 l D cyC cyI mM mN mR mA mP mT mD ch le sp (upd nw 15 0) 0 9 0 (upd (upd nw 15 0) 16 0) (bTells (i := 16) (by decide) rfl) (bInD (by decide))) gX8_commands_X8_tells rfl ⟨rfl, rfl⟩ hd_X8_tells ⟨(Nat.le_of_ble_eq_true rfl), (Nat.le_of_ble_eq_true rfl)⟩ rfl rfl rfl [0, 1] [] rfl rfl rfl rfl rfl rfl rfl rfl (by decide) rfl rfl hl.1 (Nat.le_of_ble_eq_true rfl) ⟨Nat.zero_le _, Nat.zero_le _⟩ dX8_commands_43 (fun H locs Y => ?_)
    refine lv_iinc (v := 2) (lv' := [(6, .int 2), (4, .int 1), (5, .int 0), (0, .ref mM), (1, .int 1), (2, .int w), (3, .int pa)]) hx hb dX8_commands_46 hl (k := 0) rfl (by decide) (by decide) rfl (fun ls hl => ?_)
    refine lv_goto (tgt := 28) hx hb dX8_commands_49 (by decide) ?_
    refine lv_iload hx hb dX8_commands_28 (lv_at hl 0 rfl) ?_
    refine lv_iconst (v := 5) hx hb dX8_commands_30 (by decide) ?_
    refine lv_icmp_ge (tgt := 52) hx hb dX8_commands_31 (by decide) (fun c_ => absurd c_ (by decide)) (fun _ => ?_)
    refine lv_aload_n hx hb dX8_commands_34 rfl (lv_at hl 3 rfl) ?_
    refine lv_iload hx hb dX8_commands_35 (lv_at hl 2 rfl) ?_
    refine lv_bipush (v := 8) hx hb dX8_commands_37 (by decide) ?_
    refine lv_iload hx hb dX8_commands_39 (lv_at hl 0 rfl) ?_
    refine bAdd (v := 10) X dX8_commands_41 (by decide) ?_
    refine lv_iconst (v := 0) hx hb dX8_commands_42 (by decide) ?_
    refine bVV (As := [.int 0, .int 10, .int 0]) (rest := []) (wc := [(mM, .inr (8, [.ref mN, .ref mR, .ref mA, .ref mP, .int ch, .ref mT, .int le, .int sp, .ref mD])), (mN, .inl (cyI, 515, .inl (upd (upd nw 15 0) 16 0)))]) (w1 := [(mM, .inr (8, [.ref mN, .ref mR, .ref mA, .ref mP, .int ch, .ref mT, .int le, .int sp, .ref mD])), (mN, .inl (cyI, 515, .inl (upd (upd (upd nw 15 0) 16 0) 17 0)))]) (ws' := [(mM, .inr (8, [.ref mN, .ref mR, .ref mA, .ref mP, .int ch, .ref mT, .int le, .int sp, .ref mD])), (mN, .inl (cyI, 515, .inl (upd (upd (upd nw 15 0) 16 0) 17 0)))]) (ad := [mM, mN]) (wr := []) (nn := 2) (ci := 8) (q0 := 0) X Y (c_tells8 l D cyC cyI mM mN mR mA mP mT mD ch le sp (upd (upd nw 15 0) 16 0) 0 10 0 (upd (upd (upd nw 15 0) 16 0) 17 0) (bTells (i := 17) (by decide) rfl) (bInD (by decide))) gX8_commands_X8_tells rfl ⟨rfl, rfl⟩ hd_X8_tells ⟨(Nat.le_of_ble_eq_true rfl), (Nat.le_of_ble_eq_true rfl)⟩ rfl rfl rfl [0, 1] [] rfl rfl rfl rfl rfl rfl rfl rfl (by decide) rfl rfl hl.1 (Nat.le_of_ble_eq_true rfl) ⟨Nat.zero_le _, Nat.zero_le _⟩ dX8_commands_43 (fun H locs Y => ?_)
    refine lv_iinc (v := 3) (lv' := [(6, .int 3), (4, .int 1), (5, .int 0), (0, .ref mM), (1, .int 1), (2, .int w), (3, .int pa)]) hx hb dX8_commands_46 hl (k := 0) rfl (by decide) (by decide) rfl (fun ls hl => ?_)
    refine lv_goto (tgt := 28) hx hb dX8_commands_49 (by decide) ?_
    refine lv_iload hx hb dX8_commands_28 (lv_at hl 0 rfl) ?_
    refine lv_iconst (v := 5) hx hb dX8_commands_30 (by decide) ?_
    refine lv_icmp_ge (tgt := 52) hx hb dX8_commands_31 (by decide) (fun c_ => absurd c_ (by decide)) (fun _ => ?_)
    refine lv_aload_n hx hb dX8_commands_34 rfl (lv_at hl 3 rfl) ?_
    refine lv_iload hx hb dX8_commands_35 (lv_at hl 2 rfl) ?_
    refine lv_bipush (v := 8) hx hb dX8_commands_37 (by decide) ?_
    refine lv_iload hx hb dX8_commands_39 (lv_at hl 0 rfl) ?_
    refine bAdd (v := 11) X dX8_commands_41 (by decide) ?_
    refine lv_iconst (v := 0) hx hb dX8_commands_42 (by decide) ?_
    refine bVV (As := [.int 0, .int 11, .int 0]) (rest := []) (wc := [(mM, .inr (8, [.ref mN, .ref mR, .ref mA, .ref mP, .int ch, .ref mT, .int le, .int sp, .ref mD])), (mN, .inl (cyI, 515, .inl (upd (upd (upd nw 15 0) 16 0) 17 0)))]) (w1 := [(mM, .inr (8, [.ref mN, .ref mR, .ref mA, .ref mP, .int ch, .ref mT, .int le, .int sp, .ref mD])), (mN, .inl (cyI, 515, .inl (upd (upd (upd (upd nw 15 0) 16 0) 17 0) 18 0)))]) (ws' := [(mM, .inr (8, [.ref mN, .ref mR, .ref mA, .ref mP, .int ch, .ref mT, .int le, .int sp, .ref mD])), (mN, .inl (cyI, 515, .inl (upd (upd (upd (upd nw 15 0) 16 0) 17 0) 18 0)))]) (ad := [mM, mN]) (wr := []) (nn := 2) (ci := 8) (q0 := 0) X Y (c_tells8 l D cyC cyI mM mN mR mA mP mT mD ch le sp (upd (upd (upd nw 15 0) 16 0) 17 0) 0 11 0 (upd (upd (upd (upd nw 15 0) 16 0) 17 0) 18 0) (bTells (i := 18) (by decide) rfl) (bInD (by decide))) gX8_commands_X8_tells rfl ⟨rfl, rfl⟩ hd_X8_tells ⟨(Nat.le_of_ble_eq_true rfl), (Nat.le_of_ble_eq_true rfl)⟩ rfl rfl rfl [0, 1] [] rfl rfl rfl rfl rfl rfl rfl rfl (by decide) rfl rfl hl.1 (Nat.le_of_ble_eq_true rfl) ⟨Nat.zero_le _, Nat.zero_le _⟩ dX8_commands_43 (fun H locs Y => ?_)
    refine lv_iinc (v := 4) (lv' := [(6, .int 4), (4, .int 1), (5, .int 0), (0, .ref mM), (1, .int 1), (2, .int w), (3, .int pa)]) hx hb dX8_commands_46 hl (k := 0) rfl (by decide) (by decide) rfl (fun ls hl => ?_)
    refine lv_goto (tgt := 28) hx hb dX8_commands_49 (by decide) ?_
    refine lv_iload hx hb dX8_commands_28 (lv_at hl 0 rfl) ?_
    refine lv_iconst (v := 5) hx hb dX8_commands_30 (by decide) ?_
    refine lv_icmp_ge (tgt := 52) hx hb dX8_commands_31 (by decide) (fun c_ => absurd c_ (by decide)) (fun _ => ?_)
    refine lv_aload_n hx hb dX8_commands_34 rfl (lv_at hl 3 rfl) ?_
    refine lv_iload hx hb dX8_commands_35 (lv_at hl 2 rfl) ?_
    refine lv_bipush (v := 8) hx hb dX8_commands_37 (by decide) ?_
    refine lv_iload hx hb dX8_commands_39 (lv_at hl 0 rfl) ?_
    refine bAdd (v := 12) X dX8_commands_41 (by decide) ?_
    refine lv_iconst (v := 0) hx hb dX8_commands_42 (by decide) ?_
    refine bVV (As := [.int 0, .int 12, .int 0]) (rest := []) (wc := [(mM, .inr (8, [.ref mN, .ref mR, .ref mA, .ref mP, .int ch, .ref mT, .int le, .int sp, .ref mD])), (mN, .inl (cyI, 515, .inl (upd (upd (upd (upd nw 15 0) 16 0) 17 0) 18 0)))]) (w1 := [(mM, .inr (8, [.ref mN, .ref mR, .ref mA, .ref mP, .int ch, .ref mT, .int le, .int sp, .ref mD])), (mN, .inl (cyI, 515, .inl (upd (upd (upd (upd (upd nw 15 0) 16 0) 17 0) 18 0) 19 0)))]) (ws' := [(mM, .inr (8, [.ref mN, .ref mR, .ref mA, .ref mP, .int ch, .ref mT, .int le, .int sp, .ref mD])), (mN, .inl (cyI, 515, .inl (upd (upd (upd (upd (upd nw 15 0) 16 0) 17 0) 18 0) 19 0)))]) (ad := [mM, mN]) (wr := []) (nn := 2) (ci := 8) (q0 := 0) X Y (c_tells8 l D cyC cyI mM mN mR mA mP mT mD ch le sp (upd (upd (upd (upd nw 15 0) 16 0) 17 0) 18 0) 0 12 0 (upd (upd (upd (upd (upd nw 15 0) 16 0) 17 0) 18 0) 19 0) (bTells (i := 19) (by decide) rfl) (bInD (by decide))) gX8_commands_X8_tells rfl ⟨rfl, rfl⟩ hd_X8_tells ⟨(Nat.le_of_ble_eq_true rfl), (Nat.le_of_ble_eq_true rfl)⟩ rfl rfl rfl [0, 1] [] rfl rfl rfl rfl rfl rfl rfl rfl (by decide) rfl rfl hl.1 (Nat.le_of_ble_eq_true rfl) ⟨Nat.zero_le _, Nat.zero_le _⟩ dX8_commands_43 (fun H locs Y => ?_)
    refine lv_iinc (v := 5) (lv' := [(6, .int 5), (4, .int 1), (5, .int 0), (0, .ref mM), (1, .int 1), (2, .int w), (3, .int pa)]) hx hb dX8_commands_46 hl (k := 0) rfl (by decide) (by decide) rfl (fun ls hl => ?_)
    refine lv_goto (tgt := 28) hx hb dX8_commands_49 (by decide) ?_
    refine lv_iload hx hb dX8_commands_28 (lv_at hl 0 rfl) ?_
    refine lv_iconst (v := 5) hx hb dX8_commands_30 (by decide) ?_
    refine lv_icmp_ge (tgt := 52) hx hb dX8_commands_31 (by decide) (fun _ => ?_) (fun c_ => absurd (by decide) c_)
    refine lv_iload_n hx hb dX8_commands_52 rfl (lv_at hl 5 rfl) ?_
    refine lv_aload_n hx hb dX8_commands_53 rfl (lv_at hl 3 rfl) ?_
    refine lv_iload hx hb dX8_commands_54 (lv_at hl 2 rfl) ?_
    refine lv_bipush (v := 6) hx hb dX8_commands_56 (by decide) ?_
    refine bVI0 (As := [.int 0, .int 6]) (rest := [.int w]) (wc := [(mM, .inr (8, [.ref mN, .ref mR, .ref mA, .ref mP, .int ch, .ref mT, .int le, .int sp, .ref mD])), (mN, .inl (cyI, 515, .inl (upd (upd (upd (upd (upd nw 15 0) 16 0) 17 0) 18 0) 19 0)))]) (ci := 8) (q0 := 0) X Y (c_of8 l D cyC cyI mM mN mR mA mP mT mD ch le sp (upd (upd (upd (upd (upd nw 15 0) 16 0) 17 0) 18 0) 19 0) 0 6 (nw 13) (bOf (i := 13) (by decide) ((upd_ne (by decide)).trans ((upd_ne (by decide)).trans ((upd_ne (by decide)).trans ((upd_ne (by decide)).trans ((upd_ne (by decide)).trans rfl)))))) (bInD (by decide))) gX8_commands_X8_of rfl ⟨rfl, rfl⟩ hd_X8_of ⟨(Nat.le_of_ble_eq_true rfl), (Nat.le_of_ble_eq_true rfl)⟩ rfl rfl rfl [0, 1] rfl rfl rfl rfl hl.1 (Nat.le_of_ble_eq_true rfl) ⟨Nat.zero_le _, Nat.zero_le _⟩ dX8_commands_58 (fun H locs Y => ?_)
    refine bSub (v := w - (nw 13)) X dX8_commands_61 rfl ?_
    refine lv_istore (lv' := [(6, .int (w - (nw 13))), (4, .int 1), (5, .int 0), (0, .ref mM), (1, .int 1), (2, .int w), (3, .int pa)]) hx hb dX8_commands_62 hl (by decide) rfl (fun ls hl => ?_)
    refine lv_iload_n hx hb dX8_commands_64 rfl (lv_at hl 6 rfl) ?_
    refine lv_if_ge (tgt := 73) hx hb dX8_commands_65 (by decide) (fun c_7 => ?_) (fun c_7 => ?_)
    · have c_7 : 0 ≤ pa := c_7
      rw [if_pos c_7] at hu
      refine lv_iload hx hb dX8_commands_73 (lv_at hl 0 rfl) ?_
      refine lv_iconst (v := 2) hx hb dX8_commands_75 (by decide) ?_
      refine bDiv (v := (w - (nw 13)) / 2) X dX8_commands_76 (by decide) rfl ?_
      refine lv_istore (lv' := [(7, .int ((w - (nw 13)) / 2)), (6, .int (w - (nw 13))), (4, .int 1), (5, .int 0), (0, .ref mM), (1, .int 1), (2, .int w), (3, .int pa)]) hx hb dX8_commands_77 hl (by decide) rfl (fun ls hl => ?_)
      refine lv_aload_n hx hb dX8_commands_79 rfl (lv_at hl 4 rfl) ?_
      refine lv_iload hx hb dX8_commands_80 (lv_at hl 3 rfl) ?_
      refine lv_aload_n hx hb dX8_commands_82 rfl (lv_at hl 4 rfl) ?_
      refine bGet (v := .ref mN) (T := TX8) (N := 9) (ci := 8) X Y i_X8_commands_X8 0 rfl rfl 0 (Nat.le_of_ble_eq_true rfl) f_X8_commands_7 rfl rfl dX8_commands_83 ?_
      refine lv_bipush (v := 6) hx hb dX8_commands_86 (by decide) ?_
      refine bIald (v := nw 6) X Y 1 rfl (bInD (by decide)) dX8_commands_88 ((upd_ne (by decide)).trans ((upd_ne (by decide)).trans ((upd_ne (by decide)).trans ((upd_ne (by decide)).trans ((upd_ne (by decide)).trans rfl))))) ?_
      refine lv_iconst (v := 1) hx hb dX8_commands_89 (by decide) ?_
      refine bAdd (v := (nw 6) + 1) X dX8_commands_90 rfl ?_
      refine lv_iload hx hb dX8_commands_91 (lv_at hl 0 rfl) ?_
      obtain ⟨u_8_0, hr_8⟩ := bEx1 (s_addsStep8_0 (upd (upd (upd (upd (upd nw 15 0) 16 0) 17 0) 18 0) 19 0) ((nw 6) + 1) ((w - (nw 13)) / 2))
      rw [hr_8] at hu
      dsimp only at hu
      have asK_0_8 := asK_0 hr_8
      refine bVV (As := [.int 0, .int ((nw 6) + 1), .int ((w - (nw 13)) / 2)]) (rest := []) (wc := [(mM, .inr (8, [.ref mN, .ref mR, .ref mA, .ref mP, .int ch, .ref mT, .int le, .int sp, .ref mD])), (mN, .inl (cyI, 515, .inl (upd (upd (upd (upd (upd nw 15 0) 16 0) 17 0) 18 0) 19 0)))]) (w1 := [(mM, .inr (8, [.ref mN, .ref mR, .ref mA, .ref mP, .int ch, .ref mT, .int le, .int sp, .ref mD])), (mN, .inl (cyI, 515, .inl u_8_0))]) (ws' := [(mM, .inr (8, [.ref mN, .ref mR, .ref mA, .ref mP, .int ch, .ref mT, .int le, .int sp, .ref mD])), (mN, .inl (cyI, 515, .inl u_8_0))]) (ad := [mM, mN]) (wr := []) (nn := 2) (ci := 8) (q0 := 0) X Y (c_addsStep8_0 l D cyC cyI mM mN mR mA mP mT mD ch le sp (upd (upd (upd (upd (upd nw 15 0) 16 0) 17 0) 18 0) 19 0) ((nw 6) + 1) ((w - (nw 13)) / 2) u_8_0 hr_8 (by first | exact Or.inl rfl | exact asK_0_1 rfl | exact asK_0_2 rfl | exact asK_0_3 rfl | exact asK_0_4 rfl | exact asK_0_5 rfl | exact asK_0_6 rfl | exact asK_0_7 rfl | exact asK_0_8 rfl | exact asK_0_9 rfl | exact asK_0_10 rfl | exact asK_0_11 rfl | exact asK_0_12 rfl | exact asK_0_13 rfl | exact asK_0_14 rfl | exact asK_0_15 rfl | exact asK_0_16 rfl | exact asK_0_17 rfl | exact asK_0_18 rfl | exact asK_0_19 rfl | exact asK_0_20 rfl | exact asK_0_21 rfl | exact asK_0_22 rfl | exact asK_0_23 rfl | exact asK_0_24 rfl | exact asK_0_25 rfl | exact asK_0_26 rfl | exact asK_0_27 rfl | exact asK_0_28 rfl | exact asK_0_29 rfl | exact asK_0_30 rfl | exact asK_0_31 rfl | exact asK_0_32 rfl | exact asK_0_33 rfl | exact asK_0_34 rfl | exact asK_0_35 rfl | exact asK_0_36 rfl | exact asK_0_37 rfl | exact asK_0_38 rfl | exact asK_0_39 rfl)) gX8_commands_X8_addsStep rfl ⟨rfl, rfl⟩ hd_X8_addsStep ⟨(Nat.le_of_ble_eq_true rfl), (Nat.le_of_ble_eq_true rfl)⟩ rfl rfl rfl [0, 1] [] rfl rfl rfl rfl rfl rfl rfl rfl (by decide) rfl rfl hl.1 (Nat.le_of_ble_eq_true rfl) ⟨Nat.zero_le _, Nat.zero_le _⟩ dX8_commands_93 (fun H locs Y => ?_)
      refine lv_aload_n hx hb dX8_commands_96 rfl (lv_at hl 4 rfl) ?_
      refine lv_iload hx hb dX8_commands_97 (lv_at hl 3 rfl) ?_
      refine lv_aload_n hx hb dX8_commands_99 rfl (lv_at hl 4 rfl) ?_
      refine bGet (v := .ref mN) (T := TX8) (N := 9) (ci := 8) X Y i_X8_commands_X8 0 rfl rfl 0 (Nat.le_of_ble_eq_true rfl) f_X8_commands_7 rfl rfl dX8_commands_100 ?_
      refine lv_bipush (v := 6) hx hb dX8_commands_103 (by decide) ?_
      refine bIald (v := u_8_0 6) X Y 1 rfl (bInD (by decide)) dX8_commands_105 rfl ?_
      refine lv_iconst (v := 1) hx hb dX8_commands_106 (by decide) ?_
      refine bAdd (v := (u_8_0 6) + 1) X dX8_commands_107 rfl ?_
      refine lv_iload_n hx hb dX8_commands_108 rfl (lv_at hl 7 rfl) ?_
      refine bAdd (v := ((u_8_0 6) + 1) + pa) X dX8_commands_109 rfl ?_
      refine lv_iload hx hb dX8_commands_110 (lv_at hl 1 rfl) ?_
      refine lv_iload hx hb dX8_commands_112 (lv_at hl 0 rfl) ?_
      refine bSub (v := (w - (nw 13)) - ((w - (nw 13)) / 2)) X dX8_commands_114 rfl ?_
      obtain ⟨u_9_0, hr_9⟩ := bEx1 (s_addsStep8_0 u_8_0 (((u_8_0 6) + 1) + pa) ((w - (nw 13)) - ((w - (nw 13)) / 2)))
      rw [hr_9] at hu
      dsimp only at hu
      have asK_0_9 := asK_0 hr_9
      refine bVV (As := [.int 0, .int (((u_8_0 6) + 1) + pa), .int ((w - (nw 13)) - ((w - (nw 13)) / 2))]) (rest := []) (wc := [(mM, .inr (8, [.ref mN, .ref mR, .ref mA, .ref mP, .int ch, .ref mT, .int le, .int sp, .ref mD])), (mN, .inl (cyI, 515, .inl u_8_0))]) (w1 := [(mM, .inr (8, [.ref mN, .ref mR, .ref mA, .ref mP, .int ch, .ref mT, .int le, .int sp, .ref mD])), (mN, .inl (cyI, 515, .inl u_9_0))]) (ws' := [(mM, .inr (8, [.ref mN, .ref mR, .ref mA, .ref mP, .int ch, .ref mT, .int le, .int sp, .ref mD])), (mN, .inl (cyI, 515, .inl u_9_0))]) (ad := [mM, mN]) (wr := []) (nn := 2) (ci := 8) (q0 := 0) X Y (c_addsStep8_0 l D cyC cyI mM mN mR mA mP mT mD ch le sp u_8_0 (((u_8_0 6) + 1) + pa) ((w - (nw 13)) - ((w - (nw 13)) / 2)) u_9_0 hr_9 (by first | exact Or.inl rfl | exact asK_0_1 rfl | exact asK_0_2 rfl | exact asK_0_3 rfl | exact asK_0_4 rfl | exact asK_0_5 rfl | exact asK_0_6 rfl | exact asK_0_7 rfl | exact asK_0_8 rfl | exact asK_0_9 rfl | exact asK_0_10 rfl | exact asK_0_11 rfl | exact asK_0_12 rfl | exact asK_0_13 rfl | exact asK_0_14 rfl | exact asK_0_15 rfl | exact asK_0_16 rfl | exact asK_0_17 rfl | exact asK_0_18 rfl | exact asK_0_19 rfl | exact asK_0_20 rfl | exact asK_0_21 rfl | exact asK_0_22 rfl | exact asK_0_23 rfl | exact asK_0_24 rfl | exact asK_0_25 rfl | exact asK_0_26 rfl | exact asK_0_27 rfl | exact asK_0_28 rfl | exact asK_0_29 rfl | exact asK_0_30 rfl | exact asK_0_31 rfl | exact asK_0_32 rfl | exact asK_0_33 rfl | exact asK_0_34 rfl | exact asK_0_35 rfl | exact asK_0_36 rfl | exact asK_0_37 rfl | exact asK_0_38 rfl | exact asK_0_39 rfl)) gX8_commands_X8_addsStep rfl ⟨rfl, rfl⟩ hd_X8_addsStep ⟨(Nat.le_of_ble_eq_true rfl), (Nat.le_of_ble_eq_true rfl)⟩ rfl rfl rfl [0, 1] [] rfl rfl rfl rfl rfl rfl rfl rfl (by decide) rfl rfl hl.1 (Nat.le_of_ble_eq_true rfl) ⟨Nat.zero_le _, Nat.zero_le _⟩ dX8_commands_115 (fun H locs Y => ?_)
      refine lv_iinc (v := 1) (lv' := [(5, .int 1), (7, .int ((w - (nw 13)) / 2)), (6, .int (w - (nw 13))), (4, .int 1), (0, .ref mM), (1, .int 1), (2, .int w), (3, .int pa)]) hx hb dX8_commands_118 hl (k := 3) rfl (by decide) (by decide) rfl (fun ls hl => ?_)
      refine lv_goto (tgt := 6) hx hb dX8_commands_121 (by decide) ?_
      refine lv_iload hx hb dX8_commands_6 (lv_at hl 0 rfl) ?_
      refine lv_iconst (v := 2) hx hb dX8_commands_8 (by decide) ?_
      refine lv_icmp_ge (tgt := 124) hx hb dX8_commands_9 (by decide) (fun c_ => absurd c_ (by decide)) (fun _ => ?_)
      refine lv_aload_n hx hb dX8_commands_12 rfl (lv_at hl 4 rfl) ?_
      refine lv_iload hx hb dX8_commands_13 (lv_at hl 0 rfl) ?_
      refine lv_iload_n hx hb dX8_commands_15 rfl (lv_at hl 5 rfl) ?_
      refine bVI0 (As := [.int 1, .int 1]) (rest := []) (wc := [(mM, .inr (8, [.ref mN, .ref mR, .ref mA, .ref mP, .int ch, .ref mT, .int le, .int sp, .ref mD])), (mN, .inl (cyI, 515, .inl u_9_0))]) (ci := 8) (q0 := 0) X Y (c_heeds8_11 l D cyC cyI mM mN mR mA mP mT mD ch le sp u_9_0 true rfl) gX8_commands_X8_heeds rfl ⟨rfl, rfl⟩ hd_X8_heeds ⟨(Nat.le_of_ble_eq_true rfl), (Nat.le_of_ble_eq_true rfl)⟩ rfl rfl rfl [0, 1] rfl rfl rfl rfl hl.1 (Nat.le_of_ble_eq_true rfl) ⟨Nat.zero_le _, Nat.zero_le _⟩ dX8_commands_16 (fun H locs Y => ?_)
      refine lv_if_eq (tgt := 118) hx hb dX8_commands_19 (by decide) (fun c_ => absurd c_ (by decide)) (fun _ => ?_)
      refine lv_iinc (v := 2) (lv' := [(4, .int 2), (5, .int 1), (7, .int ((w - (nw 13)) / 2)), (6, .int (w - (nw 13))), (0, .ref mM), (1, .int 1), (2, .int w), (3, .int pa)]) hx hb dX8_commands_22 hl (k := 3) rfl (by decide) (by decide) rfl (fun ls hl => ?_)
      refine lv_iconst (v := 0) hx hb dX8_commands_25 (by decide) ?_
      refine lv_istore (lv' := [(6, .int 0), (4, .int 2), (5, .int 1), (7, .int ((w - (nw 13)) / 2)), (0, .ref mM), (1, .int 1), (2, .int w), (3, .int pa)]) hx hb dX8_commands_26 hl (by decide) rfl (fun ls hl => ?_)
      refine lv_iload hx hb dX8_commands_28 (lv_at hl 0 rfl) ?_
      refine lv_iconst (v := 5) hx hb dX8_commands_30 (by decide) ?_
      refine lv_icmp_ge (tgt := 52) hx hb dX8_commands_31 (by decide) (fun c_ => absurd c_ (by decide)) (fun _ => ?_)
      refine lv_aload_n hx hb dX8_commands_34 rfl (lv_at hl 4 rfl) ?_
      refine lv_iload hx hb dX8_commands_35 (lv_at hl 2 rfl) ?_
      refine lv_bipush (v := 8) hx hb dX8_commands_37 (by decide) ?_
      refine lv_iload hx hb dX8_commands_39 (lv_at hl 0 rfl) ?_
      refine bAdd (v := 8) X dX8_commands_41 (by decide) ?_
      refine lv_iconst (v := 0) hx hb dX8_commands_42 (by decide) ?_
      refine bVV (As := [.int 1, .int 8, .int 0]) (rest := []) (wc := [(mM, .inr (8, [.ref mN, .ref mR, .ref mA, .ref mP, .int ch, .ref mT, .int le, .int sp, .ref mD])), (mN, .inl (cyI, 515, .inl u_9_0))]) (w1 := [(mM, .inr (8, [.ref mN, .ref mR, .ref mA, .ref mP, .int ch, .ref mT, .int le, .int sp, .ref mD])), (mN, .inl (cyI, 515, .inl (upd u_9_0 28 0)))]) (ws' := [(mM, .inr (8, [.ref mN, .ref mR, .ref mA, .ref mP, .int ch, .ref mT, .int le, .int sp, .ref mD])), (mN, .inl (cyI, 515, .inl (upd u_9_0 28 0)))]) (ad := [mM, mN]) (wr := []) (nn := 2) (ci := 8) (q0 := 0) X Y (c_tells8 l D cyC cyI mM mN mR mA mP mT mD ch le sp u_9_0 1 8 0 (upd u_9_0 28 0) (bTells (i := 28) (by decide) rfl) (bInD (by decide))) gX8_commands_X8_tells rfl ⟨rfl, rfl⟩ hd_X8_tells ⟨(Nat.le_of_ble_eq_true rfl), (Nat.le_of_ble_eq_true rfl)⟩ rfl rfl rfl [0, 1] [] rfl rfl rfl rfl rfl rfl rfl rfl (by decide) rfl rfl hl.1 (Nat.le_of_ble_eq_true rfl) ⟨Nat.zero_le _, Nat.zero_le _⟩ dX8_commands_43 (fun H locs Y => ?_)
      refine lv_iinc (v := 1) (lv' := [(6, .int 1), (4, .int 2), (5, .int 1), (7, .int ((w - (nw 13)) / 2)), (0, .ref mM), (1, .int 1), (2, .int w), (3, .int pa)]) hx hb dX8_commands_46 hl (k := 0) rfl (by decide) (by decide) rfl (fun ls hl => ?_)
      refine lv_goto (tgt := 28) hx hb dX8_commands_49 (by decide) ?_
      refine lv_iload hx hb dX8_commands_28 (lv_at hl 0 rfl) ?_
      refine lv_iconst (v := 5) hx hb dX8_commands_30 (by decide) ?_
      refine lv_icmp_ge (tgt := 52) hx hb dX8_commands_31 (by decide) (fun c_ => absurd c_ (by decide)) (fun _ => ?_)
      refine lv_aload_n hx hb dX8_commands_34 rfl (lv_at hl 4 rfl) ?_
      refine lv_iload hx hb dX8_commands_35 (lv_at hl 2 rfl) ?_
      refine lv_bipush (v := 8) hx hb dX8_commands_37 (by decide) ?_
      refine lv_iload hx hb dX8_commands_39 (lv_at hl 0 rfl) ?_
      refine bAdd (v := 9) X dX8_commands_41 (by decide) ?_
      refine lv_iconst (v := 0) hx hb dX8_commands_42 (by decide) ?_
      refine bVV (As := [.int 1, .int 9, .int 0]) (rest := []) (wc := [(mM, .inr (8, [.ref mN, .ref mR, .ref mA, .ref mP, .int ch, .ref mT, .int le, .int sp, .ref mD])), (mN, .inl (cyI, 515, .inl (upd u_9_0 28 0)))]) (w1 := [(mM, .inr (8, [.ref mN, .ref mR, .ref mA, .ref mP, .int ch, .ref mT, .int le, .int sp, .ref mD])), (mN, .inl (cyI, 515, .inl (upd (upd u_9_0 28 0) 29 0)))]) (ws' := [(mM, .inr (8, [.ref mN, .ref mR, .ref mA, .ref mP, .int ch, .ref mT, .int le, .int sp, .ref mD])), (mN, .inl (cyI, 515, .inl (upd (upd u_9_0 28 0) 29 0)))]) (ad := [mM, mN]) (wr := []) (nn := 2) (ci := 8) (q0 := 0) X Y (c_tells8 l D cyC cyI mM mN mR mA mP mT mD ch le sp (upd u_9_0 28 0) 1 9 0 (upd (upd u_9_0 28 0) 29 0) (bTells (i := 29) (by decide) rfl) (bInD (by decide))) gX8_commands_X8_tells rfl ⟨rfl, rfl⟩ hd_X8_tells ⟨(Nat.le_of_ble_eq_true rfl), (Nat.le_of_ble_eq_true rfl)⟩ rfl rfl rfl [0, 1] [] rfl rfl rfl rfl rfl rfl rfl rfl (by decide) rfl rfl hl.1 (Nat.le_of_ble_eq_true rfl) ⟨Nat.zero_le _, Nat.zero_le _⟩ dX8_commands_43 (fun H locs Y => ?_)
      refine lv_iinc (v := 2) (lv' := [(6, .int 2), (4, .int 2), (5, .int 1), (7, .int ((w - (nw 13)) / 2)), (0, .ref mM), (1, .int 1), (2, .int w), (3, .int pa)]) hx hb dX8_commands_46 hl (k := 0) rfl (by decide) (by decide) rfl (fun ls hl => ?_)
      refine lv_goto (tgt := 28) hx hb dX8_commands_49 (by decide) ?_
      refine lv_iload hx hb dX8_commands_28 (lv_at hl 0 rfl) ?_
      refine lv_iconst (v := 5) hx hb dX8_commands_30 (by decide) ?_
      refine lv_icmp_ge (tgt := 52) hx hb dX8_commands_31 (by decide) (fun c_ => absurd c_ (by decide)) (fun _ => ?_)
      refine lv_aload_n hx hb dX8_commands_34 rfl (lv_at hl 4 rfl) ?_
      refine lv_iload hx hb dX8_commands_35 (lv_at hl 2 rfl) ?_
      refine lv_bipush (v := 8) hx hb dX8_commands_37 (by decide) ?_
      refine lv_iload hx hb dX8_commands_39 (lv_at hl 0 rfl) ?_
      refine bAdd (v := 10) X dX8_commands_41 (by decide) ?_
      refine lv_iconst (v := 0) hx hb dX8_commands_42 (by decide) ?_
      refine bVV (As := [.int 1, .int 10, .int 0]) (rest := []) (wc := [(mM, .inr (8, [.ref mN, .ref mR, .ref mA, .ref mP, .int ch, .ref mT, .int le, .int sp, .ref mD])), (mN, .inl (cyI, 515, .inl (upd (upd u_9_0 28 0) 29 0)))]) (w1 := [(mM, .inr (8, [.ref mN, .ref mR, .ref mA, .ref mP, .int ch, .ref mT, .int le, .int sp, .ref mD])), (mN, .inl (cyI, 515, .inl (upd (upd (upd u_9_0 28 0) 29 0) 30 0)))]) (ws' := [(mM, .inr (8, [.ref mN, .ref mR, .ref mA, .ref mP, .int ch, .ref mT, .int le, .int sp, .ref mD])), (mN, .inl (cyI, 515, .inl (upd (upd (upd u_9_0 28 0) 29 0) 30 0)))]) (ad := [mM, mN]) (wr := []) (nn := 2) (ci := 8) (q0 := 0) X Y (c_tells8 l D cyC cyI mM mN mR mA mP mT mD ch le sp (upd (upd u_9_0 28 0) 29 0) 1 10 0 (upd (upd (upd u_9_0 28 0) 29 0) 30 0) (bTells (i := 30) (by decide) rfl) (bInD (by decide))) gX8_commands_X8_tells rfl ⟨rfl, rfl⟩ hd_X8_tells ⟨(Nat.le_of_ble_eq_true rfl), (Nat.le_of_ble_eq_true rfl)⟩ rfl rfl rfl [0, 1] [] rfl rfl rfl rfl rfl rfl rfl rfl (by decide) rfl rfl hl.1 (Nat.le_of_ble_eq_true rfl) ⟨Nat.zero_le _, Nat.zero_le _⟩ dX8_commands_43 (fun H locs Y => ?_)
      refine lv_iinc (v := 3) (lv' := [(6, .int 3), (4, .int 2), (5, .int 1), (7, .int ((w - (nw 13)) / 2)), (0, .ref mM), (1, .int 1), (2, .int w), (3, .int pa)]) hx hb dX8_commands_46 hl (k := 0) rfl (by decide) (by decide) rfl (fun ls hl => ?_)
      refine lv_goto (tgt := 28) hx hb dX8_commands_49 (by decide) ?_
      refine lv_iload hx hb dX8_commands_28 (lv_at hl 0 rfl) ?_
      refine lv_iconst (v := 5) hx hb dX8_commands_30 (by decide) ?_
      refine lv_icmp_ge (tgt := 52) hx hb dX8_commands_31 (by decide) (fun c_ => absurd c_ (by decide)) (fun _ => ?_)
      refine lv_aload_n hx hb dX8_commands_34 rfl (lv_at hl 4 rfl) ?_
      refine lv_iload hx hb dX8_commands_35 (lv_at hl 2 rfl) ?_
      refine lv_bipush (v := 8) hx hb dX8_commands_37 (by decide) ?_
      refine lv_iload hx hb dX8_commands_39 (lv_at hl 0 rfl) ?_
      refine bAdd (v := 11) X dX8_commands_41 (by decide) ?_
      refine lv_iconst (v := 0) hx hb dX8_commands_42 (by decide) ?_
      refine bVV (As := [.int 1, .int 11, .int 0]) (rest := []) (wc := [(mM, .inr (8, [.ref mN, .ref mR, .ref mA, .ref mP, .int ch, .ref mT, .int le, .int sp, .ref mD])), (mN, .inl (cyI, 515, .inl (upd (upd (upd u_9_0 28 0) 29 0) 30 0)))]) (w1 := [(mM, .inr (8, [.ref mN, .ref mR, .ref mA, .ref mP, .int ch, .ref mT, .int le, .int sp, .ref mD])), (mN, .inl (cyI, 515, .inl (upd (upd (upd (upd u_9_0 28 0) 29 0) 30 0) 31 0)))]) (ws' := [(mM, .inr (8, [.ref mN, .ref mR, .ref mA, .ref mP, .int ch, .ref mT, .int le, .int sp, .ref mD])), (mN, .inl (cyI, 515, .inl (upd (upd (upd (upd u_9_0 28 0) 29 0) 30 0) 31 0)))]) (ad := [mM, mN]) (wr := []) (nn := 2) (ci := 8) (q0 := 0) X Y (c_tells8 l D cyC cyI mM mN mR mA mP mT mD ch le sp (upd (upd (upd u_9_0 28 0) 29 0) 30 0) 1 11 0 (upd (upd (upd (upd u_9_0 28 0) 29 0) 30 0) 31 0) (bTells (i := 31) (by decide) rfl) (bInD (by decide))) gX8_commands_X8_tells rfl ⟨rfl, rfl⟩ hd_X8_tells ⟨(Nat.le_of_ble_eq_true rfl), (Nat.le_of_ble_eq_true rfl)⟩ rfl rfl rfl [0, 1] [] rfl rfl rfl rfl rfl rfl rfl rfl (by decide) rfl rfl hl.1 (Nat.le_of_ble_eq_true rfl) ⟨Nat.zero_le _, Nat.zero_le _⟩ dX8_commands_43 (fun H locs Y => ?_)
      refine lv_iinc (v := 4) (lv' := [(6, .int 4), (4, .int 2), (5, .int 1), (7, .int ((w - (nw 13)) / 2)), (0, .ref mM), (1, .int 1), (2, .int w), (3, .int pa)]) hx hb dX8_commands_46 hl (k := 0) rfl (by decide) (by decide) rfl (fun ls hl => ?_)
      refine lv_goto (tgt := 28) hx hb dX8_commands_49 (by decide) ?_
      refine lv_iload hx hb dX8_commands_28 (lv_at hl 0 rfl) ?_
      refine lv_iconst (v := 5) hx hb dX8_commands_30 (by decide) ?_
      refine lv_icmp_ge (tgt := 52) hx hb dX8_commands_31 (by decide) (fun c_ => absurd c_ (by decide)) (fun _ => ?_)
      refine lv_aload_n hx hb dX8_commands_34 rfl (lv_at hl 4 rfl) ?_
      refine lv_iload hx hb dX8_commands_35 (lv_at hl 2 rfl) ?_
      refine lv_bipush (v := 8) hx hb dX8_commands_37 (by decide) ?_
      refine lv_iload hx hb dX8_commands_39 (lv_at hl 0 rfl) ?_
      refine bAdd (v := 12) X dX8_commands_41 (by decide) ?_
      refine lv_iconst (v := 0) hx hb dX8_commands_42 (by decide) ?_
      refine bVV (As := [.int 1, .int 12, .int 0]) (rest := []) (wc := [(mM, .inr (8, [.ref mN, .ref mR, .ref mA, .ref mP, .int ch, .ref mT, .int le, .int sp, .ref mD])), (mN, .inl (cyI, 515, .inl (upd (upd (upd (upd u_9_0 28 0) 29 0) 30 0) 31 0)))]) (w1 := [(mM, .inr (8, [.ref mN, .ref mR, .ref mA, .ref mP, .int ch, .ref mT, .int le, .int sp, .ref mD])), (mN, .inl (cyI, 515, .inl (upd (upd (upd (upd (upd u_9_0 28 0) 29 0) 30 0) 31 0) 32 0)))]) (ws' := [(mM, .inr (8, [.ref mN, .ref mR, .ref mA, .ref mP, .int ch, .ref mT, .int le, .int sp, .ref mD])), (mN, .inl (cyI, 515, .inl (upd (upd (upd (upd (upd u_9_0 28 0) 29 0) 30 0) 31 0) 32 0)))]) (ad := [mM, mN]) (wr := []) (nn := 2) (ci := 8) (q0 := 0) X Y (c_tells8 l D cyC cyI mM mN mR mA mP mT mD ch le sp (upd (upd (upd (upd u_9_0 28 0) 29 0) 30 0) 31 0) 1 12 0 (upd (upd (upd (upd (upd u_9_0 28 0) 29 0) 30 0) 31 0) 32 0) (bTells (i := 32) (by decide) rfl) (bInD (by decide))) gX8_commands_X8_tells rfl ⟨rfl, rfl⟩ hd_X8_tells ⟨(Nat.le_of_ble_eq_true rfl), (Nat.le_of_ble_eq_true rfl)⟩ rfl rfl rfl [0, 1] [] rfl rfl rfl rfl rfl rfl rfl rfl (by decide) rfl rfl hl.1 (Nat.le_of_ble_eq_true rfl) ⟨Nat.zero_le _, Nat.zero_le _⟩ dX8_commands_43 (fun H locs Y => ?_)
      refine lv_iinc (v := 5) (lv' := [(6, .int 5), (4, .int 2), (5, .int 1), (7, .int ((w - (nw 13)) / 2)), (0, .ref mM), (1, .int 1), (2, .int w), (3, .int pa)]) hx hb dX8_commands_46 hl (k := 0) rfl (by decide) (by decide) rfl (fun ls hl => ?_)
      refine lv_goto (tgt := 28) hx hb dX8_commands_49 (by decide) ?_
      refine lv_iload hx hb dX8_commands_28 (lv_at hl 0 rfl) ?_
      refine lv_iconst (v := 5) hx hb dX8_commands_30 (by decide) ?_
      refine lv_icmp_ge (tgt := 52) hx hb dX8_commands_31 (by decide) (fun _ => ?_) (fun c_ => absurd (by decide) c_)
      refine lv_iload_n hx hb dX8_commands_52 rfl (lv_at hl 6 rfl) ?_
      refine lv_aload_n hx hb dX8_commands_53 rfl (lv_at hl 4 rfl) ?_
      refine lv_iload hx hb dX8_commands_54 (lv_at hl 2 rfl) ?_
      refine lv_bipush (v := 6) hx hb dX8_commands_56 (by decide) ?_
      refine bVI0 (As := [.int 1, .int 6]) (rest := [.int w]) (wc := [(mM, .inr (8, [.ref mN, .ref mR, .ref mA, .ref mP, .int ch, .ref mT, .int le, .int sp, .ref mD])), (mN, .inl (cyI, 515, .inl (upd (upd (upd (upd (upd u_9_0 28 0) 29 0) 30 0) 31 0) 32 0)))]) (ci := 8) (q0 := 0) X Y (c_of8 l D cyC cyI mM mN mR mA mP mT mD ch le sp (upd (upd (upd (upd (upd u_9_0 28 0) 29 0) 30 0) 31 0) 32 0) 1 6 (u_9_0 26) (bOf (i := 26) (by decide) ((upd_ne (by decide)).trans ((upd_ne (by decide)).trans ((upd_ne (by decide)).trans ((upd_ne (by decide)).trans ((upd_ne (by decide)).trans rfl)))))) (bInD (by decide))) gX8_commands_X8_of rfl ⟨rfl, rfl⟩ hd_X8_of ⟨(Nat.le_of_ble_eq_true rfl), (Nat.le_of_ble_eq_true rfl)⟩ rfl rfl rfl [0, 1] rfl rfl rfl rfl hl.1 (Nat.le_of_ble_eq_true rfl) ⟨Nat.zero_le _, Nat.zero_le _⟩ dX8_commands_58 (fun H locs Y => ?_)
      refine bSub (v := w - (u_9_0 26)) X dX8_commands_61 rfl ?_
      refine lv_istore (lv' := [(6, .int (w - (u_9_0 26))), (4, .int 2), (5, .int 1), (7, .int ((w - (nw 13)) / 2)), (0, .ref mM), (1, .int 1), (2, .int w), (3, .int pa)]) hx hb dX8_commands_62 hl (by decide) rfl (fun ls hl => ?_)
      refine lv_iload_n hx hb dX8_commands_64 rfl (lv_at hl 7 rfl) ?_
      refine lv_if_ge (tgt := 73) hx hb dX8_commands_65 (by decide) (fun c_10 => ?_) (fun c_10 => ?_)
      · have c_10 : 0 ≤ pa := c_10
        refine lv_iload hx hb dX8_commands_73 (lv_at hl 0 rfl) ?_
        refine lv_iconst (v := 2) hx hb dX8_commands_75 (by decide) ?_
        refine bDiv (v := (w - (u_9_0 26)) / 2) X dX8_commands_76 (by decide) rfl ?_
        refine lv_istore (lv' := [(7, .int ((w - (u_9_0 26)) / 2)), (6, .int (w - (u_9_0 26))), (4, .int 2), (5, .int 1), (0, .ref mM), (1, .int 1), (2, .int w), (3, .int pa)]) hx hb dX8_commands_77 hl (by decide) rfl (fun ls hl => ?_)
        refine lv_aload_n hx hb dX8_commands_79 rfl (lv_at hl 4 rfl) ?_
        refine lv_iload hx hb dX8_commands_80 (lv_at hl 3 rfl) ?_
        refine lv_aload_n hx hb dX8_commands_82 rfl (lv_at hl 4 rfl) ?_
        refine bGet (v := .ref mN) (T := TX8) (N := 9) (ci := 8) X Y i_X8_commands_X8 0 rfl rfl 0 (Nat.le_of_ble_eq_true rfl) f_X8_commands_7 rfl rfl dX8_commands_83 ?_
        refine lv_bipush (v := 6) hx hb dX8_commands_86 (by decide) ?_
        refine bIald (v := u_9_0 6) X Y 1 rfl (bInD (by decide)) dX8_commands_88 ((upd_ne (by decide)).trans ((upd_ne (by decide)).trans ((upd_ne (by decide)).trans ((upd_ne (by decide)).trans ((upd_ne (by decide)).trans rfl))))) ?_
        refine lv_iconst (v := 1) hx hb dX8_commands_89 (by decide) ?_
        refine bAdd (v := (u_9_0 6) + 1) X dX8_commands_90 rfl ?_
        refine lv_iload hx hb dX8_commands_91 (lv_at hl 0 rfl) ?_
        obtain ⟨u_11_0, hr_11⟩ := bEx1 (s_addsStep8_1 (upd (upd (upd (upd (upd u_9_0 28 0) 29 0) 30 0) 31 0) 32 0) ((u_9_0 6) + 1) ((w - (u_9_0 26)) / 2))
        rw [hr_11] at hu
        dsimp only at hu
        have asK_1_11 := asK_1 hr_11
        refine bVV (As := [.int 1, .int ((u_9_0 6) + 1), .int ((w - (u_9_0 26)) / 2)]) (rest := []) (wc := [(mM, .inr (8, [.ref mN, .ref mR, .ref mA, .ref mP, .int ch, .ref mT, .int le, .int sp, .ref mD])), (mN, .inl (cyI, 515, .inl (upd (upd (upd (upd (upd u_9_0 28 0) 29 0) 30 0) 31 0) 32 0)))]) (w1 := [(mM, .inr (8, [.ref mN, .ref mR, .ref mA, .ref mP, .int ch, .ref mT, .int le, .int sp, .ref mD])), (mN, .inl (cyI, 515, .inl u_11_0))]) (ws' := [(mM, .inr (8, [.ref mN, .ref mR, .ref mA, .ref mP, .int ch, .ref mT, .int le, .int sp, .ref mD])), (mN, .inl (cyI, 515, .inl u_11_0))]) (ad := [mM, mN]) (wr := []) (nn := 2) (ci := 8) (q0 := 0) X Y (c_addsStep8_1 l D cyC cyI mM mN mR mA mP mT mD ch le sp (upd (upd (upd (upd (upd u_9_0 28 0) 29 0) 30 0) 31 0) 32 0) ((u_9_0 6) + 1) ((w - (u_9_0 26)) / 2) u_11_0 hr_11 (by first | exact Or.inl rfl | exact asK_1_1 rfl | exact asK_1_2 rfl | exact asK_1_3 rfl | exact asK_1_4 rfl | exact asK_1_5 rfl | exact asK_1_6 rfl | exact asK_1_7 rfl | exact asK_1_8 rfl | exact asK_1_9 rfl | exact asK_1_10 rfl | exact asK_1_11 rfl | exact asK_1_12 rfl | exact asK_1_13 rfl | exact asK_1_14 rfl | exact asK_1_15 rfl | exact asK_1_16 rfl | exact asK_1_17 rfl | exact asK_1_18 rfl | exact asK_1_19 rfl | exact asK_1_20 rfl | exact asK_1_21 rfl | exact asK_1_22 rfl | exact asK_1_23 rfl | exact asK_1_24 rfl | exact asK_1_25 rfl | exact asK_1_26 rfl | exact asK_1_27 rfl | exact asK_1_28 rfl | exact asK_1_29 rfl | exact asK_1_30 rfl | exact asK_1_31 rfl | exact asK_1_32 rfl | exact asK_1_33 rfl | exact asK_1_34 rfl | exact asK_1_35 rfl | exact asK_1_36 rfl | exact asK_1_37 rfl | exact asK_1_38 rfl | exact asK_1_39 rfl)) gX8_commands_X8_addsStep rfl ⟨rfl, rfl⟩ hd_X8_addsStep ⟨(Nat.le_of_ble_eq_true rfl), (Nat.le_of_ble_eq_true rfl)⟩ rfl rfl rfl [0, 1] [] rfl rfl rfl rfl rfl rfl rfl rfl (by decide) rfl rfl hl.1 (Nat.le_of_ble_eq_true rfl) ⟨Nat.zero_le _, Nat.zero_le _⟩ dX8_commands_93 (fun H locs Y => ?_)
        refine lv_aload_n hx hb dX8_commands_96 rfl (lv_at hl 4 rfl) ?_
        refine lv_iload hx hb dX8_commands_97 (lv_at hl 3 rfl) ?_
        refine lv_aload_n hx hb dX8_commands_99 rfl (lv_at hl 4 rfl) ?_
        refine bGet (v := .ref mN) (T := TX8) (N := 9) (ci := 8) X Y i_X8_commands_X8 0 rfl rfl 0 (Nat.le_of_ble_eq_true rfl) f_X8_commands_7 rfl rfl dX8_commands_100 ?_
        refine lv_bipush (v := 6) hx hb dX8_commands_103 (by decide) ?_
        refine bIald (v := u_11_0 6) X Y 1 rfl (bInD (by decide)) dX8_commands_105 rfl ?_
        refine lv_iconst (v := 1) hx hb dX8_commands_106 (by decide) ?_
        refine bAdd (v := (u_11_0 6) + 1) X dX8_commands_107 rfl ?_
        refine lv_iload_n hx hb dX8_commands_108 rfl (lv_at hl 7 rfl) ?_
        refine bAdd (v := ((u_11_0 6) + 1) + pa) X dX8_commands_109 rfl ?_
        refine lv_iload hx hb dX8_commands_110 (lv_at hl 1 rfl) ?_
        refine lv_iload hx hb dX8_commands_112 (lv_at hl 0 rfl) ?_
        refine bSub (v := (w - (u_9_0 26)) - ((w - (u_9_0 26)) / 2)) X dX8_commands_114 rfl ?_
        obtain ⟨u_12_0, hr_12⟩ := bEx1 (s_addsStep8_1 u_11_0 (((u_11_0 6) + 1) + pa) ((w - (u_9_0 26)) - ((w - (u_9_0 26)) / 2)))
        rw [hr_12] at hu
        dsimp only at hu
        have asK_1_12 := asK_1 hr_12
        refine bVV (As := [.int 1, .int (((u_11_0 6) + 1) + pa), .int ((w - (u_9_0 26)) - ((w - (u_9_0 26)) / 2))]) (rest := []) (wc := [(mM, .inr (8, [.ref mN, .ref mR, .ref mA, .ref mP, .int ch, .ref mT, .int le, .int sp, .ref mD])), (mN, .inl (cyI, 515, .inl u_11_0))]) (w1 := [(mM, .inr (8, [.ref mN, .ref mR, .ref mA, .ref mP, .int ch, .ref mT, .int le, .int sp, .ref mD])), (mN, .inl (cyI, 515, .inl u_12_0))]) (ws' := [(mM, .inr (8, [.ref mN, .ref mR, .ref mA, .ref mP, .int ch, .ref mT, .int le, .int sp, .ref mD])), (mN, .inl (cyI, 515, .inl u_12_0))]) (ad := [mM, mN]) (wr := []) (nn := 2) (ci := 8) (q0 := 0) X Y (c_addsStep8_1 l D cyC cyI mM mN mR mA mP mT mD ch le sp u_11_0 (((u_11_0 6) + 1) + pa) ((w - (u_9_0 26)) - ((w - (u_9_0 26)) / 2)) u_12_0 hr_12 (by first | exact Or.inl rfl | exact asK_1_1 rfl | exact asK_1_2 rfl | exact asK_1_3 rfl | exact asK_1_4 rfl | exact asK_1_5 rfl | exact asK_1_6 rfl | exact asK_1_7 rfl | exact asK_1_8 rfl | exact asK_1_9 rfl | exact asK_1_10 rfl | exact asK_1_11 rfl | exact asK_1_12 rfl | exact asK_1_13 rfl | exact asK_1_14 rfl | exact asK_1_15 rfl | exact asK_1_16 rfl | exact asK_1_17 rfl | exact asK_1_18 rfl | exact asK_1_19 rfl | exact asK_1_20 rfl | exact asK_1_21 rfl | exact asK_1_22 rfl | exact asK_1_23 rfl | exact asK_1_24 rfl | exact asK_1_25 rfl | exact asK_1_26 rfl | exact asK_1_27 rfl | exact asK_1_28 rfl | exact asK_1_29 rfl | exact asK_1_30 rfl | exact asK_1_31 rfl | exact asK_1_32 rfl | exact asK_1_33 rfl | exact asK_1_34 rfl | exact asK_1_35 rfl | exact asK_1_36 rfl | exact asK_1_37 rfl | exact asK_1_38 rfl | exact asK_1_39 rfl)) gX8_commands_X8_addsStep rfl ⟨rfl, rfl⟩ hd_X8_addsStep ⟨(Nat.le_of_ble_eq_true rfl), (Nat.le_of_ble_eq_true rfl)⟩ rfl rfl rfl [0, 1] [] rfl rfl rfl rfl rfl rfl rfl rfl (by decide) rfl rfl hl.1 (Nat.le_of_ble_eq_true rfl) ⟨Nat.zero_le _, Nat.zero_le _⟩ dX8_commands_115 (fun H locs Y => ?_)
        refine lv_iinc (v := 2) (lv' := [(5, .int 2), (7, .int ((w - (u_9_0 26)) / 2)), (6, .int (w - (u_9_0 26))), (4, .int 2), (0, .ref mM), (1, .int 1), (2, .int w), (3, .int pa)]) hx hb dX8_commands_118 hl (k := 3) rfl (by decide) (by decide) rfl (fun ls hl => ?_)
        refine lv_goto (tgt := 6) hx hb dX8_commands_121 (by decide) ?_
        refine lv_iload hx hb dX8_commands_6 (lv_at hl 0 rfl) ?_
        refine lv_iconst (v := 2) hx hb dX8_commands_8 (by decide) ?_
        refine lv_icmp_ge (tgt := 124) hx hb dX8_commands_9 (by decide) (fun _ => ?_) (fun c_ => absurd (by decide) c_)
        refine lv_iload hx hb dX8_commands_124 (lv_at hl 3 rfl) ?_
        have h9 := (Prod.mk.inj hu).1; replace hu := (Prod.mk.inj hu).2; subst h9
        subst hu
        exact bEndI X Y hr hlk dX8_commands_126 rfl rfl
      · have c_10 : ¬ (0 ≤ pa) := c_10
        exact absurd c_7 c_10
    · have c_7 : ¬ (0 ≤ pa) := c_7
      rw [if_neg c_7] at hu
      refine lv_iload hx hb dX8_commands_68 (lv_at hl 0 rfl) ?_
      refine lv_goto (tgt := 77) hx hb dX8_commands_70 (by decide) ?_
      refine lv_istore (lv' := [(7, .int (w - (nw 13))), (6, .int (w - (nw 13))), (4, .int 1), (5, .int 0), (0, .ref mM), (1, .int 1), (2, .int w), (3, .int pa)]) hx hb dX8_commands_77 hl (by decide) rfl (fun ls hl => ?_)
      refine lv_aload_n hx hb dX8_commands_79 rfl (lv_at hl 4 rfl) ?_
      refine lv_iload hx hb dX8_commands_80 (lv_at hl 3 rfl) ?_
      refine lv_aload_n hx hb dX8_commands_82 rfl (lv_at hl 4 rfl) ?_
      refine bGet (v := .ref mN) (T := TX8) (N := 9) (ci := 8) X Y i_X8_commands_X8 0 rfl rfl 0 (Nat.le_of_ble_eq_true rfl) f_X8_commands_7 rfl rfl dX8_commands_83 ?_
      refine lv_bipush (v := 6) hx hb dX8_commands_86 (by decide) ?_
      refine bIald (v := nw 6) X Y 1 rfl (bInD (by decide)) dX8_commands_88 ((upd_ne (by decide)).trans ((upd_ne (by decide)).trans ((upd_ne (by decide)).trans ((upd_ne (by decide)).trans ((upd_ne (by decide)).trans rfl))))) ?_
      refine lv_iconst (v := 1) hx hb dX8_commands_89 (by decide) ?_
      refine bAdd (v := (nw 6) + 1) X dX8_commands_90 rfl ?_
      refine lv_iload hx hb dX8_commands_91 (lv_at hl 0 rfl) ?_
      obtain ⟨u_13_0, hr_13⟩ := bEx1 (s_addsStep8_0 (upd (upd (upd (upd (upd nw 15 0) 16 0) 17 0) 18 0) 19 0) ((nw 6) + 1) (w - (nw 13)))
      rw [hr_13] at hu
      dsimp only at hu
      have asK_0_13 := asK_0 hr_13
      refine bVV (As := [.int 0, .int ((nw 6) + 1), .int (w - (nw 13))]) (rest := []) (wc := [(mM, .inr (8, [.ref mN, .ref mR, .ref mA, .ref mP, .int ch, .ref mT, .int le, .int sp, .ref mD])), (mN, .inl (cyI, 515, .inl (upd (upd (upd (upd (upd nw 15 0) 16 0) 17 0) 18 0) 19 0)))]) (w1 := [(mM, .inr (8, [.ref mN, .ref mR, .ref mA, .ref mP, .int ch, .ref mT, .int le, .int sp, .ref mD])), (mN, .inl (cyI, 515, .inl u_13_0))]) (ws' := [(mM, .inr (8, [.ref mN, .ref mR, .ref mA, .ref mP, .int ch, .ref mT, .int le, .int sp, .ref mD])), (mN, .inl (cyI, 515, .inl u_13_0))]) (ad := [mM, mN]) (wr := []) (nn := 2) (ci := 8) (q0 := 0) X Y (c_addsStep8_0 l D cyC cyI mM mN mR mA mP mT mD ch le sp (upd (upd (upd (upd (upd nw 15 0) 16 0) 17 0) 18 0) 19 0) ((nw 6) + 1) (w - (nw 13)) u_13_0 hr_13 (by first | exact Or.inl rfl | exact asK_0_1 rfl | exact asK_0_2 rfl | exact asK_0_3 rfl | exact asK_0_4 rfl | exact asK_0_5 rfl | exact asK_0_6 rfl | exact asK_0_7 rfl | exact asK_0_8 rfl | exact asK_0_9 rfl | exact asK_0_10 rfl | exact asK_0_11 rfl | exact asK_0_12 rfl | exact asK_0_13 rfl | exact asK_0_14 rfl | exact asK_0_15 rfl | exact asK_0_16 rfl | exact asK_0_17 rfl | exact asK_0_18 rfl | exact asK_0_19 rfl | exact asK_0_20 rfl | exact asK_0_21 rfl | exact asK_0_22 rfl | exact asK_0_23 rfl | exact asK_0_24 rfl | exact asK_0_25 rfl | exact asK_0_26 rfl | exact asK_0_27 rfl | exact asK_0_28 rfl | exact asK_0_29 rfl | exact asK_0_30 rfl | exact asK_0_31 rfl | exact asK_0_32 rfl | exact asK_0_33 rfl | exact asK_0_34 rfl | exact asK_0_35 rfl | exact asK_0_36 rfl | exact asK_0_37 rfl | exact asK_0_38 rfl | exact asK_0_39 rfl)) gX8_commands_X8_addsStep rfl ⟨rfl, rfl⟩ hd_X8_addsStep ⟨(Nat.le_of_ble_eq_true rfl), (Nat.le_of_ble_eq_true rfl)⟩ rfl rfl rfl [0, 1] [] rfl rfl rfl rfl rfl rfl rfl rfl (by decide) rfl rfl hl.1 (Nat.le_of_ble_eq_true rfl) ⟨Nat.zero_le _, Nat.zero_le _⟩ dX8_commands_93 (fun H locs Y => ?_)
      refine lv_aload_n hx hb dX8_commands_96 rfl (lv_at hl 4 rfl) ?_
      refine lv_iload hx hb dX8_commands_97 (lv_at hl 3 rfl) ?_
      refine lv_aload_n hx hb dX8_commands_99 rfl (lv_at hl 4 rfl) ?_
      refine bGet (v := .ref mN) (T := TX8) (N := 9) (ci := 8) X Y i_X8_commands_X8 0 rfl rfl 0 (Nat.le_of_ble_eq_true rfl) f_X8_commands_7 rfl rfl dX8_commands_100 ?_
      refine lv_bipush (v := 6) hx hb dX8_commands_103 (by decide) ?_
      refine bIald (v := u_13_0 6) X Y 1 rfl (bInD (by decide)) dX8_commands_105 rfl ?_
      refine lv_iconst (v := 1) hx hb dX8_commands_106 (by decide) ?_
      refine bAdd (v := (u_13_0 6) + 1) X dX8_commands_107 rfl ?_
      refine lv_iload_n hx hb dX8_commands_108 rfl (lv_at hl 7 rfl) ?_
      refine bAdd (v := ((u_13_0 6) + 1) + pa) X dX8_commands_109 rfl ?_
      refine lv_iload hx hb dX8_commands_110 (lv_at hl 1 rfl) ?_
      refine lv_iload hx hb dX8_commands_112 (lv_at hl 0 rfl) ?_
      refine bSub (v := (w - (nw 13)) - (w - (nw 13))) X dX8_commands_114 rfl ?_
      obtain ⟨u_14_0, hr_14⟩ := bEx1 (s_addsStep8_0 u_13_0 (((u_13_0 6) + 1) + pa) ((w - (nw 13)) - (w - (nw 13))))
      rw [hr_14] at hu
      dsimp only at hu
      have asK_0_14 := asK_0 hr_14
      refine bVV (As := [.int 0, .int (((u_13_0 6) + 1) + pa), .int ((w - (nw 13)) - (w - (nw 13)))]) (rest := []) (wc := [(mM, .inr (8, [.ref mN, .ref mR, .ref mA, .ref mP, .int ch, .ref mT, .int le, .int sp, .ref mD])), (mN, .inl (cyI, 515, .inl u_13_0))]) (w1 := [(mM, .inr (8, [.ref mN, .ref mR, .ref mA, .ref mP, .int ch, .ref mT, .int le, .int sp, .ref mD])), (mN, .inl (cyI, 515, .inl u_14_0))]) (ws' := [(mM, .inr (8, [.ref mN, .ref mR, .ref mA, .ref mP, .int ch, .ref mT, .int le, .int sp, .ref mD])), (mN, .inl (cyI, 515, .inl u_14_0))]) (ad := [mM, mN]) (wr := []) (nn := 2) (ci := 8) (q0 := 0) X Y (c_addsStep8_0 l D cyC cyI mM mN mR mA mP mT mD ch le sp u_13_0 (((u_13_0 6) + 1) + pa) ((w - (nw 13)) - (w - (nw 13))) u_14_0 hr_14 (by first | exact Or.inl rfl | exact asK_0_1 rfl | exact asK_0_2 rfl | exact asK_0_3 rfl | exact asK_0_4 rfl | exact asK_0_5 rfl | exact asK_0_6 rfl | exact asK_0_7 rfl | exact asK_0_8 rfl | exact asK_0_9 rfl | exact asK_0_10 rfl | exact asK_0_11 rfl | exact asK_0_12 rfl | exact asK_0_13 rfl | exact asK_0_14 rfl | exact asK_0_15 rfl | exact asK_0_16 rfl | exact asK_0_17 rfl | exact asK_0_18 rfl | exact asK_0_19 rfl | exact asK_0_20 rfl | exact asK_0_21 rfl | exact asK_0_22 rfl | exact asK_0_23 rfl | exact asK_0_24 rfl | exact asK_0_25 rfl | exact asK_0_26 rfl | exact asK_0_27 rfl | exact asK_0_28 rfl | exact asK_0_29 rfl | exact asK_0_30 rfl | exact asK_0_31 rfl | exact asK_0_32 rfl | exact asK_0_33 rfl | exact asK_0_34 rfl | exact asK_0_35 rfl | exact asK_0_36 rfl | exact asK_0_37 rfl | exact asK_0_38 rfl | exact asK_0_39 rfl)) gX8_commands_X8_addsStep rfl ⟨rfl, rfl⟩ hd_X8_addsStep ⟨(Nat.le_of_ble_eq_true rfl), (Nat.le_of_ble_eq_true rfl)⟩ rfl rfl rfl [0, 1] [] rfl rfl rfl rfl rfl rfl rfl rfl (by decide) rfl rfl hl.1 (Nat.le_of_ble_eq_true rfl) ⟨Nat.zero_le _, Nat.zero_le _⟩ dX8_commands_115 (fun H locs Y => ?_)
      refine lv_iinc (v := 1) (lv' := [(5, .int 1), (7, .int (w - (nw 13))), (6, .int (w - (nw 13))), (4, .int 1), (0, .ref mM), (1, .int 1), (2, .int w), (3, .int pa)]) hx hb dX8_commands_118 hl (k := 3) rfl (by decide) (by decide) rfl (fun ls hl => ?_)
      refine lv_goto (tgt := 6) hx hb dX8_commands_121 (by decide) ?_
      refine lv_iload hx hb dX8_commands_6 (lv_at hl 0 rfl) ?_
      refine lv_iconst (v := 2) hx hb dX8_commands_8 (by decide) ?_
      refine lv_icmp_ge (tgt := 124) hx hb dX8_commands_9 (by decide) (fun c_ => absurd c_ (by decide)) (fun _ => ?_)
      refine lv_aload_n hx hb dX8_commands_12 rfl (lv_at hl 4 rfl) ?_
      refine lv_iload hx hb dX8_commands_13 (lv_at hl 0 rfl) ?_
      refine lv_iload_n hx hb dX8_commands_15 rfl (lv_at hl 5 rfl) ?_
      refine bVI0 (As := [.int 1, .int 1]) (rest := []) (wc := [(mM, .inr (8, [.ref mN, .ref mR, .ref mA, .ref mP, .int ch, .ref mT, .int le, .int sp, .ref mD])), (mN, .inl (cyI, 515, .inl u_14_0))]) (ci := 8) (q0 := 0) X Y (c_heeds8_11 l D cyC cyI mM mN mR mA mP mT mD ch le sp u_14_0 true rfl) gX8_commands_X8_heeds rfl ⟨rfl, rfl⟩ hd_X8_heeds ⟨(Nat.le_of_ble_eq_true rfl), (Nat.le_of_ble_eq_true rfl)⟩ rfl rfl rfl [0, 1] rfl rfl rfl rfl hl.1 (Nat.le_of_ble_eq_true rfl) ⟨Nat.zero_le _, Nat.zero_le _⟩ dX8_commands_16 (fun H locs Y => ?_)
      refine lv_if_eq (tgt := 118) hx hb dX8_commands_19 (by decide) (fun c_ => absurd c_ (by decide)) (fun _ => ?_)
      refine lv_iinc (v := 2) (lv' := [(4, .int 2), (5, .int 1), (7, .int (w - (nw 13))), (6, .int (w - (nw 13))), (0, .ref mM), (1, .int 1), (2, .int w), (3, .int pa)]) hx hb dX8_commands_22 hl (k := 3) rfl (by decide) (by decide) rfl (fun ls hl => ?_)
      refine lv_iconst (v := 0) hx hb dX8_commands_25 (by decide) ?_
      refine lv_istore (lv' := [(6, .int 0), (4, .int 2), (5, .int 1), (7, .int (w - (nw 13))), (0, .ref mM), (1, .int 1), (2, .int w), (3, .int pa)]) hx hb dX8_commands_26 hl (by decide) rfl (fun ls hl => ?_)
      refine lv_iload hx hb dX8_commands_28 (lv_at hl 0 rfl) ?_
      refine lv_iconst (v := 5) hx hb dX8_commands_30 (by decide) ?_
      refine lv_icmp_ge (tgt := 52) hx hb dX8_commands_31 (by decide) (fun c_ => absurd c_ (by decide)) (fun _ => ?_)
      refine lv_aload_n hx hb dX8_commands_34 rfl (lv_at hl 4 rfl) ?_
      refine lv_iload hx hb dX8_commands_35 (lv_at hl 2 rfl) ?_
      refine lv_bipush (v := 8) hx hb dX8_commands_37 (by decide) ?_
      refine lv_iload hx hb dX8_commands_39 (lv_at hl 0 rfl) ?_
      refine bAdd (v := 8) X dX8_commands_41 (by decide) ?_
      refine lv_iconst (v := 0) hx hb dX8_commands_42 (by decide) ?_
      refine bVV (As := [.int 1, .int 8, .int 0]) (rest := []) (wc := [(mM, .inr (8, [.ref mN, .ref mR, .ref mA, .ref mP, .int ch, .ref mT, .int le, .int sp, .ref mD])), (mN, .inl (cyI, 515, .inl u_14_0))]) (w1 := [(mM, .inr (8, [.ref mN, .ref mR, .ref mA, .ref mP, .int ch, .ref mT, .int le, .int sp, .ref mD])), (mN, .inl (cyI, 515, .inl (upd u_14_0 28 0)))]) (ws' := [(mM, .inr (8, [.ref mN, .ref mR, .ref mA, .ref mP, .int ch, .ref mT, .int le, .int sp, .ref mD])), (mN, .inl (cyI, 515, .inl (upd u_14_0 28 0)))]) (ad := [mM, mN]) (wr := []) (nn := 2) (ci := 8) (q0 := 0) X Y (c_tells8 l D cyC cyI mM mN mR mA mP mT mD ch le sp u_14_0 1 8 0 (upd u_14_0 28 0) (bTells (i := 28) (by decide) rfl) (bInD (by decide))) gX8_commands_X8_tells rfl ⟨rfl, rfl⟩ hd_X8_tells ⟨(Nat.le_of_ble_eq_true rfl), (Nat.le_of_ble_eq_true rfl)⟩ rfl rfl rfl [0, 1] [] rfl rfl rfl rfl rfl rfl rfl rfl (by decide) rfl rfl hl.1 (Nat.le_of_ble_eq_true rfl) ⟨Nat.zero_le _, Nat.zero_le _⟩ dX8_commands_43 (fun H locs Y => ?_)
      refine lv_iinc (v := 1) (lv' := [(6, .int 1), (4, .int 2), (5, .int 1), (7, .int (w - (nw 13))), (0, .ref mM), (1, .int 1), (2, .int w), (3, .int pa)]) hx hb dX8_commands_46 hl (k := 0) rfl (by decide) (by decide) rfl (fun ls hl => ?_)
      refine lv_goto (tgt := 28) hx hb dX8_commands_49 (by decide) ?_
      refine lv_iload hx hb dX8_commands_28 (lv_at hl 0 rfl) ?_
      refine lv_iconst (v := 5) hx hb dX8_commands_30 (by decide) ?_
      refine lv_icmp_ge (tgt := 52) hx hb dX8_commands_31 (by decide) (fun c_ => absurd c_ (by decide)) (fun _ => ?_)
      refine lv_aload_n hx hb dX8_commands_34 rfl (lv_at hl 4 rfl) ?_
      refine lv_iload hx hb dX8_commands_35 (lv_at hl 2 rfl) ?_
      refine lv_bipush (v := 8) hx hb dX8_commands_37 (by decide) ?_
      refine lv_iload hx hb dX8_commands_39 (lv_at hl 0 rfl) ?_
      refine bAdd (v := 9) X dX8_commands_41 (by decide) ?_
      refine lv_iconst (v := 0) hx hb dX8_commands_42 (by decide) ?_
      refine bVV (As := [.int 1, .int 9, .int 0]) (rest := []) (wc := [(mM, .inr (8, [.ref mN, .ref mR, .ref mA, .ref mP, .int ch, .ref mT, .int le, .int sp, .ref mD])), (mN, .inl (cyI, 515, .inl (upd u_14_0 28 0)))]) (w1 := [(mM, .inr (8, [.ref mN, .ref mR, .ref mA, .ref mP, .int ch, .ref mT, .int le, .int sp, .ref mD])), (mN, .inl (cyI, 515, .inl (upd (upd u_14_0 28 0) 29 0)))]) (ws' := [(mM, .inr (8, [.ref mN, .ref mR, .ref mA, .ref mP, .int ch, .ref mT, .int le, .int sp, .ref mD])), (mN, .inl (cyI, 515, .inl (upd (upd u_14_0 28 0) 29 0)))]) (ad := [mM, mN]) (wr := []) (nn := 2) (ci := 8) (q0 := 0) X Y (c_tells8 l D cyC cyI mM mN mR mA mP mT mD ch le sp (upd u_14_0 28 0) 1 9 0 (upd (upd u_14_0 28 0) 29 0) (bTells (i := 29) (by decide) rfl) (bInD (by decide))) gX8_commands_X8_tells rfl ⟨rfl, rfl⟩ hd_X8_tells ⟨(Nat.le_of_ble_eq_true rfl), (Nat.le_of_ble_eq_true rfl)⟩ rfl rfl rfl [0, 1] [] rfl rfl rfl rfl rfl rfl rfl rfl (by decide) rfl rfl hl.1 (Nat.le_of_ble_eq_true rfl) ⟨Nat.zero_le _, Nat.zero_le _⟩ dX8_commands_43 (fun H locs Y => ?_)
      refine lv_iinc (v := 2) (lv' := [(6, .int 2), (4, .int 2), (5, .int 1), (7, .int (w - (nw 13))), (0, .ref mM), (1, .int 1), (2, .int w), (3, .int pa)]) hx hb dX8_commands_46 hl (k := 0) rfl (by decide) (by decide) rfl (fun ls hl => ?_)
      refine lv_goto (tgt := 28) hx hb dX8_commands_49 (by decide) ?_
      refine lv_iload hx hb dX8_commands_28 (lv_at hl 0 rfl) ?_
      refine lv_iconst (v := 5) hx hb dX8_commands_30 (by decide) ?_
      refine lv_icmp_ge (tgt := 52) hx hb dX8_commands_31 (by decide) (fun c_ => absurd c_ (by decide)) (fun _ => ?_)
      refine lv_aload_n hx hb dX8_commands_34 rfl (lv_at hl 4 rfl) ?_
      refine lv_iload hx hb dX8_commands_35 (lv_at hl 2 rfl) ?_
      refine lv_bipush (v := 8) hx hb dX8_commands_37 (by decide) ?_
      refine lv_iload hx hb dX8_commands_39 (lv_at hl 0 rfl) ?_
      refine bAdd (v := 10) X dX8_commands_41 (by decide) ?_
      refine lv_iconst (v := 0) hx hb dX8_commands_42 (by decide) ?_
      refine bVV (As := [.int 1, .int 10, .int 0]) (rest := []) (wc := [(mM, .inr (8, [.ref mN, .ref mR, .ref mA, .ref mP, .int ch, .ref mT, .int le, .int sp, .ref mD])), (mN, .inl (cyI, 515, .inl (upd (upd u_14_0 28 0) 29 0)))]) (w1 := [(mM, .inr (8, [.ref mN, .ref mR, .ref mA, .ref mP, .int ch, .ref mT, .int le, .int sp, .ref mD])), (mN, .inl (cyI, 515, .inl (upd (upd (upd u_14_0 28 0) 29 0) 30 0)))]) (ws' := [(mM, .inr (8, [.ref mN, .ref mR, .ref mA, .ref mP, .int ch, .ref mT, .int le, .int sp, .ref mD])), (mN, .inl (cyI, 515, .inl (upd (upd (upd u_14_0 28 0) 29 0) 30 0)))]) (ad := [mM, mN]) (wr := []) (nn := 2) (ci := 8) (q0 := 0) X Y (c_tells8 l D cyC cyI mM mN mR mA mP mT mD ch le sp (upd (upd u_14_0 28 0) 29 0) 1 10 0 (upd (upd (upd u_14_0 28 0) 29 0) 30 0) (bTells (i := 30) (by decide) rfl) (bInD (by decide))) gX8_commands_X8_tells rfl ⟨rfl, rfl⟩ hd_X8_tells ⟨(Nat.le_of_ble_eq_true rfl), (Nat.le_of_ble_eq_true rfl)⟩ rfl rfl rfl [0, 1] [] rfl rfl rfl rfl rfl rfl rfl rfl (by decide) rfl rfl hl.1 (Nat.le_of_ble_eq_true rfl) ⟨Nat.zero_le _, Nat.zero_le _⟩ dX8_commands_43 (fun H locs Y => ?_)
      refine lv_iinc (v := 3) (lv' := [(6, .int 3), (4, .int 2), (5, .int 1), (7, .int (w - (nw 13))), (0, .ref mM), (1, .int 1), (2, .int w), (3, .int pa)]) hx hb dX8_commands_46 hl (k := 0) rfl (by decide) (by decide) rfl (fun ls hl => ?_)
      refine lv_goto (tgt := 28) hx hb dX8_commands_49 (by decide) ?_
      refine lv_iload hx hb dX8_commands_28 (lv_at hl 0 rfl) ?_
      refine lv_iconst (v := 5) hx hb dX8_commands_30 (by decide) ?_
      refine lv_icmp_ge (tgt := 52) hx hb dX8_commands_31 (by decide) (fun c_ => absurd c_ (by decide)) (fun _ => ?_)
      refine lv_aload_n hx hb dX8_commands_34 rfl (lv_at hl 4 rfl) ?_
      refine lv_iload hx hb dX8_commands_35 (lv_at hl 2 rfl) ?_
      refine lv_bipush (v := 8) hx hb dX8_commands_37 (by decide) ?_
      refine lv_iload hx hb dX8_commands_39 (lv_at hl 0 rfl) ?_
      refine bAdd (v := 11) X dX8_commands_41 (by decide) ?_
      refine lv_iconst (v := 0) hx hb dX8_commands_42 (by decide) ?_
      refine bVV (As := [.int 1, .int 11, .int 0]) (rest := []) (wc := [(mM, .inr (8, [.ref mN, .ref mR, .ref mA, .ref mP, .int ch, .ref mT, .int le, .int sp, .ref mD])), (mN, .inl (cyI, 515, .inl (upd (upd (upd u_14_0 28 0) 29 0) 30 0)))]) (w1 := [(mM, .inr (8, [.ref mN, .ref mR, .ref mA, .ref mP, .int ch, .ref mT, .int le, .int sp, .ref mD])), (mN, .inl (cyI, 515, .inl (upd (upd (upd (upd u_14_0 28 0) 29 0) 30 0) 31 0)))]) (ws' := [(mM, .inr (8, [.ref mN, .ref mR, .ref mA, .ref mP, .int ch, .ref mT, .int le, .int sp, .ref mD])), (mN, .inl (cyI, 515, .inl (upd (upd (upd (upd u_14_0 28 0) 29 0) 30 0) 31 0)))]) (ad := [mM, mN]) (wr := []) (nn := 2) (ci := 8) (q0 := 0) X Y (c_tells8 l D cyC cyI mM mN mR mA mP mT mD ch le sp (upd (upd (upd u_14_0 28 0) 29 0) 30 0) 1 11 0 (upd (upd (upd (upd u_14_0 28 0) 29 0) 30 0) 31 0) (bTells (i := 31) (by decide) rfl) (bInD (by decide))) gX8_commands_X8_tells rfl ⟨rfl, rfl⟩ hd_X8_tells ⟨(Nat.le_of_ble_eq_true rfl), (Nat.le_of_ble_eq_true rfl)⟩ rfl rfl rfl [0, 1] [] rfl rfl rfl rfl rfl rfl rfl rfl (by decide) rfl rfl hl.1 (Nat.le_of_ble_eq_true rfl) ⟨Nat.zero_le _, Nat.zero_le _⟩ dX8_commands_43 (fun H locs Y => ?_)
      refine lv_iinc (v := 4) (lv' := [(6, .int 4), (4, .int 2), (5, .int 1), (7, .int (w - (nw 13))), (0, .ref mM), (1, .int 1), (2, .int w), (3, .int pa)]) hx hb dX8_commands_46 hl (k := 0) rfl (by decide) (by decide) rfl (fun ls hl => ?_)
      refine lv_goto (tgt := 28) hx hb dX8_commands_49 (by decide) ?_
      refine lv_iload hx hb dX8_commands_28 (lv_at hl 0 rfl) ?_
      refine lv_iconst (v := 5) hx hb dX8_commands_30 (by decide) ?_
      refine lv_icmp_ge (tgt := 52) hx hb dX8_commands_31 (by decide) (fun c_ => absurd c_ (by decide)) (fun _ => ?_)
      refine lv_aload_n hx hb dX8_commands_34 rfl (lv_at hl 4 rfl) ?_
      refine lv_iload hx hb dX8_commands_35 (lv_at hl 2 rfl) ?_
      refine lv_bipush (v := 8) hx hb dX8_commands_37 (by decide) ?_
      refine lv_iload hx hb dX8_commands_39 (lv_at hl 0 rfl) ?_
      refine bAdd (v := 12) X dX8_commands_41 (by decide) ?_
      refine lv_iconst (v := 0) hx hb dX8_commands_42 (by decide) ?_
      refine bVV (As := [.int 1, .int 12, .int 0]) (rest := []) (wc := [(mM, .inr (8, [.ref mN, .ref mR, .ref mA, .ref mP, .int ch, .ref mT, .int le, .int sp, .ref mD])), (mN, .inl (cyI, 515, .inl (upd (upd (upd (upd u_14_0 28 0) 29 0) 30 0) 31 0)))]) (w1 := [(mM, .inr (8, [.ref mN, .ref mR, .ref mA, .ref mP, .int ch, .ref mT, .int le, .int sp, .ref mD])), (mN, .inl (cyI, 515, .inl (upd (upd (upd (upd (upd u_14_0 28 0) 29 0) 30 0) 31 0) 32 0)))]) (ws' := [(mM, .inr (8, [.ref mN, .ref mR, .ref mA, .ref mP, .int ch, .ref mT, .int le, .int sp, .ref mD])), (mN, .inl (cyI, 515, .inl (upd (upd (upd (upd (upd u_14_0 28 0) 29 0) 30 0) 31 0) 32 0)))]) (ad := [mM, mN]) (wr := []) (nn := 2) (ci := 8) (q0 := 0) X Y (c_tells8 l D cyC cyI mM mN mR mA mP mT mD ch le sp (upd (upd (upd (upd u_14_0 28 0) 29 0) 30 0) 31 0) 1 12 0 (upd (upd (upd (upd (upd u_14_0 28 0) 29 0) 30 0) 31 0) 32 0) (bTells (i := 32) (by decide) rfl) (bInD (by decide))) gX8_commands_X8_tells rfl ⟨rfl, rfl⟩ hd_X8_tells ⟨(Nat.le_of_ble_eq_true rfl), (Nat.le_of_ble_eq_true rfl)⟩ rfl rfl rfl [0, 1] [] rfl rfl rfl rfl rfl rfl rfl rfl (by decide) rfl rfl hl.1 (Nat.le_of_ble_eq_true rfl) ⟨Nat.zero_le _, Nat.zero_le _⟩ dX8_commands_43 (fun H locs Y => ?_)
      refine lv_iinc (v := 5) (lv' := [(6, .int 5), (4, .int 2), (5, .int 1), (7, .int (w - (nw 13))), (0, .ref mM), (1, .int 1), (2, .int w), (3, .int pa)]) hx hb dX8_commands_46 hl (k := 0) rfl (by decide) (by decide) rfl (fun ls hl => ?_)
      refine lv_goto (tgt := 28) hx hb dX8_commands_49 (by decide) ?_
      refine lv_iload hx hb dX8_commands_28 (lv_at hl 0 rfl) ?_
      refine lv_iconst (v := 5) hx hb dX8_commands_30 (by decide) ?_
      refine lv_icmp_ge (tgt := 52) hx hb dX8_commands_31 (by decide) (fun _ => ?_) (fun c_ => absurd (by decide) c_)
      refine lv_iload_n hx hb dX8_commands_52 rfl (lv_at hl 6 rfl) ?_
      refine lv_aload_n hx hb dX8_commands_53 rfl (lv_at hl 4 rfl) ?_
      refine lv_iload hx hb dX8_commands_54 (lv_at hl 2 rfl) ?_
      refine lv_bipush (v := 6) hx hb dX8_commands_56 (by decide) ?_
      refine bVI0 (As := [.int 1, .int 6]) (rest := [.int w]) (wc := [(mM, .inr (8, [.ref mN, .ref mR, .ref mA, .ref mP, .int ch, .ref mT, .int le, .int sp, .ref mD])), (mN, .inl (cyI, 515, .inl (upd (upd (upd (upd (upd u_14_0 28 0) 29 0) 30 0) 31 0) 32 0)))]) (ci := 8) (q0 := 0) X Y (c_of8 l D cyC cyI mM mN mR mA mP mT mD ch le sp (upd (upd (upd (upd (upd u_14_0 28 0) 29 0) 30 0) 31 0) 32 0) 1 6 (u_14_0 26) (bOf (i := 26) (by decide) ((upd_ne (by decide)).trans ((upd_ne (by decide)).trans ((upd_ne (by decide)).trans ((upd_ne (by decide)).trans ((upd_ne (by decide)).trans rfl)))))) (bInD (by decide))) gX8_commands_X8_of rfl ⟨rfl, rfl⟩ hd_X8_of ⟨(Nat.le_of_ble_eq_true rfl), (Nat.le_of_ble_eq_true rfl)⟩ rfl rfl rfl [0, 1] rfl rfl rfl rfl hl.1 (Nat.le_of_ble_eq_true rfl) ⟨Nat.zero_le _, Nat.zero_le _⟩ dX8_commands_58 (fun H locs Y => ?_)
      refine bSub (v := w - (u_14_0 26)) X dX8_commands_61 rfl ?_
      refine lv_istore (lv' := [(6, .int (w - (u_14_0 26))), (4, .int 2), (5, .int 1), (7, .int (w - (nw 13))), (0, .ref mM), (1, .int 1), (2, .int w), (3, .int pa)]) hx hb dX8_commands_62 hl (by decide) rfl (fun ls hl => ?_)
      refine lv_iload_n hx hb dX8_commands_64 rfl (lv_at hl 7 rfl) ?_
      refine lv_if_ge (tgt := 73) hx hb dX8_commands_65 (by decide) (fun c_15 => ?_) (fun c_15 => ?_)
      · have c_15 : 0 ≤ pa := c_15
        exact absurd c_15 c_7
      · have c_15 : ¬ (0 ≤ pa) := c_15
        refine lv_iload hx hb dX8_commands_68 (lv_at hl 0 rfl) ?_
        refine lv_goto (tgt := 77) hx hb dX8_commands_70 (by decide) ?_
        refine lv_istore (lv' := [(7, .int (w - (u_14_0 26))), (6, .int (w - (u_14_0 26))), (4, .int 2), (5, .int 1), (0, .ref mM), (1, .int 1), (2, .int w), (3, .int pa)]) hx hb dX8_commands_77 hl (by decide) rfl (fun ls hl => ?_)
        refine lv_aload_n hx hb dX8_commands_79 rfl (lv_at hl 4 rfl) ?_
        refine lv_iload hx hb dX8_commands_80 (lv_at hl 3 rfl) ?_
        refine lv_aload_n hx hb dX8_commands_82 rfl (lv_at hl 4 rfl) ?_
        refine bGet (v := .ref mN) (T := TX8) (N := 9) (ci := 8) X Y i_X8_commands_X8 0 rfl rfl 0 (Nat.le_of_ble_eq_true rfl) f_X8_commands_7 rfl rfl dX8_commands_83 ?_
        refine lv_bipush (v := 6) hx hb dX8_commands_86 (by decide) ?_
        refine bIald (v := u_14_0 6) X Y 1 rfl (bInD (by decide)) dX8_commands_88 ((upd_ne (by decide)).trans ((upd_ne (by decide)).trans ((upd_ne (by decide)).trans ((upd_ne (by decide)).trans ((upd_ne (by decide)).trans rfl))))) ?_
        refine lv_iconst (v := 1) hx hb dX8_commands_89 (by decide) ?_
        refine bAdd (v := (u_14_0 6) + 1) X dX8_commands_90 rfl ?_
        refine lv_iload hx hb dX8_commands_91 (lv_at hl 0 rfl) ?_
        obtain ⟨u_16_0, hr_16⟩ := bEx1 (s_addsStep8_1 (upd (upd (upd (upd (upd u_14_0 28 0) 29 0) 30 0) 31 0) 32 0) ((u_14_0 6) + 1) (w - (u_14_0 26)))
        rw [hr_16] at hu
        dsimp only at hu
        have asK_1_16 := asK_1 hr_16
        refine bVV (As := [.int 1, .int ((u_14_0 6) + 1), .int (w - (u_14_0 26))]) (rest := []) (wc := [(mM, .inr (8, [.ref mN, .ref mR, .ref mA, .ref mP, .int ch, .ref mT, .int le, .int sp, .ref mD])), (mN, .inl (cyI, 515, .inl (upd (upd (upd (upd (upd u_14_0 28 0) 29 0) 30 0) 31 0) 32 0)))]) (w1 := [(mM, .inr (8, [.ref mN, .ref mR, .ref mA, .ref mP, .int ch, .ref mT, .int le, .int sp, .ref mD])), (mN, .inl (cyI, 515, .inl u_16_0))]) (ws' := [(mM, .inr (8, [.ref mN, .ref mR, .ref mA, .ref mP, .int ch, .ref mT, .int le, .int sp, .ref mD])), (mN, .inl (cyI, 515, .inl u_16_0))]) (ad := [mM, mN]) (wr := []) (nn := 2) (ci := 8) (q0 := 0) X Y (c_addsStep8_1 l D cyC cyI mM mN mR mA mP mT mD ch le sp (upd (upd (upd (upd (upd u_14_0 28 0) 29 0) 30 0) 31 0) 32 0) ((u_14_0 6) + 1) (w - (u_14_0 26)) u_16_0 hr_16 (by first | exact Or.inl rfl | exact asK_1_1 rfl | exact asK_1_2 rfl | exact asK_1_3 rfl | exact asK_1_4 rfl | exact asK_1_5 rfl | exact asK_1_6 rfl | exact asK_1_7 rfl | exact asK_1_8 rfl | exact asK_1_9 rfl | exact asK_1_10 rfl | exact asK_1_11 rfl | exact asK_1_12 rfl | exact asK_1_13 rfl | exact asK_1_14 rfl | exact asK_1_15 rfl | exact asK_1_16 rfl | exact asK_1_17 rfl | exact asK_1_18 rfl | exact asK_1_19 rfl | exact asK_1_20 rfl | exact asK_1_21 rfl | exact asK_1_22 rfl | exact asK_1_23 rfl | exact asK_1_24 rfl | exact asK_1_25 rfl | exact asK_1_26 rfl | exact asK_1_27 rfl | exact asK_1_28 rfl | exact asK_1_29 rfl | exact asK_1_30 rfl | exact asK_1_31 rfl | exact asK_1_32 rfl | exact asK_1_33 rfl | exact asK_1_34 rfl | exact asK_1_35 rfl | exact asK_1_36 rfl | exact asK_1_37 rfl | exact asK_1_38 rfl | exact asK_1_39 rfl)) gX8_commands_X8_addsStep rfl ⟨rfl, rfl⟩ hd_X8_addsStep ⟨(Nat.le_of_ble_eq_true rfl), (Nat.le_of_ble_eq_true rfl)⟩ rfl rfl rfl [0, 1] [] rfl rfl rfl rfl rfl rfl rfl rfl (by decide) rfl rfl hl.1 (Nat.le_of_ble_eq_true rfl) ⟨Nat.zero_le _, Nat.zero_le _⟩ dX8_commands_93 (fun H locs Y => ?_)
        refine lv_aload_n hx hb dX8_commands_96 rfl (lv_at hl 4 rfl) ?_
        refine lv_iload hx hb dX8_commands_97 (lv_at hl 3 rfl) ?_
        refine lv_aload_n hx hb dX8_commands_99 rfl (lv_at hl 4 rfl) ?_
        refine bGet (v := .ref mN) (T := TX8) (N := 9) (ci := 8) X Y i_X8_commands_X8 0 rfl rfl 0 (Nat.le_of_ble_eq_true rfl) f_X8_commands_7 rfl rfl dX8_commands_100 ?_
        refine lv_bipush (v := 6) hx hb dX8_commands_103 (by decide) ?_
        refine bIald (v := u_16_0 6) X Y 1 rfl (bInD (by decide)) dX8_commands_105 rfl ?_
        refine lv_iconst (v := 1) hx hb dX8_commands_106 (by decide) ?_
        refine bAdd (v := (u_16_0 6) + 1) X dX8_commands_107 rfl ?_
        refine lv_iload_n hx hb dX8_commands_108 rfl (lv_at hl 7 rfl) ?_
        refine bAdd (v := ((u_16_0 6) + 1) + pa) X dX8_commands_109 rfl ?_
        refine lv_iload hx hb dX8_commands_110 (lv_at hl 1 rfl) ?_
        refine lv_iload hx hb dX8_commands_112 (lv_at hl 0 rfl) ?_
        refine bSub (v := (w - (u_14_0 26)) - (w - (u_14_0 26))) X dX8_commands_114 rfl ?_
        obtain ⟨u_17_0, hr_17⟩ := bEx1 (s_addsStep8_1 u_16_0 (((u_16_0 6) + 1) + pa) ((w - (u_14_0 26)) - (w - (u_14_0 26))))
        rw [hr_17] at hu
        dsimp only at hu
        have asK_1_17 := asK_1 hr_17
        refine bVV (As := [.int 1, .int (((u_16_0 6) + 1) + pa), .int ((w - (u_14_0 26)) - (w - (u_14_0 26)))]) (rest := []) (wc := [(mM, .inr (8, [.ref mN, .ref mR, .ref mA, .ref mP, .int ch, .ref mT, .int le, .int sp, .ref mD])), (mN, .inl (cyI, 515, .inl u_16_0))]) (w1 := [(mM, .inr (8, [.ref mN, .ref mR, .ref mA, .ref mP, .int ch, .ref mT, .int le, .int sp, .ref mD])), (mN, .inl (cyI, 515, .inl u_17_0))]) (ws' := [(mM, .inr (8, [.ref mN, .ref mR, .ref mA, .ref mP, .int ch, .ref mT, .int le, .int sp, .ref mD])), (mN, .inl (cyI, 515, .inl u_17_0))]) (ad := [mM, mN]) (wr := []) (nn := 2) (ci := 8) (q0 := 0) X Y (c_addsStep8_1 l D cyC cyI mM mN mR mA mP mT mD ch le sp u_16_0 (((u_16_0 6) + 1) + pa) ((w - (u_14_0 26)) - (w - (u_14_0 26))) u_17_0 hr_17 (by first | exact Or.inl rfl | exact asK_1_1 rfl | exact asK_1_2 rfl | exact asK_1_3 rfl | exact asK_1_4 rfl | exact asK_1_5 rfl | exact asK_1_6 rfl | exact asK_1_7 rfl | exact asK_1_8 rfl | exact asK_1_9 rfl | exact asK_1_10 rfl | exact asK_1_11 rfl | exact asK_1_12 rfl | exact asK_1_13 rfl | exact asK_1_14 rfl | exact asK_1_15 rfl | exact asK_1_16 rfl | exact asK_1_17 rfl | exact asK_1_18 rfl | exact asK_1_19 rfl | exact asK_1_20 rfl | exact asK_1_21 rfl | exact asK_1_22 rfl | exact asK_1_23 rfl | exact asK_1_24 rfl | exact asK_1_25 rfl | exact asK_1_26 rfl | exact asK_1_27 rfl | exact asK_1_28 rfl | exact asK_1_29 rfl | exact asK_1_30 rfl | exact asK_1_31 rfl | exact asK_1_32 rfl | exact asK_1_33 rfl | exact asK_1_34 rfl | exact asK_1_35 rfl | exact asK_1_36 rfl | exact asK_1_37 rfl | exact asK_1_38 rfl | exact asK_1_39 rfl)) gX8_commands_X8_addsStep rfl ⟨rfl, rfl⟩ hd_X8_addsStep ⟨(Nat.le_of_ble_eq_true rfl), (Nat.le_of_ble_eq_true rfl)⟩ rfl rfl rfl [0, 1] [] rfl rfl rfl rfl rfl rfl rfl rfl (by decide) rfl rfl hl.1 (Nat.le_of_ble_eq_true rfl) ⟨Nat.zero_le _, Nat.zero_le _⟩ dX8_commands_115 (fun H locs Y => ?_)
        refine lv_iinc (v := 2) (lv' := [(5, .int 2), (7, .int (w - (u_14_0 26))), (6, .int (w - (u_14_0 26))), (4, .int 2), (0, .ref mM), (1, .int 1), (2, .int w), (3, .int pa)]) hx hb dX8_commands_118 hl (k := 3) rfl (by decide) (by decide) rfl (fun ls hl => ?_)
        refine lv_goto (tgt := 6) hx hb dX8_commands_121 (by decide) ?_
        refine lv_iload hx hb dX8_commands_6 (lv_at hl 0 rfl) ?_
        refine lv_iconst (v := 2) hx hb dX8_commands_8 (by decide) ?_
        refine lv_icmp_ge (tgt := 124) hx hb dX8_commands_9 (by decide) (fun _ => ?_) (fun c_ => absurd (by decide) c_)
        refine lv_iload hx hb dX8_commands_124 (lv_at hl 3 rfl) ?_
        have h9 := (Prod.mk.inj hu).1; replace hu := (Prod.mk.inj hu).2; subst h9
        subst hu
        exact bEndI X Y hr hlk dX8_commands_126 rfl rfl
