theorem k_X8_answer_161 : Cond.constant RX8 161 (100000) ∈ wsX8_answer := by decide +kernel
def s_answer8_0 (nw : Nat → Int32) (what : Int32) (mo : Int32) (ma : Int32) : Int32 :=
  if what = 0 then
    (nw 7)
  else
    if what = 1 then
      (nw 8) + 100000
    else
      if what = 2 then
        (nw 9)
      else
        if what = 3 then
          (nw 11) + 100000
        else
          if what = 4 then
            mo
          else
            ma
set_option maxHeartbeats 4000000 in
set_option maxRecDepth 100000 in
theorem c_answer8_0 (l : Launch) (D : va_G) (cyC cyI : ClassId) (mM : Nat) (mN : Nat) (mR : Nat) (mA : Nat) (mP : Nat) (mT : Nat) (mD : Nat) (ch : Int32) (le : Int32) (sp : Int32) (nw : Nat → Int32) (what : Int32) (mo : Int32) (ma : Int32) (o0 : Int32) (hu : s_answer8_0 nw what mo ma = o0) : CI l yX8_answer wsX8_answer { frames := 1, cells := 0, slots := 0, locals := 22 } D cyC cyI [.ref mM, .int 0, .int what, .int mo, .int ma] [(mM, .inr (8, [.ref mN, .ref mR, .ref mA, .ref mP, .int ch, .ref mT, .int le, .int sp, .ref mD])), (mN, .inl (cyI, 515, .inl nw))] o0 [(mM, .inr (8, [.ref mN, .ref mR, .ref mA, .ref mP, .int ch, .ref mT, .int le, .int sp, .ref mD])), (mN, .inl (cyI, 515, .inl nw))] := by
  refine CI.of (cc := cX8_answer) (n := 5) (ret := (some .int)) (by decide +kernel) rfl (Nat.le_of_ble_eq_true rfl) ?_
  intro p_ e_ s_ m_ bl_ me_ cd_ A_ ls X Y hr hlk hl
  have hx := X.1.1
  have hb := X.1.2.1
  have hl : lv_has ls 5 [(0, .ref mM), (1, .int 0), (2, .int what), (3, .int mo), (4, .int ma)] := hl
  unfold s_answer8_0 at hu
  refine lv_iload_n hx hb dX8_answer_0 rfl (lv_at hl 2 rfl) ?_
  by_cases c_1 : what = 0
  · rw [if_pos c_1] at hu
    refine lv_tableIn (tgt := 36) (off := 35) hx hb dX8_answer_1 (by rw [c_1]; decide) (by rw [c_1]; decide) (by rw [c_1]; decide +kernel) (by decide) ?_
    refine lv_aload_n hx hb dX8_answer_36 rfl (lv_at hl 0 rfl) ?_
    refine lv_iload_n hx hb dX8_answer_37 rfl (lv_at hl 1 rfl) ?_
    refine lv_iconst (v := 0) hx hb dX8_answer_38 (by decide) ?_
    refine bVI0 (As := [.int 0, .int 0]) (rest := []) (wc := [(mM, .inr (8, [.ref mN, .ref mR, .ref mA, .ref mP, .int ch, .ref mT, .int le, .int sp, .ref mD])), (mN, .inl (cyI, 515, .inl nw))]) (ci := 8) (q0 := 0) X Y (c_of8 l D cyC cyI mM mN mR mA mP mT mD ch le sp nw 0 0 (nw 7) (bOf (i := 7) (by decide) rfl) (bInD (by decide))) gX8_answer_X8_of rfl ⟨rfl, rfl⟩ hd_X8_of ⟨(Nat.le_of_ble_eq_true rfl), (Nat.le_of_ble_eq_true rfl)⟩ rfl rfl rfl [0, 1] rfl rfl rfl rfl hl.1 (Nat.le_of_ble_eq_true rfl) ⟨Nat.zero_le _, Nat.zero_le _⟩ dX8_answer_39 (fun H locs Y => ?_)
    subst hu
    exact bEndI X Y hr hlk dX8_answer_42 rfl rfl
  · skip
    rw [if_neg c_1] at hu
    by_cases c_2 : what = 1
    · rw [if_pos c_2] at hu
      refine lv_tableIn (tgt := 43) (off := 42) hx hb dX8_answer_1 (by rw [c_2]; decide) (by rw [c_2]; decide) (by rw [c_2]; decide +kernel) (by decide) ?_
      refine lv_aload_n hx hb dX8_answer_43 rfl (lv_at hl 0 rfl) ?_
      refine lv_iload_n hx hb dX8_answer_44 rfl (lv_at hl 1 rfl) ?_
      refine lv_iconst (v := 1) hx hb dX8_answer_45 (by decide) ?_
      refine bVI0 (As := [.int 0, .int 1]) (rest := []) (wc := [(mM, .inr (8, [.ref mN, .ref mR, .ref mA, .ref mP, .int ch, .ref mT, .int le, .int sp, .ref mD])), (mN, .inl (cyI, 515, .inl nw))]) (ci := 8) (q0 := 0) X Y (c_of8 l D cyC cyI mM mN mR mA mP mT mD ch le sp nw 0 1 (nw 8) (bOf (i := 8) (by decide) rfl) (bInD (by decide))) gX8_answer_X8_of rfl ⟨rfl, rfl⟩ hd_X8_of ⟨(Nat.le_of_ble_eq_true rfl), (Nat.le_of_ble_eq_true rfl)⟩ rfl rfl rfl [0, 1] rfl rfl rfl rfl hl.1 (Nat.le_of_ble_eq_true rfl) ⟨Nat.zero_le _, Nat.zero_le _⟩ dX8_answer_46 (fun H locs Y => ?_)
      refine lv_ldc (v := 100000) hx hb X.1.2.2.2.1 (X.1.2.2.2.2 _ k_X8_answer_161) dX8_answer_49 ?_
      refine bAdd (v := (nw 8) + 100000) X dX8_answer_51 rfl ?_
      subst hu
      exact bEndI X Y hr hlk dX8_answer_52 rfl rfl
    · skip
      rw [if_neg c_2] at hu
      by_cases c_3 : what = 2
      · rw [if_pos c_3] at hu
        refine lv_tableIn (tgt := 53) (off := 52) hx hb dX8_answer_1 (by rw [c_3]; decide) (by rw [c_3]; decide) (by rw [c_3]; decide +kernel) (by decide) ?_
        refine lv_aload_n hx hb dX8_answer_53 rfl (lv_at hl 0 rfl) ?_
        refine lv_iload_n hx hb dX8_answer_54 rfl (lv_at hl 1 rfl) ?_
        refine lv_iconst (v := 2) hx hb dX8_answer_55 (by decide) ?_
        refine bVI0 (As := [.int 0, .int 2]) (rest := []) (wc := [(mM, .inr (8, [.ref mN, .ref mR, .ref mA, .ref mP, .int ch, .ref mT, .int le, .int sp, .ref mD])), (mN, .inl (cyI, 515, .inl nw))]) (ci := 8) (q0 := 0) X Y (c_of8 l D cyC cyI mM mN mR mA mP mT mD ch le sp nw 0 2 (nw 9) (bOf (i := 9) (by decide) rfl) (bInD (by decide))) gX8_answer_X8_of rfl ⟨rfl, rfl⟩ hd_X8_of ⟨(Nat.le_of_ble_eq_true rfl), (Nat.le_of_ble_eq_true rfl)⟩ rfl rfl rfl [0, 1] rfl rfl rfl rfl hl.1 (Nat.le_of_ble_eq_true rfl) ⟨Nat.zero_le _, Nat.zero_le _⟩ dX8_answer_56 (fun H locs Y => ?_)
        subst hu
        exact bEndI X Y hr hlk dX8_answer_59 rfl rfl
      · skip
        rw [if_neg c_3] at hu
        by_cases c_4 : what = 3
        · rw [if_pos c_4] at hu
          refine lv_tableIn (tgt := 60) (off := 59) hx hb dX8_answer_1 (by rw [c_4]; decide) (by rw [c_4]; decide) (by rw [c_4]; decide +kernel) (by decide) ?_
          refine lv_aload_n hx hb dX8_answer_60 rfl (lv_at hl 0 rfl) ?_
          refine lv_iload_n hx hb dX8_answer_61 rfl (lv_at hl 1 rfl) ?_
          refine lv_iconst (v := 4) hx hb dX8_answer_62 (by decide) ?_
          refine bVI0 (As := [.int 0, .int 4]) (rest := []) (wc := [(mM, .inr (8, [.ref mN, .ref mR, .ref mA, .ref mP, .int ch, .ref mT, .int le, .int sp, .ref mD])), (mN, .inl (cyI, 515, .inl nw))]) (ci := 8) (q0 := 0) X Y (c_of8 l D cyC cyI mM mN mR mA mP mT mD ch le sp nw 0 4 (nw 11) (bOf (i := 11) (by decide) rfl) (bInD (by decide))) gX8_answer_X8_of rfl ⟨rfl, rfl⟩ hd_X8_of ⟨(Nat.le_of_ble_eq_true rfl), (Nat.le_of_ble_eq_true rfl)⟩ rfl rfl rfl [0, 1] rfl rfl rfl rfl hl.1 (Nat.le_of_ble_eq_true rfl) ⟨Nat.zero_le _, Nat.zero_le _⟩ dX8_answer_63 (fun H locs Y => ?_)
          refine lv_ldc (v := 100000) hx hb X.1.2.2.2.1 (X.1.2.2.2.2 _ k_X8_answer_161) dX8_answer_66 ?_
          refine bAdd (v := (nw 11) + 100000) X dX8_answer_68 rfl ?_
          subst hu
          exact bEndI X Y hr hlk dX8_answer_69 rfl rfl
        · skip
          rw [if_neg c_4] at hu
          by_cases c_5 : what = 4
          · rw [if_pos c_5] at hu
            refine lv_tableIn (tgt := 70) (off := 69) hx hb dX8_answer_1 (by rw [c_5]; decide) (by rw [c_5]; decide) (by rw [c_5]; decide +kernel) (by decide) ?_
            refine lv_iload_n hx hb dX8_answer_70 rfl (lv_at hl 3 rfl) ?_
            subst hu
            exact bEndI X Y hr hlk dX8_answer_71 rfl rfl
          · skip
            rw [if_neg c_5] at hu
            refine lv_tableOut (tgt := 72) hx hb dX8_answer_1 (by have e0 := bNeI c_1 (show (0 : Int32).toInt = 0 by decide); have e1 := bNeI c_2 (show (1 : Int32).toInt = 1 by decide); have e2 := bNeI c_3 (show (2 : Int32).toInt = 2 by decide); have e3 := bNeI c_4 (show (3 : Int32).toInt = 3 by decide); have e4 := bNeI c_5 (show (4 : Int32).toInt = 4 by decide); omega) (by decide) ?_
            refine lv_iload hx hb dX8_answer_72 (lv_at hl 4 rfl) ?_
            subst hu
            exact bEndI X Y hr hlk dX8_answer_74 rfl rfl
def s_answer8_1 (nw : Nat → Int32) (what : Int32) (mo : Int32) (ma : Int32) : Int32 :=
  if what = 0 then
    (nw 20)
  else
    if what = 1 then
      (nw 21) + 100000
    else
      if what = 2 then
        (nw 22)
      else
        if what = 3 then
          (nw 24) + 100000
        else
          if what = 4 then
            mo
          else
            ma
set_option maxHeartbeats 4000000 in
set_option maxRecDepth 100000 in
theorem c_answer8_1 (l : Launch) (D : va_G) (cyC cyI : ClassId) (mM : Nat) (mN : Nat) (mR : Nat) (mA : Nat) (mP : Nat) (mT : Nat) (mD : Nat) (ch : Int32) (le : Int32) (sp : Int32) (nw : Nat → Int32) (what : Int32) (mo : Int32) (ma : Int32) (o0 : Int32) (hu : s_answer8_1 nw what mo ma = o0) : CI l yX8_answer wsX8_answer { frames := 1, cells := 0, slots := 0, locals := 22 } D cyC cyI [.ref mM, .int 1, .int what, .int mo, .int ma] [(mM, .inr (8, [.ref mN, .ref mR, .ref mA, .ref mP, .int ch, .ref mT, .int le, .int sp, .ref mD])), (mN, .inl (cyI, 515, .inl nw))] o0 [(mM, .inr (8, [.ref mN, .ref mR, .ref mA, .ref mP, .int ch, .ref mT, .int le, .int sp, .ref mD])), (mN, .inl (cyI, 515, .inl nw))] := by
  refine CI.of (cc := cX8_answer) (n := 5) (ret := (some .int)) (by decide +kernel) rfl (Nat.le_of_ble_eq_true rfl) ?_
  intro p_ e_ s_ m_ bl_ me_ cd_ A_ ls X Y hr hlk hl
  have hx := X.1.1
  have hb := X.1.2.1
  have hl : lv_has ls 5 [(0, .ref mM), (1, .int 1), (2, .int what), (3, .int mo), (4, .int ma)] := hl
  unfold s_answer8_1 at hu
  refine lv_iload_n hx hb dX8_answer_0 rfl (lv_at hl 2 rfl) ?_
  by_cases c_1 : what = 0
  · rw [if_pos c_1] at hu
    refine lv_tableIn (tgt := 36) (off := 35) hx hb dX8_answer_1 (by rw [c_1]; decide) (by rw [c_1]; decide) (by rw [c_1]; decide +kernel) (by decide) ?_
    refine lv_aload_n hx hb dX8_answer_36 rfl (lv_at hl 0 rfl) ?_
    refine lv_iload_n hx hb dX8_answer_37 rfl (lv_at hl 1 rfl) ?_
    refine lv_iconst (v := 0) hx hb dX8_answer_38 (by decide) ?_
    refine bVI0 (As := [.int 1, .int 0]) (rest := []) (wc := [(mM, .inr (8, [.ref mN, .ref mR, .ref mA, .ref mP, .int ch, .ref mT, .int le, .int sp, .ref mD])), (mN, .inl (cyI, 515, .inl nw))]) (ci := 8) (q0 := 0) X Y (c_of8 l D cyC cyI mM mN mR mA mP mT mD ch le sp nw 1 0 (nw 20) (bOf (i := 20) (by decide) rfl) (bInD (by decide))) gX8_answer_X8_of rfl ⟨rfl, rfl⟩ hd_X8_of ⟨(Nat.le_of_ble_eq_true rfl), (Nat.le_of_ble_eq_true rfl)⟩ rfl rfl rfl [0, 1] rfl rfl rfl rfl hl.1 (Nat.le_of_ble_eq_true rfl) ⟨Nat.zero_le _, Nat.zero_le _⟩ dX8_answer_39 (fun H locs Y => ?_)
    subst hu
    exact bEndI X Y hr hlk dX8_answer_42 rfl rfl
  · skip
    rw [if_neg c_1] at hu
    by_cases c_2 : what = 1
    · rw [if_pos c_2] at hu
      refine lv_tableIn (tgt := 43) (off := 42) hx hb dX8_answer_1 (by rw [c_2]; decide) (by rw [c_2]; decide) (by rw [c_2]; decide +kernel) (by decide) ?_
      refine lv_aload_n hx hb dX8_answer_43 rfl (lv_at hl 0 rfl) ?_
      refine lv_iload_n hx hb dX8_answer_44 rfl (lv_at hl 1 rfl) ?_
      refine lv_iconst (v := 1) hx hb dX8_answer_45 (by decide) ?_
      refine bVI0 (As := [.int 1, .int 1]) (rest := []) (wc := [(mM, .inr (8, [.ref mN, .ref mR, .ref mA, .ref mP, .int ch, .ref mT, .int le, .int sp, .ref mD])), (mN, .inl (cyI, 515, .inl nw))]) (ci := 8) (q0 := 0) X Y (c_of8 l D cyC cyI mM mN mR mA mP mT mD ch le sp nw 1 1 (nw 21) (bOf (i := 21) (by decide) rfl) (bInD (by decide))) gX8_answer_X8_of rfl ⟨rfl, rfl⟩ hd_X8_of ⟨(Nat.le_of_ble_eq_true rfl), (Nat.le_of_ble_eq_true rfl)⟩ rfl rfl rfl [0, 1] rfl rfl rfl rfl hl.1 (Nat.le_of_ble_eq_true rfl) ⟨Nat.zero_le _, Nat.zero_le _⟩ dX8_answer_46 (fun H locs Y => ?_)
      refine lv_ldc (v := 100000) hx hb X.1.2.2.2.1 (X.1.2.2.2.2 _ k_X8_answer_161) dX8_answer_49 ?_
      refine bAdd (v := (nw 21) + 100000) X dX8_answer_51 rfl ?_
      subst hu
      exact bEndI X Y hr hlk dX8_answer_52 rfl rfl
    · skip
      rw [if_neg c_2] at hu
      by_cases c_3 : what = 2
      · rw [if_pos c_3] at hu
        refine lv_tableIn (tgt := 53) (off := 52) hx hb dX8_answer_1 (by rw [c_3]; decide) (by rw [c_3]; decide) (by rw [c_3]; decide +kernel) (by decide) ?_
        refine lv_aload_n hx hb dX8_answer_53 rfl (lv_at hl 0 rfl) ?_
        refine lv_iload_n hx hb dX8_answer_54 rfl (lv_at hl 1 rfl) ?_
        refine lv_iconst (v := 2) hx hb dX8_answer_55 (by decide) ?_
        refine bVI0 (As := [.int 1, .int 2]) (rest := []) (wc := [(mM, .inr (8, [.ref mN, .ref mR, .ref mA, .ref mP, .int ch, .ref mT, .int le, .int sp, .ref mD])), (mN, .inl (cyI, 515, .inl nw))]) (ci := 8) (q0 := 0) X Y (c_of8 l D cyC cyI mM mN mR mA mP mT mD ch le sp nw 1 2 (nw 22) (bOf (i := 22) (by decide) rfl) (bInD (by decide))) gX8_answer_X8_of rfl ⟨rfl, rfl⟩ hd_X8_of ⟨(Nat.le_of_ble_eq_true rfl), (Nat.le_of_ble_eq_true rfl)⟩ rfl rfl rfl [0, 1] rfl rfl rfl rfl hl.1 (Nat.le_of_ble_eq_true rfl) ⟨Nat.zero_le _, Nat.zero_le _⟩ dX8_answer_56 (fun H locs Y => ?_)
        subst hu
        exact bEndI X Y hr hlk dX8_answer_59 rfl rfl
      · skip
        rw [if_neg c_3] at hu
        by_cases c_4 : what = 3
        · rw [if_pos c_4] at hu
          refine lv_tableIn (tgt := 60) (off := 59) hx hb dX8_answer_1 (by rw [c_4]; decide) (by rw [c_4]; decide) (by rw [c_4]; decide +kernel) (by decide) ?_
          refine lv_aload_n hx hb dX8_answer_60 rfl (lv_at hl 0 rfl) ?_
          refine lv_iload_n hx hb dX8_answer_61 rfl (lv_at hl 1 rfl) ?_
          refine lv_iconst (v := 4) hx hb dX8_answer_62 (by decide) ?_
          refine bVI0 (As := [.int 1, .int 4]) (rest := []) (wc := [(mM, .inr (8, [.ref mN, .ref mR, .ref mA, .ref mP, .int ch, .ref mT, .int le, .int sp, .ref mD])), (mN, .inl (cyI, 515, .inl nw))]) (ci := 8) (q0 := 0) X Y (c_of8 l D cyC cyI mM mN mR mA mP mT mD ch le sp nw 1 4 (nw 24) (bOf (i := 24) (by decide) rfl) (bInD (by decide))) gX8_answer_X8_of rfl ⟨rfl, rfl⟩ hd_X8_of ⟨(Nat.le_of_ble_eq_true rfl), (Nat.le_of_ble_eq_true rfl)⟩ rfl rfl rfl [0, 1] rfl rfl rfl rfl hl.1 (Nat.le_of_ble_eq_true rfl) ⟨Nat.zero_le _, Nat.zero_le _⟩ dX8_answer_63 (fun H locs Y => ?_)
          refine lv_ldc (v := 100000) hx hb X.1.2.2.2.1 (X.1.2.2.2.2 _ k_X8_answer_161) dX8_answer_66 ?_
          refine bAdd (v := (nw 24) + 100000) X dX8_answer_68 rfl ?_
          subst hu
          exact bEndI X Y hr hlk dX8_answer_69 rfl rfl
        · skip
          rw [if_neg c_4] at hu
          by_cases c_5 : what = 4
          · rw [if_pos c_5] at hu
            refine lv_tableIn (tgt := 70) (off := 69) hx hb dX8_answer_1 (by rw [c_5]; decide) (by rw [c_5]; decide) (by rw [c_5]; decide +kernel) (by decide) ?_
            refine lv_iload_n hx hb dX8_answer_70 rfl (lv_at hl 3 rfl) ?_
            subst hu
            exact bEndI X Y hr hlk dX8_answer_71 rfl rfl
          · skip
            rw [if_neg c_5] at hu
            refine lv_tableOut (tgt := 72) hx hb dX8_answer_1 (by have e0 := bNeI c_1 (show (0 : Int32).toInt = 0 by decide); have e1 := bNeI c_2 (show (1 : Int32).toInt = 1 by decide); have e2 := bNeI c_3 (show (2 : Int32).toInt = 2 by decide); have e3 := bNeI c_4 (show (3 : Int32).toInt = 3 by decide); have e4 := bNeI c_5 (show (4 : Int32).toInt = 4 by decide); omega) (by decide) ?_
            refine lv_iload hx hb dX8_answer_72 (lv_at hl 4 rfl) ?_
            subst hu
            exact bEndI X Y hr hlk dX8_answer_74 rfl rfl
theorem hd_X8_laysAside : bD1 yX8_laysAside RX8 0 := by decide +kernel
theorem hd_X8_answer : bD1 yX8_answer RX8 4 := by decide +kernel
theorem hd_X8_comesBack : bD1 yX8_comesBack RX8 0 := by decide +kernel
theorem hd_X8_goesBy : bD1 yX8_goesBy RX8 0 := by decide +kernel
def g_ahead8_0 (tn : Int32) (what : Int32) : Nat → Nat → (Nat → Int32) → (Nat → Int32) → Int32 → Int32 → Int32 × (Nat → Int32) × (Nat → Int32)
  | 0, _, _, _, _, _ => (0, fun _ => 0, fun _ => 0)
  | n_ + 1, j, ng, ag, mo, ma =>
    if tn ≤ nI j then
      match s_comesBack8 ng ag with
      | (u_2_0, _) =>
        ((s_answer8_0 ng what mo ma), u_2_0, ag)
    else
      match s_goesBy8 ng with
      | (u_3_0, u_3_1) =>
        if (s_size8 (u_3_1 11)) ≤ mo then
          g_ahead8_0 tn what n_ (j + 1) u_3_1 ag mo (ma + ((u_3_0 >>> (0 &&& 31)) &&& 1))
        else
          g_ahead8_0 tn what n_ (j + 1) u_3_1 ag (s_size8 (u_3_1 11)) (ma + ((u_3_0 >>> (0 &&& 31)) &&& 1))
def s_ahead8_0 (nw : Nat → Int32) (az : Nat → Int32) (tn : Int32) (what : Int32) : Int32 × (Nat → Int32) × (Nat → Int32) :=
  if (s_in8 tn 1 60) = true then
    if (s_isCrane8 0) = true then
      if (s_in8 what 0 5) = true then
        match s_laysAside8 nw az with
        | (u_4_0, _) =>
          g_ahead8_0 tn what (61) 0 nw u_4_0 0 0
      else
        ((-1), nw, az)
    else
      ((-1), nw, az)
  else
    ((-1), nw, az)
set_option maxHeartbeats 4000000 in
set_option maxRecDepth 100000 in
theorem lp_ahead8_0 {p_ : Program} {e_ : Env} {s_ : State} {m_ : MethodId} {bl_ : List Frame} {me_ : Method} {cd_ : Code} {A_ : Nat → Prop} (l : Launch) (D : va_G) (cyC cyI : ClassId) (mM : Nat) (mN : Nat) (mR : Nat) (mA : Nat) (mP : Nat) (mT : Nat) (mD : Nat) (ch : Int32) (le : Int32) (sp : Int32) (nw : Nat → Int32) (az : Nat → Int32) (tn : Int32) (what : Int32) (o0 : Int32) (o1 : Nat → Int32) (o2 : Nat → Int32) (X : bX p_ s_ m_ ([.ref mM, .int tn, .int 0, .int what] : List Value).toArray cd_ cX8_ahead 7 wsX8_ahead yX8_ahead.cls D cyC cyI) (hr : me_.sig.returnType = (some .int)) (hlk : me_.locks = false) (hG : GI nw) : ∀ (n_ : Nat) (j : Nat) (ng : Nat → Int32) (ag : Nat → Int32) (mo : Int32) (ma : Int32) (hN : 61 ≤ j + n_) (hJ : j ≤ 60) (hK : tn ≤ nI 60) (hG : GI ng) (hu : g_ahead8_0 tn what n_ j ng ag mo ma = (o0, o1, o2)) (ls : Array Slot) (H : Heap) (locs : List Loc), lv_has ls 7 [(0, .ref mM), (1, .int tn), (2, .int 0), (3, .int what), (4, .int mo), (5, .int ma), (6, .int (nI j))] → bY D A_ s_.heap [(mM, .inr (8, [.ref mN, .ref mR, .ref mA, .ref mP, .int ch, .ref mT, .int le, .int sp, .ref mD])), (mN, .inl (cyI, 515, .inl ng)), (mA, .inl (cyI, 33, .inl ag))] H locs → W p_ l e_ ({ frames := 5, cells := 0, slots := 0, locals := 112 } : Room) s_ m_ ([.ref mM, .int tn, .int 0, .int what] : List Value).toArray bl_ me_ cd_ H locs 0 0 (bQI bl_ ([.ref mM, .int tn, .int 0, .int what] : List Value).toArray s_ D [(mM, .inr (8, [.ref mN, .ref mR, .ref mA, .ref mP, .int ch, .ref mT, .int le, .int sp, .ref mD])), (mN, .inl (cyI, 515, .inl o1)), (mA, .inl (cyI, 33, .inl o2))] o0 A_) (F0 m_ 41 ls []) := by
  intro n_
  induction n_ with
  | zero =>
    intro j ng ag mo ma hN hJ hK hG hu ls H locs hl Y
    exfalso; omega
  | succ n_ ih =>
    intro j ng ag mo ma hN hJ hK hG hu ls H locs hl Y
    have hx := X.1.1
    have hb := X.1.2.1
    rw [g_ahead8_0] at hu
    refine lv_iload hx hb dX8_ahead_41 (lv_at hl 6 rfl) ?_
    refine lv_iload_n hx hb dX8_ahead_43 rfl (lv_at hl 1 rfl) ?_
    refine lv_icmp_ge (tgt := 96) hx hb dX8_ahead_44 (by decide) (fun c_1 => ?_) (fun c_1 => ?_)
    · have c_1 : tn ≤ nI j := c_1
      rw [if_pos c_1] at hu
      refine lv_aload_n hx hb dX8_ahead_96 rfl (lv_at hl 0 rfl) ?_
      refine lv_iload_n hx hb dX8_ahead_97 rfl (lv_at hl 2 rfl) ?_
      refine lv_iload_n hx hb dX8_ahead_98 rfl (lv_at hl 3 rfl) ?_
      refine lv_iload hx hb dX8_ahead_99 (lv_at hl 4 rfl) ?_
      refine lv_iload hx hb dX8_ahead_101 (lv_at hl 5 rfl) ?_
      refine bVI0 (As := [.int 0, .int what, .int mo, .int ma]) (rest := []) (wc := [(mM, .inr (8, [.ref mN, .ref mR, .ref mA, .ref mP, .int ch, .ref mT, .int le, .int sp, .ref mD])), (mN, .inl (cyI, 515, .inl ng))]) (ci := 8) (q0 := 0) X Y (c_answer8_0 l D cyC cyI mM mN mR mA mP mT mD ch le sp ng what mo ma (s_answer8_0 ng what mo ma) rfl) gX8_ahead_X8_answer rfl ⟨rfl, rfl⟩ hd_X8_answer ⟨(Nat.le_of_ble_eq_true rfl), (Nat.le_of_ble_eq_true rfl)⟩ rfl rfl rfl [0, 1] rfl rfl rfl rfl hl.1 (Nat.le_of_ble_eq_true rfl) ⟨Nat.zero_le _, Nat.zero_le _⟩ dX8_ahead_103 (fun H locs Y => ?_)
      refine lv_istore (lv' := [(6, .int (s_answer8_0 ng what mo ma)), (0, .ref mM), (1, .int tn), (2, .int 0), (3, .int what), (4, .int mo), (5, .int ma)]) hx hb dX8_ahead_106 hl (by decide) rfl (fun ls hl => ?_)
      refine lv_aload_n hx hb dX8_ahead_108 rfl (lv_at hl 1 rfl) ?_
      obtain ⟨u_2_0, hr_2⟩ := bEx1 (s_comesBack8 ng ag)
      rw [hr_2] at hu
      dsimp only at hu
      refine bVV (As := []) (rest := []) (wc := [(mM, .inr (8, [.ref mN, .ref mR, .ref mA, .ref mP, .int ch, .ref mT, .int le, .int sp, .ref mD])), (mN, .inl (cyI, 515, .inl ng)), (mA, .inl (cyI, 33, .inl ag))]) (w1 := [(mM, .inr (8, [.ref mN, .ref mR, .ref mA, .ref mP, .int ch, .ref mT, .int le, .int sp, .ref mD])), (mN, .inl (cyI, 515, .inl u_2_0)), (mA, .inl (cyI, 33, .inl ag))]) (ws' := [(mM, .inr (8, [.ref mN, .ref mR, .ref mA, .ref mP, .int ch, .ref mT, .int le, .int sp, .ref mD])), (mN, .inl (cyI, 515, .inl u_2_0)), (mA, .inl (cyI, 33, .inl ag))]) (ad := [mM, mN, mA]) (wr := []) (nn := 3) (ci := 8) (q0 := 0) X Y (c_comesBack8 l D cyC cyI mM mN mR mA mP mT mD ch le sp ng ag u_2_0 hr_2) gX8_ahead_X8_comesBack rfl ⟨rfl, rfl⟩ hd_X8_comesBack ⟨(Nat.le_of_ble_eq_true rfl), (Nat.le_of_ble_eq_true rfl)⟩ rfl rfl rfl [0, 1, 2] [] rfl rfl rfl rfl rfl rfl rfl rfl (by decide) rfl rfl hl.1 (Nat.le_of_ble_eq_true rfl) ⟨Nat.zero_le _, Nat.zero_le _⟩ dX8_ahead_109 (fun H locs Y => ?_)
      refine lv_iload hx hb dX8_ahead_112 (lv_at hl 0 rfl) ?_
      have h9 := (Prod.mk.inj hu).1; replace hu := (Prod.mk.inj hu).2; subst h9
      have h9 := (Prod.mk.inj hu).1; replace hu := (Prod.mk.inj hu).2; subst h9
      subst hu
      exact bEndI X Y hr hlk dX8_ahead_114 rfl rfl
    · have c_1 : ¬ (tn ≤ nI j) := c_1
      rw [if_neg c_1] at hu
      refine lv_iload hx hb dX8_ahead_47 (lv_at hl 5 rfl) ?_
      refine lv_aload_n hx hb dX8_ahead_49 rfl (lv_at hl 0 rfl) ?_
      obtain ⟨u_3_0, u_3_1, hr_3⟩ := bEx2 (s_goesBy8 ng)
      rw [hr_3] at hu
      dsimp only at hu
      have GI_goes_3 := GI_goes hr_3
      refine bVI (As := []) (rest := [.int ma]) (wc := [(mM, .inr (8, [.ref mN, .ref mR, .ref mA, .ref mP, .int ch, .ref mT, .int le, .int sp, .ref mD])), (mN, .inl (cyI, 515, .inl ng))]) (w1 := [(mM, .inr (8, [.ref mN, .ref mR, .ref mA, .ref mP, .int ch, .ref mT, .int le, .int sp, .ref mD])), (mN, .inl (cyI, 515, .inl u_3_1))]) (ws' := [(mM, .inr (8, [.ref mN, .ref mR, .ref mA, .ref mP, .int ch, .ref mT, .int le, .int sp, .ref mD])), (mN, .inl (cyI, 515, .inl u_3_1)), (mA, .inl (cyI, 33, .inl ag))]) (ad := [mM, mN]) (wr := [(mA, .inl (cyI, 33, .inl ag))]) (nn := 3) (ci := 8) (q0 := 0) X Y (c_goesBy8 l D cyC cyI mM mN mR mA mP mT mD ch le sp ng u_3_0 u_3_1 hr_3 hG.1 hG.2.1 hG.2.2.1 (n10 hG.2.2.2.1.1) (n10 hG.2.2.2.2.1.1)) gX8_ahead_X8_goesBy rfl ⟨rfl, rfl⟩ hd_X8_goesBy ⟨(Nat.le_of_ble_eq_true rfl), (Nat.le_of_ble_eq_true rfl)⟩ rfl rfl rfl [0, 1] [2] rfl rfl rfl rfl rfl rfl rfl rfl (by decide) rfl rfl hl.1 (Nat.le_of_ble_eq_true rfl) ⟨Nat.zero_le _, Nat.zero_le _⟩ dX8_ahead_50 (fun H locs Y => ?_)
      refine lv_iload_n hx hb dX8_ahead_53 rfl (lv_at hl 2 rfl) ?_
      refine bShr (v := u_3_0 >>> (0 &&& 31)) X dX8_ahead_54 rfl ?_
      refine lv_iconst (v := 1) hx hb dX8_ahead_55 (by decide) ?_
      refine bAnd (v := (u_3_0 >>> (0 &&& 31)) &&& 1) X dX8_ahead_56 rfl ?_
      refine bAdd (v := ma + ((u_3_0 >>> (0 &&& 31)) &&& 1)) X dX8_ahead_57 rfl ?_
      refine lv_istore (lv' := [(5, .int (ma + ((u_3_0 >>> (0 &&& 31)) &&& 1))), (0, .ref mM), (1, .int tn), (2, .int 0), (3, .int what), (4, .int mo), (6, .int (nI j))]) hx hb dX8_ahead_58 hl (by decide) rfl (fun ls hl => ?_)
      refine lv_aload_n hx hb dX8_ahead_60 rfl (lv_at hl 1 rfl) ?_
      refine lv_iload_n hx hb dX8_ahead_61 rfl (lv_at hl 3 rfl) ?_
      refine lv_iconst (v := 4) hx hb dX8_ahead_62 (by decide) ?_
      refine bVI0 (As := [.int 0, .int 4]) (rest := []) (wc := [(mM, .inr (8, [.ref mN, .ref mR, .ref mA, .ref mP, .int ch, .ref mT, .int le, .int sp, .ref mD])), (mN, .inl (cyI, 515, .inl u_3_1))]) (ci := 8) (q0 := 0) X Y (c_of8 l D cyC cyI mM mN mR mA mP mT mD ch le sp u_3_1 0 4 (u_3_1 11) (bOf (i := 11) (by decide) rfl) (bInD (by decide))) gX8_ahead_X8_of rfl ⟨rfl, rfl⟩ hd_X8_of ⟨(Nat.le_of_ble_eq_true rfl), (Nat.le_of_ble_eq_true rfl)⟩ rfl rfl rfl [0, 1] rfl rfl rfl rfl hl.1 (Nat.le_of_ble_eq_true rfl) ⟨Nat.zero_le _, Nat.zero_le _⟩ dX8_ahead_63 (fun H locs Y => ?_)
      refine bSI (As := [.int (u_3_1 11)]) (rest := []) X Y (c_size8 l D cyC cyI (u_3_1 11) (s_size8 (u_3_1 11)) rfl) gX8_ahead_X8_size rfl ⟨rfl, rfl⟩ hd_X8_size.2 ⟨(Nat.le_of_ble_eq_true rfl), (Nat.le_of_ble_eq_true rfl)⟩ rfl rfl hl.1 (Nat.le_of_ble_eq_true rfl) ⟨Nat.zero_le _, Nat.zero_le _⟩ dX8_ahead_66 (fun H locs Y => ?_)
      refine lv_iload hx hb dX8_ahead_69 (lv_at hl 5 rfl) ?_
      refine lv_icmp_le (tgt := 86) hx hb dX8_ahead_71 (by decide) (fun c_4 => ?_) (fun c_4 => ?_)
      · have c_4 : (s_size8 (u_3_1 11)) ≤ mo := c_4
        rw [if_pos c_4] at hu
        refine lv_iload hx hb dX8_ahead_86 (lv_at hl 5 rfl) ?_
        refine lv_istore (lv' := [(4, .int mo), (5, .int (ma + ((u_3_0 >>> (0 &&& 31)) &&& 1))), (0, .ref mM), (1, .int tn), (2, .int 0), (3, .int what), (6, .int (nI j))]) hx hb dX8_ahead_88 hl (by decide) rfl (fun ls hl => ?_)
        refine lv_iinc (v := nI (j + 1)) (lv' := [(6, .int (nI (j + 1))), (4, .int mo), (5, .int (ma + ((u_3_0 >>> (0 &&& 31)) &&& 1))), (0, .ref mM), (1, .int tn), (2, .int 0), (3, .int what)]) hx hb dX8_ahead_90 hl (k := 6) rfl (nI_inc _) (by decide) rfl (fun ls hl => ?_)
        refine lv_goto (tgt := 41) hx hb dX8_ahead_93 (by decide) ?_
        exact ih (j + 1) u_3_1 ag mo (ma + ((u_3_0 >>> (0 &&& 31)) &&& 1)) (by omega) (by have := bNleS (by omega) (by decide) hK c_1; omega) hK (GI_goes_3 hG) hu _ _ _ (lv_sub hl [3, 4, 5, 6, 1, 2, 0] rfl) Y
      · have c_4 : ¬ ((s_size8 (u_3_1 11)) ≤ mo) := c_4
        rw [if_neg c_4] at hu
        refine lv_aload_n hx hb dX8_ahead_74 rfl (lv_at hl 1 rfl) ?_
        refine lv_iload_n hx hb dX8_ahead_75 rfl (lv_at hl 3 rfl) ?_
        refine lv_iconst (v := 4) hx hb dX8_ahead_76 (by decide) ?_
        refine bVI0 (As := [.int 0, .int 4]) (rest := []) (wc := [(mM, .inr (8, [.ref mN, .ref mR, .ref mA, .ref mP, .int ch, .ref mT, .int le, .int sp, .ref mD])), (mN, .inl (cyI, 515, .inl u_3_1))]) (ci := 8) (q0 := 0) X Y (c_of8 l D cyC cyI mM mN mR mA mP mT mD ch le sp u_3_1 0 4 (u_3_1 11) (bOf (i := 11) (by decide) rfl) (bInD (by decide))) gX8_ahead_X8_of rfl ⟨rfl, rfl⟩ hd_X8_of ⟨(Nat.le_of_ble_eq_true rfl), (Nat.le_of_ble_eq_true rfl)⟩ rfl rfl rfl [0, 1] rfl rfl rfl rfl hl.1 (Nat.le_of_ble_eq_true rfl) ⟨Nat.zero_le _, Nat.zero_le _⟩ dX8_ahead_77 (fun H locs Y => ?_)
        refine bSI (As := [.int (u_3_1 11)]) (rest := []) X Y (c_size8 l D cyC cyI (u_3_1 11) (s_size8 (u_3_1 11)) rfl) gX8_ahead_X8_size rfl ⟨rfl, rfl⟩ hd_X8_size.2 ⟨(Nat.le_of_ble_eq_true rfl), (Nat.le_of_ble_eq_true rfl)⟩ rfl rfl hl.1 (Nat.le_of_ble_eq_true rfl) ⟨Nat.zero_le _, Nat.zero_le _⟩ dX8_ahead_80 (fun H locs Y => ?_)
        refine lv_goto (tgt := 88) hx hb dX8_ahead_83 (by decide) ?_
        refine lv_istore (lv' := [(4, .int (s_size8 (u_3_1 11))), (5, .int (ma + ((u_3_0 >>> (0 &&& 31)) &&& 1))), (0, .ref mM), (1, .int tn), (2, .int 0), (3, .int what), (6, .int (nI j))]) hx hb dX8_ahead_88 hl (by decide) rfl (fun ls hl => ?_)
        refine lv_iinc (v := nI (j + 1)) (lv' := [(6, .int (nI (j + 1))), (4, .int (s_size8 (u_3_1 11))), (5, .int (ma + ((u_3_0 >>> (0 &&& 31)) &&& 1))), (0, .ref mM), (1, .int tn), (2, .int 0), (3, .int what)]) hx hb dX8_ahead_90 hl (k := 6) rfl (nI_inc _) (by decide) rfl (fun ls hl => ?_)
        refine lv_goto (tgt := 41) hx hb dX8_ahead_93 (by decide) ?_
        exact ih (j + 1) u_3_1 ag (s_size8 (u_3_1 11)) (ma + ((u_3_0 >>> (0 &&& 31)) &&& 1)) (by omega) (by have := bNleS (by omega) (by decide) hK c_1; omega) hK (GI_goes_3 hG) hu _ _ _ (lv_sub hl [3, 4, 5, 6, 1, 2, 0] rfl) Y
set_option maxHeartbeats 4000000 in
set_option maxRecDepth 100000 in
theorem c_ahead8_0 (l : Launch) (D : va_G) (cyC cyI : ClassId) (mM : Nat) (mN : Nat) (mR : Nat) (mA : Nat) (mP : Nat) (mT : Nat) (mD : Nat) (ch : Int32) (le : Int32) (sp : Int32) (nw : Nat → Int32) (az : Nat → Int32) (tn : Int32) (what : Int32) (o0 : Int32) (o1 : Nat → Int32) (o2 : Nat → Int32) (hu : s_ahead8_0 nw az tn what = (o0, o1, o2)) (hG : GI nw) : CI l yX8_ahead wsX8_ahead { frames := 5, cells := 0, slots := 0, locals := 112 } D cyC cyI [.ref mM, .int tn, .int 0, .int what] [(mM, .inr (8, [.ref mN, .ref mR, .ref mA, .ref mP, .int ch, .ref mT, .int le, .int sp, .ref mD])), (mN, .inl (cyI, 515, .inl nw)), (mA, .inl (cyI, 33, .inl az))] o0 [(mM, .inr (8, [.ref mN, .ref mR, .ref mA, .ref mP, .int ch, .ref mT, .int le, .int sp, .ref mD])), (mN, .inl (cyI, 515, .inl o1)), (mA, .inl (cyI, 33, .inl o2))] := by
  refine CI.of (cc := cX8_ahead) (n := 7) (ret := (some .int)) (by decide +kernel) rfl (Nat.le_of_ble_eq_true rfl) ?_
  intro p_ e_ s_ m_ bl_ me_ cd_ A_ ls X Y hr hlk hl
  have hx := X.1.1
  have hb := X.1.2.1
  have hl : lv_has ls 7 [(0, .ref mM), (1, .int tn), (2, .int 0), (3, .int what)] := hl
  unfold s_ahead8_0 at hu
  refine lv_iload_n hx hb dX8_ahead_0 rfl (lv_at hl 1 rfl) ?_
  refine lv_iconst (v := 1) hx hb dX8_ahead_1 (by decide) ?_
  refine lv_bipush (v := 60) hx hb dX8_ahead_2 (by decide) ?_
  refine bSI (As := [.int tn, .int 1, .int 60]) (rest := []) X Y (c_in8 l D cyC cyI tn 1 60 (s_in8 tn 1 60) rfl) gX8_ahead_X8_in rfl ⟨rfl, rfl⟩ hd_X8_in.2 ⟨(Nat.le_of_ble_eq_true rfl), (Nat.le_of_ble_eq_true rfl)⟩ rfl rfl hl.1 (Nat.le_of_ble_eq_true rfl) ⟨Nat.zero_le _, Nat.zero_le _⟩ dX8_ahead_4 (fun H locs Y => ?_)
  refine lv_if_eq (tgt := 26) hx hb dX8_ahead_7 (by decide) (fun c_1 => ?_) (fun c_1 => ?_)
  · have c_1 := bB_f c_1
    rw [if_neg c_1] at hu
    refine lv_iconst (v := (-1)) hx hb dX8_ahead_26 (by decide) ?_
    have h9 := (Prod.mk.inj hu).1; replace hu := (Prod.mk.inj hu).2; subst h9
    have h9 := (Prod.mk.inj hu).1; replace hu := (Prod.mk.inj hu).2; subst h9
    subst hu
    exact bEndI X Y hr hlk dX8_ahead_27 rfl rfl
  · have c_1 := bB_t c_1
    rw [if_pos c_1] at hu
    refine lv_iload_n hx hb dX8_ahead_10 rfl (lv_at hl 2 rfl) ?_
    refine bSI (As := [.int 0]) (rest := []) X Y (c_isCrane8 l D cyC cyI 0 (s_isCrane8 0) rfl) gX8_ahead_X8_isCrane rfl ⟨rfl, rfl⟩ hd_X8_isCrane.2 ⟨(Nat.le_of_ble_eq_true rfl), (Nat.le_of_ble_eq_true rfl)⟩ rfl rfl hl.1 (Nat.le_of_ble_eq_true rfl) ⟨Nat.zero_le _, Nat.zero_le _⟩ dX8_ahead_11 (fun H locs Y => ?_)
    refine lv_if_eq (tgt := 26) hx hb dX8_ahead_14 (by decide) (fun c_2 => ?_) (fun c_2 => ?_)
    · have c_2 := bB_f c_2
      rw [if_neg c_2] at hu
      refine lv_iconst (v := (-1)) hx hb dX8_ahead_26 (by decide) ?_
      have h9 := (Prod.mk.inj hu).1; replace hu := (Prod.mk.inj hu).2; subst h9
      have h9 := (Prod.mk.inj hu).1; replace hu := (Prod.mk.inj hu).2; subst h9
      subst hu
      exact bEndI X Y hr hlk dX8_ahead_27 rfl rfl
    · have c_2 := bB_t c_2
      rw [if_pos c_2] at hu
      refine lv_iload_n hx hb dX8_ahead_17 rfl (lv_at hl 3 rfl) ?_
      refine lv_iconst (v := 0) hx hb dX8_ahead_18 (by decide) ?_
      refine lv_iconst (v := 5) hx hb dX8_ahead_19 (by decide) ?_
      refine bSI (As := [.int what, .int 0, .int 5]) (rest := []) X Y (c_in8 l D cyC cyI what 0 5 (s_in8 what 0 5) rfl) gX8_ahead_X8_in rfl ⟨rfl, rfl⟩ hd_X8_in.2 ⟨(Nat.le_of_ble_eq_true rfl), (Nat.le_of_ble_eq_true rfl)⟩ rfl rfl hl.1 (Nat.le_of_ble_eq_true rfl) ⟨Nat.zero_le _, Nat.zero_le _⟩ dX8_ahead_20 (fun H locs Y => ?_)
      refine lv_if_ne (tgt := 28) hx hb dX8_ahead_23 (by decide) (fun c_3 => ?_) (fun c_3 => ?_)
      · have c_3 := bB_t c_3
        rw [if_pos c_3] at hu
        refine lv_aload_n hx hb dX8_ahead_28 rfl (lv_at hl 0 rfl) ?_
        obtain ⟨u_4_0, hr_4⟩ := bEx1 (s_laysAside8 nw az)
        rw [hr_4] at hu
        dsimp only at hu
        refine bVV (As := []) (rest := []) (wc := [(mM, .inr (8, [.ref mN, .ref mR, .ref mA, .ref mP, .int ch, .ref mT, .int le, .int sp, .ref mD])), (mN, .inl (cyI, 515, .inl nw)), (mA, .inl (cyI, 33, .inl az))]) (w1 := [(mM, .inr (8, [.ref mN, .ref mR, .ref mA, .ref mP, .int ch, .ref mT, .int le, .int sp, .ref mD])), (mN, .inl (cyI, 515, .inl nw)), (mA, .inl (cyI, 33, .inl u_4_0))]) (ws' := [(mM, .inr (8, [.ref mN, .ref mR, .ref mA, .ref mP, .int ch, .ref mT, .int le, .int sp, .ref mD])), (mN, .inl (cyI, 515, .inl nw)), (mA, .inl (cyI, 33, .inl u_4_0))]) (ad := [mM, mN, mA]) (wr := []) (nn := 3) (ci := 8) (q0 := 0) X Y (c_laysAside8 l D cyC cyI mM mN mR mA mP mT mD ch le sp nw az u_4_0 hr_4) gX8_ahead_X8_laysAside rfl ⟨rfl, rfl⟩ hd_X8_laysAside ⟨(Nat.le_of_ble_eq_true rfl), (Nat.le_of_ble_eq_true rfl)⟩ rfl rfl rfl [0, 1, 2] [] rfl rfl rfl rfl rfl rfl rfl rfl (by decide) rfl rfl hl.1 (Nat.le_of_ble_eq_true rfl) ⟨Nat.zero_le _, Nat.zero_le _⟩ dX8_ahead_29 (fun H locs Y => ?_)
        refine lv_iconst (v := 0) hx hb dX8_ahead_32 (by decide) ?_
        refine lv_istore (lv' := [(4, .int 0), (0, .ref mM), (1, .int tn), (2, .int 0), (3, .int what)]) hx hb dX8_ahead_33 hl (by decide) rfl (fun ls hl => ?_)
        refine lv_iconst (v := 0) hx hb dX8_ahead_35 (by decide) ?_
        refine lv_istore (lv' := [(5, .int 0), (4, .int 0), (0, .ref mM), (1, .int tn), (2, .int 0), (3, .int what)]) hx hb dX8_ahead_36 hl (by decide) rfl (fun ls hl => ?_)
        refine lv_iconst (v := 0) hx hb dX8_ahead_38 (by decide) ?_
        refine lv_istore (lv' := [(6, .int 0), (5, .int 0), (4, .int 0), (0, .ref mM), (1, .int tn), (2, .int 0), (3, .int what)]) hx hb dX8_ahead_39 hl (by decide) rfl (fun ls hl => ?_)
        exact lp_ahead8_0 l D cyC cyI mM mN mR mA mP mT mD ch le sp nw az tn what o0 o1 o2 X hr hlk hG (61) 0 nw u_4_0 0 0 (by omega) (by omega) ((in8_iff.mp c_1).2) hG hu _ _ _ (lv_sub hl [3, 4, 5, 6, 2, 1, 0] rfl) Y
      · have c_3 := bB_f c_3
        rw [if_neg c_3] at hu
        refine lv_iconst (v := (-1)) hx hb dX8_ahead_26 (by decide) ?_
        have h9 := (Prod.mk.inj hu).1; replace hu := (Prod.mk.inj hu).2; subst h9
        have h9 := (Prod.mk.inj hu).1; replace hu := (Prod.mk.inj hu).2; subst h9
        subst hu
        exact bEndI X Y hr hlk dX8_ahead_27 rfl rfl
def g_quiet8_0 : Nat → Nat → (Nat → Int32) → (Nat → Int32) → Int32 × (Nat → Int32) × (Nat → Int32)
  | 0, _, _, _ => (0, fun _ => 0, fun _ => 0)
  | n_ + 1, j, ng, ag =>
    if 60 ≤ nI j then
      if (s_isQuiet8_0 ng) = 1 then
        match s_comesBack8 ng ag with
        | (u_4_0, _) =>
          (nI j, u_4_0, ag)
      else
        match s_comesBack8 ng ag with
        | (u_3_0, _) =>
          ((-4), u_3_0, ag)
    else
      if (s_isQuiet8_0 ng) = 0 then
        match s_goesBy8 ng with
        | (u_9_0, u_9_1) =>
          g_quiet8_0 n_ (j + 1) u_9_1 ag
      else
        if (s_isQuiet8_0 ng) = 1 then
          match s_comesBack8 ng ag with
          | (u_8_0, _) =>
            (nI j, u_8_0, ag)
        else
          match s_comesBack8 ng ag with
          | (u_7_0, _) =>
            ((-4), u_7_0, ag)
def s_quiet8_0 (nw : Nat → Int32) (az : Nat → Int32) : Int32 × (Nat → Int32) × (Nat → Int32) :=
  if (s_isCrane8 0) = true then
    match s_laysAside8 nw az with
    | (u_2_0, _) =>
      match s_commands8n_0 nw 0 with
      | (u_3_0, u_3_1) =>
        g_quiet8_0 (61) 0 u_3_1 u_2_0
  else
    ((-1), nw, az)
set_option maxHeartbeats 4000000 in
set_option maxRecDepth 100000 in
theorem lp_quiet8_0 {p_ : Program} {e_ : Env} {s_ : State} {m_ : MethodId} {bl_ : List Frame} {me_ : Method} {cd_ : Code} {A_ : Nat → Prop} (l : Launch) (D : va_G) (cyC cyI : ClassId) (mM : Nat) (mN : Nat) (mR : Nat) (mA : Nat) (mP : Nat) (mT : Nat) (mD : Nat) (ch : Int32) (le : Int32) (sp : Int32) (nw : Nat → Int32) (az : Nat → Int32) (o0 : Int32) (o1 : Nat → Int32) (o2 : Nat → Int32) (X : bX p_ s_ m_ ([.ref mM, .int 0] : List Value).toArray cd_ cX8_quiet 4 wsX8_quiet yX8_quiet.cls D cyC cyI) (hr : me_.sig.returnType = (some .int)) (hlk : me_.locks = false) (hG : GI nw) : ∀ (n_ : Nat) (j : Nat) (ng : Nat → Int32) (ag : Nat → Int32) (hN : 61 ≤ j + n_) (hJ : j ≤ 60) (hG : GI ng) (hu : g_quiet8_0 n_ j ng ag = (o0, o1, o2)) (ls : Array Slot) (H : Heap) (locs : List Loc), lv_has ls 4 [(0, .ref mM), (1, .int 0), (2, .int (nI j))] → bY D A_ s_.heap [(mM, .inr (8, [.ref mN, .ref mR, .ref mA, .ref mP, .int ch, .ref mT, .int le, .int sp, .ref mD])), (mN, .inl (cyI, 515, .inl ng)), (mA, .inl (cyI, 33, .inl ag))] H locs → W p_ l e_ ({ frames := 5, cells := 0, slots := 0, locals := 112 } : Room) s_ m_ ([.ref mM, .int 0] : List Value).toArray bl_ me_ cd_ H locs 0 0 (bQI bl_ ([.ref mM, .int 0] : List Value).toArray s_ D [(mM, .inr (8, [.ref mN, .ref mR, .ref mA, .ref mP, .int ch, .ref mT, .int le, .int sp, .ref mD])), (mN, .inl (cyI, 515, .inl o1)), (mA, .inl (cyI, 33, .inl o2))] o0 A_) (F0 m_ 23 ls []) := by
  intro n_
  induction n_ with
  | zero =>
    intro j ng ag hN hJ hG hu ls H locs hl Y
    exfalso; omega
  | succ n_ ih =>
    intro j ng ag hN hJ hG hu ls H locs hl Y
    have hx := X.1.1
    have hb := X.1.2.1
    rw [g_quiet8_0] at hu
    refine lv_iload_n hx hb dX8_quiet_23 rfl (lv_at hl 2 rfl) ?_
    refine lv_bipush (v := 60) hx hb dX8_quiet_24 (by decide) ?_
    refine lv_icmp_ge (tgt := 48) hx hb dX8_quiet_26 (by decide) (fun c_1 => ?_) (fun c_1 => ?_)
    · have c_1 : 60 ≤ nI j := c_1
      rw [if_pos c_1] at hu
      refine lv_aload_n hx hb dX8_quiet_48 rfl (lv_at hl 0 rfl) ?_
      refine lv_iload_n hx hb dX8_quiet_49 rfl (lv_at hl 1 rfl) ?_
      refine bVI0 (As := [.int 0]) (rest := []) (wc := [(mM, .inr (8, [.ref mN, .ref mR, .ref mA, .ref mP, .int ch, .ref mT, .int le, .int sp, .ref mD])), (mN, .inl (cyI, 515, .inl ng))]) (ci := 8) (q0 := 0) X Y (c_isQuiet8_0 l D cyC cyI mM mN mR mA mP mT mD ch le sp ng (s_isQuiet8_0 ng) rfl) gX8_quiet_X8_isQuiet rfl ⟨rfl, rfl⟩ hd_X8_isQuiet ⟨(Nat.le_of_ble_eq_true rfl), (Nat.le_of_ble_eq_true rfl)⟩ rfl rfl rfl [0, 1] rfl rfl rfl rfl hl.1 (Nat.le_of_ble_eq_true rfl) ⟨Nat.zero_le _, Nat.zero_le _⟩ dX8_quiet_50 (fun H locs Y => ?_)
      refine lv_iconst (v := 1) hx hb dX8_quiet_53 (by decide) ?_
      refine lv_icmp_ne (tgt := 61) hx hb dX8_quiet_54 (by decide) (fun c_2 => ?_) (fun c_2 => ?_)
      · have c_2 : ¬ ((s_isQuiet8_0 ng) = 1) := c_2
        rw [if_neg c_2] at hu
        refine lv_bipush (v := (-4)) hx hb dX8_quiet_61 (by decide) ?_
        refine lv_istore_n (lv' := [(3, .int (-4)), (0, .ref mM), (1, .int 0), (2, .int (nI j))]) hx hb dX8_quiet_63 rfl hl (by decide) rfl (fun ls hl => ?_)
        refine lv_aload_n hx hb dX8_quiet_64 rfl (lv_at hl 1 rfl) ?_
        obtain ⟨u_3_0, hr_3⟩ := bEx1 (s_comesBack8 ng ag)
        rw [hr_3] at hu
        dsimp only at hu
        refine bVV (As := []) (rest := []) (wc := [(mM, .inr (8, [.ref mN, .ref mR, .ref mA, .ref mP, .int ch, .ref mT, .int le, .int sp, .ref mD])), (mN, .inl (cyI, 515, .inl ng)), (mA, .inl (cyI, 33, .inl ag))]) (w1 := [(mM, .inr (8, [.ref mN, .ref mR, .ref mA, .ref mP, .int ch, .ref mT, .int le, .int sp, .ref mD])), (mN, .inl (cyI, 515, .inl u_3_0)), (mA, .inl (cyI, 33, .inl ag))]) (ws' := [(mM, .inr (8, [.ref mN, .ref mR, .ref mA, .ref mP, .int ch, .ref mT, .int le, .int sp, .ref mD])), (mN, .inl (cyI, 515, .inl u_3_0)), (mA, .inl (cyI, 33, .inl ag))]) (ad := [mM, mN, mA]) (wr := []) (nn := 3) (ci := 8) (q0 := 0) X Y (c_comesBack8 l D cyC cyI mM mN mR mA mP mT mD ch le sp ng ag u_3_0 hr_3) gX8_quiet_X8_comesBack rfl ⟨rfl, rfl⟩ hd_X8_comesBack ⟨(Nat.le_of_ble_eq_true rfl), (Nat.le_of_ble_eq_true rfl)⟩ rfl rfl rfl [0, 1, 2] [] rfl rfl rfl rfl rfl rfl rfl rfl (by decide) rfl rfl hl.1 (Nat.le_of_ble_eq_true rfl) ⟨Nat.zero_le _, Nat.zero_le _⟩ dX8_quiet_65 (fun H locs Y => ?_)
        refine lv_iload_n hx hb dX8_quiet_68 rfl (lv_at hl 0 rfl) ?_
        have h9 := (Prod.mk.inj hu).1; replace hu := (Prod.mk.inj hu).2; subst h9
        have h9 := (Prod.mk.inj hu).1; replace hu := (Prod.mk.inj hu).2; subst h9
        subst hu
        exact bEndI X Y hr hlk dX8_quiet_69 rfl rfl
      · have c_2 : (s_isQuiet8_0 ng) = 1 := c_2
        rw [if_pos c_2] at hu
        refine lv_iload_n hx hb dX8_quiet_57 rfl (lv_at hl 2 rfl) ?_
        refine lv_goto (tgt := 63) hx hb dX8_quiet_58 (by decide) ?_
        refine lv_istore_n (lv' := [(3, .int (nI j)), (0, .ref mM), (1, .int 0), (2, .int (nI j))]) hx hb dX8_quiet_63 rfl hl (by decide) rfl (fun ls hl => ?_)
        refine lv_aload_n hx hb dX8_quiet_64 rfl (lv_at hl 1 rfl) ?_
        obtain ⟨u_4_0, hr_4⟩ := bEx1 (s_comesBack8 ng ag)
        rw [hr_4] at hu
        dsimp only at hu
        refine bVV (As := []) (rest := []) (wc := [(mM, .inr (8, [.ref mN, .ref mR, .ref mA, .ref mP, .int ch, .ref mT, .int le, .int sp, .ref mD])), (mN, .inl (cyI, 515, .inl ng)), (mA, .inl (cyI, 33, .inl ag))]) (w1 := [(mM, .inr (8, [.ref mN, .ref mR, .ref mA, .ref mP, .int ch, .ref mT, .int le, .int sp, .ref mD])), (mN, .inl (cyI, 515, .inl u_4_0)), (mA, .inl (cyI, 33, .inl ag))]) (ws' := [(mM, .inr (8, [.ref mN, .ref mR, .ref mA, .ref mP, .int ch, .ref mT, .int le, .int sp, .ref mD])), (mN, .inl (cyI, 515, .inl u_4_0)), (mA, .inl (cyI, 33, .inl ag))]) (ad := [mM, mN, mA]) (wr := []) (nn := 3) (ci := 8) (q0 := 0) X Y (c_comesBack8 l D cyC cyI mM mN mR mA mP mT mD ch le sp ng ag u_4_0 hr_4) gX8_quiet_X8_comesBack rfl ⟨rfl, rfl⟩ hd_X8_comesBack ⟨(Nat.le_of_ble_eq_true rfl), (Nat.le_of_ble_eq_true rfl)⟩ rfl rfl rfl [0, 1, 2] [] rfl rfl rfl rfl rfl rfl rfl rfl (by decide) rfl rfl hl.1 (Nat.le_of_ble_eq_true rfl) ⟨Nat.zero_le _, Nat.zero_le _⟩ dX8_quiet_65 (fun H locs Y => ?_)
        refine lv_iload_n hx hb dX8_quiet_68 rfl (lv_at hl 0 rfl) ?_
        have h9 := (Prod.mk.inj hu).1; replace hu := (Prod.mk.inj hu).2; subst h9
        have h9 := (Prod.mk.inj hu).1; replace hu := (Prod.mk.inj hu).2; subst h9
        subst hu
        exact bEndI X Y hr hlk dX8_quiet_69 rfl rfl
    · have c_1 : ¬ (60 ≤ nI j) := c_1
      rw [if_neg c_1] at hu
      refine lv_aload_n hx hb dX8_quiet_29 rfl (lv_at hl 0 rfl) ?_
      refine lv_iload_n hx hb dX8_quiet_30 rfl (lv_at hl 1 rfl) ?_
      refine bVI0 (As := [.int 0]) (rest := []) (wc := [(mM, .inr (8, [.ref mN, .ref mR, .ref mA, .ref mP, .int ch, .ref mT, .int le, .int sp, .ref mD])), (mN, .inl (cyI, 515, .inl ng))]) (ci := 8) (q0 := 0) X Y (c_isQuiet8_0 l D cyC cyI mM mN mR mA mP mT mD ch le sp ng (s_isQuiet8_0 ng) rfl) gX8_quiet_X8_isQuiet rfl ⟨rfl, rfl⟩ hd_X8_isQuiet ⟨(Nat.le_of_ble_eq_true rfl), (Nat.le_of_ble_eq_true rfl)⟩ rfl rfl rfl [0, 1] rfl rfl rfl rfl hl.1 (Nat.le_of_ble_eq_true rfl) ⟨Nat.zero_le _, Nat.zero_le _⟩ dX8_quiet_31 (fun H locs Y => ?_)
      refine lv_if_ne (tgt := 48) hx hb dX8_quiet_34 (by decide) (fun c_5 => ?_) (fun c_5 => ?_)
      · have c_5 : ¬ ((s_isQuiet8_0 ng) = 0) := c_5
        rw [if_neg c_5] at hu
        refine lv_aload_n hx hb dX8_quiet_48 rfl (lv_at hl 0 rfl) ?_
        refine lv_iload_n hx hb dX8_quiet_49 rfl (lv_at hl 1 rfl) ?_
        refine bVI0 (As := [.int 0]) (rest := []) (wc := [(mM, .inr (8, [.ref mN, .ref mR, .ref mA, .ref mP, .int ch, .ref mT, .int le, .int sp, .ref mD])), (mN, .inl (cyI, 515, .inl ng))]) (ci := 8) (q0 := 0) X Y (c_isQuiet8_0 l D cyC cyI mM mN mR mA mP mT mD ch le sp ng (s_isQuiet8_0 ng) rfl) gX8_quiet_X8_isQuiet rfl ⟨rfl, rfl⟩ hd_X8_isQuiet ⟨(Nat.le_of_ble_eq_true rfl), (Nat.le_of_ble_eq_true rfl)⟩ rfl rfl rfl [0, 1] rfl rfl rfl rfl hl.1 (Nat.le_of_ble_eq_true rfl) ⟨Nat.zero_le _, Nat.zero_le _⟩ dX8_quiet_50 (fun H locs Y => ?_)
        refine lv_iconst (v := 1) hx hb dX8_quiet_53 (by decide) ?_
        refine lv_icmp_ne (tgt := 61) hx hb dX8_quiet_54 (by decide) (fun c_6 => ?_) (fun c_6 => ?_)
        · have c_6 : ¬ ((s_isQuiet8_0 ng) = 1) := c_6
          rw [if_neg c_6] at hu
          refine lv_bipush (v := (-4)) hx hb dX8_quiet_61 (by decide) ?_
          refine lv_istore_n (lv' := [(3, .int (-4)), (0, .ref mM), (1, .int 0), (2, .int (nI j))]) hx hb dX8_quiet_63 rfl hl (by decide) rfl (fun ls hl => ?_)
          refine lv_aload_n hx hb dX8_quiet_64 rfl (lv_at hl 1 rfl) ?_
          obtain ⟨u_7_0, hr_7⟩ := bEx1 (s_comesBack8 ng ag)
          rw [hr_7] at hu
          dsimp only at hu
          refine bVV (As := []) (rest := []) (wc := [(mM, .inr (8, [.ref mN, .ref mR, .ref mA, .ref mP, .int ch, .ref mT, .int le, .int sp, .ref mD])), (mN, .inl (cyI, 515, .inl ng)), (mA, .inl (cyI, 33, .inl ag))]) (w1 := [(mM, .inr (8, [.ref mN, .ref mR, .ref mA, .ref mP, .int ch, .ref mT, .int le, .int sp, .ref mD])), (mN, .inl (cyI, 515, .inl u_7_0)), (mA, .inl (cyI, 33, .inl ag))]) (ws' := [(mM, .inr (8, [.ref mN, .ref mR, .ref mA, .ref mP, .int ch, .ref mT, .int le, .int sp, .ref mD])), (mN, .inl (cyI, 515, .inl u_7_0)), (mA, .inl (cyI, 33, .inl ag))]) (ad := [mM, mN, mA]) (wr := []) (nn := 3) (ci := 8) (q0 := 0) X Y (c_comesBack8 l D cyC cyI mM mN mR mA mP mT mD ch le sp ng ag u_7_0 hr_7) gX8_quiet_X8_comesBack rfl ⟨rfl, rfl⟩ hd_X8_comesBack ⟨(Nat.le_of_ble_eq_true rfl), (Nat.le_of_ble_eq_true rfl)⟩ rfl rfl rfl [0, 1, 2] [] rfl rfl rfl rfl rfl rfl rfl rfl (by decide) rfl rfl hl.1 (Nat.le_of_ble_eq_true rfl) ⟨Nat.zero_le _, Nat.zero_le _⟩ dX8_quiet_65 (fun H locs Y => ?_)
          refine lv_iload_n hx hb dX8_quiet_68 rfl (lv_at hl 0 rfl) ?_
          have h9 := (Prod.mk.inj hu).1; replace hu := (Prod.mk.inj hu).2; subst h9
          have h9 := (Prod.mk.inj hu).1; replace hu := (Prod.mk.inj hu).2; subst h9
          subst hu
          exact bEndI X Y hr hlk dX8_quiet_69 rfl rfl
        · have c_6 : (s_isQuiet8_0 ng) = 1 := c_6
          rw [if_pos c_6] at hu
          refine lv_iload_n hx hb dX8_quiet_57 rfl (lv_at hl 2 rfl) ?_
          refine lv_goto (tgt := 63) hx hb dX8_quiet_58 (by decide) ?_
          refine lv_istore_n (lv' := [(3, .int (nI j)), (0, .ref mM), (1, .int 0), (2, .int (nI j))]) hx hb dX8_quiet_63 rfl hl (by decide) rfl (fun ls hl => ?_)
          refine lv_aload_n hx hb dX8_quiet_64 rfl (lv_at hl 1 rfl) ?_
          obtain ⟨u_8_0, hr_8⟩ := bEx1 (s_comesBack8 ng ag)
          rw [hr_8] at hu
          dsimp only at hu
          refine bVV (As := []) (rest := []) (wc := [(mM, .inr (8, [.ref mN, .ref mR, .ref mA, .ref mP, .int ch, .ref mT, .int le, .int sp, .ref mD])), (mN, .inl (cyI, 515, .inl ng)), (mA, .inl (cyI, 33, .inl ag))]) (w1 := [(mM, .inr (8, [.ref mN, .ref mR, .ref mA, .ref mP, .int ch, .ref mT, .int le, .int sp, .ref mD])), (mN, .inl (cyI, 515, .inl u_8_0)), (mA, .inl (cyI, 33, .inl ag))]) (ws' := [(mM, .inr (8, [.ref mN, .ref mR, .ref mA, .ref mP, .int ch, .ref mT, .int le, .int sp, .ref mD])), (mN, .inl (cyI, 515, .inl u_8_0)), (mA, .inl (cyI, 33, .inl ag))]) (ad := [mM, mN, mA]) (wr := []) (nn := 3) (ci := 8) (q0 := 0) X Y (c_comesBack8 l D cyC cyI mM mN mR mA mP mT mD ch le sp ng ag u_8_0 hr_8) gX8_quiet_X8_comesBack rfl ⟨rfl, rfl⟩ hd_X8_comesBack ⟨(Nat.le_of_ble_eq_true rfl), (Nat.le_of_ble_eq_true rfl)⟩ rfl rfl rfl [0, 1, 2] [] rfl rfl rfl rfl rfl rfl rfl rfl (by decide) rfl rfl hl.1 (Nat.le_of_ble_eq_true rfl) ⟨Nat.zero_le _, Nat.zero_le _⟩ dX8_quiet_65 (fun H locs Y => ?_)
          refine lv_iload_n hx hb dX8_quiet_68 rfl (lv_at hl 0 rfl) ?_
          have h9 := (Prod.mk.inj hu).1; replace hu := (Prod.mk.inj hu).2; subst h9
          have h9 := (Prod.mk.inj hu).1; replace hu := (Prod.mk.inj hu).2; subst h9
          subst hu
          exact bEndI X Y hr hlk dX8_quiet_69 rfl rfl
      · have c_5 : (s_isQuiet8_0 ng) = 0 := c_5
        rw [if_pos c_5] at hu
        refine lv_aload_n hx hb dX8_quiet_37 rfl (lv_at hl 0 rfl) ?_
        obtain ⟨u_9_0, u_9_1, hr_9⟩ := bEx2 (s_goesBy8 ng)
        rw [hr_9] at hu
        dsimp only at hu
        have GI_goes_9 := GI_goes hr_9
        refine bVI (As := []) (rest := []) (wc := [(mM, .inr (8, [.ref mN, .ref mR, .ref mA, .ref mP, .int ch, .ref mT, .int le, .int sp, .ref mD])), (mN, .inl (cyI, 515, .inl ng))]) (w1 := [(mM, .inr (8, [.ref mN, .ref mR, .ref mA, .ref mP, .int ch, .ref mT, .int le, .int sp, .ref mD])), (mN, .inl (cyI, 515, .inl u_9_1))]) (ws' := [(mM, .inr (8, [.ref mN, .ref mR, .ref mA, .ref mP, .int ch, .ref mT, .int le, .int sp, .ref mD])), (mN, .inl (cyI, 515, .inl u_9_1)), (mA, .inl (cyI, 33, .inl ag))]) (ad := [mM, mN]) (wr := [(mA, .inl (cyI, 33, .inl ag))]) (nn := 3) (ci := 8) (q0 := 0) X Y (c_goesBy8 l D cyC cyI mM mN mR mA mP mT mD ch le sp ng u_9_0 u_9_1 hr_9 hG.1 hG.2.1 hG.2.2.1 (n10 hG.2.2.2.1.1) (n10 hG.2.2.2.2.1.1)) gX8_quiet_X8_goesBy rfl ⟨rfl, rfl⟩ hd_X8_goesBy ⟨(Nat.le_of_ble_eq_true rfl), (Nat.le_of_ble_eq_true rfl)⟩ rfl rfl rfl [0, 1] [2] rfl rfl rfl rfl rfl rfl rfl rfl (by decide) rfl rfl hl.1 (Nat.le_of_ble_eq_true rfl) ⟨Nat.zero_le _, Nat.zero_le _⟩ dX8_quiet_38 (fun H locs Y => ?_)
        refine lv_pop hx hb dX8_quiet_41 rfl ?_
        refine lv_iinc (v := nI (j + 1)) (lv' := [(2, .int (nI (j + 1))), (0, .ref mM), (1, .int 0)]) hx hb dX8_quiet_42 hl (k := 2) rfl (nI_inc _) (by decide) rfl (fun ls hl => ?_)
        refine lv_goto (tgt := 23) hx hb dX8_quiet_45 (by decide) ?_
        exact ih (j + 1) u_9_1 ag (by omega) (by have := bNle (k := 60) rfl (by omega) (by decide) c_1; omega) (GI_goes_9 hG) hu _ _ _ (lv_sub hl [1, 2, 0] rfl) Y
set_option maxHeartbeats 4000000 in
set_option maxRecDepth 100000 in
theorem c_quiet8_0 (l : Launch) (D : va_G) (cyC cyI : ClassId) (mM : Nat) (mN : Nat) (mR : Nat) (mA : Nat) (mP : Nat) (mT : Nat) (mD : Nat) (ch : Int32) (le : Int32) (sp : Int32) (nw : Nat → Int32) (az : Nat → Int32) (o0 : Int32) (o1 : Nat → Int32) (o2 : Nat → Int32) (hu : s_quiet8_0 nw az = (o0, o1, o2)) (hG : GI nw) : CI l yX8_quiet wsX8_quiet { frames := 5, cells := 0, slots := 0, locals := 112 } D cyC cyI [.ref mM, .int 0] [(mM, .inr (8, [.ref mN, .ref mR, .ref mA, .ref mP, .int ch, .ref mT, .int le, .int sp, .ref mD])), (mN, .inl (cyI, 515, .inl nw)), (mA, .inl (cyI, 33, .inl az))] o0 [(mM, .inr (8, [.ref mN, .ref mR, .ref mA, .ref mP, .int ch, .ref mT, .int le, .int sp, .ref mD])), (mN, .inl (cyI, 515, .inl o1)), (mA, .inl (cyI, 33, .inl o2))] := by
  refine CI.of (cc := cX8_quiet) (n := 4) (ret := (some .int)) (by decide +kernel) rfl (Nat.le_of_ble_eq_true rfl) ?_
  intro p_ e_ s_ m_ bl_ me_ cd_ A_ ls X Y hr hlk hl
  have hx := X.1.1
  have hb := X.1.2.1
  have hl : lv_has ls 4 [(0, .ref mM), (1, .int 0)] := hl
  unfold s_quiet8_0 at hu
  refine lv_iload_n hx hb dX8_quiet_0 rfl (lv_at hl 1 rfl) ?_
  refine bSI (As := [.int 0]) (rest := []) X Y (c_isCrane8 l D cyC cyI 0 (s_isCrane8 0) rfl) gX8_quiet_X8_isCrane rfl ⟨rfl, rfl⟩ hd_X8_isCrane.2 ⟨(Nat.le_of_ble_eq_true rfl), (Nat.le_of_ble_eq_true rfl)⟩ rfl rfl hl.1 (Nat.le_of_ble_eq_true rfl) ⟨Nat.zero_le _, Nat.zero_le _⟩ dX8_quiet_1 (fun H locs Y => ?_)
  refine lv_if_ne (tgt := 9) hx hb dX8_quiet_4 (by decide) (fun c_1 => ?_) (fun c_1 => ?_)
  · have c_1 := bB_t c_1
    rw [if_pos c_1] at hu
    refine lv_aload_n hx hb dX8_quiet_9 rfl (lv_at hl 0 rfl) ?_
    obtain ⟨u_2_0, hr_2⟩ := bEx1 (s_laysAside8 nw az)
    rw [hr_2] at hu
    dsimp only at hu
    refine bVV (As := []) (rest := []) (wc := [(mM, .inr (8, [.ref mN, .ref mR, .ref mA, .ref mP, .int ch, .ref mT, .int le, .int sp, .ref mD])), (mN, .inl (cyI, 515, .inl nw)), (mA, .inl (cyI, 33, .inl az))]) (w1 := [(mM, .inr (8, [.ref mN, .ref mR, .ref mA, .ref mP, .int ch, .ref mT, .int le, .int sp, .ref mD])), (mN, .inl (cyI, 515, .inl nw)), (mA, .inl (cyI, 33, .inl u_2_0))]) (ws' := [(mM, .inr (8, [.ref mN, .ref mR, .ref mA, .ref mP, .int ch, .ref mT, .int le, .int sp, .ref mD])), (mN, .inl (cyI, 515, .inl nw)), (mA, .inl (cyI, 33, .inl u_2_0))]) (ad := [mM, mN, mA]) (wr := []) (nn := 3) (ci := 8) (q0 := 0) X Y (c_laysAside8 l D cyC cyI mM mN mR mA mP mT mD ch le sp nw az u_2_0 hr_2) gX8_quiet_X8_laysAside rfl ⟨rfl, rfl⟩ hd_X8_laysAside ⟨(Nat.le_of_ble_eq_true rfl), (Nat.le_of_ble_eq_true rfl)⟩ rfl rfl rfl [0, 1, 2] [] rfl rfl rfl rfl rfl rfl rfl rfl (by decide) rfl rfl hl.1 (Nat.le_of_ble_eq_true rfl) ⟨Nat.zero_le _, Nat.zero_le _⟩ dX8_quiet_10 (fun H locs Y => ?_)
    refine lv_aload_n hx hb dX8_quiet_13 rfl (lv_at hl 0 rfl) ?_
    refine lv_iload_n hx hb dX8_quiet_14 rfl (lv_at hl 1 rfl) ?_
    refine lv_iconst (v := 0) hx hb dX8_quiet_15 (by decide) ?_
    refine lv_iconst (v := (-1)) hx hb dX8_quiet_16 (by decide) ?_
    obtain ⟨u_3_0, u_3_1, hr_3⟩ := bEx2 (s_commands8n_0 nw 0)
    rw [hr_3] at hu
    dsimp only at hu
    have GI_cmdn_0_3 := GI_cmdn_0 hr_3
    refine bVI (As := [.int 0, .int 0, .int (-1)]) (rest := []) (wc := [(mM, .inr (8, [.ref mN, .ref mR, .ref mA, .ref mP, .int ch, .ref mT, .int le, .int sp, .ref mD])), (mN, .inl (cyI, 515, .inl nw))]) (w1 := [(mM, .inr (8, [.ref mN, .ref mR, .ref mA, .ref mP, .int ch, .ref mT, .int le, .int sp, .ref mD])), (mN, .inl (cyI, 515, .inl u_3_1))]) (ws' := [(mM, .inr (8, [.ref mN, .ref mR, .ref mA, .ref mP, .int ch, .ref mT, .int le, .int sp, .ref mD])), (mN, .inl (cyI, 515, .inl u_3_1)), (mA, .inl (cyI, 33, .inl u_2_0))]) (ad := [mM, mN]) (wr := [(mA, .inl (cyI, 33, .inl u_2_0))]) (nn := 3) (ci := 8) (q0 := 0) X Y (c_commands8n_0 l D cyC cyI mM mN mR mA mP mT mD ch le sp nw 0 u_3_0 u_3_1 hr_3) gX8_quiet_X8_commands rfl ⟨rfl, rfl⟩ hd_X8_commands ⟨(Nat.le_of_ble_eq_true rfl), (Nat.le_of_ble_eq_true rfl)⟩ rfl rfl rfl [0, 1] [2] rfl rfl rfl rfl rfl rfl rfl rfl (by decide) rfl rfl hl.1 (Nat.le_of_ble_eq_true rfl) ⟨Nat.zero_le _, Nat.zero_le _⟩ dX8_quiet_17 (fun H locs Y => ?_)
    refine lv_pop hx hb dX8_quiet_20 rfl ?_
    refine lv_iconst (v := 0) hx hb dX8_quiet_21 (by decide) ?_
    refine lv_istore_n (lv' := [(2, .int 0), (0, .ref mM), (1, .int 0)]) hx hb dX8_quiet_22 rfl hl (by decide) rfl (fun ls hl => ?_)
    exact lp_quiet8_0 l D cyC cyI mM mN mR mA mP mT mD ch le sp nw az o0 o1 o2 X hr hlk hG (61) 0 u_3_1 u_2_0 (by omega) (by omega) (GI_cmdn_0_3 hG) hu _ _ _ (lv_sub hl [1, 2, 0] rfl) Y
  · have c_1 := bB_f c_1
    rw [if_neg c_1] at hu
    refine lv_iconst (v := (-1)) hx hb dX8_quiet_7 (by decide) ?_
    have h9 := (Prod.mk.inj hu).1; replace hu := (Prod.mk.inj hu).2; subst h9
    have h9 := (Prod.mk.inj hu).1; replace hu := (Prod.mk.inj hu).2; subst h9
    subst hu
    exact bEndI X Y hr hlk dX8_quiet_8 rfl rfl
def g_swingsBy8_0 : Nat → Nat → (Nat → Int32) → (Nat → Int32) → Int32 → Int32 × (Nat → Int32) × (Nat → Int32)
  | 0, _, _, _, _ => (0, fun _ => 0, fun _ => 0)
  | n_ + 1, j, ng, ag, mo =>
    if 60 < nI j then
      match s_comesBack8 ng ag with
      | (u_2_0, _) =>
        (mo, u_2_0, ag)
    else
      match s_goesBy8 ng with
      | (u_3_0, u_3_1) =>
        if nI j ≤ 20 then
          g_swingsBy8_0 n_ (j + 1) u_3_1 ag mo
        else
          if (s_size8 (u_3_1 11)) ≤ mo then
            g_swingsBy8_0 n_ (j + 1) u_3_1 ag mo
          else
            g_swingsBy8_0 n_ (j + 1) u_3_1 ag (s_size8 (u_3_1 11))
def s_swingsBy8_0 (nw : Nat → Int32) (az : Nat → Int32) (w : Int32) (pa : Int32) : Int32 × (Nat → Int32) × (Nat → Int32) :=
  match s_laysAside8 nw az with
  | (u_1_0, _) =>
    match s_commands8p_0 nw w pa with
    | (u_2_0, u_2_1) =>
      g_swingsBy8_0 (61) 1 u_2_1 u_1_0 0
set_option maxHeartbeats 4000000 in
set_option maxRecDepth 100000 in
theorem lp_swingsBy8_0 {p_ : Program} {e_ : Env} {s_ : State} {m_ : MethodId} {bl_ : List Frame} {me_ : Method} {cd_ : Code} {A_ : Nat → Prop} (l : Launch) (D : va_G) (cyC cyI : ClassId) (mM : Nat) (mN : Nat) (mR : Nat) (mA : Nat) (mP : Nat) (mT : Nat) (mD : Nat) (ch : Int32) (le : Int32) (sp : Int32) (nw : Nat → Int32) (az : Nat → Int32) (w : Int32) (pa : Int32) (o0 : Int32) (o1 : Nat → Int32) (o2 : Nat → Int32) (X : bX p_ s_ m_ ([.ref mM, .int 0, .int w, .int pa] : List Value).toArray cd_ cX8_swingsBy 6 wsX8_swingsBy yX8_swingsBy.cls D cyC cyI) (hr : me_.sig.returnType = (some .int)) (hlk : me_.locks = false) (hG : GI nw) : ∀ (n_ : Nat) (j : Nat) (ng : Nat → Int32) (ag : Nat → Int32) (mo : Int32) (hN : 62 ≤ j + n_) (hJ : j ≤ 61) (hG : GI ng) (hu : g_swingsBy8_0 n_ j ng ag mo = (o0, o1, o2)) (ls : Array Slot) (H : Heap) (locs : List Loc), lv_has ls 6 [(0, .ref mM), (1, .int 0), (2, .int w), (3, .int pa), (4, .int mo), (5, .int (nI j))] → bY D A_ s_.heap [(mM, .inr (8, [.ref mN, .ref mR, .ref mA, .ref mP, .int ch, .ref mT, .int le, .int sp, .ref mD])), (mN, .inl (cyI, 515, .inl ng)), (mA, .inl (cyI, 33, .inl ag))] H locs → W p_ l e_ ({ frames := 5, cells := 0, slots := 0, locals := 112 } : Room) s_ m_ ([.ref mM, .int 0, .int w, .int pa] : List Value).toArray bl_ me_ cd_ H locs 0 0 (bQI bl_ ([.ref mM, .int 0, .int w, .int pa] : List Value).toArray s_ D [(mM, .inr (8, [.ref mN, .ref mR, .ref mA, .ref mP, .int ch, .ref mT, .int le, .int sp, .ref mD])), (mN, .inl (cyI, 515, .inl o1)), (mA, .inl (cyI, 33, .inl o2))] o0 A_) (F0 m_ 18 ls []) := by
  intro n_
  induction n_ with
  | zero =>
    intro j ng ag mo hN hJ hG hu ls H locs hl Y
    exfalso; omega
  | succ n_ ih =>
    intro j ng ag mo hN hJ hG hu ls H locs hl Y
    have hx := X.1.1
    have hb := X.1.2.1
    rw [g_swingsBy8_0] at hu
    refine lv_iload hx hb dX8_swingsBy_18 (lv_at hl 5 rfl) ?_
    refine lv_bipush (v := 60) hx hb dX8_swingsBy_20 (by decide) ?_
    refine lv_icmp_gt (tgt := 73) hx hb dX8_swingsBy_22 (by decide) (fun c_1 => ?_) (fun c_1 => ?_)
    · have c_1 : 60 < nI j := c_1
      rw [if_pos c_1] at hu
      refine lv_aload_n hx hb dX8_swingsBy_73 rfl (lv_at hl 0 rfl) ?_
      obtain ⟨u_2_0, hr_2⟩ := bEx1 (s_comesBack8 ng ag)
      rw [hr_2] at hu
      dsimp only at hu
      refine bVV (As := []) (rest := []) (wc := [(mM, .inr (8, [.ref mN, .ref mR, .ref mA, .ref mP, .int ch, .ref mT, .int le, .int sp, .ref mD])), (mN, .inl (cyI, 515, .inl ng)), (mA, .inl (cyI, 33, .inl ag))]) (w1 := [(mM, .inr (8, [.ref mN, .ref mR, .ref mA, .ref mP, .int ch, .ref mT, .int le, .int sp, .ref mD])), (mN, .inl (cyI, 515, .inl u_2_0)), (mA, .inl (cyI, 33, .inl ag))]) (ws' := [(mM, .inr (8, [.ref mN, .ref mR, .ref mA, .ref mP, .int ch, .ref mT, .int le, .int sp, .ref mD])), (mN, .inl (cyI, 515, .inl u_2_0)), (mA, .inl (cyI, 33, .inl ag))]) (ad := [mM, mN, mA]) (wr := []) (nn := 3) (ci := 8) (q0 := 0) X Y (c_comesBack8 l D cyC cyI mM mN mR mA mP mT mD ch le sp ng ag u_2_0 hr_2) gX8_swingsBy_X8_comesBack rfl ⟨rfl, rfl⟩ hd_X8_comesBack ⟨(Nat.le_of_ble_eq_true rfl), (Nat.le_of_ble_eq_true rfl)⟩ rfl rfl rfl [0, 1, 2] [] rfl rfl rfl rfl rfl rfl rfl rfl (by decide) rfl rfl hl.1 (Nat.le_of_ble_eq_true rfl) ⟨Nat.zero_le _, Nat.zero_le _⟩ dX8_swingsBy_74 (fun H locs Y => ?_)
      refine lv_iload hx hb dX8_swingsBy_77 (lv_at hl 4 rfl) ?_
      have h9 := (Prod.mk.inj hu).1; replace hu := (Prod.mk.inj hu).2; subst h9
      have h9 := (Prod.mk.inj hu).1; replace hu := (Prod.mk.inj hu).2; subst h9
      subst hu
      exact bEndI X Y hr hlk dX8_swingsBy_79 rfl rfl
    · have c_1 : ¬ (60 < nI j) := c_1
      rw [if_neg c_1] at hu
      refine lv_aload_n hx hb dX8_swingsBy_25 rfl (lv_at hl 0 rfl) ?_
      obtain ⟨u_3_0, u_3_1, hr_3⟩ := bEx2 (s_goesBy8 ng)
      rw [hr_3] at hu
      dsimp only at hu
      have GI_goes_3 := GI_goes hr_3
      refine bVI (As := []) (rest := []) (wc := [(mM, .inr (8, [.ref mN, .ref mR, .ref mA, .ref mP, .int ch, .ref mT, .int le, .int sp, .ref mD])), (mN, .inl (cyI, 515, .inl ng))]) (w1 := [(mM, .inr (8, [.ref mN, .ref mR, .ref mA, .ref mP, .int ch, .ref mT, .int le, .int sp, .ref mD])), (mN, .inl (cyI, 515, .inl u_3_1))]) (ws' := [(mM, .inr (8, [.ref mN, .ref mR, .ref mA, .ref mP, .int ch, .ref mT, .int le, .int sp, .ref mD])), (mN, .inl (cyI, 515, .inl u_3_1)), (mA, .inl (cyI, 33, .inl ag))]) (ad := [mM, mN]) (wr := [(mA, .inl (cyI, 33, .inl ag))]) (nn := 3) (ci := 8) (q0 := 0) X Y (c_goesBy8 l D cyC cyI mM mN mR mA mP mT mD ch le sp ng u_3_0 u_3_1 hr_3 hG.1 hG.2.1 hG.2.2.1 (n10 hG.2.2.2.1.1) (n10 hG.2.2.2.2.1.1)) gX8_swingsBy_X8_goesBy rfl ⟨rfl, rfl⟩ hd_X8_goesBy ⟨(Nat.le_of_ble_eq_true rfl), (Nat.le_of_ble_eq_true rfl)⟩ rfl rfl rfl [0, 1] [2] rfl rfl rfl rfl rfl rfl rfl rfl (by decide) rfl rfl hl.1 (Nat.le_of_ble_eq_true rfl) ⟨Nat.zero_le _, Nat.zero_le _⟩ dX8_swingsBy_26 (fun H locs Y => ?_)
      refine lv_pop hx hb dX8_swingsBy_29 rfl ?_
      refine lv_iload hx hb dX8_swingsBy_30 (lv_at hl 5 rfl) ?_
      refine lv_bipush (v := 20) hx hb dX8_swingsBy_32 (by decide) ?_
      refine lv_icmp_le (tgt := 63) hx hb dX8_swingsBy_34 (by decide) (fun c_4 => ?_) (fun c_4 => ?_)
      · have c_4 : nI j ≤ 20 := c_4
        rw [if_pos c_4] at hu
        refine lv_iload hx hb dX8_swingsBy_63 (lv_at hl 4 rfl) ?_
        refine lv_istore (lv' := [(4, .int mo), (0, .ref mM), (1, .int 0), (2, .int w), (3, .int pa), (5, .int (nI j))]) hx hb dX8_swingsBy_65 hl (by decide) rfl (fun ls hl => ?_)
        refine lv_iinc (v := nI (j + 1)) (lv' := [(5, .int (nI (j + 1))), (4, .int mo), (0, .ref mM), (1, .int 0), (2, .int w), (3, .int pa)]) hx hb dX8_swingsBy_67 hl (k := 5) rfl (nI_inc _) (by decide) rfl (fun ls hl => ?_)
        refine lv_goto (tgt := 18) hx hb dX8_swingsBy_70 (by decide) ?_
        exact ih (j + 1) u_3_1 ag mo (by omega) (by have h9 := bNlt (k := 60) rfl (by omega) (by decide) c_1; omega) (GI_goes_3 hG) hu _ _ _ (lv_sub hl [2, 3, 4, 5, 1, 0] rfl) Y
      · have c_4 : ¬ (nI j ≤ 20) := c_4
        rw [if_neg c_4] at hu
        refine lv_aload_n hx hb dX8_swingsBy_37 rfl (lv_at hl 0 rfl) ?_
        refine lv_iload_n hx hb dX8_swingsBy_38 rfl (lv_at hl 1 rfl) ?_
        refine lv_iconst (v := 4) hx hb dX8_swingsBy_39 (by decide) ?_
        refine bVI0 (As := [.int 0, .int 4]) (rest := []) (wc := [(mM, .inr (8, [.ref mN, .ref mR, .ref mA, .ref mP, .int ch, .ref mT, .int le, .int sp, .ref mD])), (mN, .inl (cyI, 515, .inl u_3_1))]) (ci := 8) (q0 := 0) X Y (c_of8 l D cyC cyI mM mN mR mA mP mT mD ch le sp u_3_1 0 4 (u_3_1 11) (bOf (i := 11) (by decide) rfl) (bInD (by decide))) gX8_swingsBy_X8_of rfl ⟨rfl, rfl⟩ hd_X8_of ⟨(Nat.le_of_ble_eq_true rfl), (Nat.le_of_ble_eq_true rfl)⟩ rfl rfl rfl [0, 1] rfl rfl rfl rfl hl.1 (Nat.le_of_ble_eq_true rfl) ⟨Nat.zero_le _, Nat.zero_le _⟩ dX8_swingsBy_40 (fun H locs Y => ?_)
        refine bSI (As := [.int (u_3_1 11)]) (rest := []) X Y (c_size8 l D cyC cyI (u_3_1 11) (s_size8 (u_3_1 11)) rfl) gX8_swingsBy_X8_size rfl ⟨rfl, rfl⟩ hd_X8_size.2 ⟨(Nat.le_of_ble_eq_true rfl), (Nat.le_of_ble_eq_true rfl)⟩ rfl rfl hl.1 (Nat.le_of_ble_eq_true rfl) ⟨Nat.zero_le _, Nat.zero_le _⟩ dX8_swingsBy_43 (fun H locs Y => ?_)
        refine lv_iload hx hb dX8_swingsBy_46 (lv_at hl 4 rfl) ?_
        refine lv_icmp_le (tgt := 63) hx hb dX8_swingsBy_48 (by decide) (fun c_5 => ?_) (fun c_5 => ?_)
        · have c_5 : (s_size8 (u_3_1 11)) ≤ mo := c_5
          rw [if_pos c_5] at hu
          refine lv_iload hx hb dX8_swingsBy_63 (lv_at hl 4 rfl) ?_
          refine lv_istore (lv' := [(4, .int mo), (0, .ref mM), (1, .int 0), (2, .int w), (3, .int pa), (5, .int (nI j))]) hx hb dX8_swingsBy_65 hl (by decide) rfl (fun ls hl => ?_)
          refine lv_iinc (v := nI (j + 1)) (lv' := [(5, .int (nI (j + 1))), (4, .int mo), (0, .ref mM), (1, .int 0), (2, .int w), (3, .int pa)]) hx hb dX8_swingsBy_67 hl (k := 5) rfl (nI_inc _) (by decide) rfl (fun ls hl => ?_)
          refine lv_goto (tgt := 18) hx hb dX8_swingsBy_70 (by decide) ?_
          exact ih (j + 1) u_3_1 ag mo (by omega) (by have h9 := bNlt (k := 60) rfl (by omega) (by decide) c_1; omega) (GI_goes_3 hG) hu _ _ _ (lv_sub hl [2, 3, 4, 5, 1, 0] rfl) Y
        · have c_5 : ¬ ((s_size8 (u_3_1 11)) ≤ mo) := c_5
          rw [if_neg c_5] at hu
          refine lv_aload_n hx hb dX8_swingsBy_51 rfl (lv_at hl 0 rfl) ?_
          refine lv_iload_n hx hb dX8_swingsBy_52 rfl (lv_at hl 1 rfl) ?_
          refine lv_iconst (v := 4) hx hb dX8_swingsBy_53 (by decide) ?_
          refine bVI0 (As := [.int 0, .int 4]) (rest := []) (wc := [(mM, .inr (8, [.ref mN, .ref mR, .ref mA, .ref mP, .int ch, .ref mT, .int le, .int sp, .ref mD])), (mN, .inl (cyI, 515, .inl u_3_1))]) (ci := 8) (q0 := 0) X Y (c_of8 l D cyC cyI mM mN mR mA mP mT mD ch le sp u_3_1 0 4 (u_3_1 11) (bOf (i := 11) (by decide) rfl) (bInD (by decide))) gX8_swingsBy_X8_of rfl ⟨rfl, rfl⟩ hd_X8_of ⟨(Nat.le_of_ble_eq_true rfl), (Nat.le_of_ble_eq_true rfl)⟩ rfl rfl rfl [0, 1] rfl rfl rfl rfl hl.1 (Nat.le_of_ble_eq_true rfl) ⟨Nat.zero_le _, Nat.zero_le _⟩ dX8_swingsBy_54 (fun H locs Y => ?_)
          refine bSI (As := [.int (u_3_1 11)]) (rest := []) X Y (c_size8 l D cyC cyI (u_3_1 11) (s_size8 (u_3_1 11)) rfl) gX8_swingsBy_X8_size rfl ⟨rfl, rfl⟩ hd_X8_size.2 ⟨(Nat.le_of_ble_eq_true rfl), (Nat.le_of_ble_eq_true rfl)⟩ rfl rfl hl.1 (Nat.le_of_ble_eq_true rfl) ⟨Nat.zero_le _, Nat.zero_le _⟩ dX8_swingsBy_57 (fun H locs Y => ?_)
          refine lv_goto (tgt := 65) hx hb dX8_swingsBy_60 (by decide) ?_
          refine lv_istore (lv' := [(4, .int (s_size8 (u_3_1 11))), (0, .ref mM), (1, .int 0), (2, .int w), (3, .int pa), (5, .int (nI j))]) hx hb dX8_swingsBy_65 hl (by decide) rfl (fun ls hl => ?_)
          refine lv_iinc (v := nI (j + 1)) (lv' := [(5, .int (nI (j + 1))), (4, .int (s_size8 (u_3_1 11))), (0, .ref mM), (1, .int 0), (2, .int w), (3, .int pa)]) hx hb dX8_swingsBy_67 hl (k := 5) rfl (nI_inc _) (by decide) rfl (fun ls hl => ?_)
          refine lv_goto (tgt := 18) hx hb dX8_swingsBy_70 (by decide) ?_
          exact ih (j + 1) u_3_1 ag (s_size8 (u_3_1 11)) (by omega) (by have h9 := bNlt (k := 60) rfl (by omega) (by decide) c_1; omega) (GI_goes_3 hG) hu _ _ _ (lv_sub hl [2, 3, 4, 5, 1, 0] rfl) Y
set_option maxHeartbeats 4000000 in
set_option maxRecDepth 100000 in
theorem c_swingsBy8_0 (l : Launch) (D : va_G) (cyC cyI : ClassId) (mM : Nat) (mN : Nat) (mR : Nat) (mA : Nat) (mP : Nat) (mT : Nat) (mD : Nat) (ch : Int32) (le : Int32) (sp : Int32) (nw : Nat → Int32) (az : Nat → Int32) (w : Int32) (pa : Int32) (o0 : Int32) (o1 : Nat → Int32) (o2 : Nat → Int32) (hu : s_swingsBy8_0 nw az w pa = (o0, o1, o2)) (hG : GI nw) : CI l yX8_swingsBy wsX8_swingsBy { frames := 5, cells := 0, slots := 0, locals := 112 } D cyC cyI [.ref mM, .int 0, .int w, .int pa] [(mM, .inr (8, [.ref mN, .ref mR, .ref mA, .ref mP, .int ch, .ref mT, .int le, .int sp, .ref mD])), (mN, .inl (cyI, 515, .inl nw)), (mA, .inl (cyI, 33, .inl az))] o0 [(mM, .inr (8, [.ref mN, .ref mR, .ref mA, .ref mP, .int ch, .ref mT, .int le, .int sp, .ref mD])), (mN, .inl (cyI, 515, .inl o1)), (mA, .inl (cyI, 33, .inl o2))] := by
  refine CI.of (cc := cX8_swingsBy) (n := 6) (ret := (some .int)) (by decide +kernel) rfl (Nat.le_of_ble_eq_true rfl) ?_
  intro p_ e_ s_ m_ bl_ me_ cd_ A_ ls X Y hr hlk hl
  have hx := X.1.1
  have hb := X.1.2.1
  have hl : lv_has ls 6 [(0, .ref mM), (1, .int 0), (2, .int w), (3, .int pa)] := hl
  unfold s_swingsBy8_0 at hu
  refine lv_aload_n hx hb dX8_swingsBy_0 rfl (lv_at hl 0 rfl) ?_
  obtain ⟨u_1_0, hr_1⟩ := bEx1 (s_laysAside8 nw az)
  rw [hr_1] at hu
  dsimp only at hu
  refine bVV (As := []) (rest := []) (wc := [(mM, .inr (8, [.ref mN, .ref mR, .ref mA, .ref mP, .int ch, .ref mT, .int le, .int sp, .ref mD])), (mN, .inl (cyI, 515, .inl nw)), (mA, .inl (cyI, 33, .inl az))]) (w1 := [(mM, .inr (8, [.ref mN, .ref mR, .ref mA, .ref mP, .int ch, .ref mT, .int le, .int sp, .ref mD])), (mN, .inl (cyI, 515, .inl nw)), (mA, .inl (cyI, 33, .inl u_1_0))]) (ws' := [(mM, .inr (8, [.ref mN, .ref mR, .ref mA, .ref mP, .int ch, .ref mT, .int le, .int sp, .ref mD])), (mN, .inl (cyI, 515, .inl nw)), (mA, .inl (cyI, 33, .inl u_1_0))]) (ad := [mM, mN, mA]) (wr := []) (nn := 3) (ci := 8) (q0 := 0) X Y (c_laysAside8 l D cyC cyI mM mN mR mA mP mT mD ch le sp nw az u_1_0 hr_1) gX8_swingsBy_X8_laysAside rfl ⟨rfl, rfl⟩ hd_X8_laysAside ⟨(Nat.le_of_ble_eq_true rfl), (Nat.le_of_ble_eq_true rfl)⟩ rfl rfl rfl [0, 1, 2] [] rfl rfl rfl rfl rfl rfl rfl rfl (by decide) rfl rfl hl.1 (Nat.le_of_ble_eq_true rfl) ⟨Nat.zero_le _, Nat.zero_le _⟩ dX8_swingsBy_1 (fun H locs Y => ?_)
  refine lv_aload_n hx hb dX8_swingsBy_4 rfl (lv_at hl 0 rfl) ?_
  refine lv_iload_n hx hb dX8_swingsBy_5 rfl (lv_at hl 1 rfl) ?_
  refine lv_iload_n hx hb dX8_swingsBy_6 rfl (lv_at hl 2 rfl) ?_
  refine lv_iload_n hx hb dX8_swingsBy_7 rfl (lv_at hl 3 rfl) ?_
  obtain ⟨u_2_0, u_2_1, hr_2⟩ := bEx2 (s_commands8p_0 nw w pa)
  rw [hr_2] at hu
  dsimp only at hu
  have GI_cmdp_0_2 := GI_cmdp_0 hr_2
  refine bVI (As := [.int 0, .int w, .int pa]) (rest := []) (wc := [(mM, .inr (8, [.ref mN, .ref mR, .ref mA, .ref mP, .int ch, .ref mT, .int le, .int sp, .ref mD])), (mN, .inl (cyI, 515, .inl nw))]) (w1 := [(mM, .inr (8, [.ref mN, .ref mR, .ref mA, .ref mP, .int ch, .ref mT, .int le, .int sp, .ref mD])), (mN, .inl (cyI, 515, .inl u_2_1))]) (ws' := [(mM, .inr (8, [.ref mN, .ref mR, .ref mA, .ref mP, .int ch, .ref mT, .int le, .int sp, .ref mD])), (mN, .inl (cyI, 515, .inl u_2_1)), (mA, .inl (cyI, 33, .inl u_1_0))]) (ad := [mM, mN]) (wr := [(mA, .inl (cyI, 33, .inl u_1_0))]) (nn := 3) (ci := 8) (q0 := 0) X Y (c_commands8p_0 l D cyC cyI mM mN mR mA mP mT mD ch le sp nw w pa u_2_0 u_2_1 hr_2) gX8_swingsBy_X8_commands rfl ⟨rfl, rfl⟩ hd_X8_commands ⟨(Nat.le_of_ble_eq_true rfl), (Nat.le_of_ble_eq_true rfl)⟩ rfl rfl rfl [0, 1] [2] rfl rfl rfl rfl rfl rfl rfl rfl (by decide) rfl rfl hl.1 (Nat.le_of_ble_eq_true rfl) ⟨Nat.zero_le _, Nat.zero_le _⟩ dX8_swingsBy_8 (fun H locs Y => ?_)
  refine lv_pop hx hb dX8_swingsBy_11 rfl ?_
  refine lv_iconst (v := 0) hx hb dX8_swingsBy_12 (by decide) ?_
  refine lv_istore (lv' := [(4, .int 0), (0, .ref mM), (1, .int 0), (2, .int w), (3, .int pa)]) hx hb dX8_swingsBy_13 hl (by decide) rfl (fun ls hl => ?_)
  refine lv_iconst (v := 1) hx hb dX8_swingsBy_15 (by decide) ?_
  refine lv_istore (lv' := [(5, .int 1), (4, .int 0), (0, .ref mM), (1, .int 0), (2, .int w), (3, .int pa)]) hx hb dX8_swingsBy_16 hl (by decide) rfl (fun ls hl => ?_)
  exact lp_swingsBy8_0 l D cyC cyI mM mN mR mA mP mT mD ch le sp nw az w pa o0 o1 o2 X hr hlk hG (61) 1 u_2_1 u_1_0 0 (by omega) (by omega) (GI_cmdp_0_2 hG) hu _ _ _ (lv_sub hl [2, 3, 4, 5, 1, 0] rfl) Y
def g_ahead8_1 (tn : Int32) (what : Int32) : Nat → Nat → (Nat → Int32) → (Nat → Int32) → Int32 → Int32 → Int32 × (Nat → Int32) × (Nat → Int32)
  | 0, _, _, _, _, _ => (0, fun _ => 0, fun _ => 0)
  | n_ + 1, j, ng, ag, mo, ma =>
    if tn ≤ nI j then
      match s_comesBack8 ng ag with
      | (u_2_0, _) =>
        ((s_answer8_1 ng what mo ma), u_2_0, ag)
    else
      match s_goesBy8 ng with
      | (u_3_0, u_3_1) =>
        if (s_size8 (u_3_1 24)) ≤ mo then
          g_ahead8_1 tn what n_ (j + 1) u_3_1 ag mo (ma + ((u_3_0 >>> (1 &&& 31)) &&& 1))
        else
          g_ahead8_1 tn what n_ (j + 1) u_3_1 ag (s_size8 (u_3_1 24)) (ma + ((u_3_0 >>> (1 &&& 31)) &&& 1))
def s_ahead8_1 (nw : Nat → Int32) (az : Nat → Int32) (tn : Int32) (what : Int32) : Int32 × (Nat → Int32) × (Nat → Int32) :=
  if (s_in8 tn 1 60) = true then
    if (s_isCrane8 1) = true then
      if (s_in8 what 0 5) = true then
        match s_laysAside8 nw az with
        | (u_4_0, _) =>
          g_ahead8_1 tn what (61) 0 nw u_4_0 0 0
      else
        ((-1), nw, az)
    else
      ((-1), nw, az)
  else
    ((-1), nw, az)
set_option maxHeartbeats 4000000 in
set_option maxRecDepth 100000 in
theorem lp_ahead8_1 {p_ : Program} {e_ : Env} {s_ : State} {m_ : MethodId} {bl_ : List Frame} {me_ : Method} {cd_ : Code} {A_ : Nat → Prop} (l : Launch) (D : va_G) (cyC cyI : ClassId) (mM : Nat) (mN : Nat) (mR : Nat) (mA : Nat) (mP : Nat) (mT : Nat) (mD : Nat) (ch : Int32) (le : Int32) (sp : Int32) (nw : Nat → Int32) (az : Nat → Int32) (tn : Int32) (what : Int32) (o0 : Int32) (o1 : Nat → Int32) (o2 : Nat → Int32) (X : bX p_ s_ m_ ([.ref mM, .int tn, .int 1, .int what] : List Value).toArray cd_ cX8_ahead 7 wsX8_ahead yX8_ahead.cls D cyC cyI) (hr : me_.sig.returnType = (some .int)) (hlk : me_.locks = false) (hG : GI nw) : ∀ (n_ : Nat) (j : Nat) (ng : Nat → Int32) (ag : Nat → Int32) (mo : Int32) (ma : Int32) (hN : 61 ≤ j + n_) (hJ : j ≤ 60) (hK : tn ≤ nI 60) (hG : GI ng) (hu : g_ahead8_1 tn what n_ j ng ag mo ma = (o0, o1, o2)) (ls : Array Slot) (H : Heap) (locs : List Loc), lv_has ls 7 [(0, .ref mM), (1, .int tn), (2, .int 1), (3, .int what), (4, .int mo), (5, .int ma), (6, .int (nI j))] → bY D A_ s_.heap [(mM, .inr (8, [.ref mN, .ref mR, .ref mA, .ref mP, .int ch, .ref mT, .int le, .int sp, .ref mD])), (mN, .inl (cyI, 515, .inl ng)), (mA, .inl (cyI, 33, .inl ag))] H locs → W p_ l e_ ({ frames := 5, cells := 0, slots := 0, locals := 112 } : Room) s_ m_ ([.ref mM, .int tn, .int 1, .int what] : List Value).toArray bl_ me_ cd_ H locs 0 0 (bQI bl_ ([.ref mM, .int tn, .int 1, .int what] : List Value).toArray s_ D [(mM, .inr (8, [.ref mN, .ref mR, .ref mA, .ref mP, .int ch, .ref mT, .int le, .int sp, .ref mD])), (mN, .inl (cyI, 515, .inl o1)), (mA, .inl (cyI, 33, .inl o2))] o0 A_) (F0 m_ 41 ls []) := by
  intro n_
  induction n_ with
  | zero =>
    intro j ng ag mo ma hN hJ hK hG hu ls H locs hl Y
    exfalso; omega
  | succ n_ ih =>
    intro j ng ag mo ma hN hJ hK hG hu ls H locs hl Y
    have hx := X.1.1
    have hb := X.1.2.1
    rw [g_ahead8_1] at hu
    refine lv_iload hx hb dX8_ahead_41 (lv_at hl 6 rfl) ?_
    refine lv_iload_n hx hb dX8_ahead_43 rfl (lv_at hl 1 rfl) ?_
    refine lv_icmp_ge (tgt := 96) hx hb dX8_ahead_44 (by decide) (fun c_1 => ?_) (fun c_1 => ?_)
    · have c_1 : tn ≤ nI j := c_1
      rw [if_pos c_1] at hu
      refine lv_aload_n hx hb dX8_ahead_96 rfl (lv_at hl 0 rfl) ?_
      refine lv_iload_n hx hb dX8_ahead_97 rfl (lv_at hl 2 rfl) ?_
      refine lv_iload_n hx hb dX8_ahead_98 rfl (lv_at hl 3 rfl) ?_
      refine lv_iload hx hb dX8_ahead_99 (lv_at hl 4 rfl) ?_
      refine lv_iload hx hb dX8_ahead_101 (lv_at hl 5 rfl) ?_
      refine bVI0 (As := [.int 1, .int what, .int mo, .int ma]) (rest := []) (wc := [(mM, .inr (8, [.ref mN, .ref mR, .ref mA, .ref mP, .int ch, .ref mT, .int le, .int sp, .ref mD])), (mN, .inl (cyI, 515, .inl ng))]) (ci := 8) (q0 := 0) X Y (c_answer8_1 l D cyC cyI mM mN mR mA mP mT mD ch le sp ng what mo ma (s_answer8_1 ng what mo ma) rfl) gX8_ahead_X8_answer rfl ⟨rfl, rfl⟩ hd_X8_answer ⟨(Nat.le_of_ble_eq_true rfl), (Nat.le_of_ble_eq_true rfl)⟩ rfl rfl rfl [0, 1] rfl rfl rfl rfl hl.1 (Nat.le_of_ble_eq_true rfl) ⟨Nat.zero_le _, Nat.zero_le _⟩ dX8_ahead_103 (fun H locs Y => ?_)
      refine lv_istore (lv' := [(6, .int (s_answer8_1 ng what mo ma)), (0, .ref mM), (1, .int tn), (2, .int 1), (3, .int what), (4, .int mo), (5, .int ma)]) hx hb dX8_ahead_106 hl (by decide) rfl (fun ls hl => ?_)
      refine lv_aload_n hx hb dX8_ahead_108 rfl (lv_at hl 1 rfl) ?_
      obtain ⟨u_2_0, hr_2⟩ := bEx1 (s_comesBack8 ng ag)
      rw [hr_2] at hu
      dsimp only at hu
      refine bVV (As := []) (rest := []) (wc := [(mM, .inr (8, [.ref mN, .ref mR, .ref mA, .ref mP, .int ch, .ref mT, .int le, .int sp, .ref mD])), (mN, .inl (cyI, 515, .inl ng)), (mA, .inl (cyI, 33, .inl ag))]) (w1 := [(mM, .inr (8, [.ref mN, .ref mR, .ref mA, .ref mP, .int ch, .ref mT, .int le, .int sp, .ref mD])), (mN, .inl (cyI, 515, .inl u_2_0)), (mA, .inl (cyI, 33, .inl ag))]) (ws' := [(mM, .inr (8, [.ref mN, .ref mR, .ref mA, .ref mP, .int ch, .ref mT, .int le, .int sp, .ref mD])), (mN, .inl (cyI, 515, .inl u_2_0)), (mA, .inl (cyI, 33, .inl ag))]) (ad := [mM, mN, mA]) (wr := []) (nn := 3) (ci := 8) (q0 := 0) X Y (c_comesBack8 l D cyC cyI mM mN mR mA mP mT mD ch le sp ng ag u_2_0 hr_2) gX8_ahead_X8_comesBack rfl ⟨rfl, rfl⟩ hd_X8_comesBack ⟨(Nat.le_of_ble_eq_true rfl), (Nat.le_of_ble_eq_true rfl)⟩ rfl rfl rfl [0, 1, 2] [] rfl rfl rfl rfl rfl rfl rfl rfl (by decide) rfl rfl hl.1 (Nat.le_of_ble_eq_true rfl) ⟨Nat.zero_le _, Nat.zero_le _⟩ dX8_ahead_109 (fun H locs Y => ?_)
      refine lv_iload hx hb dX8_ahead_112 (lv_at hl 0 rfl) ?_
      have h9 := (Prod.mk.inj hu).1; replace hu := (Prod.mk.inj hu).2; subst h9
      have h9 := (Prod.mk.inj hu).1; replace hu := (Prod.mk.inj hu).2; subst h9
      subst hu
      exact bEndI X Y hr hlk dX8_ahead_114 rfl rfl
    · have c_1 : ¬ (tn ≤ nI j) := c_1
      rw [if_neg c_1] at hu
      refine lv_iload hx hb dX8_ahead_47 (lv_at hl 5 rfl) ?_
      refine lv_aload_n hx hb dX8_ahead_49 rfl (lv_at hl 0 rfl) ?_
      obtain ⟨u_3_0, u_3_1, hr_3⟩ := bEx2 (s_goesBy8 ng)
      rw [hr_3] at hu
      dsimp only at hu
      have GI_goes_3 := GI_goes hr_3
      refine bVI (As := []) (rest := [.int ma]) (wc := [(mM, .inr (8, [.ref mN, .ref mR, .ref mA, .ref mP, .int ch, .ref mT, .int le, .int sp, .ref mD])), (mN, .inl (cyI, 515, .inl ng))]) (w1 := [(mM, .inr (8, [.ref mN, .ref mR, .ref mA, .ref mP, .int ch, .ref mT, .int le, .int sp, .ref mD])), (mN, .inl (cyI, 515, .inl u_3_1))]) (ws' := [(mM, .inr (8, [.ref mN, .ref mR, .ref mA, .ref mP, .int ch, .ref mT, .int le, .int sp, .ref mD])), (mN, .inl (cyI, 515, .inl u_3_1)), (mA, .inl (cyI, 33, .inl ag))]) (ad := [mM, mN]) (wr := [(mA, .inl (cyI, 33, .inl ag))]) (nn := 3) (ci := 8) (q0 := 0) X Y (c_goesBy8 l D cyC cyI mM mN mR mA mP mT mD ch le sp ng u_3_0 u_3_1 hr_3 hG.1 hG.2.1 hG.2.2.1 (n10 hG.2.2.2.1.1) (n10 hG.2.2.2.2.1.1)) gX8_ahead_X8_goesBy rfl ⟨rfl, rfl⟩ hd_X8_goesBy ⟨(Nat.le_of_ble_eq_true rfl), (Nat.le_of_ble_eq_true rfl)⟩ rfl rfl rfl [0, 1] [2] rfl rfl rfl rfl rfl rfl rfl rfl (by decide) rfl rfl hl.1 (Nat.le_of_ble_eq_true rfl) ⟨Nat.zero_le _, Nat.zero_le _⟩ dX8_ahead_50 (fun H locs Y => ?_)
      refine lv_iload_n hx hb dX8_ahead_53 rfl (lv_at hl 2 rfl) ?_
      refine bShr (v := u_3_0 >>> (1 &&& 31)) X dX8_ahead_54 rfl ?_
      refine lv_iconst (v := 1) hx hb dX8_ahead_55 (by decide) ?_
      refine bAnd (v := (u_3_0 >>> (1 &&& 31)) &&& 1) X dX8_ahead_56 rfl ?_
      refine bAdd (v := ma + ((u_3_0 >>> (1 &&& 31)) &&& 1)) X dX8_ahead_57 rfl ?_
      refine lv_istore (lv' := [(5, .int (ma + ((u_3_0 >>> (1 &&& 31)) &&& 1))), (0, .ref mM), (1, .int tn), (2, .int 1), (3, .int what), (4, .int mo), (6, .int (nI j))]) hx hb dX8_ahead_58 hl (by decide) rfl (fun ls hl => ?_)
      refine lv_aload_n hx hb dX8_ahead_60 rfl (lv_at hl 1 rfl) ?_
      refine lv_iload_n hx hb dX8_ahead_61 rfl (lv_at hl 3 rfl) ?_
      refine lv_iconst (v := 4) hx hb dX8_ahead_62 (by decide) ?_
      refine bVI0 (As := [.int 1, .int 4]) (rest := []) (wc := [(mM, .inr (8, [.ref mN, .ref mR, .ref mA, .ref mP, .int ch, .ref mT, .int le, .int sp, .ref mD])), (mN, .inl (cyI, 515, .inl u_3_1))]) (ci := 8) (q0 := 0) X Y (c_of8 l D cyC cyI mM mN mR mA mP mT mD ch le sp u_3_1 1 4 (u_3_1 24) (bOf (i := 24) (by decide) rfl) (bInD (by decide))) gX8_ahead_X8_of rfl ⟨rfl, rfl⟩ hd_X8_of ⟨(Nat.le_of_ble_eq_true rfl), (Nat.le_of_ble_eq_true rfl)⟩ rfl rfl rfl [0, 1] rfl rfl rfl rfl hl.1 (Nat.le_of_ble_eq_true rfl) ⟨Nat.zero_le _, Nat.zero_le _⟩ dX8_ahead_63 (fun H locs Y => ?_)
      refine bSI (As := [.int (u_3_1 24)]) (rest := []) X Y (c_size8 l D cyC cyI (u_3_1 24) (s_size8 (u_3_1 24)) rfl) gX8_ahead_X8_size rfl ⟨rfl, rfl⟩ hd_X8_size.2 ⟨(Nat.le_of_ble_eq_true rfl), (Nat.le_of_ble_eq_true rfl)⟩ rfl rfl hl.1 (Nat.le_of_ble_eq_true rfl) ⟨Nat.zero_le _, Nat.zero_le _⟩ dX8_ahead_66 (fun H locs Y => ?_)
      refine lv_iload hx hb dX8_ahead_69 (lv_at hl 5 rfl) ?_
      refine lv_icmp_le (tgt := 86) hx hb dX8_ahead_71 (by decide) (fun c_4 => ?_) (fun c_4 => ?_)
      · have c_4 : (s_size8 (u_3_1 24)) ≤ mo := c_4
        rw [if_pos c_4] at hu
        refine lv_iload hx hb dX8_ahead_86 (lv_at hl 5 rfl) ?_
        refine lv_istore (lv' := [(4, .int mo), (5, .int (ma + ((u_3_0 >>> (1 &&& 31)) &&& 1))), (0, .ref mM), (1, .int tn), (2, .int 1), (3, .int what), (6, .int (nI j))]) hx hb dX8_ahead_88 hl (by decide) rfl (fun ls hl => ?_)
        refine lv_iinc (v := nI (j + 1)) (lv' := [(6, .int (nI (j + 1))), (4, .int mo), (5, .int (ma + ((u_3_0 >>> (1 &&& 31)) &&& 1))), (0, .ref mM), (1, .int tn), (2, .int 1), (3, .int what)]) hx hb dX8_ahead_90 hl (k := 6) rfl (nI_inc _) (by decide) rfl (fun ls hl => ?_)
        refine lv_goto (tgt := 41) hx hb dX8_ahead_93 (by decide) ?_
        exact ih (j + 1) u_3_1 ag mo (ma + ((u_3_0 >>> (1 &&& 31)) &&& 1)) (by omega) (by have := bNleS (by omega) (by decide) hK c_1; omega) hK (GI_goes_3 hG) hu _ _ _ (lv_sub hl [3, 4, 5, 6, 1, 2, 0] rfl) Y
      · have c_4 : ¬ ((s_size8 (u_3_1 24)) ≤ mo) := c_4
        rw [if_neg c_4] at hu
        refine lv_aload_n hx hb dX8_ahead_74 rfl (lv_at hl 1 rfl) ?_
        refine lv_iload_n hx hb dX8_ahead_75 rfl (lv_at hl 3 rfl) ?_
        refine lv_iconst (v := 4) hx hb dX8_ahead_76 (by decide) ?_
        refine bVI0 (As := [.int 1, .int 4]) (rest := []) (wc := [(mM, .inr (8, [.ref mN, .ref mR, .ref mA, .ref mP, .int ch, .ref mT, .int le, .int sp, .ref mD])), (mN, .inl (cyI, 515, .inl u_3_1))]) (ci := 8) (q0 := 0) X Y (c_of8 l D cyC cyI mM mN mR mA mP mT mD ch le sp u_3_1 1 4 (u_3_1 24) (bOf (i := 24) (by decide) rfl) (bInD (by decide))) gX8_ahead_X8_of rfl ⟨rfl, rfl⟩ hd_X8_of ⟨(Nat.le_of_ble_eq_true rfl), (Nat.le_of_ble_eq_true rfl)⟩ rfl rfl rfl [0, 1] rfl rfl rfl rfl hl.1 (Nat.le_of_ble_eq_true rfl) ⟨Nat.zero_le _, Nat.zero_le _⟩ dX8_ahead_77 (fun H locs Y => ?_)
        refine bSI (As := [.int (u_3_1 24)]) (rest := []) X Y (c_size8 l D cyC cyI (u_3_1 24) (s_size8 (u_3_1 24)) rfl) gX8_ahead_X8_size rfl ⟨rfl, rfl⟩ hd_X8_size.2 ⟨(Nat.le_of_ble_eq_true rfl), (Nat.le_of_ble_eq_true rfl)⟩ rfl rfl hl.1 (Nat.le_of_ble_eq_true rfl) ⟨Nat.zero_le _, Nat.zero_le _⟩ dX8_ahead_80 (fun H locs Y => ?_)
        refine lv_goto (tgt := 88) hx hb dX8_ahead_83 (by decide) ?_
        refine lv_istore (lv' := [(4, .int (s_size8 (u_3_1 24))), (5, .int (ma + ((u_3_0 >>> (1 &&& 31)) &&& 1))), (0, .ref mM), (1, .int tn), (2, .int 1), (3, .int what), (6, .int (nI j))]) hx hb dX8_ahead_88 hl (by decide) rfl (fun ls hl => ?_)
        refine lv_iinc (v := nI (j + 1)) (lv' := [(6, .int (nI (j + 1))), (4, .int (s_size8 (u_3_1 24))), (5, .int (ma + ((u_3_0 >>> (1 &&& 31)) &&& 1))), (0, .ref mM), (1, .int tn), (2, .int 1), (3, .int what)]) hx hb dX8_ahead_90 hl (k := 6) rfl (nI_inc _) (by decide) rfl (fun ls hl => ?_)
        refine lv_goto (tgt := 41) hx hb dX8_ahead_93 (by decide) ?_
        exact ih (j + 1) u_3_1 ag (s_size8 (u_3_1 24)) (ma + ((u_3_0 >>> (1 &&& 31)) &&& 1)) (by omega) (by have := bNleS (by omega) (by decide) hK c_1; omega) hK (GI_goes_3 hG) hu _ _ _ (lv_sub hl [3, 4, 5, 6, 1, 2, 0] rfl) Y
set_option maxHeartbeats 4000000 in
set_option maxRecDepth 100000 in
theorem c_ahead8_1 (l : Launch) (D : va_G) (cyC cyI : ClassId) (mM : Nat) (mN : Nat) (mR : Nat) (mA : Nat) (mP : Nat) (mT : Nat) (mD : Nat) (ch : Int32) (le : Int32) (sp : Int32) (nw : Nat → Int32) (az : Nat → Int32) (tn : Int32) (what : Int32) (o0 : Int32) (o1 : Nat → Int32) (o2 : Nat → Int32) (hu : s_ahead8_1 nw az tn what = (o0, o1, o2)) (hG : GI nw) : CI l yX8_ahead wsX8_ahead { frames := 5, cells := 0, slots := 0, locals := 112 } D cyC cyI [.ref mM, .int tn, .int 1, .int what] [(mM, .inr (8, [.ref mN, .ref mR, .ref mA, .ref mP, .int ch, .ref mT, .int le, .int sp, .ref mD])), (mN, .inl (cyI, 515, .inl nw)), (mA, .inl (cyI, 33, .inl az))] o0 [(mM, .inr (8, [.ref mN, .ref mR, .ref mA, .ref mP, .int ch, .ref mT, .int le, .int sp, .ref mD])), (mN, .inl (cyI, 515, .inl o1)), (mA, .inl (cyI, 33, .inl o2))] := by
  refine CI.of (cc := cX8_ahead) (n := 7) (ret := (some .int)) (by decide +kernel) rfl (Nat.le_of_ble_eq_true rfl) ?_
  intro p_ e_ s_ m_ bl_ me_ cd_ A_ ls X Y hr hlk hl
  have hx := X.1.1
  have hb := X.1.2.1
  have hl : lv_has ls 7 [(0, .ref mM), (1, .int tn), (2, .int 1), (3, .int what)] := hl
  unfold s_ahead8_1 at hu
  refine lv_iload_n hx hb dX8_ahead_0 rfl (lv_at hl 1 rfl) ?_
  refine lv_iconst (v := 1) hx hb dX8_ahead_1 (by decide) ?_
  refine lv_bipush (v := 60) hx hb dX8_ahead_2 (by decide) ?_
  refine bSI (As := [.int tn, .int 1, .int 60]) (rest := []) X Y (c_in8 l D cyC cyI tn 1 60 (s_in8 tn 1 60) rfl) gX8_ahead_X8_in rfl ⟨rfl, rfl⟩ hd_X8_in.2 ⟨(Nat.le_of_ble_eq_true rfl), (Nat.le_of_ble_eq_true rfl)⟩ rfl rfl hl.1 (Nat.le_of_ble_eq_true rfl) ⟨Nat.zero_le _, Nat.zero_le _⟩ dX8_ahead_4 (fun H locs Y => ?_)
  refine lv_if_eq (tgt := 26) hx hb dX8_ahead_7 (by decide) (fun c_1 => ?_) (fun c_1 => ?_)
  · have c_1 := bB_f c_1
    rw [if_neg c_1] at hu
    refine lv_iconst (v := (-1)) hx hb dX8_ahead_26 (by decide) ?_
    have h9 := (Prod.mk.inj hu).1; replace hu := (Prod.mk.inj hu).2; subst h9
    have h9 := (Prod.mk.inj hu).1; replace hu := (Prod.mk.inj hu).2; subst h9
    subst hu
    exact bEndI X Y hr hlk dX8_ahead_27 rfl rfl
  · have c_1 := bB_t c_1
    rw [if_pos c_1] at hu
    refine lv_iload_n hx hb dX8_ahead_10 rfl (lv_at hl 2 rfl) ?_
    refine bSI (As := [.int 1]) (rest := []) X Y (c_isCrane8 l D cyC cyI 1 (s_isCrane8 1) rfl) gX8_ahead_X8_isCrane rfl ⟨rfl, rfl⟩ hd_X8_isCrane.2 ⟨(Nat.le_of_ble_eq_true rfl), (Nat.le_of_ble_eq_true rfl)⟩ rfl rfl hl.1 (Nat.le_of_ble_eq_true rfl) ⟨Nat.zero_le _, Nat.zero_le _⟩ dX8_ahead_11 (fun H locs Y => ?_)
    refine lv_if_eq (tgt := 26) hx hb dX8_ahead_14 (by decide) (fun c_2 => ?_) (fun c_2 => ?_)
    · have c_2 := bB_f c_2
      rw [if_neg c_2] at hu
      refine lv_iconst (v := (-1)) hx hb dX8_ahead_26 (by decide) ?_
      have h9 := (Prod.mk.inj hu).1; replace hu := (Prod.mk.inj hu).2; subst h9
      have h9 := (Prod.mk.inj hu).1; replace hu := (Prod.mk.inj hu).2; subst h9
      subst hu
      exact bEndI X Y hr hlk dX8_ahead_27 rfl rfl
    · have c_2 := bB_t c_2
      rw [if_pos c_2] at hu
      refine lv_iload_n hx hb dX8_ahead_17 rfl (lv_at hl 3 rfl) ?_
      refine lv_iconst (v := 0) hx hb dX8_ahead_18 (by decide) ?_
      refine lv_iconst (v := 5) hx hb dX8_ahead_19 (by decide) ?_
      refine bSI (As := [.int what, .int 0, .int 5]) (rest := []) X Y (c_in8 l D cyC cyI what 0 5 (s_in8 what 0 5) rfl) gX8_ahead_X8_in rfl ⟨rfl, rfl⟩ hd_X8_in.2 ⟨(Nat.le_of_ble_eq_true rfl), (Nat.le_of_ble_eq_true rfl)⟩ rfl rfl hl.1 (Nat.le_of_ble_eq_true rfl) ⟨Nat.zero_le _, Nat.zero_le _⟩ dX8_ahead_20 (fun H locs Y => ?_)
      refine lv_if_ne (tgt := 28) hx hb dX8_ahead_23 (by decide) (fun c_3 => ?_) (fun c_3 => ?_)
      · have c_3 := bB_t c_3
        rw [if_pos c_3] at hu
        refine lv_aload_n hx hb dX8_ahead_28 rfl (lv_at hl 0 rfl) ?_
        obtain ⟨u_4_0, hr_4⟩ := bEx1 (s_laysAside8 nw az)
        rw [hr_4] at hu
        dsimp only at hu
        refine bVV (As := []) (rest := []) (wc := [(mM, .inr (8, [.ref mN, .ref mR, .ref mA, .ref mP, .int ch, .ref mT, .int le, .int sp, .ref mD])), (mN, .inl (cyI, 515, .inl nw)), (mA, .inl (cyI, 33, .inl az))]) (w1 := [(mM, .inr (8, [.ref mN, .ref mR, .ref mA, .ref mP, .int ch, .ref mT, .int le, .int sp, .ref mD])), (mN, .inl (cyI, 515, .inl nw)), (mA, .inl (cyI, 33, .inl u_4_0))]) (ws' := [(mM, .inr (8, [.ref mN, .ref mR, .ref mA, .ref mP, .int ch, .ref mT, .int le, .int sp, .ref mD])), (mN, .inl (cyI, 515, .inl nw)), (mA, .inl (cyI, 33, .inl u_4_0))]) (ad := [mM, mN, mA]) (wr := []) (nn := 3) (ci := 8) (q0 := 0) X Y (c_laysAside8 l D cyC cyI mM mN mR mA mP mT mD ch le sp nw az u_4_0 hr_4) gX8_ahead_X8_laysAside rfl ⟨rfl, rfl⟩ hd_X8_laysAside ⟨(Nat.le_of_ble_eq_true rfl), (Nat.le_of_ble_eq_true rfl)⟩ rfl rfl rfl [0, 1, 2] [] rfl rfl rfl rfl rfl rfl rfl rfl (by decide) rfl rfl hl.1 (Nat.le_of_ble_eq_true rfl) ⟨Nat.zero_le _, Nat.zero_le _⟩ dX8_ahead_29 (fun H locs Y => ?_)
        refine lv_iconst (v := 0) hx hb dX8_ahead_32 (by decide) ?_
        refine lv_istore (lv' := [(4, .int 0), (0, .ref mM), (1, .int tn), (2, .int 1), (3, .int what)]) hx hb dX8_ahead_33 hl (by decide) rfl (fun ls hl => ?_)
        refine lv_iconst (v := 0) hx hb dX8_ahead_35 (by decide) ?_
        refine lv_istore (lv' := [(5, .int 0), (4, .int 0), (0, .ref mM), (1, .int tn), (2, .int 1), (3, .int what)]) hx hb dX8_ahead_36 hl (by decide) rfl (fun ls hl => ?_)
        refine lv_iconst (v := 0) hx hb dX8_ahead_38 (by decide) ?_
        refine lv_istore (lv' := [(6, .int 0), (5, .int 0), (4, .int 0), (0, .ref mM), (1, .int tn), (2, .int 1), (3, .int what)]) hx hb dX8_ahead_39 hl (by decide) rfl (fun ls hl => ?_)
        exact lp_ahead8_1 l D cyC cyI mM mN mR mA mP mT mD ch le sp nw az tn what o0 o1 o2 X hr hlk hG (61) 0 nw u_4_0 0 0 (by omega) (by omega) ((in8_iff.mp c_1).2) hG hu _ _ _ (lv_sub hl [3, 4, 5, 6, 2, 1, 0] rfl) Y
      · have c_3 := bB_f c_3
        rw [if_neg c_3] at hu
        refine lv_iconst (v := (-1)) hx hb dX8_ahead_26 (by decide) ?_
        have h9 := (Prod.mk.inj hu).1; replace hu := (Prod.mk.inj hu).2; subst h9
        have h9 := (Prod.mk.inj hu).1; replace hu := (Prod.mk.inj hu).2; subst h9
        subst hu
        exact bEndI X Y hr hlk dX8_ahead_27 rfl rfl
def g_quiet8_1 : Nat → Nat → (Nat → Int32) → (Nat → Int32) → Int32 × (Nat → Int32) × (Nat → Int32)
  | 0, _, _, _ => (0, fun _ => 0, fun _ => 0)
  | n_ + 1, j, ng, ag =>
    if 60 ≤ nI j then
      if (s_isQuiet8_1 ng) = 1 then
        match s_comesBack8 ng ag with
        | (u_4_0, _) =>
          (nI j, u_4_0, ag)
      else
        match s_comesBack8 ng ag with
        | (u_3_0, _) =>
          ((-4), u_3_0, ag)
    else
      if (s_isQuiet8_1 ng) = 0 then
        match s_goesBy8 ng with
        | (u_9_0, u_9_1) =>
          g_quiet8_1 n_ (j + 1) u_9_1 ag
      else
        if (s_isQuiet8_1 ng) = 1 then
          match s_comesBack8 ng ag with
          | (u_8_0, _) =>
            (nI j, u_8_0, ag)
        else
          match s_comesBack8 ng ag with
          | (u_7_0, _) =>
            ((-4), u_7_0, ag)
def s_quiet8_1 (nw : Nat → Int32) (az : Nat → Int32) : Int32 × (Nat → Int32) × (Nat → Int32) :=
  if (s_isCrane8 1) = true then
    match s_laysAside8 nw az with
    | (u_2_0, _) =>
      match s_commands8n_1 nw 0 with
      | (u_3_0, u_3_1) =>
        g_quiet8_1 (61) 0 u_3_1 u_2_0
  else
    ((-1), nw, az)
set_option maxHeartbeats 4000000 in
set_option maxRecDepth 100000 in
theorem lp_quiet8_1 {p_ : Program} {e_ : Env} {s_ : State} {m_ : MethodId} {bl_ : List Frame} {me_ : Method} {cd_ : Code} {A_ : Nat → Prop} (l : Launch) (D : va_G) (cyC cyI : ClassId) (mM : Nat) (mN : Nat) (mR : Nat) (mA : Nat) (mP : Nat) (mT : Nat) (mD : Nat) (ch : Int32) (le : Int32) (sp : Int32) (nw : Nat → Int32) (az : Nat → Int32) (o0 : Int32) (o1 : Nat → Int32) (o2 : Nat → Int32) (X : bX p_ s_ m_ ([.ref mM, .int 1] : List Value).toArray cd_ cX8_quiet 4 wsX8_quiet yX8_quiet.cls D cyC cyI) (hr : me_.sig.returnType = (some .int)) (hlk : me_.locks = false) (hG : GI nw) : ∀ (n_ : Nat) (j : Nat) (ng : Nat → Int32) (ag : Nat → Int32) (hN : 61 ≤ j + n_) (hJ : j ≤ 60) (hG : GI ng) (hu : g_quiet8_1 n_ j ng ag = (o0, o1, o2)) (ls : Array Slot) (H : Heap) (locs : List Loc), lv_has ls 4 [(0, .ref mM), (1, .int 1), (2, .int (nI j))] → bY D A_ s_.heap [(mM, .inr (8, [.ref mN, .ref mR, .ref mA, .ref mP, .int ch, .ref mT, .int le, .int sp, .ref mD])), (mN, .inl (cyI, 515, .inl ng)), (mA, .inl (cyI, 33, .inl ag))] H locs → W p_ l e_ ({ frames := 5, cells := 0, slots := 0, locals := 112 } : Room) s_ m_ ([.ref mM, .int 1] : List Value).toArray bl_ me_ cd_ H locs 0 0 (bQI bl_ ([.ref mM, .int 1] : List Value).toArray s_ D [(mM, .inr (8, [.ref mN, .ref mR, .ref mA, .ref mP, .int ch, .ref mT, .int le, .int sp, .ref mD])), (mN, .inl (cyI, 515, .inl o1)), (mA, .inl (cyI, 33, .inl o2))] o0 A_) (F0 m_ 23 ls []) := by
  intro n_
  induction n_ with
  | zero =>
    intro j ng ag hN hJ hG hu ls H locs hl Y
    exfalso; omega
  | succ n_ ih =>
    intro j ng ag hN hJ hG hu ls H locs hl Y
    have hx := X.1.1
    have hb := X.1.2.1
    rw [g_quiet8_1] at hu
    refine lv_iload_n hx hb dX8_quiet_23 rfl (lv_at hl 2 rfl) ?_
    refine lv_bipush (v := 60) hx hb dX8_quiet_24 (by decide) ?_
    refine lv_icmp_ge (tgt := 48) hx hb dX8_quiet_26 (by decide) (fun c_1 => ?_) (fun c_1 => ?_)
    · have c_1 : 60 ≤ nI j := c_1
      rw [if_pos c_1] at hu
      refine lv_aload_n hx hb dX8_quiet_48 rfl (lv_at hl 0 rfl) ?_
      refine lv_iload_n hx hb dX8_quiet_49 rfl (lv_at hl 1 rfl) ?_
      refine bVI0 (As := [.int 1]) (rest := []) (wc := [(mM, .inr (8, [.ref mN, .ref mR, .ref mA, .ref mP, .int ch, .ref mT, .int le, .int sp, .ref mD])), (mN, .inl (cyI, 515, .inl ng))]) (ci := 8) (q0 := 0) X Y (c_isQuiet8_1 l D cyC cyI mM mN mR mA mP mT mD ch le sp ng (s_isQuiet8_1 ng) rfl) gX8_quiet_X8_isQuiet rfl ⟨rfl, rfl⟩ hd_X8_isQuiet ⟨(Nat.le_of_ble_eq_true rfl), (Nat.le_of_ble_eq_true rfl)⟩ rfl rfl rfl [0, 1] rfl rfl rfl rfl hl.1 (Nat.le_of_ble_eq_true rfl) ⟨Nat.zero_le _, Nat.zero_le _⟩ dX8_quiet_50 (fun H locs Y => ?_)
      refine lv_iconst (v := 1) hx hb dX8_quiet_53 (by decide) ?_
      refine lv_icmp_ne (tgt := 61) hx hb dX8_quiet_54 (by decide) (fun c_2 => ?_) (fun c_2 => ?_)
      · have c_2 : ¬ ((s_isQuiet8_1 ng) = 1) := c_2
        rw [if_neg c_2] at hu
        refine lv_bipush (v := (-4)) hx hb dX8_quiet_61 (by decide) ?_
        refine lv_istore_n (lv' := [(3, .int (-4)), (0, .ref mM), (1, .int 1), (2, .int (nI j))]) hx hb dX8_quiet_63 rfl hl (by decide) rfl (fun ls hl => ?_)
        refine lv_aload_n hx hb dX8_quiet_64 rfl (lv_at hl 1 rfl) ?_
        obtain ⟨u_3_0, hr_3⟩ := bEx1 (s_comesBack8 ng ag)
        rw [hr_3] at hu
        dsimp only at hu
        refine bVV (As := []) (rest := []) (wc := [(mM, .inr (8, [.ref mN, .ref mR, .ref mA, .ref mP, .int ch, .ref mT, .int le, .int sp, .ref mD])), (mN, .inl (cyI, 515, .inl ng)), (mA, .inl (cyI, 33, .inl ag))]) (w1 := [(mM, .inr (8, [.ref mN, .ref mR, .ref mA, .ref mP, .int ch, .ref mT, .int le, .int sp, .ref mD])), (mN, .inl (cyI, 515, .inl u_3_0)), (mA, .inl (cyI, 33, .inl ag))]) (ws' := [(mM, .inr (8, [.ref mN, .ref mR, .ref mA, .ref mP, .int ch, .ref mT, .int le, .int sp, .ref mD])), (mN, .inl (cyI, 515, .inl u_3_0)), (mA, .inl (cyI, 33, .inl ag))]) (ad := [mM, mN, mA]) (wr := []) (nn := 3) (ci := 8) (q0 := 0) X Y (c_comesBack8 l D cyC cyI mM mN mR mA mP mT mD ch le sp ng ag u_3_0 hr_3) gX8_quiet_X8_comesBack rfl ⟨rfl, rfl⟩ hd_X8_comesBack ⟨(Nat.le_of_ble_eq_true rfl), (Nat.le_of_ble_eq_true rfl)⟩ rfl rfl rfl [0, 1, 2] [] rfl rfl rfl rfl rfl rfl rfl rfl (by decide) rfl rfl hl.1 (Nat.le_of_ble_eq_true rfl) ⟨Nat.zero_le _, Nat.zero_le _⟩ dX8_quiet_65 (fun H locs Y => ?_)
        refine lv_iload_n hx hb dX8_quiet_68 rfl (lv_at hl 0 rfl) ?_
        have h9 := (Prod.mk.inj hu).1; replace hu := (Prod.mk.inj hu).2; subst h9
        have h9 := (Prod.mk.inj hu).1; replace hu := (Prod.mk.inj hu).2; subst h9
        subst hu
        exact bEndI X Y hr hlk dX8_quiet_69 rfl rfl
      · have c_2 : (s_isQuiet8_1 ng) = 1 := c_2
        rw [if_pos c_2] at hu
        refine lv_iload_n hx hb dX8_quiet_57 rfl (lv_at hl 2 rfl) ?_
        refine lv_goto (tgt := 63) hx hb dX8_quiet_58 (by decide) ?_
        refine lv_istore_n (lv' := [(3, .int (nI j)), (0, .ref mM), (1, .int 1), (2, .int (nI j))]) hx hb dX8_quiet_63 rfl hl (by decide) rfl (fun ls hl => ?_)
        refine lv_aload_n hx hb dX8_quiet_64 rfl (lv_at hl 1 rfl) ?_
        obtain ⟨u_4_0, hr_4⟩ := bEx1 (s_comesBack8 ng ag)
        rw [hr_4] at hu
        dsimp only at hu
        refine bVV (As := []) (rest := []) (wc := [(mM, .inr (8, [.ref mN, .ref mR, .ref mA, .ref mP, .int ch, .ref mT, .int le, .int sp, .ref mD])), (mN, .inl (cyI, 515, .inl ng)), (mA, .inl (cyI, 33, .inl ag))]) (w1 := [(mM, .inr (8, [.ref mN, .ref mR, .ref mA, .ref mP, .int ch, .ref mT, .int le, .int sp, .ref mD])), (mN, .inl (cyI, 515, .inl u_4_0)), (mA, .inl (cyI, 33, .inl ag))]) (ws' := [(mM, .inr (8, [.ref mN, .ref mR, .ref mA, .ref mP, .int ch, .ref mT, .int le, .int sp, .ref mD])), (mN, .inl (cyI, 515, .inl u_4_0)), (mA, .inl (cyI, 33, .inl ag))]) (ad := [mM, mN, mA]) (wr := []) (nn := 3) (ci := 8) (q0 := 0) X Y (c_comesBack8 l D cyC cyI mM mN mR mA mP mT mD ch le sp ng ag u_4_0 hr_4) gX8_quiet_X8_comesBack rfl ⟨rfl, rfl⟩ hd_X8_comesBack ⟨(Nat.le_of_ble_eq_true rfl), (Nat.le_of_ble_eq_true rfl)⟩ rfl rfl rfl [0, 1, 2] [] rfl rfl rfl rfl rfl rfl rfl rfl (by decide) rfl rfl hl.1 (Nat.le_of_ble_eq_true rfl) ⟨Nat.zero_le _, Nat.zero_le _⟩ dX8_quiet_65 (fun H locs Y => ?_)
        refine lv_iload_n hx hb dX8_quiet_68 rfl (lv_at hl 0 rfl) ?_
        have h9 := (Prod.mk.inj hu).1; replace hu := (Prod.mk.inj hu).2; subst h9
        have h9 := (Prod.mk.inj hu).1; replace hu := (Prod.mk.inj hu).2; subst h9
        subst hu
        exact bEndI X Y hr hlk dX8_quiet_69 rfl rfl
    · have c_1 : ¬ (60 ≤ nI j) := c_1
      rw [if_neg c_1] at hu
      refine lv_aload_n hx hb dX8_quiet_29 rfl (lv_at hl 0 rfl) ?_
      refine lv_iload_n hx hb dX8_quiet_30 rfl (lv_at hl 1 rfl) ?_
      refine bVI0 (As := [.int 1]) (rest := []) (wc := [(mM, .inr (8, [.ref mN, .ref mR, .ref mA, .ref mP, .int ch, .ref mT, .int le, .int sp, .ref mD])), (mN, .inl (cyI, 515, .inl ng))]) (ci := 8) (q0 := 0) X Y (c_isQuiet8_1 l D cyC cyI mM mN mR mA mP mT mD ch le sp ng (s_isQuiet8_1 ng) rfl) gX8_quiet_X8_isQuiet rfl ⟨rfl, rfl⟩ hd_X8_isQuiet ⟨(Nat.le_of_ble_eq_true rfl), (Nat.le_of_ble_eq_true rfl)⟩ rfl rfl rfl [0, 1] rfl rfl rfl rfl hl.1 (Nat.le_of_ble_eq_true rfl) ⟨Nat.zero_le _, Nat.zero_le _⟩ dX8_quiet_31 (fun H locs Y => ?_)
      refine lv_if_ne (tgt := 48) hx hb dX8_quiet_34 (by decide) (fun c_5 => ?_) (fun c_5 => ?_)
      · have c_5 : ¬ ((s_isQuiet8_1 ng) = 0) := c_5
        rw [if_neg c_5] at hu
        refine lv_aload_n hx hb dX8_quiet_48 rfl (lv_at hl 0 rfl) ?_
        refine lv_iload_n hx hb dX8_quiet_49 rfl (lv_at hl 1 rfl) ?_
        refine bVI0 (As := [.int 1]) (rest := []) (wc := [(mM, .inr (8, [.ref mN, .ref mR, .ref mA, .ref mP, .int ch, .ref mT, .int le, .int sp, .ref mD])), (mN, .inl (cyI, 515, .inl ng))]) (ci := 8) (q0 := 0) X Y (c_isQuiet8_1 l D cyC cyI mM mN mR mA mP mT mD ch le sp ng (s_isQuiet8_1 ng) rfl) gX8_quiet_X8_isQuiet rfl ⟨rfl, rfl⟩ hd_X8_isQuiet ⟨(Nat.le_of_ble_eq_true rfl), (Nat.le_of_ble_eq_true rfl)⟩ rfl rfl rfl [0, 1] rfl rfl rfl rfl hl.1 (Nat.le_of_ble_eq_true rfl) ⟨Nat.zero_le _, Nat.zero_le _⟩ dX8_quiet_50 (fun H locs Y => ?_)
        refine lv_iconst (v := 1) hx hb dX8_quiet_53 (by decide) ?_
        refine lv_icmp_ne (tgt := 61) hx hb dX8_quiet_54 (by decide) (fun c_6 => ?_) (fun c_6 => ?_)
        · have c_6 : ¬ ((s_isQuiet8_1 ng) = 1) := c_6
          rw [if_neg c_6] at hu
          refine lv_bipush (v := (-4)) hx hb dX8_quiet_61 (by decide) ?_
          refine lv_istore_n (lv' := [(3, .int (-4)), (0, .ref mM), (1, .int 1), (2, .int (nI j))]) hx hb dX8_quiet_63 rfl hl (by decide) rfl (fun ls hl => ?_)
          refine lv_aload_n hx hb dX8_quiet_64 rfl (lv_at hl 1 rfl) ?_
          obtain ⟨u_7_0, hr_7⟩ := bEx1 (s_comesBack8 ng ag)
          rw [hr_7] at hu
          dsimp only at hu
          refine bVV (As := []) (rest := []) (wc := [(mM, .inr (8, [.ref mN, .ref mR, .ref mA, .ref mP, .int ch, .ref mT, .int le, .int sp, .ref mD])), (mN, .inl (cyI, 515, .inl ng)), (mA, .inl (cyI, 33, .inl ag))]) (w1 := [(mM, .inr (8, [.ref mN, .ref mR, .ref mA, .ref mP, .int ch, .ref mT, .int le, .int sp, .ref mD])), (mN, .inl (cyI, 515, .inl u_7_0)), (mA, .inl (cyI, 33, .inl ag))]) (ws' := [(mM, .inr (8, [.ref mN, .ref mR, .ref mA, .ref mP, .int ch, .ref mT, .int le, .int sp, .ref mD])), (mN, .inl (cyI, 515, .inl u_7_0)), (mA, .inl (cyI, 33, .inl ag))]) (ad := [mM, mN, mA]) (wr := []) (nn := 3) (ci := 8) (q0 := 0) X Y (c_comesBack8 l D cyC cyI mM mN mR mA mP mT mD ch le sp ng ag u_7_0 hr_7) gX8_quiet_X8_comesBack rfl ⟨rfl, rfl⟩ hd_X8_comesBack ⟨(Nat.le_of_ble_eq_true rfl), (Nat.le_of_ble_eq_true rfl)⟩ rfl rfl rfl [0, 1, 2] [] rfl rfl rfl rfl rfl rfl rfl rfl (by decide) rfl rfl hl.1 (Nat.le_of_ble_eq_true rfl) ⟨Nat.zero_le _, Nat.zero_le _⟩ dX8_quiet_65 (fun H locs Y => ?_)
          refine lv_iload_n hx hb dX8_quiet_68 rfl (lv_at hl 0 rfl) ?_
          have h9 := (Prod.mk.inj hu).1; replace hu := (Prod.mk.inj hu).2; subst h9
          have h9 := (Prod.mk.inj hu).1; replace hu := (Prod.mk.inj hu).2; subst h9
          subst hu
          exact bEndI X Y hr hlk dX8_quiet_69 rfl rfl
        · have c_6 : (s_isQuiet8_1 ng) = 1 := c_6
          rw [if_pos c_6] at hu
          refine lv_iload_n hx hb dX8_quiet_57 rfl (lv_at hl 2 rfl) ?_
          refine lv_goto (tgt := 63) hx hb dX8_quiet_58 (by decide) ?_
          refine lv_istore_n (lv' := [(3, .int (nI j)), (0, .ref mM), (1, .int 1), (2, .int (nI j))]) hx hb dX8_quiet_63 rfl hl (by decide) rfl (fun ls hl => ?_)
          refine lv_aload_n hx hb dX8_quiet_64 rfl (lv_at hl 1 rfl) ?_
          obtain ⟨u_8_0, hr_8⟩ := bEx1 (s_comesBack8 ng ag)
          rw [hr_8] at hu
          dsimp only at hu
          refine bVV (As := []) (rest := []) (wc := [(mM, .inr (8, [.ref mN, .ref mR, .ref mA, .ref mP, .int ch, .ref mT, .int le, .int sp, .ref mD])), (mN, .inl (cyI, 515, .inl ng)), (mA, .inl (cyI, 33, .inl ag))]) (w1 := [(mM, .inr (8, [.ref mN, .ref mR, .ref mA, .ref mP, .int ch, .ref mT, .int le, .int sp, .ref mD])), (mN, .inl (cyI, 515, .inl u_8_0)), (mA, .inl (cyI, 33, .inl ag))]) (ws' := [(mM, .inr (8, [.ref mN, .ref mR, .ref mA, .ref mP, .int ch, .ref mT, .int le, .int sp, .ref mD])), (mN, .inl (cyI, 515, .inl u_8_0)), (mA, .inl (cyI, 33, .inl ag))]) (ad := [mM, mN, mA]) (wr := []) (nn := 3) (ci := 8) (q0 := 0) X Y (c_comesBack8 l D cyC cyI mM mN mR mA mP mT mD ch le sp ng ag u_8_0 hr_8) gX8_quiet_X8_comesBack rfl ⟨rfl, rfl⟩ hd_X8_comesBack ⟨(Nat.le_of_ble_eq_true rfl), (Nat.le_of_ble_eq_true rfl)⟩ rfl rfl rfl [0, 1, 2] [] rfl rfl rfl rfl rfl rfl rfl rfl (by decide) rfl rfl hl.1 (Nat.le_of_ble_eq_true rfl) ⟨Nat.zero_le _, Nat.zero_le _⟩ dX8_quiet_65 (fun H locs Y => ?_)
          refine lv_iload_n hx hb dX8_quiet_68 rfl (lv_at hl 0 rfl) ?_
          have h9 := (Prod.mk.inj hu).1; replace hu := (Prod.mk.inj hu).2; subst h9
          have h9 := (Prod.mk.inj hu).1; replace hu := (Prod.mk.inj hu).2; subst h9
          subst hu
          exact bEndI X Y hr hlk dX8_quiet_69 rfl rfl
      · have c_5 : (s_isQuiet8_1 ng) = 0 := c_5
        rw [if_pos c_5] at hu
        refine lv_aload_n hx hb dX8_quiet_37 rfl (lv_at hl 0 rfl) ?_
        obtain ⟨u_9_0, u_9_1, hr_9⟩ := bEx2 (s_goesBy8 ng)
        rw [hr_9] at hu
        dsimp only at hu
        have GI_goes_9 := GI_goes hr_9
        refine bVI (As := []) (rest := []) (wc := [(mM, .inr (8, [.ref mN, .ref mR, .ref mA, .ref mP, .int ch, .ref mT, .int le, .int sp, .ref mD])), (mN, .inl (cyI, 515, .inl ng))]) (w1 := [(mM, .inr (8, [.ref mN, .ref mR, .ref mA, .ref mP, .int ch, .ref mT, .int le, .int sp, .ref mD])), (mN, .inl (cyI, 515, .inl u_9_1))]) (ws' := [(mM, .inr (8, [.ref mN, .ref mR, .ref mA, .ref mP, .int ch, .ref mT, .int le, .int sp, .ref mD])), (mN, .inl (cyI, 515, .inl u_9_1)), (mA, .inl (cyI, 33, .inl ag))]) (ad := [mM, mN]) (wr := [(mA, .inl (cyI, 33, .inl ag))]) (nn := 3) (ci := 8) (q0 := 0) X Y (c_goesBy8 l D cyC cyI mM mN mR mA mP mT mD ch le sp ng u_9_0 u_9_1 hr_9 hG.1 hG.2.1 hG.2.2.1 (n10 hG.2.2.2.1.1) (n10 hG.2.2.2.2.1.1)) gX8_quiet_X8_goesBy rfl ⟨rfl, rfl⟩ hd_X8_goesBy ⟨(Nat.le_of_ble_eq_true rfl), (Nat.le_of_ble_eq_true rfl)⟩ rfl rfl rfl [0, 1] [2] rfl rfl rfl rfl rfl rfl rfl rfl (by decide) rfl rfl hl.1 (Nat.le_of_ble_eq_true rfl) ⟨Nat.zero_le _, Nat.zero_le _⟩ dX8_quiet_38 (fun H locs Y => ?_)
        refine lv_pop hx hb dX8_quiet_41 rfl ?_
        refine lv_iinc (v := nI (j + 1)) (lv' := [(2, .int (nI (j + 1))), (0, .ref mM), (1, .int 1)]) hx hb dX8_quiet_42 hl (k := 2) rfl (nI_inc _) (by decide) rfl (fun ls hl => ?_)
        refine lv_goto (tgt := 23) hx hb dX8_quiet_45 (by decide) ?_
        exact ih (j + 1) u_9_1 ag (by omega) (by have := bNle (k := 60) rfl (by omega) (by decide) c_1; omega) (GI_goes_9 hG) hu _ _ _ (lv_sub hl [1, 2, 0] rfl) Y
set_option maxHeartbeats 4000000 in
set_option maxRecDepth 100000 in
theorem c_quiet8_1 (l : Launch) (D : va_G) (cyC cyI : ClassId) (mM : Nat) (mN : Nat) (mR : Nat) (mA : Nat) (mP : Nat) (mT : Nat) (mD : Nat) (ch : Int32) (le : Int32) (sp : Int32) (nw : Nat → Int32) (az : Nat → Int32) (o0 : Int32) (o1 : Nat → Int32) (o2 : Nat → Int32) (hu : s_quiet8_1 nw az = (o0, o1, o2)) (hG : GI nw) : CI l yX8_quiet wsX8_quiet { frames := 5, cells := 0, slots := 0, locals := 112 } D cyC cyI [.ref mM, .int 1] [(mM, .inr (8, [.ref mN, .ref mR, .ref mA, .ref mP, .int ch, .ref mT, .int le, .int sp, .ref mD])), (mN, .inl (cyI, 515, .inl nw)), (mA, .inl (cyI, 33, .inl az))] o0 [(mM, .inr (8, [.ref mN, .ref mR, .ref mA, .ref mP, .int ch, .ref mT, .int le, .int sp, .ref mD])), (mN, .inl (cyI, 515, .inl o1)), (mA, .inl (cyI, 33, .inl o2))] := by
  refine CI.of (cc := cX8_quiet) (n := 4) (ret := (some .int)) (by decide +kernel) rfl (Nat.le_of_ble_eq_true rfl) ?_
  intro p_ e_ s_ m_ bl_ me_ cd_ A_ ls X Y hr hlk hl
  have hx := X.1.1
  have hb := X.1.2.1
  have hl : lv_has ls 4 [(0, .ref mM), (1, .int 1)] := hl
  unfold s_quiet8_1 at hu
  refine lv_iload_n hx hb dX8_quiet_0 rfl (lv_at hl 1 rfl) ?_
  refine bSI (As := [.int 1]) (rest := []) X Y (c_isCrane8 l D cyC cyI 1 (s_isCrane8 1) rfl) gX8_quiet_X8_isCrane rfl ⟨rfl, rfl⟩ hd_X8_isCrane.2 ⟨(Nat.le_of_ble_eq_true rfl), (Nat.le_of_ble_eq_true rfl)⟩ rfl rfl hl.1 (Nat.le_of_ble_eq_true rfl) ⟨Nat.zero_le _, Nat.zero_le _⟩ dX8_quiet_1 (fun H locs Y => ?_)
  refine lv_if_ne (tgt := 9) hx hb dX8_quiet_4 (by decide) (fun c_1 => ?_) (fun c_1 => ?_)
  · have c_1 := bB_t c_1
    rw [if_pos c_1] at hu
    refine lv_aload_n hx hb dX8_quiet_9 rfl (lv_at hl 0 rfl) ?_
    obtain ⟨u_2_0, hr_2⟩ := bEx1 (s_laysAside8 nw az)
    rw [hr_2] at hu
    dsimp only at hu
    refine bVV (As := []) (rest := []) (wc := [(mM, .inr (8, [.ref mN, .ref mR, .ref mA, .ref mP, .int ch, .ref mT, .int le, .int sp, .ref mD])), (mN, .inl (cyI, 515, .inl nw)), (mA, .inl (cyI, 33, .inl az))]) (w1 := [(mM, .inr (8, [.ref mN, .ref mR, .ref mA, .ref mP, .int ch, .ref mT, .int le, .int sp, .ref mD])), (mN, .inl (cyI, 515, .inl nw)), (mA, .inl (cyI, 33, .inl u_2_0))]) (ws' := [(mM, .inr (8, [.ref mN, .ref mR, .ref mA, .ref mP, .int ch, .ref mT, .int le, .int sp, .ref mD])), (mN, .inl (cyI, 515, .inl nw)), (mA, .inl (cyI, 33, .inl u_2_0))]) (ad := [mM, mN, mA]) (wr := []) (nn := 3) (ci := 8) (q0 := 0) X Y (c_laysAside8 l D cyC cyI mM mN mR mA mP mT mD ch le sp nw az u_2_0 hr_2) gX8_quiet_X8_laysAside rfl ⟨rfl, rfl⟩ hd_X8_laysAside ⟨(Nat.le_of_ble_eq_true rfl), (Nat.le_of_ble_eq_true rfl)⟩ rfl rfl rfl [0, 1, 2] [] rfl rfl rfl rfl rfl rfl rfl rfl (by decide) rfl rfl hl.1 (Nat.le_of_ble_eq_true rfl) ⟨Nat.zero_le _, Nat.zero_le _⟩ dX8_quiet_10 (fun H locs Y => ?_)
    refine lv_aload_n hx hb dX8_quiet_13 rfl (lv_at hl 0 rfl) ?_
    refine lv_iload_n hx hb dX8_quiet_14 rfl (lv_at hl 1 rfl) ?_
    refine lv_iconst (v := 0) hx hb dX8_quiet_15 (by decide) ?_
    refine lv_iconst (v := (-1)) hx hb dX8_quiet_16 (by decide) ?_
    obtain ⟨u_3_0, u_3_1, hr_3⟩ := bEx2 (s_commands8n_1 nw 0)
    rw [hr_3] at hu
    dsimp only at hu
    have GI_cmdn_1_3 := GI_cmdn_1 hr_3
    refine bVI (As := [.int 1, .int 0, .int (-1)]) (rest := []) (wc := [(mM, .inr (8, [.ref mN, .ref mR, .ref mA, .ref mP, .int ch, .ref mT, .int le, .int sp, .ref mD])), (mN, .inl (cyI, 515, .inl nw))]) (w1 := [(mM, .inr (8, [.ref mN, .ref mR, .ref mA, .ref mP, .int ch, .ref mT, .int le, .int sp, .ref mD])), (mN, .inl (cyI, 515, .inl u_3_1))]) (ws' := [(mM, .inr (8, [.ref mN, .ref mR, .ref mA, .ref mP, .int ch, .ref mT, .int le, .int sp, .ref mD])), (mN, .inl (cyI, 515, .inl u_3_1)), (mA, .inl (cyI, 33, .inl u_2_0))]) (ad := [mM, mN]) (wr := [(mA, .inl (cyI, 33, .inl u_2_0))]) (nn := 3) (ci := 8) (q0 := 0) X Y (c_commands8n_1 l D cyC cyI mM mN mR mA mP mT mD ch le sp nw 0 u_3_0 u_3_1 hr_3) gX8_quiet_X8_commands rfl ⟨rfl, rfl⟩ hd_X8_commands ⟨(Nat.le_of_ble_eq_true rfl), (Nat.le_of_ble_eq_true rfl)⟩ rfl rfl rfl [0, 1] [2] rfl rfl rfl rfl rfl rfl rfl rfl (by decide) rfl rfl hl.1 (Nat.le_of_ble_eq_true rfl) ⟨Nat.zero_le _, Nat.zero_le _⟩ dX8_quiet_17 (fun H locs Y => ?_)
    refine lv_pop hx hb dX8_quiet_20 rfl ?_
    refine lv_iconst (v := 0) hx hb dX8_quiet_21 (by decide) ?_
    refine lv_istore_n (lv' := [(2, .int 0), (0, .ref mM), (1, .int 1)]) hx hb dX8_quiet_22 rfl hl (by decide) rfl (fun ls hl => ?_)
    exact lp_quiet8_1 l D cyC cyI mM mN mR mA mP mT mD ch le sp nw az o0 o1 o2 X hr hlk hG (61) 0 u_3_1 u_2_0 (by omega) (by omega) (GI_cmdn_1_3 hG) hu _ _ _ (lv_sub hl [1, 2, 0] rfl) Y
  · have c_1 := bB_f c_1
    rw [if_neg c_1] at hu
    refine lv_iconst (v := (-1)) hx hb dX8_quiet_7 (by decide) ?_
    have h9 := (Prod.mk.inj hu).1; replace hu := (Prod.mk.inj hu).2; subst h9
    have h9 := (Prod.mk.inj hu).1; replace hu := (Prod.mk.inj hu).2; subst h9
    subst hu
    exact bEndI X Y hr hlk dX8_quiet_8 rfl rfl
def g_swingsBy8_1 : Nat → Nat → (Nat → Int32) → (Nat → Int32) → Int32 → Int32 × (Nat → Int32) × (Nat → Int32)
  | 0, _, _, _, _ => (0, fun _ => 0, fun _ => 0)
  | n_ + 1, j, ng, ag, mo =>
    if 60 < nI j then
      match s_comesBack8 ng ag with
      | (u_2_0, _) =>
        (mo, u_2_0, ag)
    else
      match s_goesBy8 ng with
      | (u_3_0, u_3_1) =>
        if nI j ≤ 20 then
          g_swingsBy8_1 n_ (j + 1) u_3_1 ag mo
        else
          if (s_size8 (u_3_1 24)) ≤ mo then
            g_swingsBy8_1 n_ (j + 1) u_3_1 ag mo
          else
            g_swingsBy8_1 n_ (j + 1) u_3_1 ag (s_size8 (u_3_1 24))
def s_swingsBy8_1 (nw : Nat → Int32) (az : Nat → Int32) (w : Int32) (pa : Int32) : Int32 × (Nat → Int32) × (Nat → Int32) :=
  match s_laysAside8 nw az with
  | (u_1_0, _) =>
    match s_commands8p_1 nw w pa with
    | (u_2_0, u_2_1) =>
      g_swingsBy8_1 (61) 1 u_2_1 u_1_0 0
set_option maxHeartbeats 4000000 in
set_option maxRecDepth 100000 in
theorem lp_swingsBy8_1 {p_ : Program} {e_ : Env} {s_ : State} {m_ : MethodId} {bl_ : List Frame} {me_ : Method} {cd_ : Code} {A_ : Nat → Prop} (l : Launch) (D : va_G) (cyC cyI : ClassId) (mM : Nat) (mN : Nat) (mR : Nat) (mA : Nat) (mP : Nat) (mT : Nat) (mD : Nat) (ch : Int32) (le : Int32) (sp : Int32) (nw : Nat → Int32) (az : Nat → Int32) (w : Int32) (pa : Int32) (o0 : Int32) (o1 : Nat → Int32) (o2 : Nat → Int32) (X : bX p_ s_ m_ ([.ref mM, .int 1, .int w, .int pa] : List Value).toArray cd_ cX8_swingsBy 6 wsX8_swingsBy yX8_swingsBy.cls D cyC cyI) (hr : me_.sig.returnType = (some .int)) (hlk : me_.locks = false) (hG : GI nw) : ∀ (n_ : Nat) (j : Nat) (ng : Nat → Int32) (ag : Nat → Int32) (mo : Int32) (hN : 62 ≤ j + n_) (hJ : j ≤ 61) (hG : GI ng) (hu : g_swingsBy8_1 n_ j ng ag mo = (o0, o1, o2)) (ls : Array Slot) (H : Heap) (locs : List Loc), lv_has ls 6 [(0, .ref mM), (1, .int 1), (2, .int w), (3, .int pa), (4, .int mo), (5, .int (nI j))] → bY D A_ s_.heap [(mM, .inr (8, [.ref mN, .ref mR, .ref mA, .ref mP, .int ch, .ref mT, .int le, .int sp, .ref mD])), (mN, .inl (cyI, 515, .inl ng)), (mA, .inl (cyI, 33, .inl ag))] H locs → W p_ l e_ ({ frames := 5, cells := 0, slots := 0, locals := 112 } : Room) s_ m_ ([.ref mM, .int 1, .int w, .int pa] : List Value).toArray bl_ me_ cd_ H locs 0 0 (bQI bl_ ([.ref mM, .int 1, .int w, .int pa] : List Value).toArray s_ D [(mM, .inr (8, [.ref mN, .ref mR, .ref mA, .ref mP, .int ch, .ref mT, .int le, .int sp, .ref mD])), (mN, .inl (cyI, 515, .inl o1)), (mA, .inl (cyI, 33, .inl o2))] o0 A_) (F0 m_ 18 ls []) := by
  intro n_
  induction n_ with
  | zero =>
    intro j ng ag mo hN hJ hG hu ls H locs hl Y
    exfalso; omega
  | succ n_ ih =>
    intro j ng ag mo hN hJ hG hu ls H locs hl Y
    have hx := X.1.1
    have hb := X.1.2.1
    rw [g_swingsBy8_1] at hu
    refine lv_iload hx hb dX8_swingsBy_18 (lv_at hl 5 rfl) ?_
    refine lv_bipush (v := 60) hx hb dX8_swingsBy_20 (by decide) ?_
    refine lv_icmp_gt (tgt := 73) hx hb dX8_swingsBy_22 (by decide) (fun c_1 => ?_) (fun c_1 => ?_)
    · have c_1 : 60 < nI j := c_1
      rw [if_pos c_1] at hu
      refine lv_aload_n hx hb dX8_swingsBy_73 rfl (lv_at hl 0 rfl) ?_
      obtain ⟨u_2_0, hr_2⟩ := bEx1 (s_comesBack8 ng ag)
      rw [hr_2] at hu
      dsimp only at hu
      refine bVV (As := []) (rest := []) (wc := [(mM, .inr (8, [.ref mN, .ref mR, .ref mA, .ref mP, .int ch, .ref mT, .int le, .int sp, .ref mD])), (mN, .inl (cyI, 515, .inl ng)), (mA, .inl (cyI, 33, .inl ag))]) (w1 := [(mM, .inr (8, [.ref mN, .ref mR, .ref mA, .ref mP, .int ch, .ref mT, .int le, .int sp, .ref mD])), (mN, .inl (cyI, 515, .inl u_2_0)), (mA, .inl (cyI, 33, .inl ag))]) (ws' := [(mM, .inr (8, [.ref mN, .ref mR, .ref mA, .ref mP, .int ch, .ref mT, .int le, .int sp, .ref mD])), (mN, .inl (cyI, 515, .inl u_2_0)), (mA, .inl (cyI, 33, .inl ag))]) (ad := [mM, mN, mA]) (wr := []) (nn := 3) (ci := 8) (q0 := 0) X Y (c_comesBack8 l D cyC cyI mM mN mR mA mP mT mD ch le sp ng ag u_2_0 hr_2) gX8_swingsBy_X8_comesBack rfl ⟨rfl, rfl⟩ hd_X8_comesBack ⟨(Nat.le_of_ble_eq_true rfl), (Nat.le_of_ble_eq_true rfl)⟩ rfl rfl rfl [0, 1, 2] [] rfl rfl rfl rfl rfl rfl rfl rfl (by decide) rfl rfl hl.1 (Nat.le_of_ble_eq_true rfl) ⟨Nat.zero_le _, Nat.zero_le _⟩ dX8_swingsBy_74 (fun H locs Y => ?_)
      refine lv_iload hx hb dX8_swingsBy_77 (lv_at hl 4 rfl) ?_
      have h9 := (Prod.mk.inj hu).1; replace hu := (Prod.mk.inj hu).2; subst h9
      have h9 := (Prod.mk.inj hu).1; replace hu := (Prod.mk.inj hu).2; subst h9
      subst hu
      exact bEndI X Y hr hlk dX8_swingsBy_79 rfl rfl
    · have c_1 : ¬ (60 < nI j) := c_1
      rw [if_neg c_1] at hu
      refine lv_aload_n hx hb dX8_swingsBy_25 rfl (lv_at hl 0 rfl) ?_
      obtain ⟨u_3_0, u_3_1, hr_3⟩ := bEx2 (s_goesBy8 ng)
      rw [hr_3] at hu
      dsimp only at hu
      have GI_goes_3 := GI_goes hr_3
      refine bVI (As := []) (rest := []) (wc := [(mM, .inr (8, [.ref mN, .ref mR, .ref mA, .ref mP, .int ch, .ref mT, .int le, .int sp, .ref mD])), (mN, .inl (cyI, 515, .inl ng))]) (w1 := [(mM, .inr (8, [.ref mN, .ref mR, .ref mA, .ref mP, .int ch, .ref mT, .int le, .int sp, .ref mD])), (mN, .inl (cyI, 515, .inl u_3_1))]) (ws' := [(mM, .inr (8, [.ref mN, .ref mR, .ref mA, .ref mP, .int ch, .ref mT, .int le, .int sp, .ref mD])), (mN, .inl (cyI, 515, .inl u_3_1)), (mA, .inl (cyI, 33, .inl ag))]) (ad := [mM, mN]) (wr := [(mA, .inl (cyI, 33, .inl ag))]) (nn := 3) (ci := 8) (q0 := 0) X Y (c_goesBy8 l D cyC cyI mM mN mR mA mP mT mD ch le sp ng u_3_0 u_3_1 hr_3 hG.1 hG.2.1 hG.2.2.1 (n10 hG.2.2.2.1.1) (n10 hG.2.2.2.2.1.1)) gX8_swingsBy_X8_goesBy rfl ⟨rfl, rfl⟩ hd_X8_goesBy ⟨(Nat.le_of_ble_eq_true rfl), (Nat.le_of_ble_eq_true rfl)⟩ rfl rfl rfl [0, 1] [2] rfl rfl rfl rfl rfl rfl rfl rfl (by decide) rfl rfl hl.1 (Nat.le_of_ble_eq_true rfl) ⟨Nat.zero_le _, Nat.zero_le _⟩ dX8_swingsBy_26 (fun H locs Y => ?_)
      refine lv_pop hx hb dX8_swingsBy_29 rfl ?_
      refine lv_iload hx hb dX8_swingsBy_30 (lv_at hl 5 rfl) ?_
      refine lv_bipush (v := 20) hx hb dX8_swingsBy_32 (by decide) ?_
      refine lv_icmp_le (tgt := 63) hx hb dX8_swingsBy_34 (by decide) (fun c_4 => ?_) (fun c_4 => ?_)
      · have c_4 : nI j ≤ 20 := c_4
        rw [if_pos c_4] at hu
        refine lv_iload hx hb dX8_swingsBy_63 (lv_at hl 4 rfl) ?_
        refine lv_istore (lv' := [(4, .int mo), (0, .ref mM), (1, .int 1), (2, .int w), (3, .int pa), (5, .int (nI j))]) hx hb dX8_swingsBy_65 hl (by decide) rfl (fun ls hl => ?_)
        refine lv_iinc (v := nI (j + 1)) (lv' := [(5, .int (nI (j + 1))), (4, .int mo), (0, .ref mM), (1, .int 1), (2, .int w), (3, .int pa)]) hx hb dX8_swingsBy_67 hl (k := 5) rfl (nI_inc _) (by decide) rfl (fun ls hl => ?_)
        refine lv_goto (tgt := 18) hx hb dX8_swingsBy_70 (by decide) ?_
        exact ih (j + 1) u_3_1 ag mo (by omega) (by have h9 := bNlt (k := 60) rfl (by omega) (by decide) c_1; omega) (GI_goes_3 hG) hu _ _ _ (lv_sub hl [2, 3, 4, 5, 1, 0] rfl) Y
      · have c_4 : ¬ (nI j ≤ 20) := c_4
        rw [if_neg c_4] at hu
        refine lv_aload_n hx hb dX8_swingsBy_37 rfl (lv_at hl 0 rfl) ?_
        refine lv_iload_n hx hb dX8_swingsBy_38 rfl (lv_at hl 1 rfl) ?_
        refine lv_iconst (v := 4) hx hb dX8_swingsBy_39 (by decide) ?_
        refine bVI0 (As := [.int 1, .int 4]) (rest := []) (wc := [(mM, .inr (8, [.ref mN, .ref mR, .ref mA, .ref mP, .int ch, .ref mT, .int le, .int sp, .ref mD])), (mN, .inl (cyI, 515, .inl u_3_1))]) (ci := 8) (q0 := 0) X Y (c_of8 l D cyC cyI mM mN mR mA mP mT mD ch le sp u_3_1 1 4 (u_3_1 24) (bOf (i := 24) (by decide) rfl) (bInD (by decide))) gX8_swingsBy_X8_of rfl ⟨rfl, rfl⟩ hd_X8_of ⟨(Nat.le_of_ble_eq_true rfl), (Nat.le_of_ble_eq_true rfl)⟩ rfl rfl rfl [0, 1] rfl rfl rfl rfl hl.1 (Nat.le_of_ble_eq_true rfl) ⟨Nat.zero_le _, Nat.zero_le _⟩ dX8_swingsBy_40 (fun H locs Y => ?_)
        refine bSI (As := [.int (u_3_1 24)]) (rest := []) X Y (c_size8 l D cyC cyI (u_3_1 24) (s_size8 (u_3_1 24)) rfl) gX8_swingsBy_X8_size rfl ⟨rfl, rfl⟩ hd_X8_size.2 ⟨(Nat.le_of_ble_eq_true rfl), (Nat.le_of_ble_eq_true rfl)⟩ rfl rfl hl.1 (Nat.le_of_ble_eq_true rfl) ⟨Nat.zero_le _, Nat.zero_le _⟩ dX8_swingsBy_43 (fun H locs Y => ?_)
        refine lv_iload hx hb dX8_swingsBy_46 (lv_at hl 4 rfl) ?_
        refine lv_icmp_le (tgt := 63) hx hb dX8_swingsBy_48 (by decide) (fun c_5 => ?_) (fun c_5 => ?_)
        · have c_5 : (s_size8 (u_3_1 24)) ≤ mo := c_5
          rw [if_pos c_5] at hu
          refine lv_iload hx hb dX8_swingsBy_63 (lv_at hl 4 rfl) ?_
          refine lv_istore (lv' := [(4, .int mo), (0, .ref mM), (1, .int 1), (2, .int w), (3, .int pa), (5, .int (nI j))]) hx hb dX8_swingsBy_65 hl (by decide) rfl (fun ls hl => ?_)
          refine lv_iinc (v := nI (j + 1)) (lv' := [(5, .int (nI (j + 1))), (4, .int mo), (0, .ref mM), (1, .int 1), (2, .int w), (3, .int pa)]) hx hb dX8_swingsBy_67 hl (k := 5) rfl (nI_inc _) (by decide) rfl (fun ls hl => ?_)
          refine lv_goto (tgt := 18) hx hb dX8_swingsBy_70 (by decide) ?_
          exact ih (j + 1) u_3_1 ag mo (by omega) (by have h9 := bNlt (k := 60) rfl (by omega) (by decide) c_1; omega) (GI_goes_3 hG) hu _ _ _ (lv_sub hl [2, 3, 4, 5, 1, 0] rfl) Y
        · have c_5 : ¬ ((s_size8 (u_3_1 24)) ≤ mo) := c_5
          rw [if_neg c_5] at hu
          refine lv_aload_n hx hb dX8_swingsBy_51 rfl (lv_at hl 0 rfl) ?_
          refine lv_iload_n hx hb dX8_swingsBy_52 rfl (lv_at hl 1 rfl) ?_
          refine lv_iconst (v := 4) hx hb dX8_swingsBy_53 (by decide) ?_
          refine bVI0 (As := [.int 1, .int 4]) (rest := []) (wc := [(mM, .inr (8, [.ref mN, .ref mR, .ref mA, .ref mP, .int ch, .ref mT, .int le, .int sp, .ref mD])), (mN, .inl (cyI, 515, .inl u_3_1))]) (ci := 8) (q0 := 0) X Y (c_of8 l D cyC cyI mM mN mR mA mP mT mD ch le sp u_3_1 1 4 (u_3_1 24) (bOf (i := 24) (by decide) rfl) (bInD (by decide))) gX8_swingsBy_X8_of rfl ⟨rfl, rfl⟩ hd_X8_of ⟨(Nat.le_of_ble_eq_true rfl), (Nat.le_of_ble_eq_true rfl)⟩ rfl rfl rfl [0, 1] rfl rfl rfl rfl hl.1 (Nat.le_of_ble_eq_true rfl) ⟨Nat.zero_le _, Nat.zero_le _⟩ dX8_swingsBy_54 (fun H locs Y => ?_)
          refine bSI (As := [.int (u_3_1 24)]) (rest := []) X Y (c_size8 l D cyC cyI (u_3_1 24) (s_size8 (u_3_1 24)) rfl) gX8_swingsBy_X8_size rfl ⟨rfl, rfl⟩ hd_X8_size.2 ⟨(Nat.le_of_ble_eq_true rfl), (Nat.le_of_ble_eq_true rfl)⟩ rfl rfl hl.1 (Nat.le_of_ble_eq_true rfl) ⟨Nat.zero_le _, Nat.zero_le _⟩ dX8_swingsBy_57 (fun H locs Y => ?_)
          refine lv_goto (tgt := 65) hx hb dX8_swingsBy_60 (by decide) ?_
          refine lv_istore (lv' := [(4, .int (s_size8 (u_3_1 24))), (0, .ref mM), (1, .int 1), (2, .int w), (3, .int pa), (5, .int (nI j))]) hx hb dX8_swingsBy_65 hl (by decide) rfl (fun ls hl => ?_)
          refine lv_iinc (v := nI (j + 1)) (lv' := [(5, .int (nI (j + 1))), (4, .int (s_size8 (u_3_1 24))), (0, .ref mM), (1, .int 1), (2, .int w), (3, .int pa)]) hx hb dX8_swingsBy_67 hl (k := 5) rfl (nI_inc _) (by decide) rfl (fun ls hl => ?_)
          refine lv_goto (tgt := 18) hx hb dX8_swingsBy_70 (by decide) ?_
          exact ih (j + 1) u_3_1 ag (s_size8 (u_3_1 24)) (by omega) (by have h9 := bNlt (k := 60) rfl (by omega) (by decide) c_1; omega) (GI_goes_3 hG) hu _ _ _ (lv_sub hl [2, 3, 4, 5, 1, 0] rfl) Y
set_option maxHeartbeats 4000000 in
set_option maxRecDepth 100000 in
theorem c_swingsBy8_1 (l : Launch) (D : va_G) (cyC cyI : ClassId) (mM : Nat) (mN : Nat) (mR : Nat) (mA : Nat) (mP : Nat) (mT : Nat) (mD : Nat) (ch : Int32) (le : Int32) (sp : Int32) (nw : Nat → Int32) (az : Nat → Int32) (w : Int32) (pa : Int32) (o0 : Int32) (o1 : Nat → Int32) (o2 : Nat → Int32) (hu : s_swingsBy8_1 nw az w pa = (o0, o1, o2)) (hG : GI nw) : CI l yX8_swingsBy wsX8_swingsBy { frames := 5, cells := 0, slots := 0, locals := 112 } D cyC cyI [.ref mM, .int 1, .int w, .int pa] [(mM, .inr (8, [.ref mN, .ref mR, .ref mA, .ref mP, .int ch, .ref mT, .int le, .int sp, .ref mD])), (mN, .inl (cyI, 515, .inl nw)), (mA, .inl (cyI, 33, .inl az))] o0 [(mM, .inr (8, [.ref mN, .ref mR, .ref mA, .ref mP, .int ch, .ref mT, .int le, .int sp, .ref mD])), (mN, .inl (cyI, 515, .inl o1)), (mA, .inl (cyI, 33, .inl o2))] := by
  refine CI.of (cc := cX8_swingsBy) (n := 6) (ret := (some .int)) (by decide +kernel) rfl (Nat.le_of_ble_eq_true rfl) ?_
  intro p_ e_ s_ m_ bl_ me_ cd_ A_ ls X Y hr hlk hl
  have hx := X.1.1
  have hb := X.1.2.1
  have hl : lv_has ls 6 [(0, .ref mM), (1, .int 1), (2, .int w), (3, .int pa)] := hl
  unfold s_swingsBy8_1 at hu
  refine lv_aload_n hx hb dX8_swingsBy_0 rfl (lv_at hl 0 rfl) ?_
  obtain ⟨u_1_0, hr_1⟩ := bEx1 (s_laysAside8 nw az)
  rw [hr_1] at hu
  dsimp only at hu
  refine bVV (As := []) (rest := []) (wc := [(mM, .inr (8, [.ref mN, .ref mR, .ref mA, .ref mP, .int ch, .ref mT, .int le, .int sp, .ref mD])), (mN, .inl (cyI, 515, .inl nw)), (mA, .inl (cyI, 33, .inl az))]) (w1 := [(mM, .inr (8, [.ref mN, .ref mR, .ref mA, .ref mP, .int ch, .ref mT, .int le, .int sp, .ref mD])), (mN, .inl (cyI, 515, .inl nw)), (mA, .inl (cyI, 33, .inl u_1_0))]) (ws' := [(mM, .inr (8, [.ref mN, .ref mR, .ref mA, .ref mP, .int ch, .ref mT, .int le, .int sp, .ref mD])), (mN, .inl (cyI, 515, .inl nw)), (mA, .inl (cyI, 33, .inl u_1_0))]) (ad := [mM, mN, mA]) (wr := []) (nn := 3) (ci := 8) (q0 := 0) X Y (c_laysAside8 l D cyC cyI mM mN mR mA mP mT mD ch le sp nw az u_1_0 hr_1) gX8_swingsBy_X8_laysAside rfl ⟨rfl, rfl⟩ hd_X8_laysAside ⟨(Nat.le_of_ble_eq_true rfl), (Nat.le_of_ble_eq_true rfl)⟩ rfl rfl rfl [0, 1, 2] [] rfl rfl rfl rfl rfl rfl rfl rfl (by decide) rfl rfl hl.1 (Nat.le_of_ble_eq_true rfl) ⟨Nat.zero_le _, Nat.zero_le _⟩ dX8_swingsBy_1 (fun H locs Y => ?_)
  refine lv_aload_n hx hb dX8_swingsBy_4 rfl (lv_at hl 0 rfl) ?_
  refine lv_iload_n hx hb dX8_swingsBy_5 rfl (lv_at hl 1 rfl) ?_
  refine lv_iload_n hx hb dX8_swingsBy_6 rfl (lv_at hl 2 rfl) ?_
  refine lv_iload_n hx hb dX8_swingsBy_7 rfl (lv_at hl 3 rfl) ?_
  obtain ⟨u_2_0, u_2_1, hr_2⟩ := bEx2 (s_commands8p_1 nw w pa)
  rw [hr_2] at hu
  dsimp only at hu
  have GI_cmdp_1_2 := GI_cmdp_1 hr_2
  refine bVI (As := [.int 1, .int w, .int pa]) (rest := []) (wc := [(mM, .inr (8, [.ref mN, .ref mR, .ref mA, .ref mP, .int ch, .ref mT, .int le, .int sp, .ref mD])), (mN, .inl (cyI, 515, .inl nw))]) (w1 := [(mM, .inr (8, [.ref mN, .ref mR, .ref mA, .ref mP, .int ch, .ref mT, .int le, .int sp, .ref mD])), (mN, .inl (cyI, 515, .inl u_2_1))]) (ws' := [(mM, .inr (8, [.ref mN, .ref mR, .ref mA, .ref mP, .int ch, .ref mT, .int le, .int sp, .ref mD])), (mN, .inl (cyI, 515, .inl u_2_1)), (mA, .inl (cyI, 33, .inl u_1_0))]) (ad := [mM, mN]) (wr := [(mA, .inl (cyI, 33, .inl u_1_0))]) (nn := 3) (ci := 8) (q0 := 0) X Y (c_commands8p_1 l D cyC cyI mM mN mR mA mP mT mD ch le sp nw w pa u_2_0 u_2_1 hr_2) gX8_swingsBy_X8_commands rfl ⟨rfl, rfl⟩ hd_X8_commands ⟨(Nat.le_of_ble_eq_true rfl), (Nat.le_of_ble_eq_true rfl)⟩ rfl rfl rfl [0, 1] [2] rfl rfl rfl rfl rfl rfl rfl rfl (by decide) rfl rfl hl.1 (Nat.le_of_ble_eq_true rfl) ⟨Nat.zero_le _, Nat.zero_le _⟩ dX8_swingsBy_8 (fun H locs Y => ?_)
  refine lv_pop hx hb dX8_swingsBy_11 rfl ?_
  refine lv_iconst (v := 0) hx hb dX8_swingsBy_12 (by decide) ?_
  refine lv_istore (lv' := [(4, .int 0), (0, .ref mM), (1, .int 1), (2, .int w), (3, .int pa)]) hx hb dX8_swingsBy_13 hl (by decide) rfl (fun ls hl => ?_)
  refine lv_iconst (v := 1) hx hb dX8_swingsBy_15 (by decide) ?_
  refine lv_istore (lv' := [(5, .int 1), (4, .int 0), (0, .ref mM), (1, .int 1), (2, .int w), (3, .int pa)]) hx hb dX8_swingsBy_16 hl (by decide) rfl (fun ls hl => ?_)
  exact lp_swingsBy8_1 l D cyC cyI mM mN mR mA mP mT mD ch le sp nw az w pa o0 o1 o2 X hr hlk hG (61) 1 u_2_1 u_1_0 0 (by omega) (by omega) (GI_cmdp_1_2 hG) hu _ _ _ (lv_sub hl [2, 3, 4, 5, 1, 0] rfl) Y
theorem laG {nw : Nat → Int32} : ∀ (n j : Nat) (ag A : Nat → Int32), 34 ≤ j + n → j ≤ 33 → (∀ i, i < j → ag i = nw i) → g_laysAside8 nw n j ag = (A, ()) → ∀ i, i < 33 → A i = nw i := by
  intro n
  induction n with
  | zero => intro j ag A h1 h2; omega
  | succ n ih =>
    intro j ag A h1 h2 h3 h i hi
    rw [g_laysAside8] at h
    by_cases c1 : 33 ≤ nI j
    · rw [if_pos c1] at h
      have h9 := (Prod.mk.inj h).1
      subst h9
      exact h3 i (Nat.lt_of_lt_of_le hi (Nat.le_of_not_lt fun q => nI_ge q (by decide) c1))
    · rw [if_neg c1] at h
      have c2 := bNle (k := 33) rfl (by omega) (by decide) c1
      refine ih (j + 1) _ A (by omega) (by omega) (fun i hi => ?_) h i hi
      by_cases e : i = j
      · subst e; exact upd_eq
      · rw [upd_ne e]; exact h3 i (by omega)
theorem laK {nw az A : Nat → Int32} (h : s_laysAside8 nw az = (A, ())) : ∀ i, i < 33 → A i = nw i := laG 34 0 az A (by omega) (by omega) (fun i hi => by omega) h
theorem cbG {az : Nat → Int32} : ∀ (n j : Nat) (ng A : Nat → Int32), 34 ≤ j + n → j ≤ 33 → g_comesBack8 az n j ng = (A, ()) → ∀ i, (i < j → A i = ng i) ∧ (j ≤ i → i < 33 → A i = az i) ∧ (33 ≤ i → A i = ng i) := by
  intro n
  induction n with
  | zero => intro j ng A h1 h2; omega
  | succ n ih =>
    intro j ng A h1 h2 h i
    rw [g_comesBack8] at h
    by_cases c1 : 33 ≤ nI j
    · rw [if_pos c1] at h
      have h9 := (Prod.mk.inj h).1
      subst h9
      have c2 : 33 ≤ j := Nat.le_of_not_lt fun q => nI_ge q (by decide) c1
      exact ⟨fun _ => rfl, fun a b => by omega, fun _ => rfl⟩
    · rw [if_neg c1] at h
      have c2 := bNle (k := 33) rfl (by omega) (by decide) c1
      obtain ⟨a1, a2, a3⟩ := ih (j + 1) _ A (by omega) (by omega) h i
      refine ⟨fun hi => ?_, fun b1 b2 => ?_, fun hi => ?_⟩
      · rw [a1 (by omega), upd_ne (by omega)]
      · by_cases e : i = j
        · subst e; rw [a1 (by omega), upd_eq]
        · exact a2 (by omega) b2
      · rw [a3 hi, upd_ne (by omega)]
theorem cbK {nw az A : Nat → Int32} (h : s_comesBack8 nw az = (A, ())) (i : Nat) : (i < 33 → A i = az i) ∧ (33 ≤ i → A i = nw i) :=
  ⟨fun hi => (cbG 34 0 nw A (by omega) (by omega) h i).2.1 (by omega) hi, fun hi => (cbG 34 0 nw A (by omega) (by omega) h i).2.2 hi⟩
theorem GI_congr {nw A : Nat → Int32} (h : ∀ i, i < 33 → A i = nw i) (g : GI nw) : GI A := by
  unfold GI at g ⊢
  rw [h 2 (by omega), h 15 (by omega), h 28 (by omega), h 9 (by omega), h 22 (by omega), h 14 (by omega), h 27 (by omega)]
  exact g
theorem sbG_0 : ∀ (n j : Nat) (ng ag N A : Nat → Int32) (mo r : Int32), 62 ≤ j + n → j ≤ 61 → g_swingsBy8_0 n j ng ag mo = (r, N, A) → ∀ i, i < 33 → N i = ag i := by
  intro n
  induction n with
  | zero => intro j ng ag N A mo r h1 h2; omega
  | succ n ih =>
    intro j ng ag N A mo r h1 h2 h
    rw [g_swingsBy8_0] at h
    by_cases c1 : 60 < nI j
    · rw [if_pos c1] at h
      obtain ⟨u, hu⟩ := bEx1 (s_comesBack8 ng ag)
      rw [hu] at h
      have h9 := (Prod.mk.inj (Prod.mk.inj h).2).1
      subst h9
      exact fun i hi => (cbK hu i).1 hi
    · rw [if_neg c1] at h
      have c2 := bNlt (k := 60) rfl (by omega) (by decide) c1
      obtain ⟨u0, u1, hu⟩ := bEx2 (s_goesBy8 ng)
      rw [hu] at h
      dsimp only at h
      split at h
      · exact ih (j + 1) _ _ _ _ _ _ (by omega) (by omega) h
      · split at h
        · exact ih (j + 1) _ _ _ _ _ _ (by omega) (by omega) h
        · exact ih (j + 1) _ _ _ _ _ _ (by omega) (by omega) h
theorem swK_0 {nw az N A : Nat → Int32} {w pa r : Int32} (h : s_swingsBy8_0 nw az w pa = (r, N, A)) : ∀ i, i < 33 → N i = nw i := by
  unfold s_swingsBy8_0 at h
  obtain ⟨u, hu⟩ := bEx1 (s_laysAside8 nw az)
  rw [hu] at h
  dsimp only at h
  obtain ⟨v0, v1, hv⟩ := bEx2 (s_commands8p_0 nw w pa)
  rw [hv] at h
  dsimp only at h
  intro i hi
  rw [sbG_0 61 1 v1 u N A 0 r (by omega) (by omega) h i hi, laK hu i hi]
theorem sbG_1 : ∀ (n j : Nat) (ng ag N A : Nat → Int32) (mo r : Int32), 62 ≤ j + n → j ≤ 61 → g_swingsBy8_1 n j ng ag mo = (r, N, A) → ∀ i, i < 33 → N i = ag i := by
  intro n
  induction n with
  | zero => intro j ng ag N A mo r h1 h2; omega
  | succ n ih =>
    intro j ng ag N A mo r h1 h2 h
    rw [g_swingsBy8_1] at h
    by_cases c1 : 60 < nI j
    · rw [if_pos c1] at h
      obtain ⟨u, hu⟩ := bEx1 (s_comesBack8 ng ag)
      rw [hu] at h
      have h9 := (Prod.mk.inj (Prod.mk.inj h).2).1
      subst h9
      exact fun i hi => (cbK hu i).1 hi
    · rw [if_neg c1] at h
      have c2 := bNlt (k := 60) rfl (by omega) (by decide) c1
      obtain ⟨u0, u1, hu⟩ := bEx2 (s_goesBy8 ng)
      rw [hu] at h
      dsimp only at h
      split at h
      · exact ih (j + 1) _ _ _ _ _ _ (by omega) (by omega) h
      · split at h
        · exact ih (j + 1) _ _ _ _ _ _ (by omega) (by omega) h
        · exact ih (j + 1) _ _ _ _ _ _ (by omega) (by omega) h
theorem swK_1 {nw az N A : Nat → Int32} {w pa r : Int32} (h : s_swingsBy8_1 nw az w pa = (r, N, A)) : ∀ i, i < 33 → N i = nw i := by
  unfold s_swingsBy8_1 at h
  obtain ⟨u, hu⟩ := bEx1 (s_laysAside8 nw az)
  rw [hu] at h
  dsimp only at h
  obtain ⟨v0, v1, hv⟩ := bEx2 (s_commands8p_1 nw w pa)
  rw [hv] at h
  dsimp only at h
  intro i hi
  rw [sbG_1 61 1 v1 u N A 0 r (by omega) (by omega) h i hi, laK hu i hi]
