theorem hd_X8_takesNumbers : bD1 yX8_takesNumbers RX8 1 := by decide +kernel
theorem i_X8_takesOne_X8 : ∀ w ∈ wsX80, w ∈ wsX8_takesOne := by decide +kernel
theorem f_X8_takesOne_13 : Cond.fieldLink RX8 13 "SwingCranesModel" "read" "[I" ∈ wsX8_takesOne := by decide +kernel
theorem f_X8_takesOne_25 : Cond.fieldLink RX8 25 "SwingCranesModel" "told" "[I" ∈ wsX8_takesOne := by decide +kernel
def s_takesOne8_0 (le : Int32) (sa : Nat ) (rd : Nat → Int32) (tx : Nat → Int32) (td : Nat → Int32) (lo : Int32) (hi : Int32) : Bool × Nat × (Nat → Int32) × (Nat → Int32) :=
  match s_takesNumbers8_1 le sa tx td with
  | (u_1_0, u_1_1, u_1_2) =>
    if u_1_0 = true then
      if (s_in8 (u_1_2 0) lo hi) = true then
        (true, u_1_1, upd rd 0 (u_1_2 0), u_1_2)
      else
        (false, u_1_1, upd rd 0 (rd 0), u_1_2)
    else
      (false, u_1_1, upd rd 0 (rd 0), u_1_2)
set_option maxHeartbeats 4000000 in
set_option maxRecDepth 100000 in
theorem c_takesOne8_0 (l : Launch) (D : va_G) (cyC cyI : ClassId) (mM : Nat) (mN : Nat) (mR : Nat) (mA : Nat) (mP : Nat) (mT : Nat) (mD : Nat) (ch : Int32) (le : Int32) (sa : Nat ) (rd : Nat → Int32) (tx : Nat → Int32) (td : Nat → Int32) (lo : Int32) (hi : Int32) (o0 : Bool) (o1 : Nat) (o2 : Nat → Int32) (o3 : Nat → Int32) (hu : s_takesOne8_0 le sa rd tx td lo hi = (o0, o1, o2, o3)) (hle : le ≤ nI 200) (hsa : sa ≤ 500) : CI l yX8_takesOne wsX8_takesOne { frames := 4, cells := 0, slots := 0, locals := 89 } D cyC cyI [.ref mM, .int 0, .int lo, .int hi] [(mM, .inr (8, [.ref mN, .ref mR, .ref mA, .ref mP, .int ch, .ref mT, .int le, .int (nI sa), .ref mD])), (mR, .inl (cyI, 515, .inl rd)), (mT, .inl (cyI, 200, .inl tx)), (mD, .inl (cyI, 4, .inl td))] (bB o0) [(mM, .inr (8, [.ref mN, .ref mR, .ref mA, .ref mP, .int ch, .ref mT, .int le, .int (nI o1), .ref mD])), (mR, .inl (cyI, 515, .inl o2)), (mT, .inl (cyI, 200, .inl tx)), (mD, .inl (cyI, 4, .inl o3))] := by
  refine CI.of (cc := cX8_takesOne) (n := 5) (ret := (some .boolean)) (by decide +kernel) rfl (Nat.le_of_ble_eq_true rfl) ?_
  intro p_ e_ s_ m_ bl_ me_ cd_ A_ ls X Y hr hlk hl
  have hx := X.1.1
  have hb := X.1.2.1
  have hl : lv_has ls 5 [(0, .ref mM), (1, .int 0), (2, .int lo), (3, .int hi)] := hl
  unfold s_takesOne8_0 at hu
  refine lv_aload_n hx hb dX8_takesOne_0 rfl (lv_at hl 0 rfl) ?_
  refine lv_iconst (v := 1) hx hb dX8_takesOne_1 (by decide) ?_
  obtain ⟨u_1_0, u_1_1, u_1_2, hr_1⟩ := bEx3 (s_takesNumbers8_1 le sa tx td)
  rw [hr_1] at hu
  dsimp only at hu
  have tsK_1_1 := tsK_1 hr_1
  refine bVI (As := [.int 1]) (rest := []) (wc := [(mM, .inr (8, [.ref mN, .ref mR, .ref mA, .ref mP, .int ch, .ref mT, .int le, .int (nI sa), .ref mD])), (mT, .inl (cyI, 200, .inl tx)), (mD, .inl (cyI, 4, .inl td))]) (w1 := [(mM, .inr (8, [.ref mN, .ref mR, .ref mA, .ref mP, .int ch, .ref mT, .int le, .int (nI u_1_1), .ref mD])), (mT, .inl (cyI, 200, .inl tx)), (mD, .inl (cyI, 4, .inl u_1_2))]) (ws' := [(mM, .inr (8, [.ref mN, .ref mR, .ref mA, .ref mP, .int ch, .ref mT, .int le, .int (nI u_1_1), .ref mD])), (mR, .inl (cyI, 515, .inl rd)), (mT, .inl (cyI, 200, .inl tx)), (mD, .inl (cyI, 4, .inl u_1_2))]) (ad := [mM, mT, mD]) (wr := [(mR, .inl (cyI, 515, .inl rd))]) (nn := 4) (ci := 8) (q0 := 0) X Y (c_takesNumbers8_1 l D cyC cyI mM mN mR mA mP mT mD ch le sa tx td u_1_0 u_1_1 u_1_2 hr_1 (by first | assumption | omega | decide) (by first | assumption | omega | decide)) gX8_takesOne_X8_takesNumbers rfl ⟨rfl, rfl⟩ hd_X8_takesNumbers ⟨(Nat.le_of_ble_eq_true rfl), (Nat.le_of_ble_eq_true rfl)⟩ rfl rfl rfl [0, 2, 3] [1] rfl rfl rfl rfl rfl rfl rfl rfl (by decide) rfl rfl hl.1 (Nat.le_of_ble_eq_true rfl) ⟨Nat.zero_le _, Nat.zero_le _⟩ dX8_takesOne_2 (fun H locs Y => ?_)
  refine lv_if_eq (tgt := 26) hx hb dX8_takesOne_5 (by decide) (fun c_2 => ?_) (fun c_2 => ?_)
  · have c_2 := bB_f c_2
    rw [if_neg c_2] at hu
    refine lv_iconst (v := 0) hx hb dX8_takesOne_26 (by decide) ?_
    refine lv_istore (lv' := [(4, .int 0), (0, .ref mM), (1, .int 0), (2, .int lo), (3, .int hi)]) hx hb dX8_takesOne_27 hl (by decide) rfl (fun ls hl => ?_)
    refine lv_aload_n hx hb dX8_takesOne_29 rfl (lv_at hl 1 rfl) ?_
    refine bGet (v := .ref mR) (T := TX8) (N := 9) (ci := 8) X Y i_X8_takesOne_X8 0 rfl rfl 1 (Nat.le_of_ble_eq_true rfl) f_X8_takesOne_13 rfl rfl dX8_takesOne_30 ?_
    refine lv_iload_n hx hb dX8_takesOne_33 rfl (lv_at hl 2 rfl) ?_
    refine lv_iload hx hb dX8_takesOne_34 (lv_at hl 0 rfl) ?_
    refine lv_if_eq (tgt := 48) hx hb dX8_takesOne_36 (by decide) (fun _ => ?_) (fun c_ => absurd (by decide) c_)
    refine lv_aload_n hx hb dX8_takesOne_48 rfl (lv_at hl 1 rfl) ?_
    refine bGet (v := .ref mR) (T := TX8) (N := 9) (ci := 8) X Y i_X8_takesOne_X8 0 rfl rfl 1 (Nat.le_of_ble_eq_true rfl) f_X8_takesOne_13 rfl rfl dX8_takesOne_49 ?_
    refine lv_iload_n hx hb dX8_takesOne_52 rfl (lv_at hl 2 rfl) ?_
    refine bIald (v := rd 0) X Y 1 rfl (bInD (by decide)) dX8_takesOne_53 rfl ?_
    refine bIast (f' := upd rd 0 (rd 0)) (ws' := [(mM, .inr (8, [.ref mN, .ref mR, .ref mA, .ref mP, .int ch, .ref mT, .int le, .int (nI u_1_1), .ref mD])), (mR, .inl (cyI, 515, .inl (upd rd 0 (rd 0)))), (mT, .inl (cyI, 200, .inl tx)), (mD, .inl (cyI, 4, .inl u_1_2))]) X Y 1 rfl (bInD (by decide)) rfl rfl dX8_takesOne_54 (fun H locs Y => ?_)
    refine lv_iload hx hb dX8_takesOne_55 (lv_at hl 0 rfl) ?_
    have h9 := (Prod.mk.inj hu).1; replace hu := (Prod.mk.inj hu).2; subst h9
    have h9 := (Prod.mk.inj hu).1; replace hu := (Prod.mk.inj hu).2; subst h9
    have h9 := (Prod.mk.inj hu).1; replace hu := (Prod.mk.inj hu).2; subst h9
    subst hu
    exact bEndZ X Y hr hlk dX8_takesOne_57 rfl rfl rfl
  · have c_2 := bB_t c_2
    rw [if_pos c_2] at hu
    refine lv_aload_n hx hb dX8_takesOne_8 rfl (lv_at hl 0 rfl) ?_
    refine bGet (v := .ref mD) (T := TX8) (N := 9) (ci := 8) X Y i_X8_takesOne_X8 0 rfl rfl 8 (Nat.le_of_ble_eq_true rfl) f_X8_takesOne_25 rfl rfl dX8_takesOne_9 ?_
    refine lv_iconst (v := 0) hx hb dX8_takesOne_12 (by decide) ?_
    refine bIald (v := u_1_2 0) X Y 3 rfl (bInD (by decide)) dX8_takesOne_13 rfl ?_
    refine lv_iload_n hx hb dX8_takesOne_14 rfl (lv_at hl 2 rfl) ?_
    refine lv_iload_n hx hb dX8_takesOne_15 rfl (lv_at hl 3 rfl) ?_
    refine bSI (As := [.int (u_1_2 0), .int lo, .int hi]) (rest := []) X Y (c_in8 l D cyC cyI (u_1_2 0) lo hi (s_in8 (u_1_2 0) lo hi) rfl) gX8_takesOne_X8_in rfl ⟨rfl, rfl⟩ hd_X8_in.2 ⟨(Nat.le_of_ble_eq_true rfl), (Nat.le_of_ble_eq_true rfl)⟩ rfl rfl hl.1 (Nat.le_of_ble_eq_true rfl) ⟨Nat.zero_le _, Nat.zero_le _⟩ dX8_takesOne_16 (fun H locs Y => ?_)
    refine lv_if_eq (tgt := 26) hx hb dX8_takesOne_19 (by decide) (fun c_3 => ?_) (fun c_3 => ?_)
    · have c_3 := bB_f c_3
      rw [if_neg c_3] at hu
      refine lv_iconst (v := 0) hx hb dX8_takesOne_26 (by decide) ?_
      refine lv_istore (lv' := [(4, .int 0), (0, .ref mM), (1, .int 0), (2, .int lo), (3, .int hi)]) hx hb dX8_takesOne_27 hl (by decide) rfl (fun ls hl => ?_)
      refine lv_aload_n hx hb dX8_takesOne_29 rfl (lv_at hl 1 rfl) ?_
      refine bGet (v := .ref mR) (T := TX8) (N := 9) (ci := 8) X Y i_X8_takesOne_X8 0 rfl rfl 1 (Nat.le_of_ble_eq_true rfl) f_X8_takesOne_13 rfl rfl dX8_takesOne_30 ?_
      refine lv_iload_n hx hb dX8_takesOne_33 rfl (lv_at hl 2 rfl) ?_
      refine lv_iload hx hb dX8_takesOne_34 (lv_at hl 0 rfl) ?_
      refine lv_if_eq (tgt := 48) hx hb dX8_takesOne_36 (by decide) (fun _ => ?_) (fun c_ => absurd (by decide) c_)
      refine lv_aload_n hx hb dX8_takesOne_48 rfl (lv_at hl 1 rfl) ?_
      refine bGet (v := .ref mR) (T := TX8) (N := 9) (ci := 8) X Y i_X8_takesOne_X8 0 rfl rfl 1 (Nat.le_of_ble_eq_true rfl) f_X8_takesOne_13 rfl rfl dX8_takesOne_49 ?_
      refine lv_iload_n hx hb dX8_takesOne_52 rfl (lv_at hl 2 rfl) ?_
      refine bIald (v := rd 0) X Y 1 rfl (bInD (by decide)) dX8_takesOne_53 rfl ?_
      refine bIast (f' := upd rd 0 (rd 0)) (ws' := [(mM, .inr (8, [.ref mN, .ref mR, .ref mA, .ref mP, .int ch, .ref mT, .int le, .int (nI u_1_1), .ref mD])), (mR, .inl (cyI, 515, .inl (upd rd 0 (rd 0)))), (mT, .inl (cyI, 200, .inl tx)), (mD, .inl (cyI, 4, .inl u_1_2))]) X Y 1 rfl (bInD (by decide)) rfl rfl dX8_takesOne_54 (fun H locs Y => ?_)
      refine lv_iload hx hb dX8_takesOne_55 (lv_at hl 0 rfl) ?_
      have h9 := (Prod.mk.inj hu).1; replace hu := (Prod.mk.inj hu).2; subst h9
      have h9 := (Prod.mk.inj hu).1; replace hu := (Prod.mk.inj hu).2; subst h9
      have h9 := (Prod.mk.inj hu).1; replace hu := (Prod.mk.inj hu).2; subst h9
      subst hu
      exact bEndZ X Y hr hlk dX8_takesOne_57 rfl rfl rfl
    · have c_3 := bB_t c_3
      rw [if_pos c_3] at hu
      refine lv_iconst (v := 1) hx hb dX8_takesOne_22 (by decide) ?_
      refine lv_goto (tgt := 27) hx hb dX8_takesOne_23 (by decide) ?_
      refine lv_istore (lv' := [(4, .int 1), (0, .ref mM), (1, .int 0), (2, .int lo), (3, .int hi)]) hx hb dX8_takesOne_27 hl (by decide) rfl (fun ls hl => ?_)
      refine lv_aload_n hx hb dX8_takesOne_29 rfl (lv_at hl 1 rfl) ?_
      refine bGet (v := .ref mR) (T := TX8) (N := 9) (ci := 8) X Y i_X8_takesOne_X8 0 rfl rfl 1 (Nat.le_of_ble_eq_true rfl) f_X8_takesOne_13 rfl rfl dX8_takesOne_30 ?_
      refine lv_iload_n hx hb dX8_takesOne_33 rfl (lv_at hl 2 rfl) ?_
      refine lv_iload hx hb dX8_takesOne_34 (lv_at hl 0 rfl) ?_
      refine lv_if_eq (tgt := 48) hx hb dX8_takesOne_36 (by decide) (fun c_ => absurd c_ (by decide)) (fun _ => ?_)
      refine lv_aload_n hx hb dX8_takesOne_39 rfl (lv_at hl 1 rfl) ?_
      refine bGet (v := .ref mD) (T := TX8) (N := 9) (ci := 8) X Y i_X8_takesOne_X8 0 rfl rfl 8 (Nat.le_of_ble_eq_true rfl) f_X8_takesOne_25 rfl rfl dX8_takesOne_40 ?_
      refine lv_iconst (v := 0) hx hb dX8_takesOne_43 (by decide) ?_
      refine bIald (v := u_1_2 0) X Y 3 rfl (bInD (by decide)) dX8_takesOne_44 rfl ?_
      refine lv_goto (tgt := 54) hx hb dX8_takesOne_45 (by decide) ?_
      refine bIast (f' := upd rd 0 (u_1_2 0)) (ws' := [(mM, .inr (8, [.ref mN, .ref mR, .ref mA, .ref mP, .int ch, .ref mT, .int le, .int (nI u_1_1), .ref mD])), (mR, .inl (cyI, 515, .inl (upd rd 0 (u_1_2 0)))), (mT, .inl (cyI, 200, .inl tx)), (mD, .inl (cyI, 4, .inl u_1_2))]) X Y 1 rfl (bInD (by decide)) rfl rfl dX8_takesOne_54 (fun H locs Y => ?_)
      refine lv_iload hx hb dX8_takesOne_55 (lv_at hl 0 rfl) ?_
      have h9 := (Prod.mk.inj hu).1; replace hu := (Prod.mk.inj hu).2; subst h9
      have h9 := (Prod.mk.inj hu).1; replace hu := (Prod.mk.inj hu).2; subst h9
      have h9 := (Prod.mk.inj hu).1; replace hu := (Prod.mk.inj hu).2; subst h9
      subst hu
      exact bEndZ X Y hr hlk dX8_takesOne_57 rfl rfl rfl
def s_takesOne8_1 (le : Int32) (sa : Nat ) (rd : Nat → Int32) (tx : Nat → Int32) (td : Nat → Int32) (lo : Int32) (hi : Int32) : Bool × Nat × (Nat → Int32) × (Nat → Int32) :=
  match s_takesNumbers8_1 le sa tx td with
  | (u_1_0, u_1_1, u_1_2) =>
    if u_1_0 = true then
      if (s_in8 (u_1_2 0) lo hi) = true then
        (true, u_1_1, upd rd 1 (u_1_2 0), u_1_2)
      else
        (false, u_1_1, upd rd 1 (rd 1), u_1_2)
    else
      (false, u_1_1, upd rd 1 (rd 1), u_1_2)
set_option maxHeartbeats 4000000 in
set_option maxRecDepth 100000 in
theorem c_takesOne8_1 (l : Launch) (D : va_G) (cyC cyI : ClassId) (mM : Nat) (mN : Nat) (mR : Nat) (mA : Nat) (mP : Nat) (mT : Nat) (mD : Nat) (ch : Int32) (le : Int32) (sa : Nat ) (rd : Nat → Int32) (tx : Nat → Int32) (td : Nat → Int32) (lo : Int32) (hi : Int32) (o0 : Bool) (o1 : Nat) (o2 : Nat → Int32) (o3 : Nat → Int32) (hu : s_takesOne8_1 le sa rd tx td lo hi = (o0, o1, o2, o3)) (hle : le ≤ nI 200) (hsa : sa ≤ 500) : CI l yX8_takesOne wsX8_takesOne { frames := 4, cells := 0, slots := 0, locals := 89 } D cyC cyI [.ref mM, .int 1, .int lo, .int hi] [(mM, .inr (8, [.ref mN, .ref mR, .ref mA, .ref mP, .int ch, .ref mT, .int le, .int (nI sa), .ref mD])), (mR, .inl (cyI, 515, .inl rd)), (mT, .inl (cyI, 200, .inl tx)), (mD, .inl (cyI, 4, .inl td))] (bB o0) [(mM, .inr (8, [.ref mN, .ref mR, .ref mA, .ref mP, .int ch, .ref mT, .int le, .int (nI o1), .ref mD])), (mR, .inl (cyI, 515, .inl o2)), (mT, .inl (cyI, 200, .inl tx)), (mD, .inl (cyI, 4, .inl o3))] := by
  refine CI.of (cc := cX8_takesOne) (n := 5) (ret := (some .boolean)) (by decide +kernel) rfl (Nat.le_of_ble_eq_true rfl) ?_
  intro p_ e_ s_ m_ bl_ me_ cd_ A_ ls X Y hr hlk hl
  have hx := X.1.1
  have hb := X.1.2.1
  have hl : lv_has ls 5 [(0, .ref mM), (1, .int 1), (2, .int lo), (3, .int hi)] := hl
  unfold s_takesOne8_1 at hu
  refine lv_aload_n hx hb dX8_takesOne_0 rfl (lv_at hl 0 rfl) ?_
  refine lv_iconst (v := 1) hx hb dX8_takesOne_1 (by decide) ?_
  obtain ⟨u_1_0, u_1_1, u_1_2, hr_1⟩ := bEx3 (s_takesNumbers8_1 le sa tx td)
  rw [hr_1] at hu
  dsimp only at hu
  have tsK_1_1 := tsK_1 hr_1
  refine bVI (As := [.int 1]) (rest := []) (wc := [(mM, .inr (8, [.ref mN, .ref mR, .ref mA, .ref mP, .int ch, .ref mT, .int le, .int (nI sa), .ref mD])), (mT, .inl (cyI, 200, .inl tx)), (mD, .inl (cyI, 4, .inl td))]) (w1 := [(mM, .inr (8, [.ref mN, .ref mR, .ref mA, .ref mP, .int ch, .ref mT, .int le, .int (nI u_1_1), .ref mD])), (mT, .inl (cyI, 200, .inl tx)), (mD, .inl (cyI, 4, .inl u_1_2))]) (ws' := [(mM, .inr (8, [.ref mN, .ref mR, .ref mA, .ref mP, .int ch, .ref mT, .int le, .int (nI u_1_1), .ref mD])), (mR, .inl (cyI, 515, .inl rd)), (mT, .inl (cyI, 200, .inl tx)), (mD, .inl (cyI, 4, .inl u_1_2))]) (ad := [mM, mT, mD]) (wr := [(mR, .inl (cyI, 515, .inl rd))]) (nn := 4) (ci := 8) (q0 := 0) X Y (c_takesNumbers8_1 l D cyC cyI mM mN mR mA mP mT mD ch le sa tx td u_1_0 u_1_1 u_1_2 hr_1 (by first | assumption | omega | decide) (by first | assumption | omega | decide)) gX8_takesOne_X8_takesNumbers rfl ⟨rfl, rfl⟩ hd_X8_takesNumbers ⟨(Nat.le_of_ble_eq_true rfl), (Nat.le_of_ble_eq_true rfl)⟩ rfl rfl rfl [0, 2, 3] [1] rfl rfl rfl rfl rfl rfl rfl rfl (by decide) rfl rfl hl.1 (Nat.le_of_ble_eq_true rfl) ⟨Nat.zero_le _, Nat.zero_le _⟩ dX8_takesOne_2 (fun H locs Y => ?_)
  refine lv_if_eq (tgt := 26) hx hb dX8_takesOne_5 (by decide) (fun c_2 => ?_) (fun c_2 => ?_)
  · have c_2 := bB_f c_2
    rw [if_neg c_2] at hu
    refine lv_iconst (v := 0) hx hb dX8_takesOne_26 (by decide) ?_
    refine lv_istore (lv' := [(4, .int 0), (0, .ref mM), (1, .int 1), (2, .int lo), (3, .int hi)]) hx hb dX8_takesOne_27 hl (by decide) rfl (fun ls hl => ?_)
    refine lv_aload_n hx hb dX8_takesOne_29 rfl (lv_at hl 1 rfl) ?_
    refine bGet (v := .ref mR) (T := TX8) (N := 9) (ci := 8) X Y i_X8_takesOne_X8 0 rfl rfl 1 (Nat.le_of_ble_eq_true rfl) f_X8_takesOne_13 rfl rfl dX8_takesOne_30 ?_
    refine lv_iload_n hx hb dX8_takesOne_33 rfl (lv_at hl 2 rfl) ?_
    refine lv_iload hx hb dX8_takesOne_34 (lv_at hl 0 rfl) ?_
    refine lv_if_eq (tgt := 48) hx hb dX8_takesOne_36 (by decide) (fun _ => ?_) (fun c_ => absurd (by decide) c_)
    refine lv_aload_n hx hb dX8_takesOne_48 rfl (lv_at hl 1 rfl) ?_
    refine bGet (v := .ref mR) (T := TX8) (N := 9) (ci := 8) X Y i_X8_takesOne_X8 0 rfl rfl 1 (Nat.le_of_ble_eq_true rfl) f_X8_takesOne_13 rfl rfl dX8_takesOne_49 ?_
    refine lv_iload_n hx hb dX8_takesOne_52 rfl (lv_at hl 2 rfl) ?_
    refine bIald (v := rd 1) X Y 1 rfl (bInD (by decide)) dX8_takesOne_53 rfl ?_
    refine bIast (f' := upd rd 1 (rd 1)) (ws' := [(mM, .inr (8, [.ref mN, .ref mR, .ref mA, .ref mP, .int ch, .ref mT, .int le, .int (nI u_1_1), .ref mD])), (mR, .inl (cyI, 515, .inl (upd rd 1 (rd 1)))), (mT, .inl (cyI, 200, .inl tx)), (mD, .inl (cyI, 4, .inl u_1_2))]) X Y 1 rfl (bInD (by decide)) rfl rfl dX8_takesOne_54 (fun H locs Y => ?_)
    refine lv_iload hx hb dX8_takesOne_55 (lv_at hl 0 rfl) ?_
    have h9 := (Prod.mk.inj hu).1; replace hu := (Prod.mk.inj hu).2; subst h9
    have h9 := (Prod.mk.inj hu).1; replace hu := (Prod.mk.inj hu).2; subst h9
    have h9 := (Prod.mk.inj hu).1; replace hu := (Prod.mk.inj hu).2; subst h9
    subst hu
    exact bEndZ X Y hr hlk dX8_takesOne_57 rfl rfl rfl
  · have c_2 := bB_t c_2
    rw [if_pos c_2] at hu
    refine lv_aload_n hx hb dX8_takesOne_8 rfl (lv_at hl 0 rfl) ?_
    refine bGet (v := .ref mD) (T := TX8) (N := 9) (ci := 8) X Y i_X8_takesOne_X8 0 rfl rfl 8 (Nat.le_of_ble_eq_true rfl) f_X8_takesOne_25 rfl rfl dX8_takesOne_9 ?_
    refine lv_iconst (v := 0) hx hb dX8_takesOne_12 (by decide) ?_
    refine bIald (v := u_1_2 0) X Y 3 rfl (bInD (by decide)) dX8_takesOne_13 rfl ?_
    refine lv_iload_n hx hb dX8_takesOne_14 rfl (lv_at hl 2 rfl) ?_
    refine lv_iload_n hx hb dX8_takesOne_15 rfl (lv_at hl 3 rfl) ?_
    refine bSI (As := [.int (u_1_2 0), .int lo, .int hi]) (rest := []) X Y (c_in8 l D cyC cyI (u_1_2 0) lo hi (s_in8 (u_1_2 0) lo hi) rfl) gX8_takesOne_X8_in rfl ⟨rfl, rfl⟩ hd_X8_in.2 ⟨(Nat.le_of_ble_eq_true rfl), (Nat.le_of_ble_eq_true rfl)⟩ rfl rfl hl.1 (Nat.le_of_ble_eq_true rfl) ⟨Nat.zero_le _, Nat.zero_le _⟩ dX8_takesOne_16 (fun H locs Y => ?_)
    refine lv_if_eq (tgt := 26) hx hb dX8_takesOne_19 (by decide) (fun c_3 => ?_) (fun c_3 => ?_)
    · have c_3 := bB_f c_3
      rw [if_neg c_3] at hu
      refine lv_iconst (v := 0) hx hb dX8_takesOne_26 (by decide) ?_
      refine lv_istore (lv' := [(4, .int 0), (0, .ref mM), (1, .int 1), (2, .int lo), (3, .int hi)]) hx hb dX8_takesOne_27 hl (by decide) rfl (fun ls hl => ?_)
      refine lv_aload_n hx hb dX8_takesOne_29 rfl (lv_at hl 1 rfl) ?_
      refine bGet (v := .ref mR) (T := TX8) (N := 9) (ci := 8) X Y i_X8_takesOne_X8 0 rfl rfl 1 (Nat.le_of_ble_eq_true rfl) f_X8_takesOne_13 rfl rfl dX8_takesOne_30 ?_
      refine lv_iload_n hx hb dX8_takesOne_33 rfl (lv_at hl 2 rfl) ?_
      refine lv_iload hx hb dX8_takesOne_34 (lv_at hl 0 rfl) ?_
      refine lv_if_eq (tgt := 48) hx hb dX8_takesOne_36 (by decide) (fun _ => ?_) (fun c_ => absurd (by decide) c_)
      refine lv_aload_n hx hb dX8_takesOne_48 rfl (lv_at hl 1 rfl) ?_
      refine bGet (v := .ref mR) (T := TX8) (N := 9) (ci := 8) X Y i_X8_takesOne_X8 0 rfl rfl 1 (Nat.le_of_ble_eq_true rfl) f_X8_takesOne_13 rfl rfl dX8_takesOne_49 ?_
      refine lv_iload_n hx hb dX8_takesOne_52 rfl (lv_at hl 2 rfl) ?_
      refine bIald (v := rd 1) X Y 1 rfl (bInD (by decide)) dX8_takesOne_53 rfl ?_
      refine bIast (f' := upd rd 1 (rd 1)) (ws' := [(mM, .inr (8, [.ref mN, .ref mR, .ref mA, .ref mP, .int ch, .ref mT, .int le, .int (nI u_1_1), .ref mD])), (mR, .inl (cyI, 515, .inl (upd rd 1 (rd 1)))), (mT, .inl (cyI, 200, .inl tx)), (mD, .inl (cyI, 4, .inl u_1_2))]) X Y 1 rfl (bInD (by decide)) rfl rfl dX8_takesOne_54 (fun H locs Y => ?_)
      refine lv_iload hx hb dX8_takesOne_55 (lv_at hl 0 rfl) ?_
      have h9 := (Prod.mk.inj hu).1; replace hu := (Prod.mk.inj hu).2; subst h9
      have h9 := (Prod.mk.inj hu).1; replace hu := (Prod.mk.inj hu).2; subst h9
      have h9 := (Prod.mk.inj hu).1; replace hu := (Prod.mk.inj hu).2; subst h9
      subst hu
      exact bEndZ X Y hr hlk dX8_takesOne_57 rfl rfl rfl
    · have c_3 := bB_t c_3
      rw [if_pos c_3] at hu
      refine lv_iconst (v := 1) hx hb dX8_takesOne_22 (by decide) ?_
      refine lv_goto (tgt := 27) hx hb dX8_takesOne_23 (by decide) ?_
      refine lv_istore (lv' := [(4, .int 1), (0, .ref mM), (1, .int 1), (2, .int lo), (3, .int hi)]) hx hb dX8_takesOne_27 hl (by decide) rfl (fun ls hl => ?_)
      refine lv_aload_n hx hb dX8_takesOne_29 rfl (lv_at hl 1 rfl) ?_
      refine bGet (v := .ref mR) (T := TX8) (N := 9) (ci := 8) X Y i_X8_takesOne_X8 0 rfl rfl 1 (Nat.le_of_ble_eq_true rfl) f_X8_takesOne_13 rfl rfl dX8_takesOne_30 ?_
      refine lv_iload_n hx hb dX8_takesOne_33 rfl (lv_at hl 2 rfl) ?_
      refine lv_iload hx hb dX8_takesOne_34 (lv_at hl 0 rfl) ?_
      refine lv_if_eq (tgt := 48) hx hb dX8_takesOne_36 (by decide) (fun c_ => absurd c_ (by decide)) (fun _ => ?_)
      refine lv_aload_n hx hb dX8_takesOne_39 rfl (lv_at hl 1 rfl) ?_
      refine bGet (v := .ref mD) (T := TX8) (N := 9) (ci := 8) X Y i_X8_takesOne_X8 0 rfl rfl 8 (Nat.le_of_ble_eq_true rfl) f_X8_takesOne_25 rfl rfl dX8_takesOne_40 ?_
      refine lv_iconst (v := 0) hx hb dX8_takesOne_43 (by decide) ?_
      refine bIald (v := u_1_2 0) X Y 3 rfl (bInD (by decide)) dX8_takesOne_44 rfl ?_
      refine lv_goto (tgt := 54) hx hb dX8_takesOne_45 (by decide) ?_
      refine bIast (f' := upd rd 1 (u_1_2 0)) (ws' := [(mM, .inr (8, [.ref mN, .ref mR, .ref mA, .ref mP, .int ch, .ref mT, .int le, .int (nI u_1_1), .ref mD])), (mR, .inl (cyI, 515, .inl (upd rd 1 (u_1_2 0)))), (mT, .inl (cyI, 200, .inl tx)), (mD, .inl (cyI, 4, .inl u_1_2))]) X Y 1 rfl (bInD (by decide)) rfl rfl dX8_takesOne_54 (fun H locs Y => ?_)
      refine lv_iload hx hb dX8_takesOne_55 (lv_at hl 0 rfl) ?_
      have h9 := (Prod.mk.inj hu).1; replace hu := (Prod.mk.inj hu).2; subst h9
      have h9 := (Prod.mk.inj hu).1; replace hu := (Prod.mk.inj hu).2; subst h9
      have h9 := (Prod.mk.inj hu).1; replace hu := (Prod.mk.inj hu).2; subst h9
      subst hu
      exact bEndZ X Y hr hlk dX8_takesOne_57 rfl rfl rfl
theorem puts01 {x : Int32} (h0 : 0 ≤ x.toInt) (h : ¬ 2 ≤ x) : x = 0 ∨ x = 1 := by
  rw [Int32.le_iff_toInt_le, show (2 : Int32).toInt = 2 from by decide] at h
  rcases (show x.toInt = 0 ∨ x.toInt = 1 by omega) with q | q
  · exact Or.inl (Int32.toInt_inj.mp (by rw [q]; rfl))
  · exact Or.inr (Int32.toInt_inj.mp (by rw [q]; rfl))
theorem i_X8_takesCrane_X8 : ∀ w ∈ wsX80, w ∈ wsX8_takesCrane := by decide +kernel
theorem f_X8_takesCrane_25 : Cond.fieldLink RX8 25 "SwingCranesModel" "told" "[I" ∈ wsX8_takesCrane := by decide +kernel
def s_takesCrane8 (le : Int32) (sa : Nat ) (rd : Nat → Int32) (tx : Nat → Int32) (td : Nat → Int32) : Bool × Nat × (Nat → Int32) × (Nat → Int32) :=
  match s_takesNumbers8_4 le sa tx td with
  | (u_1_0, u_1_1, u_1_2) =>
    if u_1_0 = true then
      if 2 ≤ u_1_2 0 then
        (false, u_1_1, rd, u_1_2)
      else
        if (s_in8 (u_1_2 2) 10 60) = true then
          if 100 ≤ u_1_2 3 then
            (false, u_1_1, rd, u_1_2)
          else
            if u_1_2 0 = 0 then
              match s_puts8_0 rd (u_1_2 1) (u_1_2 2) (u_1_2 3) with
              | (u_7_0, _) =>
                (true, u_1_1, u_7_0, u_1_2)
            else
              match s_puts8_1 rd (u_1_2 1) (u_1_2 2) (u_1_2 3) with
              | (u_8_0, _) =>
                (true, u_1_1, u_8_0, u_1_2)
        else
          (false, u_1_1, rd, u_1_2)
    else
      (false, u_1_1, rd, u_1_2)
set_option maxHeartbeats 4000000 in
set_option maxRecDepth 100000 in
theorem c_takesCrane8 (l : Launch) (D : va_G) (cyC cyI : ClassId) (mM : Nat) (mN : Nat) (mR : Nat) (mA : Nat) (mP : Nat) (mT : Nat) (mD : Nat) (ch : Int32) (le : Int32) (sa : Nat ) (rd : Nat → Int32) (tx : Nat → Int32) (td : Nat → Int32) (o0 : Bool) (o1 : Nat) (o2 : Nat → Int32) (o3 : Nat → Int32) (hu : s_takesCrane8 le sa rd tx td = (o0, o1, o2, o3)) (hle : le ≤ nI 200) (hsa : sa ≤ 500) : CI l yX8_takesCrane wsX8_takesCrane { frames := 4, cells := 0, slots := 0, locals := 89 } D cyC cyI [.ref mM] [(mM, .inr (8, [.ref mN, .ref mR, .ref mA, .ref mP, .int ch, .ref mT, .int le, .int (nI sa), .ref mD])), (mR, .inl (cyI, 515, .inl rd)), (mT, .inl (cyI, 200, .inl tx)), (mD, .inl (cyI, 4, .inl td))] (bB o0) [(mM, .inr (8, [.ref mN, .ref mR, .ref mA, .ref mP, .int ch, .ref mT, .int le, .int (nI o1), .ref mD])), (mR, .inl (cyI, 515, .inl o2)), (mT, .inl (cyI, 200, .inl tx)), (mD, .inl (cyI, 4, .inl o3))] := by
  refine CI.of (cc := cX8_takesCrane) (n := 2) (ret := (some .boolean)) (by decide +kernel) rfl (Nat.le_of_ble_eq_true rfl) ?_
  intro p_ e_ s_ m_ bl_ me_ cd_ A_ ls X Y hr hlk hl
  have hx := X.1.1
  have hb := X.1.2.1
  have hl : lv_has ls 2 [(0, .ref mM)] := hl
  unfold s_takesCrane8 at hu
  refine lv_aload_n hx hb dX8_takesCrane_0 rfl (lv_at hl 0 rfl) ?_
  refine lv_iconst (v := 4) hx hb dX8_takesCrane_1 (by decide) ?_
  obtain ⟨u_1_0, u_1_1, u_1_2, hr_1⟩ := bEx3 (s_takesNumbers8_4 le sa tx td)
  rw [hr_1] at hu
  dsimp only at hu
  have tsK_4_1 := tsK_4 hr_1
  refine bVI (As := [.int 4]) (rest := []) (wc := [(mM, .inr (8, [.ref mN, .ref mR, .ref mA, .ref mP, .int ch, .ref mT, .int le, .int (nI sa), .ref mD])), (mT, .inl (cyI, 200, .inl tx)), (mD, .inl (cyI, 4, .inl td))]) (w1 := [(mM, .inr (8, [.ref mN, .ref mR, .ref mA, .ref mP, .int ch, .ref mT, .int le, .int (nI u_1_1), .ref mD])), (mT, .inl (cyI, 200, .inl tx)), (mD, .inl (cyI, 4, .inl u_1_2))]) (ws' := [(mM, .inr (8, [.ref mN, .ref mR, .ref mA, .ref mP, .int ch, .ref mT, .int le, .int (nI u_1_1), .ref mD])), (mR, .inl (cyI, 515, .inl rd)), (mT, .inl (cyI, 200, .inl tx)), (mD, .inl (cyI, 4, .inl u_1_2))]) (ad := [mM, mT, mD]) (wr := [(mR, .inl (cyI, 515, .inl rd))]) (nn := 4) (ci := 8) (q0 := 0) X Y (c_takesNumbers8_4 l D cyC cyI mM mN mR mA mP mT mD ch le sa tx td u_1_0 u_1_1 u_1_2 hr_1 (by first | assumption | omega | decide) (by first | assumption | omega | decide)) gX8_takesCrane_X8_takesNumbers rfl ⟨rfl, rfl⟩ hd_X8_takesNumbers ⟨(Nat.le_of_ble_eq_true rfl), (Nat.le_of_ble_eq_true rfl)⟩ rfl rfl rfl [0, 2, 3] [1] rfl rfl rfl rfl rfl rfl rfl rfl (by decide) rfl rfl hl.1 (Nat.le_of_ble_eq_true rfl) ⟨Nat.zero_le _, Nat.zero_le _⟩ dX8_takesCrane_2 (fun H locs Y => ?_)
  refine lv_if_eq (tgt := 49) hx hb dX8_takesCrane_5 (by decide) (fun c_2 => ?_) (fun c_2 => ?_)
  · have c_2 := bB_f c_2
    rw [if_neg c_2] at hu
    refine lv_iconst (v := 0) hx hb dX8_takesCrane_49 (by decide) ?_
    refine lv_istore_n (lv' := [(1, .int 0), (0, .ref mM)]) hx hb dX8_takesCrane_50 rfl hl (by decide) rfl (fun ls hl => ?_)
    refine lv_iload_n hx hb dX8_takesCrane_51 rfl (lv_at hl 0 rfl) ?_
    refine lv_if_eq (tgt := 83) hx hb dX8_takesCrane_52 (by decide) (fun _ => ?_) (fun c_ => absurd (by decide) c_)
    refine lv_iload_n hx hb dX8_takesCrane_83 rfl (lv_at hl 0 rfl) ?_
    have h9 := (Prod.mk.inj hu).1; replace hu := (Prod.mk.inj hu).2; subst h9
    have h9 := (Prod.mk.inj hu).1; replace hu := (Prod.mk.inj hu).2; subst h9
    have h9 := (Prod.mk.inj hu).1; replace hu := (Prod.mk.inj hu).2; subst h9
    subst hu
    exact bEndZ X Y hr hlk dX8_takesCrane_84 rfl rfl rfl
  · have c_2 := bB_t c_2
    rw [if_pos c_2] at hu
    refine lv_aload_n hx hb dX8_takesCrane_8 rfl (lv_at hl 0 rfl) ?_
    refine bGet (v := .ref mD) (T := TX8) (N := 9) (ci := 8) X Y i_X8_takesCrane_X8 0 rfl rfl 8 (Nat.le_of_ble_eq_true rfl) f_X8_takesCrane_25 rfl rfl dX8_takesCrane_9 ?_
    refine lv_iconst (v := 0) hx hb dX8_takesCrane_12 (by decide) ?_
    refine bIald (v := u_1_2 0) X Y 3 rfl (bInD (by decide)) dX8_takesCrane_13 rfl ?_
    refine lv_iconst (v := 2) hx hb dX8_takesCrane_14 (by decide) ?_
    refine lv_icmp_ge (tgt := 49) hx hb dX8_takesCrane_15 (by decide) (fun c_3 => ?_) (fun c_3 => ?_)
    · have c_3 : 2 ≤ u_1_2 0 := c_3
      rw [if_pos c_3] at hu
      refine lv_iconst (v := 0) hx hb dX8_takesCrane_49 (by decide) ?_
      refine lv_istore_n (lv' := [(1, .int 0), (0, .ref mM)]) hx hb dX8_takesCrane_50 rfl hl (by decide) rfl (fun ls hl => ?_)
      refine lv_iload_n hx hb dX8_takesCrane_51 rfl (lv_at hl 0 rfl) ?_
      refine lv_if_eq (tgt := 83) hx hb dX8_takesCrane_52 (by decide) (fun _ => ?_) (fun c_ => absurd (by decide) c_)
      refine lv_iload_n hx hb dX8_takesCrane_83 rfl (lv_at hl 0 rfl) ?_
      have h9 := (Prod.mk.inj hu).1; replace hu := (Prod.mk.inj hu).2; subst h9
      have h9 := (Prod.mk.inj hu).1; replace hu := (Prod.mk.inj hu).2; subst h9
      have h9 := (Prod.mk.inj hu).1; replace hu := (Prod.mk.inj hu).2; subst h9
      subst hu
      exact bEndZ X Y hr hlk dX8_takesCrane_84 rfl rfl rfl
    · have c_3 : ¬ (2 ≤ u_1_2 0) := c_3
      rw [if_neg c_3] at hu
      refine lv_aload_n hx hb dX8_takesCrane_18 rfl (lv_at hl 0 rfl) ?_
      refine bGet (v := .ref mD) (T := TX8) (N := 9) (ci := 8) X Y i_X8_takesCrane_X8 0 rfl rfl 8 (Nat.le_of_ble_eq_true rfl) f_X8_takesCrane_25 rfl rfl dX8_takesCrane_19 ?_
      refine lv_iconst (v := 2) hx hb dX8_takesCrane_22 (by decide) ?_
      refine bIald (v := u_1_2 2) X Y 3 rfl (bInD (by decide)) dX8_takesCrane_23 rfl ?_
      refine lv_bipush (v := 10) hx hb dX8_takesCrane_24 (by decide) ?_
      refine lv_bipush (v := 60) hx hb dX8_takesCrane_26 (by decide) ?_
      refine bSI (As := [.int (u_1_2 2), .int 10, .int 60]) (rest := []) X Y (c_in8 l D cyC cyI (u_1_2 2) 10 60 (s_in8 (u_1_2 2) 10 60) rfl) gX8_takesCrane_X8_in rfl ⟨rfl, rfl⟩ hd_X8_in.2 ⟨(Nat.le_of_ble_eq_true rfl), (Nat.le_of_ble_eq_true rfl)⟩ rfl rfl hl.1 (Nat.le_of_ble_eq_true rfl) ⟨Nat.zero_le _, Nat.zero_le _⟩ dX8_takesCrane_28 (fun H locs Y => ?_)
      refine lv_if_eq (tgt := 49) hx hb dX8_takesCrane_31 (by decide) (fun c_4 => ?_) (fun c_4 => ?_)
      · have c_4 := bB_f c_4
        rw [if_neg c_4] at hu
        refine lv_iconst (v := 0) hx hb dX8_takesCrane_49 (by decide) ?_
        refine lv_istore_n (lv' := [(1, .int 0), (0, .ref mM)]) hx hb dX8_takesCrane_50 rfl hl (by decide) rfl (fun ls hl => ?_)
        refine lv_iload_n hx hb dX8_takesCrane_51 rfl (lv_at hl 0 rfl) ?_
        refine lv_if_eq (tgt := 83) hx hb dX8_takesCrane_52 (by decide) (fun _ => ?_) (fun c_ => absurd (by decide) c_)
        refine lv_iload_n hx hb dX8_takesCrane_83 rfl (lv_at hl 0 rfl) ?_
        have h9 := (Prod.mk.inj hu).1; replace hu := (Prod.mk.inj hu).2; subst h9
        have h9 := (Prod.mk.inj hu).1; replace hu := (Prod.mk.inj hu).2; subst h9
        have h9 := (Prod.mk.inj hu).1; replace hu := (Prod.mk.inj hu).2; subst h9
        subst hu
        exact bEndZ X Y hr hlk dX8_takesCrane_84 rfl rfl rfl
      · have c_4 := bB_t c_4
        rw [if_pos c_4] at hu
        refine lv_aload_n hx hb dX8_takesCrane_34 rfl (lv_at hl 0 rfl) ?_
        refine bGet (v := .ref mD) (T := TX8) (N := 9) (ci := 8) X Y i_X8_takesCrane_X8 0 rfl rfl 8 (Nat.le_of_ble_eq_true rfl) f_X8_takesCrane_25 rfl rfl dX8_takesCrane_35 ?_
        refine lv_iconst (v := 3) hx hb dX8_takesCrane_38 (by decide) ?_
        refine bIald (v := u_1_2 3) X Y 3 rfl (bInD (by decide)) dX8_takesCrane_39 rfl ?_
        refine lv_bipush (v := 100) hx hb dX8_takesCrane_40 (by decide) ?_
        refine lv_icmp_ge (tgt := 49) hx hb dX8_takesCrane_42 (by decide) (fun c_5 => ?_) (fun c_5 => ?_)
        · have c_5 : 100 ≤ u_1_2 3 := c_5
          rw [if_pos c_5] at hu
          refine lv_iconst (v := 0) hx hb dX8_takesCrane_49 (by decide) ?_
          refine lv_istore_n (lv' := [(1, .int 0), (0, .ref mM)]) hx hb dX8_takesCrane_50 rfl hl (by decide) rfl (fun ls hl => ?_)
          refine lv_iload_n hx hb dX8_takesCrane_51 rfl (lv_at hl 0 rfl) ?_
          refine lv_if_eq (tgt := 83) hx hb dX8_takesCrane_52 (by decide) (fun _ => ?_) (fun c_ => absurd (by decide) c_)
          refine lv_iload_n hx hb dX8_takesCrane_83 rfl (lv_at hl 0 rfl) ?_
          have h9 := (Prod.mk.inj hu).1; replace hu := (Prod.mk.inj hu).2; subst h9
          have h9 := (Prod.mk.inj hu).1; replace hu := (Prod.mk.inj hu).2; subst h9
          have h9 := (Prod.mk.inj hu).1; replace hu := (Prod.mk.inj hu).2; subst h9
          subst hu
          exact bEndZ X Y hr hlk dX8_takesCrane_84 rfl rfl rfl
        · have c_5 : ¬ (100 ≤ u_1_2 3) := c_5
          rw [if_neg c_5] at hu
          refine lv_iconst (v := 1) hx hb dX8_takesCrane_45 (by decide) ?_
          refine lv_goto (tgt := 50) hx hb dX8_takesCrane_46 (by decide) ?_
          refine lv_istore_n (lv' := [(1, .int 1), (0, .ref mM)]) hx hb dX8_takesCrane_50 rfl hl (by decide) rfl (fun ls hl => ?_)
          refine lv_iload_n hx hb dX8_takesCrane_51 rfl (lv_at hl 0 rfl) ?_
          refine lv_if_eq (tgt := 83) hx hb dX8_takesCrane_52 (by decide) (fun c_ => absurd c_ (by decide)) (fun _ => ?_)
          refine lv_aload_n hx hb dX8_takesCrane_55 rfl (lv_at hl 1 rfl) ?_
          refine lv_aload_n hx hb dX8_takesCrane_56 rfl (lv_at hl 1 rfl) ?_
          refine bGet (v := .ref mD) (T := TX8) (N := 9) (ci := 8) X Y i_X8_takesCrane_X8 0 rfl rfl 8 (Nat.le_of_ble_eq_true rfl) f_X8_takesCrane_25 rfl rfl dX8_takesCrane_57 ?_
          refine lv_iconst (v := 0) hx hb dX8_takesCrane_60 (by decide) ?_
          refine bIald (v := u_1_2 0) X Y 3 rfl (bInD (by decide)) dX8_takesCrane_61 rfl ?_
          refine lv_aload_n hx hb dX8_takesCrane_62 rfl (lv_at hl 1 rfl) ?_
          refine bGet (v := .ref mD) (T := TX8) (N := 9) (ci := 8) X Y i_X8_takesCrane_X8 0 rfl rfl 8 (Nat.le_of_ble_eq_true rfl) f_X8_takesCrane_25 rfl rfl dX8_takesCrane_63 ?_
          refine lv_iconst (v := 1) hx hb dX8_takesCrane_66 (by decide) ?_
          refine bIald (v := u_1_2 1) X Y 3 rfl (bInD (by decide)) dX8_takesCrane_67 rfl ?_
          refine lv_aload_n hx hb dX8_takesCrane_68 rfl (lv_at hl 1 rfl) ?_
          refine bGet (v := .ref mD) (T := TX8) (N := 9) (ci := 8) X Y i_X8_takesCrane_X8 0 rfl rfl 8 (Nat.le_of_ble_eq_true rfl) f_X8_takesCrane_25 rfl rfl dX8_takesCrane_69 ?_
          refine lv_iconst (v := 2) hx hb dX8_takesCrane_72 (by decide) ?_
          refine bIald (v := u_1_2 2) X Y 3 rfl (bInD (by decide)) dX8_takesCrane_73 rfl ?_
          refine lv_aload_n hx hb dX8_takesCrane_74 rfl (lv_at hl 1 rfl) ?_
          refine bGet (v := .ref mD) (T := TX8) (N := 9) (ci := 8) X Y i_X8_takesCrane_X8 0 rfl rfl 8 (Nat.le_of_ble_eq_true rfl) f_X8_takesCrane_25 rfl rfl dX8_takesCrane_75 ?_
          refine lv_iconst (v := 3) hx hb dX8_takesCrane_78 (by decide) ?_
          refine bIald (v := u_1_2 3) X Y 3 rfl (bInD (by decide)) dX8_takesCrane_79 rfl ?_
          have h01 := puts01 (tsD_4 hr_1 c_2 (by omega)).1 c_3
          by_cases c_6 : u_1_2 0 = 0
          · rw [if_pos c_6] at hu
            rw [c_6]
            obtain ⟨u_7_0, hr_7⟩ := bEx1 (s_puts8_0 rd (u_1_2 1) (u_1_2 2) (u_1_2 3))
            rw [hr_7] at hu
            dsimp only at hu
            refine bVV (As := [.int 0, .int (u_1_2 1), .int (u_1_2 2), .int (u_1_2 3)]) (rest := []) (wc := [(mM, .inr (8, [.ref mN, .ref mR, .ref mA, .ref mP, .int ch, .ref mT, .int le, .int (nI u_1_1), .ref mD])), (mR, .inl (cyI, 515, .inl rd))]) (w1 := [(mM, .inr (8, [.ref mN, .ref mR, .ref mA, .ref mP, .int ch, .ref mT, .int le, .int (nI u_1_1), .ref mD])), (mR, .inl (cyI, 515, .inl u_7_0))]) (ws' := [(mM, .inr (8, [.ref mN, .ref mR, .ref mA, .ref mP, .int ch, .ref mT, .int le, .int (nI u_1_1), .ref mD])), (mR, .inl (cyI, 515, .inl u_7_0)), (mT, .inl (cyI, 200, .inl tx)), (mD, .inl (cyI, 4, .inl u_1_2))]) (ad := [mM, mR]) (wr := [(mT, .inl (cyI, 200, .inl tx)), (mD, .inl (cyI, 4, .inl u_1_2))]) (nn := 4) (ci := 8) (q0 := 0) X Y (c_puts8_0 l D cyC cyI mM mN mR mA mP mT mD ch le (nI u_1_1) rd (u_1_2 1) (u_1_2 2) (u_1_2 3) u_7_0 hr_7) gX8_takesCrane_X8_puts rfl ⟨rfl, rfl⟩ hd_X8_puts ⟨(Nat.le_of_ble_eq_true rfl), (Nat.le_of_ble_eq_true rfl)⟩ rfl rfl rfl [0, 1] [2, 3] rfl rfl rfl rfl rfl rfl rfl rfl (by decide) rfl rfl hl.1 (Nat.le_of_ble_eq_true rfl) ⟨Nat.zero_le _, Nat.zero_le _⟩ dX8_takesCrane_80 (fun H locs Y => ?_)
            refine lv_iload_n hx hb dX8_takesCrane_83 rfl (lv_at hl 0 rfl) ?_
            have h9 := (Prod.mk.inj hu).1; replace hu := (Prod.mk.inj hu).2; subst h9
            have h9 := (Prod.mk.inj hu).1; replace hu := (Prod.mk.inj hu).2; subst h9
            have h9 := (Prod.mk.inj hu).1; replace hu := (Prod.mk.inj hu).2; subst h9
            subst hu
            exact bEndZ X Y hr hlk dX8_takesCrane_84 rfl rfl rfl
          · rw [if_neg c_6] at hu
            rw [h01.resolve_left c_6]
            obtain ⟨u_8_0, hr_8⟩ := bEx1 (s_puts8_1 rd (u_1_2 1) (u_1_2 2) (u_1_2 3))
            rw [hr_8] at hu
            dsimp only at hu
            refine bVV (As := [.int 1, .int (u_1_2 1), .int (u_1_2 2), .int (u_1_2 3)]) (rest := []) (wc := [(mM, .inr (8, [.ref mN, .ref mR, .ref mA, .ref mP, .int ch, .ref mT, .int le, .int (nI u_1_1), .ref mD])), (mR, .inl (cyI, 515, .inl rd))]) (w1 := [(mM, .inr (8, [.ref mN, .ref mR, .ref mA, .ref mP, .int ch, .ref mT, .int le, .int (nI u_1_1), .ref mD])), (mR, .inl (cyI, 515, .inl u_8_0))]) (ws' := [(mM, .inr (8, [.ref mN, .ref mR, .ref mA, .ref mP, .int ch, .ref mT, .int le, .int (nI u_1_1), .ref mD])), (mR, .inl (cyI, 515, .inl u_8_0)), (mT, .inl (cyI, 200, .inl tx)), (mD, .inl (cyI, 4, .inl u_1_2))]) (ad := [mM, mR]) (wr := [(mT, .inl (cyI, 200, .inl tx)), (mD, .inl (cyI, 4, .inl u_1_2))]) (nn := 4) (ci := 8) (q0 := 0) X Y (c_puts8_1 l D cyC cyI mM mN mR mA mP mT mD ch le (nI u_1_1) rd (u_1_2 1) (u_1_2 2) (u_1_2 3) u_8_0 hr_8) gX8_takesCrane_X8_puts rfl ⟨rfl, rfl⟩ hd_X8_puts ⟨(Nat.le_of_ble_eq_true rfl), (Nat.le_of_ble_eq_true rfl)⟩ rfl rfl rfl [0, 1] [2, 3] rfl rfl rfl rfl rfl rfl rfl rfl (by decide) rfl rfl hl.1 (Nat.le_of_ble_eq_true rfl) ⟨Nat.zero_le _, Nat.zero_le _⟩ dX8_takesCrane_80 (fun H locs Y => ?_)
            refine lv_iload_n hx hb dX8_takesCrane_83 rfl (lv_at hl 0 rfl) ?_
            have h9 := (Prod.mk.inj hu).1; replace hu := (Prod.mk.inj hu).2; subst h9
            have h9 := (Prod.mk.inj hu).1; replace hu := (Prod.mk.inj hu).2; subst h9
            have h9 := (Prod.mk.inj hu).1; replace hu := (Prod.mk.inj hu).2; subst h9
            subst hu
            exact bEndZ X Y hr hlk dX8_takesCrane_84 rfl rfl rfl
theorem i_X8_takesMost_X8 : ∀ w ∈ wsX80, w ∈ wsX8_takesMost := by decide +kernel
theorem f_X8_takesMost_25 : Cond.fieldLink RX8 25 "SwingCranesModel" "told" "[I" ∈ wsX8_takesMost := by decide +kernel
theorem f_X8_takesMost_13 : Cond.fieldLink RX8 13 "SwingCranesModel" "read" "[I" ∈ wsX8_takesMost := by decide +kernel
def s_takesMost8 (le : Int32) (sa : Nat ) (rd : Nat → Int32) (tx : Nat → Int32) (td : Nat → Int32) : Bool × Nat × (Nat → Int32) × (Nat → Int32) :=
  match s_takesNumbers8_3 le sa tx td with
  | (u_1_0, u_1_1, u_1_2) =>
    if u_1_0 = true then
      if (s_in8 (u_1_2 0) 1 9) = true then
        if (s_in8 (u_1_2 1) 1 40) = true then
          if 40 < u_1_2 2 then
            (false, u_1_1, rd, u_1_2)
          else
            (true, u_1_1, upd (upd (upd rd 2 (u_1_2 0)) 3 (u_1_2 1)) 4 (u_1_2 2), u_1_2)
        else
          (false, u_1_1, rd, u_1_2)
      else
        (false, u_1_1, rd, u_1_2)
    else
      (false, u_1_1, rd, u_1_2)
set_option maxHeartbeats 4000000 in
set_option maxRecDepth 100000 in
theorem c_takesMost8 (l : Launch) (D : va_G) (cyC cyI : ClassId) (mM : Nat) (mN : Nat) (mR : Nat) (mA : Nat) (mP : Nat) (mT : Nat) (mD : Nat) (ch : Int32) (le : Int32) (sa : Nat ) (rd : Nat → Int32) (tx : Nat → Int32) (td : Nat → Int32) (o0 : Bool) (o1 : Nat) (o2 : Nat → Int32) (o3 : Nat → Int32) (hu : s_takesMost8 le sa rd tx td = (o0, o1, o2, o3)) (hle : le ≤ nI 200) (hsa : sa ≤ 500) : CI l yX8_takesMost wsX8_takesMost { frames := 4, cells := 0, slots := 0, locals := 89 } D cyC cyI [.ref mM] [(mM, .inr (8, [.ref mN, .ref mR, .ref mA, .ref mP, .int ch, .ref mT, .int le, .int (nI sa), .ref mD])), (mR, .inl (cyI, 515, .inl rd)), (mT, .inl (cyI, 200, .inl tx)), (mD, .inl (cyI, 4, .inl td))] (bB o0) [(mM, .inr (8, [.ref mN, .ref mR, .ref mA, .ref mP, .int ch, .ref mT, .int le, .int (nI o1), .ref mD])), (mR, .inl (cyI, 515, .inl o2)), (mT, .inl (cyI, 200, .inl tx)), (mD, .inl (cyI, 4, .inl o3))] := by
  refine CI.of (cc := cX8_takesMost) (n := 3) (ret := (some .boolean)) (by decide +kernel) rfl (Nat.le_of_ble_eq_true rfl) ?_
  intro p_ e_ s_ m_ bl_ me_ cd_ A_ ls X Y hr hlk hl
  have hx := X.1.1
  have hb := X.1.2.1
  have hl : lv_has ls 3 [(0, .ref mM)] := hl
  unfold s_takesMost8 at hu
  refine lv_aload_n hx hb dX8_takesMost_0 rfl (lv_at hl 0 rfl) ?_
  refine lv_iconst (v := 3) hx hb dX8_takesMost_1 (by decide) ?_
  obtain ⟨u_1_0, u_1_1, u_1_2, hr_1⟩ := bEx3 (s_takesNumbers8_3 le sa tx td)
  rw [hr_1] at hu
  dsimp only at hu
  have tsK_3_1 := tsK_3 hr_1
  refine bVI (As := [.int 3]) (rest := []) (wc := [(mM, .inr (8, [.ref mN, .ref mR, .ref mA, .ref mP, .int ch, .ref mT, .int le, .int (nI sa), .ref mD])), (mT, .inl (cyI, 200, .inl tx)), (mD, .inl (cyI, 4, .inl td))]) (w1 := [(mM, .inr (8, [.ref mN, .ref mR, .ref mA, .ref mP, .int ch, .ref mT, .int le, .int (nI u_1_1), .ref mD])), (mT, .inl (cyI, 200, .inl tx)), (mD, .inl (cyI, 4, .inl u_1_2))]) (ws' := [(mM, .inr (8, [.ref mN, .ref mR, .ref mA, .ref mP, .int ch, .ref mT, .int le, .int (nI u_1_1), .ref mD])), (mR, .inl (cyI, 515, .inl rd)), (mT, .inl (cyI, 200, .inl tx)), (mD, .inl (cyI, 4, .inl u_1_2))]) (ad := [mM, mT, mD]) (wr := [(mR, .inl (cyI, 515, .inl rd))]) (nn := 4) (ci := 8) (q0 := 0) X Y (c_takesNumbers8_3 l D cyC cyI mM mN mR mA mP mT mD ch le sa tx td u_1_0 u_1_1 u_1_2 hr_1 (by first | assumption | omega | decide) (by first | assumption | omega | decide)) gX8_takesMost_X8_takesNumbers rfl ⟨rfl, rfl⟩ hd_X8_takesNumbers ⟨(Nat.le_of_ble_eq_true rfl), (Nat.le_of_ble_eq_true rfl)⟩ rfl rfl rfl [0, 2, 3] [1] rfl rfl rfl rfl rfl rfl rfl rfl (by decide) rfl rfl hl.1 (Nat.le_of_ble_eq_true rfl) ⟨Nat.zero_le _, Nat.zero_le _⟩ dX8_takesMost_2 (fun H locs Y => ?_)
  refine lv_if_eq (tgt := 53) hx hb dX8_takesMost_5 (by decide) (fun c_2 => ?_) (fun c_2 => ?_)
  · have c_2 := bB_f c_2
    rw [if_neg c_2] at hu
    refine lv_iconst (v := 0) hx hb dX8_takesMost_53 (by decide) ?_
    refine lv_istore_n (lv' := [(1, .int 0), (0, .ref mM)]) hx hb dX8_takesMost_54 rfl hl (by decide) rfl (fun ls hl => ?_)
    refine lv_iconst (v := 0) hx hb dX8_takesMost_55 (by decide) ?_
    refine lv_istore_n (lv' := [(2, .int 0), (1, .int 0), (0, .ref mM)]) hx hb dX8_takesMost_56 rfl hl (by decide) rfl (fun ls hl => ?_)
    refine lv_iload_n hx hb dX8_takesMost_57 rfl (lv_at hl 0 rfl) ?_
    refine lv_iconst (v := 3) hx hb dX8_takesMost_58 (by decide) ?_
    refine lv_icmp_ge (tgt := 86) hx hb dX8_takesMost_59 (by decide) (fun c_ => absurd c_ (by decide)) (fun _ => ?_)
    refine lv_iload_n hx hb dX8_takesMost_62 rfl (lv_at hl 1 rfl) ?_
    refine lv_if_eq (tgt := 86) hx hb dX8_takesMost_63 (by decide) (fun _ => ?_) (fun c_ => absurd (by decide) c_)
    refine lv_iload_n hx hb dX8_takesMost_86 rfl (lv_at hl 1 rfl) ?_
    have h9 := (Prod.mk.inj hu).1; replace hu := (Prod.mk.inj hu).2; subst h9
    have h9 := (Prod.mk.inj hu).1; replace hu := (Prod.mk.inj hu).2; subst h9
    have h9 := (Prod.mk.inj hu).1; replace hu := (Prod.mk.inj hu).2; subst h9
    subst hu
    exact bEndZ X Y hr hlk dX8_takesMost_87 rfl rfl rfl
  · have c_2 := bB_t c_2
    rw [if_pos c_2] at hu
    refine lv_aload_n hx hb dX8_takesMost_8 rfl (lv_at hl 0 rfl) ?_
    refine bGet (v := .ref mD) (T := TX8) (N := 9) (ci := 8) X Y i_X8_takesMost_X8 0 rfl rfl 8 (Nat.le_of_ble_eq_true rfl) f_X8_takesMost_25 rfl rfl dX8_takesMost_9 ?_
    refine lv_iconst (v := 0) hx hb dX8_takesMost_12 (by decide) ?_
    refine bIald (v := u_1_2 0) X Y 3 rfl (bInD (by decide)) dX8_takesMost_13 rfl ?_
    refine lv_iconst (v := 1) hx hb dX8_takesMost_14 (by decide) ?_
    refine lv_bipush (v := 9) hx hb dX8_takesMost_15 (by decide) ?_
    refine bSI (As := [.int (u_1_2 0), .int 1, .int 9]) (rest := []) X Y (c_in8 l D cyC cyI (u_1_2 0) 1 9 (s_in8 (u_1_2 0) 1 9) rfl) gX8_takesMost_X8_in rfl ⟨rfl, rfl⟩ hd_X8_in.2 ⟨(Nat.le_of_ble_eq_true rfl), (Nat.le_of_ble_eq_true rfl)⟩ rfl rfl hl.1 (Nat.le_of_ble_eq_true rfl) ⟨Nat.zero_le _, Nat.zero_le _⟩ dX8_takesMost_17 (fun H locs Y => ?_)
    refine lv_if_eq (tgt := 53) hx hb dX8_takesMost_20 (by decide) (fun c_3 => ?_) (fun c_3 => ?_)
    · have c_3 := bB_f c_3
      rw [if_neg c_3] at hu
      refine lv_iconst (v := 0) hx hb dX8_takesMost_53 (by decide) ?_
      refine lv_istore_n (lv' := [(1, .int 0), (0, .ref mM)]) hx hb dX8_takesMost_54 rfl hl (by decide) rfl (fun ls hl => ?_)
      refine lv_iconst (v := 0) hx hb dX8_takesMost_55 (by decide) ?_
      refine lv_istore_n (lv' := [(2, .int 0), (1, .int 0), (0, .ref mM)]) hx hb dX8_takesMost_56 rfl hl (by decide) rfl (fun ls hl => ?_)
      refine lv_iload_n hx hb dX8_takesMost_57 rfl (lv_at hl 0 rfl) ?_
      refine lv_iconst (v := 3) hx hb dX8_takesMost_58 (by decide) ?_
      refine lv_icmp_ge (tgt := 86) hx hb dX8_takesMost_59 (by decide) (fun c_ => absurd c_ (by decide)) (fun _ => ?_)
      refine lv_iload_n hx hb dX8_takesMost_62 rfl (lv_at hl 1 rfl) ?_
      refine lv_if_eq (tgt := 86) hx hb dX8_takesMost_63 (by decide) (fun _ => ?_) (fun c_ => absurd (by decide) c_)
      refine lv_iload_n hx hb dX8_takesMost_86 rfl (lv_at hl 1 rfl) ?_
      have h9 := (Prod.mk.inj hu).1; replace hu := (Prod.mk.inj hu).2; subst h9
      have h9 := (Prod.mk.inj hu).1; replace hu := (Prod.mk.inj hu).2; subst h9
      have h9 := (Prod.mk.inj hu).1; replace hu := (Prod.mk.inj hu).2; subst h9
      subst hu
      exact bEndZ X Y hr hlk dX8_takesMost_87 rfl rfl rfl
    · have c_3 := bB_t c_3
      rw [if_pos c_3] at hu
      refine lv_aload_n hx hb dX8_takesMost_23 rfl (lv_at hl 0 rfl) ?_
      refine bGet (v := .ref mD) (T := TX8) (N := 9) (ci := 8) X Y i_X8_takesMost_X8 0 rfl rfl 8 (Nat.le_of_ble_eq_true rfl) f_X8_takesMost_25 rfl rfl dX8_takesMost_24 ?_
      refine lv_iconst (v := 1) hx hb dX8_takesMost_27 (by decide) ?_
      refine bIald (v := u_1_2 1) X Y 3 rfl (bInD (by decide)) dX8_takesMost_28 rfl ?_
      refine lv_iconst (v := 1) hx hb dX8_takesMost_29 (by decide) ?_
      refine lv_bipush (v := 40) hx hb dX8_takesMost_30 (by decide) ?_
      refine bSI (As := [.int (u_1_2 1), .int 1, .int 40]) (rest := []) X Y (c_in8 l D cyC cyI (u_1_2 1) 1 40 (s_in8 (u_1_2 1) 1 40) rfl) gX8_takesMost_X8_in rfl ⟨rfl, rfl⟩ hd_X8_in.2 ⟨(Nat.le_of_ble_eq_true rfl), (Nat.le_of_ble_eq_true rfl)⟩ rfl rfl hl.1 (Nat.le_of_ble_eq_true rfl) ⟨Nat.zero_le _, Nat.zero_le _⟩ dX8_takesMost_32 (fun H locs Y => ?_)
      refine lv_if_eq (tgt := 53) hx hb dX8_takesMost_35 (by decide) (fun c_4 => ?_) (fun c_4 => ?_)
      · have c_4 := bB_f c_4
        rw [if_neg c_4] at hu
        refine lv_iconst (v := 0) hx hb dX8_takesMost_53 (by decide) ?_
        refine lv_istore_n (lv' := [(1, .int 0), (0, .ref mM)]) hx hb dX8_takesMost_54 rfl hl (by decide) rfl (fun ls hl => ?_)
        refine lv_iconst (v := 0) hx hb dX8_takesMost_55 (by decide) ?_
        refine lv_istore_n (lv' := [(2, .int 0), (1, .int 0), (0, .ref mM)]) hx hb dX8_takesMost_56 rfl hl (by decide) rfl (fun ls hl => ?_)
        refine lv_iload_n hx hb dX8_takesMost_57 rfl (lv_at hl 0 rfl) ?_
        refine lv_iconst (v := 3) hx hb dX8_takesMost_58 (by decide) ?_
        refine lv_icmp_ge (tgt := 86) hx hb dX8_takesMost_59 (by decide) (fun c_ => absurd c_ (by decide)) (fun _ => ?_)
        refine lv_iload_n hx hb dX8_takesMost_62 rfl (lv_at hl 1 rfl) ?_
        refine lv_if_eq (tgt := 86) hx hb dX8_takesMost_63 (by decide) (fun _ => ?_) (fun c_ => absurd (by decide) c_)
        refine lv_iload_n hx hb dX8_takesMost_86 rfl (lv_at hl 1 rfl) ?_
        have h9 := (Prod.mk.inj hu).1; replace hu := (Prod.mk.inj hu).2; subst h9
        have h9 := (Prod.mk.inj hu).1; replace hu := (Prod.mk.inj hu).2; subst h9
        have h9 := (Prod.mk.inj hu).1; replace hu := (Prod.mk.inj hu).2; subst h9
        subst hu
        exact bEndZ X Y hr hlk dX8_takesMost_87 rfl rfl rfl
      · have c_4 := bB_t c_4
        rw [if_pos c_4] at hu
        refine lv_aload_n hx hb dX8_takesMost_38 rfl (lv_at hl 0 rfl) ?_
        refine bGet (v := .ref mD) (T := TX8) (N := 9) (ci := 8) X Y i_X8_takesMost_X8 0 rfl rfl 8 (Nat.le_of_ble_eq_true rfl) f_X8_takesMost_25 rfl rfl dX8_takesMost_39 ?_
        refine lv_iconst (v := 2) hx hb dX8_takesMost_42 (by decide) ?_
        refine bIald (v := u_1_2 2) X Y 3 rfl (bInD (by decide)) dX8_takesMost_43 rfl ?_
        refine lv_bipush (v := 40) hx hb dX8_takesMost_44 (by decide) ?_
        refine lv_icmp_gt (tgt := 53) hx hb dX8_takesMost_46 (by decide) (fun c_5 => ?_) (fun c_5 => ?_)
        · have c_5 : 40 < u_1_2 2 := c_5
          rw [if_pos c_5] at hu
          refine lv_iconst (v := 0) hx hb dX8_takesMost_53 (by decide) ?_
          refine lv_istore_n (lv' := [(1, .int 0), (0, .ref mM)]) hx hb dX8_takesMost_54 rfl hl (by decide) rfl (fun ls hl => ?_)
          refine lv_iconst (v := 0) hx hb dX8_takesMost_55 (by decide) ?_
          refine lv_istore_n (lv' := [(2, .int 0), (1, .int 0), (0, .ref mM)]) hx hb dX8_takesMost_56 rfl hl (by decide) rfl (fun ls hl => ?_)
          refine lv_iload_n hx hb dX8_takesMost_57 rfl (lv_at hl 0 rfl) ?_
          refine lv_iconst (v := 3) hx hb dX8_takesMost_58 (by decide) ?_
          refine lv_icmp_ge (tgt := 86) hx hb dX8_takesMost_59 (by decide) (fun c_ => absurd c_ (by decide)) (fun _ => ?_)
          refine lv_iload_n hx hb dX8_takesMost_62 rfl (lv_at hl 1 rfl) ?_
          refine lv_if_eq (tgt := 86) hx hb dX8_takesMost_63 (by decide) (fun _ => ?_) (fun c_ => absurd (by decide) c_)
          refine lv_iload_n hx hb dX8_takesMost_86 rfl (lv_at hl 1 rfl) ?_
          have h9 := (Prod.mk.inj hu).1; replace hu := (Prod.mk.inj hu).2; subst h9
          have h9 := (Prod.mk.inj hu).1; replace hu := (Prod.mk.inj hu).2; subst h9
          have h9 := (Prod.mk.inj hu).1; replace hu := (Prod.mk.inj hu).2; subst h9
          subst hu
          exact bEndZ X Y hr hlk dX8_takesMost_87 rfl rfl rfl
        · have c_5 : ¬ (40 < u_1_2 2) := c_5
          rw [if_neg c_5] at hu
          refine lv_iconst (v := 1) hx hb dX8_takesMost_49 (by decide) ?_
          refine lv_goto (tgt := 54) hx hb dX8_takesMost_50 (by decide) ?_
          refine lv_istore_n (lv' := [(1, .int 1), (0, .ref mM)]) hx hb dX8_takesMost_54 rfl hl (by decide) rfl (fun ls hl => ?_)
          refine lv_iconst (v := 0) hx hb dX8_takesMost_55 (by decide) ?_
          refine lv_istore_n (lv' := [(2, .int 0), (1, .int 1), (0, .ref mM)]) hx hb dX8_takesMost_56 rfl hl (by decide) rfl (fun ls hl => ?_)
          refine lv_iload_n hx hb dX8_takesMost_57 rfl (lv_at hl 0 rfl) ?_
          refine lv_iconst (v := 3) hx hb dX8_takesMost_58 (by decide) ?_
          refine lv_icmp_ge (tgt := 86) hx hb dX8_takesMost_59 (by decide) (fun c_ => absurd c_ (by decide)) (fun _ => ?_)
          refine lv_iload_n hx hb dX8_takesMost_62 rfl (lv_at hl 1 rfl) ?_
          refine lv_if_eq (tgt := 86) hx hb dX8_takesMost_63 (by decide) (fun c_ => absurd c_ (by decide)) (fun _ => ?_)
          refine lv_aload_n hx hb dX8_takesMost_66 rfl (lv_at hl 2 rfl) ?_
          refine bGet (v := .ref mR) (T := TX8) (N := 9) (ci := 8) X Y i_X8_takesMost_X8 0 rfl rfl 1 (Nat.le_of_ble_eq_true rfl) f_X8_takesMost_13 rfl rfl dX8_takesMost_67 ?_
          refine lv_iconst (v := 2) hx hb dX8_takesMost_70 (by decide) ?_
          refine lv_iload_n hx hb dX8_takesMost_71 rfl (lv_at hl 0 rfl) ?_
          refine bAdd (v := 2) X dX8_takesMost_72 (by decide) ?_
          refine lv_aload_n hx hb dX8_takesMost_73 rfl (lv_at hl 2 rfl) ?_
          refine bGet (v := .ref mD) (T := TX8) (N := 9) (ci := 8) X Y i_X8_takesMost_X8 0 rfl rfl 8 (Nat.le_of_ble_eq_true rfl) f_X8_takesMost_25 rfl rfl dX8_takesMost_74 ?_
          refine lv_iload_n hx hb dX8_takesMost_77 rfl (lv_at hl 0 rfl) ?_
          refine bIald (v := u_1_2 0) X Y 3 rfl (bInD (by decide)) dX8_takesMost_78 rfl ?_
          refine bIast (f' := upd rd 2 (u_1_2 0)) (ws' := [(mM, .inr (8, [.ref mN, .ref mR, .ref mA, .ref mP, .int ch, .ref mT, .int le, .int (nI u_1_1), .ref mD])), (mR, .inl (cyI, 515, .inl (upd rd 2 (u_1_2 0)))), (mT, .inl (cyI, 200, .inl tx)), (mD, .inl (cyI, 4, .inl u_1_2))]) X Y 1 rfl (bInD (by decide)) rfl rfl dX8_takesMost_79 (fun H locs Y => ?_)
          refine lv_iinc (v := 1) (lv' := [(2, .int 1), (1, .int 1), (0, .ref mM)]) hx hb dX8_takesMost_80 hl (k := 0) rfl (by decide) (by decide) rfl (fun ls hl => ?_)
          refine lv_goto (tgt := 57) hx hb dX8_takesMost_83 (by decide) ?_
          refine lv_iload_n hx hb dX8_takesMost_57 rfl (lv_at hl 0 rfl) ?_
          refine lv_iconst (v := 3) hx hb dX8_takesMost_58 (by decide) ?_
          refine lv_icmp_ge (tgt := 86) hx hb dX8_takesMost_59 (by decide) (fun c_ => absurd c_ (by decide)) (fun _ => ?_)
          refine lv_iload_n hx hb dX8_takesMost_62 rfl (lv_at hl 1 rfl) ?_
          refine lv_if_eq (tgt := 86) hx hb dX8_takesMost_63 (by decide) (fun c_ => absurd c_ (by decide)) (fun _ => ?_)
          refine lv_aload_n hx hb dX8_takesMost_66 rfl (lv_at hl 2 rfl) ?_
          refine bGet (v := .ref mR) (T := TX8) (N := 9) (ci := 8) X Y i_X8_takesMost_X8 0 rfl rfl 1 (Nat.le_of_ble_eq_true rfl) f_X8_takesMost_13 rfl rfl dX8_takesMost_67 ?_
          refine lv_iconst (v := 2) hx hb dX8_takesMost_70 (by decide) ?_
          refine lv_iload_n hx hb dX8_takesMost_71 rfl (lv_at hl 0 rfl) ?_
          refine bAdd (v := 3) X dX8_takesMost_72 (by decide) ?_
          refine lv_aload_n hx hb dX8_takesMost_73 rfl (lv_at hl 2 rfl) ?_
          refine bGet (v := .ref mD) (T := TX8) (N := 9) (ci := 8) X Y i_X8_takesMost_X8 0 rfl rfl 8 (Nat.le_of_ble_eq_true rfl) f_X8_takesMost_25 rfl rfl dX8_takesMost_74 ?_
          refine lv_iload_n hx hb dX8_takesMost_77 rfl (lv_at hl 0 rfl) ?_
          refine bIald (v := u_1_2 1) X Y 3 rfl (bInD (by decide)) dX8_takesMost_78 rfl ?_
          refine bIast (f' := upd (upd rd 2 (u_1_2 0)) 3 (u_1_2 1)) (ws' := [(mM, .inr (8, [.ref mN, .ref mR, .ref mA, .ref mP, .int ch, .ref mT, .int le, .int (nI u_1_1), .ref mD])), (mR, .inl (cyI, 515, .inl (upd (upd rd 2 (u_1_2 0)) 3 (u_1_2 1)))), (mT, .inl (cyI, 200, .inl tx)), (mD, .inl (cyI, 4, .inl u_1_2))]) X Y 1 rfl (bInD (by decide)) rfl rfl dX8_takesMost_79 (fun H locs Y => ?_)
          refine lv_iinc (v := 2) (lv' := [(2, .int 2), (1, .int 1), (0, .ref mM)]) hx hb dX8_takesMost_80 hl (k := 0) rfl (by decide) (by decide) rfl (fun ls hl => ?_)
          refine lv_goto (tgt := 57) hx hb dX8_takesMost_83 (by decide) ?_
          refine lv_iload_n hx hb dX8_takesMost_57 rfl (lv_at hl 0 rfl) ?_
          refine lv_iconst (v := 3) hx hb dX8_takesMost_58 (by decide) ?_
          refine lv_icmp_ge (tgt := 86) hx hb dX8_takesMost_59 (by decide) (fun c_ => absurd c_ (by decide)) (fun _ => ?_)
          refine lv_iload_n hx hb dX8_takesMost_62 rfl (lv_at hl 1 rfl) ?_
          refine lv_if_eq (tgt := 86) hx hb dX8_takesMost_63 (by decide) (fun c_ => absurd c_ (by decide)) (fun _ => ?_)
          refine lv_aload_n hx hb dX8_takesMost_66 rfl (lv_at hl 2 rfl) ?_
          refine bGet (v := .ref mR) (T := TX8) (N := 9) (ci := 8) X Y i_X8_takesMost_X8 0 rfl rfl 1 (Nat.le_of_ble_eq_true rfl) f_X8_takesMost_13 rfl rfl dX8_takesMost_67 ?_
          refine lv_iconst (v := 2) hx hb dX8_takesMost_70 (by decide) ?_
          refine lv_iload_n hx hb dX8_takesMost_71 rfl (lv_at hl 0 rfl) ?_
          refine bAdd (v := 4) X dX8_takesMost_72 (by decide) ?_
          refine lv_aload_n hx hb dX8_takesMost_73 rfl (lv_at hl 2 rfl) ?_
          refine bGet (v := .ref mD) (T := TX8) (N := 9) (ci := 8) X Y i_X8_takesMost_X8 0 rfl rfl 8 (Nat.le_of_ble_eq_true rfl) f_X8_takesMost_25 rfl rfl dX8_takesMost_74 ?_
          refine lv_iload_n hx hb dX8_takesMost_77 rfl (lv_at hl 0 rfl) ?_
          refine bIald (v := u_1_2 2) X Y 3 rfl (bInD (by decide)) dX8_takesMost_78 rfl ?_
          refine bIast (f' := upd (upd (upd rd 2 (u_1_2 0)) 3 (u_1_2 1)) 4 (u_1_2 2)) (ws' := [(mM, .inr (8, [.ref mN, .ref mR, .ref mA, .ref mP, .int ch, .ref mT, .int le, .int (nI u_1_1), .ref mD])), (mR, .inl (cyI, 515, .inl (upd (upd (upd rd 2 (u_1_2 0)) 3 (u_1_2 1)) 4 (u_1_2 2)))), (mT, .inl (cyI, 200, .inl tx)), (mD, .inl (cyI, 4, .inl u_1_2))]) X Y 1 rfl (bInD (by decide)) rfl rfl dX8_takesMost_79 (fun H locs Y => ?_)
          refine lv_iinc (v := 3) (lv' := [(2, .int 3), (1, .int 1), (0, .ref mM)]) hx hb dX8_takesMost_80 hl (k := 0) rfl (by decide) (by decide) rfl (fun ls hl => ?_)
          refine lv_goto (tgt := 57) hx hb dX8_takesMost_83 (by decide) ?_
          refine lv_iload_n hx hb dX8_takesMost_57 rfl (lv_at hl 0 rfl) ?_
          refine lv_iconst (v := 3) hx hb dX8_takesMost_58 (by decide) ?_
          refine lv_icmp_ge (tgt := 86) hx hb dX8_takesMost_59 (by decide) (fun _ => ?_) (fun c_ => absurd (by decide) c_)
          refine lv_iload_n hx hb dX8_takesMost_86 rfl (lv_at hl 1 rfl) ?_
          have h9 := (Prod.mk.inj hu).1; replace hu := (Prod.mk.inj hu).2; subst h9
          have h9 := (Prod.mk.inj hu).1; replace hu := (Prod.mk.inj hu).2; subst h9
          have h9 := (Prod.mk.inj hu).1; replace hu := (Prod.mk.inj hu).2; subst h9
          subst hu
          exact bEndZ X Y hr hlk dX8_takesMost_87 rfl rfl rfl
theorem toK_0 {le : Int32} {sa : Nat } {rd : Nat → Int32} {tx : Nat → Int32} {td : Nat → Int32} {lo : Int32} {hi : Int32} {y0 : Bool} {y1 : Nat} {y2 : Nat → Int32} {y3 : Nat → Int32} (h : s_takesOne8_0 le sa rd tx td lo hi = (y0, y1, y2, y3)) (h3 : sa ≤ 500) : sa ≤ y1 ∧ y1 ≤ sa + 4 := by
  unfold s_takesOne8_0 at h
  obtain ⟨u_1_0, u_1_1, u_1_2, hr_1⟩ := bEx3 (s_takesNumbers8_1 le sa tx td)
  rw [hr_1] at h
  dsimp only at h
  have q := tsK_1 hr_1 (by omega)
  by_cases k_1 : u_1_0 = true
  · rw [if_pos k_1] at h
    by_cases k_2 : (s_in8 (u_1_2 0) lo hi) = true
    · rw [if_pos k_2] at h
      simp only [Prod.mk.injEq] at h
      obtain ⟨-, rfl, -, -⟩ := h
      omega
    · rw [if_neg k_2] at h
      simp only [Prod.mk.injEq] at h
      obtain ⟨-, rfl, -, -⟩ := h
      omega
  · rw [if_neg k_1] at h
    simp only [Prod.mk.injEq] at h
    obtain ⟨-, rfl, -, -⟩ := h
    omega
theorem toK_1 {le : Int32} {sa : Nat } {rd : Nat → Int32} {tx : Nat → Int32} {td : Nat → Int32} {lo : Int32} {hi : Int32} {y0 : Bool} {y1 : Nat} {y2 : Nat → Int32} {y3 : Nat → Int32} (h : s_takesOne8_1 le sa rd tx td lo hi = (y0, y1, y2, y3)) (h3 : sa ≤ 500) : sa ≤ y1 ∧ y1 ≤ sa + 4 := by
  unfold s_takesOne8_1 at h
  obtain ⟨u_1_0, u_1_1, u_1_2, hr_1⟩ := bEx3 (s_takesNumbers8_1 le sa tx td)
  rw [hr_1] at h
  dsimp only at h
  have q := tsK_1 hr_1 (by omega)
  by_cases k_1 : u_1_0 = true
  · rw [if_pos k_1] at h
    by_cases k_2 : (s_in8 (u_1_2 0) lo hi) = true
    · rw [if_pos k_2] at h
      simp only [Prod.mk.injEq] at h
      obtain ⟨-, rfl, -, -⟩ := h
      omega
    · rw [if_neg k_2] at h
      simp only [Prod.mk.injEq] at h
      obtain ⟨-, rfl, -, -⟩ := h
      omega
  · rw [if_neg k_1] at h
    simp only [Prod.mk.injEq] at h
    obtain ⟨-, rfl, -, -⟩ := h
    omega
theorem tcK {le : Int32} {sa : Nat } {rd : Nat → Int32} {tx : Nat → Int32} {td : Nat → Int32} {y0 : Bool} {y1 : Nat} {y2 : Nat → Int32} {y3 : Nat → Int32} (h : s_takesCrane8 le sa rd tx td = (y0, y1, y2, y3)) (h3 : sa ≤ 500) : sa ≤ y1 ∧ y1 ≤ sa + 16 := by
  unfold s_takesCrane8 at h
  obtain ⟨u_1_0, u_1_1, u_1_2, hr_1⟩ := bEx3 (s_takesNumbers8_4 le sa tx td)
  rw [hr_1] at h
  dsimp only at h
  have q := tsK_4 hr_1 (by omega)
  by_cases k_1 : u_1_0 = true
  · rw [if_pos k_1] at h
    by_cases k_2 : 2 ≤ u_1_2 0
    · rw [if_pos k_2] at h
      simp only [Prod.mk.injEq] at h
      obtain ⟨-, rfl, -, -⟩ := h
      omega
    · rw [if_neg k_2] at h
      by_cases k_3 : (s_in8 (u_1_2 2) 10 60) = true
      · rw [if_pos k_3] at h
        by_cases k_4 : 100 ≤ u_1_2 3
        · rw [if_pos k_4] at h
          simp only [Prod.mk.injEq] at h
          obtain ⟨-, rfl, -, -⟩ := h
          omega
        · rw [if_neg k_4] at h
          by_cases k_5 : u_1_2 0 = 0
          · rw [if_pos k_5] at h
            obtain ⟨u_7_0, hr_7⟩ := bEx1 (s_puts8_0 rd (u_1_2 1) (u_1_2 2) (u_1_2 3))
            rw [hr_7] at h
            dsimp only at h
            simp only [Prod.mk.injEq] at h
            obtain ⟨-, rfl, -, -⟩ := h
            omega
          · rw [if_neg k_5] at h
            obtain ⟨u_8_0, hr_8⟩ := bEx1 (s_puts8_1 rd (u_1_2 1) (u_1_2 2) (u_1_2 3))
            rw [hr_8] at h
            dsimp only at h
            simp only [Prod.mk.injEq] at h
            obtain ⟨-, rfl, -, -⟩ := h
            omega
      · rw [if_neg k_3] at h
        simp only [Prod.mk.injEq] at h
        obtain ⟨-, rfl, -, -⟩ := h
        omega
  · rw [if_neg k_1] at h
    simp only [Prod.mk.injEq] at h
    obtain ⟨-, rfl, -, -⟩ := h
    omega
theorem tmK {le : Int32} {sa : Nat } {rd : Nat → Int32} {tx : Nat → Int32} {td : Nat → Int32} {y0 : Bool} {y1 : Nat} {y2 : Nat → Int32} {y3 : Nat → Int32} (h : s_takesMost8 le sa rd tx td = (y0, y1, y2, y3)) (h3 : sa ≤ 500) : sa ≤ y1 ∧ y1 ≤ sa + 12 := by
  unfold s_takesMost8 at h
  obtain ⟨u_1_0, u_1_1, u_1_2, hr_1⟩ := bEx3 (s_takesNumbers8_3 le sa tx td)
  rw [hr_1] at h
  dsimp only at h
  have q := tsK_3 hr_1 (by omega)
  by_cases k_1 : u_1_0 = true
  · rw [if_pos k_1] at h
    by_cases k_2 : (s_in8 (u_1_2 0) 1 9) = true
    · rw [if_pos k_2] at h
      by_cases k_3 : (s_in8 (u_1_2 1) 1 40) = true
      · rw [if_pos k_3] at h
        by_cases k_4 : 40 < u_1_2 2
        · rw [if_pos k_4] at h
          simp only [Prod.mk.injEq] at h
          obtain ⟨-, rfl, -, -⟩ := h
          omega
        · rw [if_neg k_4] at h
          simp only [Prod.mk.injEq] at h
          obtain ⟨-, rfl, -, -⟩ := h
          omega
      · rw [if_neg k_3] at h
        simp only [Prod.mk.injEq] at h
        obtain ⟨-, rfl, -, -⟩ := h
        omega
    · rw [if_neg k_2] at h
      simp only [Prod.mk.injEq] at h
      obtain ⟨-, rfl, -, -⟩ := h
      omega
  · rw [if_neg k_1] at h
    simp only [Prod.mk.injEq] at h
    obtain ⟨-, rfl, -, -⟩ := h
    omega
