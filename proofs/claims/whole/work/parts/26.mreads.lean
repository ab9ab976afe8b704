theorem i_X8_takesItem_X8 : ∀ w ∈ wsX80, w ∈ wsX8_takesItem := by decide +kernel
theorem f_X8_takesItem_22 : Cond.fieldLink RX8 22 "SwingCranesModel" "text" "[I" ∈ wsX8_takesItem := by decide +kernel
theorem f_X8_takesItem_42 : Cond.fieldLink RX8 42 "SwingCranesModel" "spot0" "I" ∈ wsX8_takesItem := by decide +kernel
theorem hd_X8_takesCrane : bD1 yX8_takesCrane RX8 0 := by decide +kernel
theorem hd_X8_takesOne : bD1 yX8_takesOne RX8 3 := by decide +kernel
theorem hd_X8_takesMost : bD1 yX8_takesMost RX8 0 := by decide +kernel
def s_takesItem8 (le : Int32) (sa : Nat ) (rd : Nat → Int32) (tx : Nat → Int32) (td : Nat → Int32) : Bool × Nat × (Nat → Int32) × (Nat → Int32) :=
  if (tx sa) = 99 then
    match s_takesCrane8 le (sa + 1) rd tx td with
    | (u_2_0, u_2_1, u_2_2, u_2_3) =>
      (u_2_0, u_2_1, u_2_2, u_2_3)
  else
    if (tx sa) = 101 then
      match s_takesOne8_0 le (sa + 1) rd tx td 200 999 with
      | (u_4_0, u_4_1, u_4_2, u_4_3) =>
        (u_4_0, u_4_1, u_4_2, u_4_3)
    else
      if (tx sa) = 103 then
        match s_takesOne8_1 le (sa + 1) rd tx td 10 99 with
        | (u_6_0, u_6_1, u_6_2, u_6_3) =>
          (u_6_0, u_6_1, u_6_2, u_6_3)
      else
        if (tx sa) = 107 then
          match s_takesMost8 le (sa + 1) rd tx td with
          | (u_8_0, u_8_1, u_8_2, u_8_3) =>
            (u_8_0, u_8_1, u_8_2, u_8_3)
        else
          (false, (sa + 1), rd, td)
set_option maxHeartbeats 4000000 in
set_option maxRecDepth 100000 in
theorem c_takesItem8 (l : Launch) (D : va_G) (cyC cyI : ClassId) (mM : Nat) (mN : Nat) (mR : Nat) (mA : Nat) (mP : Nat) (mT : Nat) (mD : Nat) (ch : Int32) (le : Int32) (sa : Nat ) (rd : Nat → Int32) (tx : Nat → Int32) (td : Nat → Int32) (o0 : Bool) (o1 : Nat) (o2 : Nat → Int32) (o3 : Nat → Int32) (hu : s_takesItem8 le sa rd tx td = (o0, o1, o2, o3)) (hle : le ≤ nI 200) (hsa : sa ≤ 400) (hlt : ¬ le ≤ nI sa) : CI l yX8_takesItem wsX8_takesItem { frames := 5, cells := 0, slots := 0, locals := 113 } D cyC cyI [.ref mM] [(mM, .inr (8, [.ref mN, .ref mR, .ref mA, .ref mP, .int ch, .ref mT, .int le, .int (nI sa), .ref mD])), (mR, .inl (cyI, 515, .inl rd)), (mT, .inl (cyI, 200, .inl tx)), (mD, .inl (cyI, 4, .inl td))] (bB o0) [(mM, .inr (8, [.ref mN, .ref mR, .ref mA, .ref mP, .int ch, .ref mT, .int le, .int (nI o1), .ref mD])), (mR, .inl (cyI, 515, .inl o2)), (mT, .inl (cyI, 200, .inl tx)), (mD, .inl (cyI, 4, .inl o3))] := by
  refine CI.of (cc := cX8_takesItem) (n := 2) (ret := (some .boolean)) (by decide +kernel) rfl (Nat.le_of_ble_eq_true rfl) ?_
  intro p_ e_ s_ m_ bl_ me_ cd_ A_ ls X Y hr hlk hl
  have hx := X.1.1
  have hb := X.1.2.1
  have hl : lv_has ls 2 [(0, .ref mM)] := hl
  unfold s_takesItem8 at hu
  refine lv_aload_n hx hb dX8_takesItem_0 rfl (lv_at hl 0 rfl) ?_
  refine bGet (v := .ref mT) (T := TX8) (N := 9) (ci := 8) X Y i_X8_takesItem_X8 0 rfl rfl 5 (Nat.le_of_ble_eq_true rfl) f_X8_takesItem_22 rfl rfl dX8_takesItem_1 ?_
  refine lv_aload_n hx hb dX8_takesItem_4 rfl (lv_at hl 0 rfl) ?_
  refine bGet (v := .int (nI sa)) (T := TX8) (N := 9) (ci := 8) X Y i_X8_takesItem_X8 0 rfl rfl 7 (Nat.le_of_ble_eq_true rfl) f_X8_takesItem_42 rfl rfl dX8_takesItem_5 ?_
  refine bIald (v := tx sa) X Y 2 rfl (bInT (by omega) hle hlt) dX8_takesItem_8 (bIdx (by omega)) ?_
  refine lv_istore_n (lv' := [(1, .int (tx sa)), (0, .ref mM)]) hx hb dX8_takesItem_9 rfl hl (by decide) rfl (fun ls hl => ?_)
  refine lv_aload_n hx hb dX8_takesItem_10 rfl (lv_at hl 1 rfl) ?_
  refine lv_dup hx hb dX8_takesItem_11 rfl ?_
  refine bGet (v := .int (nI sa)) (T := TX8) (N := 9) (ci := 8) X Y i_X8_takesItem_X8 0 rfl rfl 7 (Nat.le_of_ble_eq_true rfl) f_X8_takesItem_42 rfl rfl dX8_takesItem_12 ?_
  refine lv_iconst (v := 1) hx hb dX8_takesItem_15 (by decide) ?_
  refine bAdd (v := nI (sa + 1)) X dX8_takesItem_16 (nI_sum (a := sa) (b := 1) rfl rfl (by omega)) ?_
  refine bPut (T := TX8) (N := 9) (ci := 8) (ws' := [(mM, .inr (8, [.ref mN, .ref mR, .ref mA, .ref mP, .int ch, .ref mT, .int le, .int (nI (sa + 1)), .ref mD])), (mR, .inl (cyI, 515, .inl rd)), (mT, .inl (cyI, 200, .inl tx)), (mD, .inl (cyI, 4, .inl td))]) X Y i_X8_takesItem_X8 tyX8 tyX8_ok nmX8 0 rfl rfl 7 (Nat.le_of_ble_eq_true rfl) f_X8_takesItem_42 rfl rfl rfl rfl (Nat.le_of_ble_eq_true rfl) rfl dX8_takesItem_17 (fun H locs Y => ?_)
  refine lv_iload_n hx hb dX8_takesItem_20 rfl (lv_at hl 0 rfl) ?_
  by_cases c_1 : (tx sa) = 99
  · rw [if_pos c_1] at hu
    refine lv_tableIn (tgt := 94) (off := 73) hx hb dX8_takesItem_21 (by rw [c_1]; decide) (by rw [c_1]; decide) (by rw [c_1]; decide +kernel) (by decide) ?_
    refine lv_aload_n hx hb dX8_takesItem_94 rfl (lv_at hl 1 rfl) ?_
    obtain ⟨u_2_0, u_2_1, u_2_2, u_2_3, hr_2⟩ := bEx4 (s_takesCrane8 le (sa + 1) rd tx td)
    rw [hr_2] at hu
    dsimp only at hu
    have tcK_2 := tcK hr_2
    refine bVI (As := []) (rest := []) (wc := [(mM, .inr (8, [.ref mN, .ref mR, .ref mA, .ref mP, .int ch, .ref mT, .int le, .int (nI (sa + 1)), .ref mD])), (mR, .inl (cyI, 515, .inl rd)), (mT, .inl (cyI, 200, .inl tx)), (mD, .inl (cyI, 4, .inl td))]) (w1 := [(mM, .inr (8, [.ref mN, .ref mR, .ref mA, .ref mP, .int ch, .ref mT, .int le, .int (nI u_2_1), .ref mD])), (mR, .inl (cyI, 515, .inl u_2_2)), (mT, .inl (cyI, 200, .inl tx)), (mD, .inl (cyI, 4, .inl u_2_3))]) (ws' := [(mM, .inr (8, [.ref mN, .ref mR, .ref mA, .ref mP, .int ch, .ref mT, .int le, .int (nI u_2_1), .ref mD])), (mR, .inl (cyI, 515, .inl u_2_2)), (mT, .inl (cyI, 200, .inl tx)), (mD, .inl (cyI, 4, .inl u_2_3))]) (ad := [mM, mR, mT, mD]) (wr := []) (nn := 4) (ci := 8) (q0 := 0) X Y (c_takesCrane8 l D cyC cyI mM mN mR mA mP mT mD ch le (sa + 1) rd tx td u_2_0 u_2_1 u_2_2 u_2_3 hr_2 (by first | assumption | omega | decide) (by first | assumption | omega | decide)) gX8_takesItem_X8_takesCrane rfl ⟨rfl, rfl⟩ hd_X8_takesCrane ⟨(Nat.le_of_ble_eq_true rfl), (Nat.le_of_ble_eq_true rfl)⟩ rfl rfl rfl [0, 1, 2, 3] [] rfl rfl rfl rfl rfl rfl rfl rfl (by decide) rfl rfl hl.1 (Nat.le_of_ble_eq_true rfl) ⟨Nat.zero_le _, Nat.zero_le _⟩ dX8_takesItem_95 (fun H locs Y => ?_)
    have h9 := (Prod.mk.inj hu).1; replace hu := (Prod.mk.inj hu).2; subst h9
    have h9 := (Prod.mk.inj hu).1; replace hu := (Prod.mk.inj hu).2; subst h9
    have h9 := (Prod.mk.inj hu).1; replace hu := (Prod.mk.inj hu).2; subst h9
    subst hu
    exact bEndZ X Y hr hlk dX8_takesItem_98 (bB_nar _) rfl rfl
  · skip
    rw [if_neg c_1] at hu
    by_cases c_3 : (tx sa) = 101
    · rw [if_pos c_3] at hu
      refine lv_tableIn (tgt := 72) (off := 51) hx hb dX8_takesItem_21 (by rw [c_3]; decide) (by rw [c_3]; decide) (by rw [c_3]; decide +kernel) (by decide) ?_
      refine lv_aload_n hx hb dX8_takesItem_72 rfl (lv_at hl 1 rfl) ?_
      refine lv_iconst (v := 0) hx hb dX8_takesItem_73 (by decide) ?_
      refine lv_sipush (v := 200) hx hb dX8_takesItem_74 (by decide) ?_
      refine lv_sipush (v := 999) hx hb dX8_takesItem_77 (by decide) ?_
      obtain ⟨u_4_0, u_4_1, u_4_2, u_4_3, hr_4⟩ := bEx4 (s_takesOne8_0 le (sa + 1) rd tx td 200 999)
      rw [hr_4] at hu
      dsimp only at hu
      have toK_0_4 := toK_0 hr_4
      refine bVI (As := [.int 0, .int 200, .int 999]) (rest := []) (wc := [(mM, .inr (8, [.ref mN, .ref mR, .ref mA, .ref mP, .int ch, .ref mT, .int le, .int (nI (sa + 1)), .ref mD])), (mR, .inl (cyI, 515, .inl rd)), (mT, .inl (cyI, 200, .inl tx)), (mD, .inl (cyI, 4, .inl td))]) (w1 := [(mM, .inr (8, [.ref mN, .ref mR, .ref mA, .ref mP, .int ch, .ref mT, .int le, .int (nI u_4_1), .ref mD])), (mR, .inl (cyI, 515, .inl u_4_2)), (mT, .inl (cyI, 200, .inl tx)), (mD, .inl (cyI, 4, .inl u_4_3))]) (ws' := [(mM, .inr (8, [.ref mN, .ref mR, .ref mA, .ref mP, .int ch, .ref mT, .int le, .int (nI u_4_1), .ref mD])), (mR, .inl (cyI, 515, .inl u_4_2)), (mT, .inl (cyI, 200, .inl tx)), (mD, .inl (cyI, 4, .inl u_4_3))]) (ad := [mM, mR, mT, mD]) (wr := []) (nn := 4) (ci := 8) (q0 := 0) X Y (c_takesOne8_0 l D cyC cyI mM mN mR mA mP mT mD ch le (sa + 1) rd tx td 200 999 u_4_0 u_4_1 u_4_2 u_4_3 hr_4 (by first | assumption | omega | decide) (by first | assumption | omega | decide)) gX8_takesItem_X8_takesOne rfl ⟨rfl, rfl⟩ hd_X8_takesOne ⟨(Nat.le_of_ble_eq_true rfl), (Nat.le_of_ble_eq_true rfl)⟩ rfl rfl rfl [0, 1, 2, 3] [] rfl rfl rfl rfl rfl rfl rfl rfl (by decide) rfl rfl hl.1 (Nat.le_of_ble_eq_true rfl) ⟨Nat.zero_le _, Nat.zero_le _⟩ dX8_takesItem_80 (fun H locs Y => ?_)
      have h9 := (Prod.mk.inj hu).1; replace hu := (Prod.mk.inj hu).2; subst h9
      have h9 := (Prod.mk.inj hu).1; replace hu := (Prod.mk.inj hu).2; subst h9
      have h9 := (Prod.mk.inj hu).1; replace hu := (Prod.mk.inj hu).2; subst h9
      subst hu
      exact bEndZ X Y hr hlk dX8_takesItem_83 (bB_nar _) rfl rfl
    · skip
      rw [if_neg c_3] at hu
      by_cases c_5 : (tx sa) = 103
      · rw [if_pos c_5] at hu
        refine lv_tableIn (tgt := 84) (off := 63) hx hb dX8_takesItem_21 (by rw [c_5]; decide) (by rw [c_5]; decide) (by rw [c_5]; decide +kernel) (by decide) ?_
        refine lv_aload_n hx hb dX8_takesItem_84 rfl (lv_at hl 1 rfl) ?_
        refine lv_iconst (v := 1) hx hb dX8_takesItem_85 (by decide) ?_
        refine lv_bipush (v := 10) hx hb dX8_takesItem_86 (by decide) ?_
        refine lv_bipush (v := 99) hx hb dX8_takesItem_88 (by decide) ?_
        obtain ⟨u_6_0, u_6_1, u_6_2, u_6_3, hr_6⟩ := bEx4 (s_takesOne8_1 le (sa + 1) rd tx td 10 99)
        rw [hr_6] at hu
        dsimp only at hu
        have toK_1_6 := toK_1 hr_6
        refine bVI (As := [.int 1, .int 10, .int 99]) (rest := []) (wc := [(mM, .inr (8, [.ref mN, .ref mR, .ref mA, .ref mP, .int ch, .ref mT, .int le, .int (nI (sa + 1)), .ref mD])), (mR, .inl (cyI, 515, .inl rd)), (mT, .inl (cyI, 200, .inl tx)), (mD, .inl (cyI, 4, .inl td))]) (w1 := [(mM, .inr (8, [.ref mN, .ref mR, .ref mA, .ref mP, .int ch, .ref mT, .int le, .int (nI u_6_1), .ref mD])), (mR, .inl (cyI, 515, .inl u_6_2)), (mT, .inl (cyI, 200, .inl tx)), (mD, .inl (cyI, 4, .inl u_6_3))]) (ws' := [(mM, .inr (8, [.ref mN, .ref mR, .ref mA, .ref mP, .int ch, .ref mT, .int le, .int (nI u_6_1), .ref mD])), (mR, .inl (cyI, 515, .inl u_6_2)), (mT, .inl (cyI, 200, .inl tx)), (mD, .inl (cyI, 4, .inl u_6_3))]) (ad := [mM, mR, mT, mD]) (wr := []) (nn := 4) (ci := 8) (q0 := 0) X Y (c_takesOne8_1 l D cyC cyI mM mN mR mA mP mT mD ch le (sa + 1) rd tx td 10 99 u_6_0 u_6_1 u_6_2 u_6_3 hr_6 (by first | assumption | omega | decide) (by first | assumption | omega | decide)) gX8_takesItem_X8_takesOne rfl ⟨rfl, rfl⟩ hd_X8_takesOne ⟨(Nat.le_of_ble_eq_true rfl), (Nat.le_of_ble_eq_true rfl)⟩ rfl rfl rfl [0, 1, 2, 3] [] rfl rfl rfl rfl rfl rfl rfl rfl (by decide) rfl rfl hl.1 (Nat.le_of_ble_eq_true rfl) ⟨Nat.zero_le _, Nat.zero_le _⟩ dX8_takesItem_90 (fun H locs Y => ?_)
        have h9 := (Prod.mk.inj hu).1; replace hu := (Prod.mk.inj hu).2; subst h9
        have h9 := (Prod.mk.inj hu).1; replace hu := (Prod.mk.inj hu).2; subst h9
        have h9 := (Prod.mk.inj hu).1; replace hu := (Prod.mk.inj hu).2; subst h9
        subst hu
        exact bEndZ X Y hr hlk dX8_takesItem_93 (bB_nar _) rfl rfl
      · skip
        rw [if_neg c_5] at hu
        by_cases c_7 : (tx sa) = 107
        · rw [if_pos c_7] at hu
          refine lv_tableIn (tgt := 99) (off := 78) hx hb dX8_takesItem_21 (by rw [c_7]; decide) (by rw [c_7]; decide) (by rw [c_7]; decide +kernel) (by decide) ?_
          refine lv_aload_n hx hb dX8_takesItem_99 rfl (lv_at hl 1 rfl) ?_
          obtain ⟨u_8_0, u_8_1, u_8_2, u_8_3, hr_8⟩ := bEx4 (s_takesMost8 le (sa + 1) rd tx td)
          rw [hr_8] at hu
          dsimp only at hu
          have tmK_8 := tmK hr_8
          refine bVI (As := []) (rest := []) (wc := [(mM, .inr (8, [.ref mN, .ref mR, .ref mA, .ref mP, .int ch, .ref mT, .int le, .int (nI (sa + 1)), .ref mD])), (mR, .inl (cyI, 515, .inl rd)), (mT, .inl (cyI, 200, .inl tx)), (mD, .inl (cyI, 4, .inl td))]) (w1 := [(mM, .inr (8, [.ref mN, .ref mR, .ref mA, .ref mP, .int ch, .ref mT, .int le, .int (nI u_8_1), .ref mD])), (mR, .inl (cyI, 515, .inl u_8_2)), (mT, .inl (cyI, 200, .inl tx)), (mD, .inl (cyI, 4, .inl u_8_3))]) (ws' := [(mM, .inr (8, [.ref mN, .ref mR, .ref mA, .ref mP, .int ch, .ref mT, .int le, .int (nI u_8_1), .ref mD])), (mR, .inl (cyI, 515, .inl u_8_2)), (mT, .inl (cyI, 200, .inl tx)), (mD, .inl (cyI, 4, .inl u_8_3))]) (ad := [mM, mR, mT, mD]) (wr := []) (nn := 4) (ci := 8) (q0 := 0) X Y (c_takesMost8 l D cyC cyI mM mN mR mA mP mT mD ch le (sa + 1) rd tx td u_8_0 u_8_1 u_8_2 u_8_3 hr_8 (by first | assumption | omega | decide) (by first | assumption | omega | decide)) gX8_takesItem_X8_takesMost rfl ⟨rfl, rfl⟩ hd_X8_takesMost ⟨(Nat.le_of_ble_eq_true rfl), (Nat.le_of_ble_eq_true rfl)⟩ rfl rfl rfl [0, 1, 2, 3] [] rfl rfl rfl rfl rfl rfl rfl rfl (by decide) rfl rfl hl.1 (Nat.le_of_ble_eq_true rfl) ⟨Nat.zero_le _, Nat.zero_le _⟩ dX8_takesItem_100 (fun H locs Y => ?_)
          have h9 := (Prod.mk.inj hu).1; replace hu := (Prod.mk.inj hu).2; subst h9
          have h9 := (Prod.mk.inj hu).1; replace hu := (Prod.mk.inj hu).2; subst h9
          have h9 := (Prod.mk.inj hu).1; replace hu := (Prod.mk.inj hu).2; subst h9
          subst hu
          exact bEndZ X Y hr hlk dX8_takesItem_103 (bB_nar _) rfl rfl
        · skip
          rw [if_neg c_7] at hu
          refine bSwD (tgt := 104) hx hb dX8_takesItem_21 (by intro k hk hx_; have e0 := bNeI c_1 (show (99 : Int32).toInt = 99 by decide); have e1 := bNeI c_3 (show (101 : Int32).toInt = 101 by decide); have e2 := bNeI c_5 (show (103 : Int32).toInt = 103 by decide); have e3 := bNeI c_7 (show (107 : Int32).toInt = 107 by decide); rcases (show k = 1 ∨ k = 3 ∨ k = 5 ∨ k = 6 ∨ k = 7 by omega) with rfl | rfl | rfl | rfl | rfl <;> rfl) (by decide) ?_
          refine lv_iconst (v := 0) hx hb dX8_takesItem_104 (by decide) ?_
          have h9 := (Prod.mk.inj hu).1; replace hu := (Prod.mk.inj hu).2; subst h9
          have h9 := (Prod.mk.inj hu).1; replace hu := (Prod.mk.inj hu).2; subst h9
          have h9 := (Prod.mk.inj hu).1; replace hu := (Prod.mk.inj hu).2; subst h9
          subst hu
          exact bEndZ X Y hr hlk dX8_takesItem_105 rfl rfl rfl
theorem tiK {le : Int32} {sa : Nat } {rd : Nat → Int32} {tx : Nat → Int32} {td : Nat → Int32} {y0 : Bool} {y1 : Nat} {y2 : Nat → Int32} {y3 : Nat → Int32} (h : s_takesItem8 le sa rd tx td = (y0, y1, y2, y3)) (h3 : sa ≤ 400) : sa + 1 ≤ y1 ∧ y1 ≤ sa + 17 := by
  unfold s_takesItem8 at h
  by_cases k_1 : (tx sa) = 99
  · rw [if_pos k_1] at h
    obtain ⟨u_2_0, u_2_1, u_2_2, u_2_3, hr_2⟩ := bEx4 (s_takesCrane8 le (sa + 1) rd tx td)
    rw [hr_2] at h
    dsimp only at h
    have q := tcK hr_2 (by omega)
    simp only [Prod.mk.injEq] at h
    obtain ⟨-, rfl, -, -⟩ := h
    omega
  · rw [if_neg k_1] at h
    by_cases k_2 : (tx sa) = 101
    · rw [if_pos k_2] at h
      obtain ⟨u_4_0, u_4_1, u_4_2, u_4_3, hr_4⟩ := bEx4 (s_takesOne8_0 le (sa + 1) rd tx td 200 999)
      rw [hr_4] at h
      dsimp only at h
      have q := toK_0 hr_4 (by omega)
      simp only [Prod.mk.injEq] at h
      obtain ⟨-, rfl, -, -⟩ := h
      omega
    · rw [if_neg k_2] at h
      by_cases k_3 : (tx sa) = 103
      · rw [if_pos k_3] at h
        obtain ⟨u_6_0, u_6_1, u_6_2, u_6_3, hr_6⟩ := bEx4 (s_takesOne8_1 le (sa + 1) rd tx td 10 99)
        rw [hr_6] at h
        dsimp only at h
        have q := toK_1 hr_6 (by omega)
        simp only [Prod.mk.injEq] at h
        obtain ⟨-, rfl, -, -⟩ := h
        omega
      · rw [if_neg k_3] at h
        by_cases k_4 : (tx sa) = 107
        · rw [if_pos k_4] at h
          obtain ⟨u_8_0, u_8_1, u_8_2, u_8_3, hr_8⟩ := bEx4 (s_takesMost8 le (sa + 1) rd tx td)
          rw [hr_8] at h
          dsimp only at h
          have q := tmK hr_8 (by omega)
          simp only [Prod.mk.injEq] at h
          obtain ⟨-, rfl, -, -⟩ := h
          omega
        · rw [if_neg k_4] at h
          simp only [Prod.mk.injEq] at h
          obtain ⟨-, rfl, -, -⟩ := h
          omega
theorem hd_X8_begins : bD1 yX8_begins RX8 0 := by decide +kernel
theorem i_X8_reads_X8 : ∀ w ∈ wsX80, w ∈ wsX8_reads := by decide +kernel
theorem f_X8_reads_42 : Cond.fieldLink RX8 42 "SwingCranesModel" "spot0" "I" ∈ wsX8_reads := by decide +kernel
theorem f_X8_reads_45 : Cond.fieldLink RX8 45 "SwingCranesModel" "letters" "I" ∈ wsX8_reads := by decide +kernel
theorem hd_X8_takesItem : bD1 yX8_takesItem RX8 0 := by decide +kernel
def g_reads8 (le : Int32) (tx : Nat → Int32) : Nat → Nat → (Nat → Int32) → (Nat → Int32) → Int32 × Int32 × (Nat → Int32) × (Nat → Int32)
  | 0, _, _, _ => (0, 0, fun _ => 0, fun _ => 0)
  | n_ + 1, si, rg, tg =>
    if le ≤ nI si then
      ((-4), nI si, rg, tg)
    else
      match s_takesItem8 le si rg tx tg with
      | (u_2_0, u_2_1, u_2_2, u_2_3) =>
        if u_2_0 = true then
          g_reads8 le tx n_ u_2_1 u_2_2 u_2_3
        else
          (nI si, nI u_2_1, u_2_2, u_2_3)
def s_reads8 (le : Int32) (rd : Nat → Int32) (tx : Nat → Int32) (td : Nat → Int32) : Int32 × Int32 × (Nat → Int32) × (Nat → Int32) :=
  match s_begins8 rd with
  | (u_1_0, _) =>
    g_reads8 le tx (222) 0 u_1_0 td
set_option maxHeartbeats 4000000 in
set_option maxRecDepth 100000 in
theorem lp_reads8 {p_ : Program} {e_ : Env} {s_ : State} {m_ : MethodId} {bl_ : List Frame} {me_ : Method} {cd_ : Code} {A_ : Nat → Prop} (l : Launch) (D : va_G) (cyC cyI : ClassId) (mM : Nat) (mN : Nat) (mR : Nat) (mA : Nat) (mP : Nat) (mT : Nat) (mD : Nat) (ch : Int32) (le : Int32) (sp : Int32) (rd : Nat → Int32) (tx : Nat → Int32) (td : Nat → Int32) (o0 : Int32) (o1 : Int32) (o2 : Nat → Int32) (o3 : Nat → Int32) (X : bX p_ s_ m_ ([.ref mM] : List Value).toArray cd_ cX8_reads 2 wsX8_reads yX8_reads.cls D cyC cyI) (hr : me_.sig.returnType = (some .int)) (hlk : me_.locks = false) (hle : le ≤ nI 200) : ∀ (n_ : Nat) (si : Nat) (rg : Nat → Int32) (tg : Nat → Int32) (hN : 222 ≤ si + n_) (hS : si ≤ 220) (hu : g_reads8 le tx n_ si rg tg = (o0, o1, o2, o3)) (ls : Array Slot) (H : Heap) (locs : List Loc), lv_has ls 2 [(0, .ref mM)] → bY D A_ s_.heap [(mM, .inr (8, [.ref mN, .ref mR, .ref mA, .ref mP, .int ch, .ref mT, .int le, .int (nI si), .ref mD])), (mR, .inl (cyI, 515, .inl rg)), (mT, .inl (cyI, 200, .inl tx)), (mD, .inl (cyI, 4, .inl tg))] H locs → W p_ l e_ ({ frames := 6, cells := 0, slots := 0, locals := 134 } : Room) s_ m_ ([.ref mM] : List Value).toArray bl_ me_ cd_ H locs 0 0 (bQI bl_ ([.ref mM] : List Value).toArray s_ D [(mM, .inr (8, [.ref mN, .ref mR, .ref mA, .ref mP, .int ch, .ref mT, .int le, .int o1, .ref mD])), (mR, .inl (cyI, 515, .inl o2)), (mT, .inl (cyI, 200, .inl tx)), (mD, .inl (cyI, 4, .inl o3))] o0 A_) (F0 m_ 9 ls []) := by
  intro n_
  induction n_ with
  | zero =>
    intro si rg tg hN hS hu ls H locs hl Y
    exfalso; omega
  | succ n_ ih =>
    intro si rg tg hN hS hu ls H locs hl Y
    have hx := X.1.1
    have hb := X.1.2.1
    rw [g_reads8] at hu
    refine lv_aload_n hx hb dX8_reads_9 rfl (lv_at hl 0 rfl) ?_
    refine bGet (v := .int (nI si)) (T := TX8) (N := 9) (ci := 8) X Y i_X8_reads_X8 0 rfl rfl 7 (Nat.le_of_ble_eq_true rfl) f_X8_reads_42 rfl rfl dX8_reads_10 ?_
    refine lv_aload_n hx hb dX8_reads_13 rfl (lv_at hl 0 rfl) ?_
    refine bGet (v := .int le) (T := TX8) (N := 9) (ci := 8) X Y i_X8_reads_X8 0 rfl rfl 6 (Nat.le_of_ble_eq_true rfl) f_X8_reads_45 rfl rfl dX8_reads_14 ?_
    refine lv_icmp_ge (tgt := 37) hx hb dX8_reads_17 (by decide) (fun c_1 => ?_) (fun c_1 => ?_)
    · have c_1 : le ≤ nI si := c_1
      rw [if_pos c_1] at hu
      refine lv_bipush (v := (-4)) hx hb dX8_reads_37 (by decide) ?_
      have h9 := (Prod.mk.inj hu).1; replace hu := (Prod.mk.inj hu).2; subst h9
      have h9 := (Prod.mk.inj hu).1; replace hu := (Prod.mk.inj hu).2; subst h9
      have h9 := (Prod.mk.inj hu).1; replace hu := (Prod.mk.inj hu).2; subst h9
      subst hu
      exact bEndI X Y hr hlk dX8_reads_39 rfl rfl
    · have c_1 : ¬ (le ≤ nI si) := c_1
      rw [if_neg c_1] at hu
      refine lv_aload_n hx hb dX8_reads_20 rfl (lv_at hl 0 rfl) ?_
      refine bGet (v := .int (nI si)) (T := TX8) (N := 9) (ci := 8) X Y i_X8_reads_X8 0 rfl rfl 7 (Nat.le_of_ble_eq_true rfl) f_X8_reads_42 rfl rfl dX8_reads_21 ?_
      refine lv_istore_n (lv' := [(1, .int (nI si)), (0, .ref mM)]) hx hb dX8_reads_24 rfl hl (by decide) rfl (fun ls hl => ?_)
      refine lv_aload_n hx hb dX8_reads_25 rfl (lv_at hl 1 rfl) ?_
      obtain ⟨u_2_0, u_2_1, u_2_2, u_2_3, hr_2⟩ := bEx4 (s_takesItem8 le si rg tx tg)
      rw [hr_2] at hu
      dsimp only at hu
      have tiK_2 := tiK hr_2
      refine bVI (As := []) (rest := []) (wc := [(mM, .inr (8, [.ref mN, .ref mR, .ref mA, .ref mP, .int ch, .ref mT, .int le, .int (nI si), .ref mD])), (mR, .inl (cyI, 515, .inl rg)), (mT, .inl (cyI, 200, .inl tx)), (mD, .inl (cyI, 4, .inl tg))]) (w1 := [(mM, .inr (8, [.ref mN, .ref mR, .ref mA, .ref mP, .int ch, .ref mT, .int le, .int (nI u_2_1), .ref mD])), (mR, .inl (cyI, 515, .inl u_2_2)), (mT, .inl (cyI, 200, .inl tx)), (mD, .inl (cyI, 4, .inl u_2_3))]) (ws' := [(mM, .inr (8, [.ref mN, .ref mR, .ref mA, .ref mP, .int ch, .ref mT, .int le, .int (nI u_2_1), .ref mD])), (mR, .inl (cyI, 515, .inl u_2_2)), (mT, .inl (cyI, 200, .inl tx)), (mD, .inl (cyI, 4, .inl u_2_3))]) (ad := [mM, mR, mT, mD]) (wr := []) (nn := 4) (ci := 8) (q0 := 0) X Y (c_takesItem8 l D cyC cyI mM mN mR mA mP mT mD ch le si rg tx tg u_2_0 u_2_1 u_2_2 u_2_3 hr_2 (by first | assumption | omega | decide) (by first | assumption | omega | decide) (by first | assumption | omega | decide)) gX8_reads_X8_takesItem rfl ⟨rfl, rfl⟩ hd_X8_takesItem ⟨(Nat.le_of_ble_eq_true rfl), (Nat.le_of_ble_eq_true rfl)⟩ rfl rfl rfl [0, 1, 2, 3] [] rfl rfl rfl rfl rfl rfl rfl rfl (by decide) rfl rfl hl.1 (Nat.le_of_ble_eq_true rfl) ⟨Nat.zero_le _, Nat.zero_le _⟩ dX8_reads_26 (fun H locs Y => ?_)
      refine lv_if_ne (tgt := 34) hx hb dX8_reads_29 (by decide) (fun c_3 => ?_) (fun c_3 => ?_)
      · have c_3 := bB_t c_3
        rw [if_pos c_3] at hu
        refine lv_goto (tgt := 9) hx hb dX8_reads_34 (by decide) ?_
        exact ih u_2_1 u_2_2 u_2_3 (by have q1 := tiK_2 (by omega); omega) (by have q1 := tiK_2 (by omega); have q2 := bNleS (by omega) (by decide) hle c_1; omega) hu _ _ _ (lv_sub hl [1] rfl) Y
      · have c_3 := bB_f c_3
        rw [if_neg c_3] at hu
        refine lv_iload_n hx hb dX8_reads_32 rfl (lv_at hl 0 rfl) ?_
        have h9 := (Prod.mk.inj hu).1; replace hu := (Prod.mk.inj hu).2; subst h9
        have h9 := (Prod.mk.inj hu).1; replace hu := (Prod.mk.inj hu).2; subst h9
        have h9 := (Prod.mk.inj hu).1; replace hu := (Prod.mk.inj hu).2; subst h9
        subst hu
        exact bEndI X Y hr hlk dX8_reads_33 rfl rfl
set_option maxHeartbeats 4000000 in
set_option maxRecDepth 100000 in
theorem c_reads8 (l : Launch) (D : va_G) (cyC cyI : ClassId) (mM : Nat) (mN : Nat) (mR : Nat) (mA : Nat) (mP : Nat) (mT : Nat) (mD : Nat) (ch : Int32) (le : Int32) (sp : Int32) (rd : Nat → Int32) (tx : Nat → Int32) (td : Nat → Int32) (o0 : Int32) (o1 : Int32) (o2 : Nat → Int32) (o3 : Nat → Int32) (hu : s_reads8 le rd tx td = (o0, o1, o2, o3)) (hle : le ≤ nI 200) : CI l yX8_reads wsX8_reads { frames := 6, cells := 0, slots := 0, locals := 134 } D cyC cyI [.ref mM] [(mM, .inr (8, [.ref mN, .ref mR, .ref mA, .ref mP, .int ch, .ref mT, .int le, .int sp, .ref mD])), (mR, .inl (cyI, 515, .inl rd)), (mT, .inl (cyI, 200, .inl tx)), (mD, .inl (cyI, 4, .inl td))] o0 [(mM, .inr (8, [.ref mN, .ref mR, .ref mA, .ref mP, .int ch, .ref mT, .int le, .int o1, .ref mD])), (mR, .inl (cyI, 515, .inl o2)), (mT, .inl (cyI, 200, .inl tx)), (mD, .inl (cyI, 4, .inl o3))] := by
  refine CI.of (cc := cX8_reads) (n := 2) (ret := (some .int)) (by decide +kernel) rfl (Nat.le_of_ble_eq_true rfl) ?_
  intro p_ e_ s_ m_ bl_ me_ cd_ A_ ls X Y hr hlk hl
  have hx := X.1.1
  have hb := X.1.2.1
  have hl : lv_has ls 2 [(0, .ref mM)] := hl
  unfold s_reads8 at hu
  refine lv_aload_n hx hb dX8_reads_0 rfl (lv_at hl 0 rfl) ?_
  obtain ⟨u_1_0, hr_1⟩ := bEx1 (s_begins8 rd)
  rw [hr_1] at hu
  dsimp only at hu
  refine bVV (As := []) (rest := []) (wc := [(mM, .inr (8, [.ref mN, .ref mR, .ref mA, .ref mP, .int ch, .ref mT, .int le, .int sp, .ref mD])), (mR, .inl (cyI, 515, .inl rd))]) (w1 := [(mM, .inr (8, [.ref mN, .ref mR, .ref mA, .ref mP, .int ch, .ref mT, .int le, .int sp, .ref mD])), (mR, .inl (cyI, 515, .inl u_1_0))]) (ws' := [(mM, .inr (8, [.ref mN, .ref mR, .ref mA, .ref mP, .int ch, .ref mT, .int le, .int sp, .ref mD])), (mR, .inl (cyI, 515, .inl u_1_0)), (mT, .inl (cyI, 200, .inl tx)), (mD, .inl (cyI, 4, .inl td))]) (ad := [mM, mR]) (wr := [(mT, .inl (cyI, 200, .inl tx)), (mD, .inl (cyI, 4, .inl td))]) (nn := 4) (ci := 8) (q0 := 0) X Y (c_begins8 l D cyC cyI mM mN mR mA mP mT mD ch le sp rd u_1_0 hr_1) gX8_reads_X8_begins rfl ⟨rfl, rfl⟩ hd_X8_begins ⟨(Nat.le_of_ble_eq_true rfl), (Nat.le_of_ble_eq_true rfl)⟩ rfl rfl rfl [0, 1] [2, 3] rfl rfl rfl rfl rfl rfl rfl rfl (by decide) rfl rfl hl.1 (Nat.le_of_ble_eq_true rfl) ⟨Nat.zero_le _, Nat.zero_le _⟩ dX8_reads_1 (fun H locs Y => ?_)
  refine lv_aload_n hx hb dX8_reads_4 rfl (lv_at hl 0 rfl) ?_
  refine lv_iconst (v := 0) hx hb dX8_reads_5 (by decide) ?_
  refine bPut (T := TX8) (N := 9) (ci := 8) (ws' := [(mM, .inr (8, [.ref mN, .ref mR, .ref mA, .ref mP, .int ch, .ref mT, .int le, .int 0, .ref mD])), (mR, .inl (cyI, 515, .inl u_1_0)), (mT, .inl (cyI, 200, .inl tx)), (mD, .inl (cyI, 4, .inl td))]) X Y i_X8_reads_X8 tyX8 tyX8_ok nmX8 0 rfl rfl 7 (Nat.le_of_ble_eq_true rfl) f_X8_reads_42 rfl rfl rfl rfl (Nat.le_of_ble_eq_true rfl) rfl dX8_reads_6 (fun H locs Y => ?_)
  exact lp_reads8 l D cyC cyI mM mN mR mA mP mT mD ch le sp rd tx td o0 o1 o2 o3 X hr hlk hle (222) 0 u_1_0 td (by omega) (by omega) hu _ _ _ (lv_sub hl [0] rfl) Y
