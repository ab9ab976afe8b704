theorem GI_upd5 {nw : Nat → Int32} {v : Int32} (g : GI nw) : GI (upd nw 5 v) := by
  unfold GI at g ⊢
  rw [upd_ne (by decide), upd_ne (by decide), upd_ne (by decide), upd_ne (by decide), upd_ne (by decide), upd_ne (by decide), upd_ne (by decide)]
  exact g
theorem i_X8_shapes_X8 : ∀ w ∈ wsX80, w ∈ wsX8_shapes := by decide +kernel
theorem f_X8_shapes_7 : Cond.fieldLink RX8 7 "SwingCranesModel" "now" "[I" ∈ wsX8_shapes := by decide +kernel
def s_shapes8_0 (nw : Nat → Int32) (w : Int32) : Int32 × (Nat → Int32) :=
  match s_commands8p_0 (upd nw 5 (-4)) w (nI (s_halfOf8 (nw 9))) with
  | (u_1_0, u_1_1) =>
    if (s_heeds8_10 (upd u_1_1 5 (nw 5))) = true then
      match s_commands8p_1 (upd (upd u_1_1 5 (nw 5)) 5 (-4)) w (nI (s_halfOf8 (u_1_1 22))) with
      | (u_3_0, u_3_1) =>
        ((0 + u_1_0) + u_3_0, upd u_3_1 5 (nw 5))
    else
      (0 + u_1_0, upd u_1_1 5 (nw 5))
set_option maxHeartbeats 4000000 in
set_option maxRecDepth 100000 in
theorem c_shapes8_0 (l : Launch) (D : va_G) (cyC cyI : ClassId) (mM : Nat) (mN : Nat) (mR : Nat) (mA : Nat) (mP : Nat) (mT : Nat) (mD : Nat) (ch : Int32) (le : Int32) (sp : Int32) (nw : Nat → Int32) (w : Int32) (o0 : Int32) (o1 : Nat → Int32) (hu : s_shapes8_0 nw w = (o0, o1)) (hG : GI nw) : CI l yX8_shapes wsX8_shapes { frames := 3, cells := 0, slots := 0, locals := 74 } D cyC cyI [.ref mM, .int 0, .int w] [(mM, .inr (8, [.ref mN, .ref mR, .ref mA, .ref mP, .int ch, .ref mT, .int le, .int sp, .ref mD])), (mN, .inl (cyI, 515, .inl nw))] o0 [(mM, .inr (8, [.ref mN, .ref mR, .ref mA, .ref mP, .int ch, .ref mT, .int le, .int sp, .ref mD])), (mN, .inl (cyI, 515, .inl o1))] := by
  refine CI.of (cc := cX8_shapes) (n := 6) (ret := (some .int)) (by decide +kernel) rfl (Nat.le_of_ble_eq_true rfl) ?_
  intro p_ e_ s_ m_ bl_ me_ cd_ A_ ls X Y hr hlk hl
  have hx := X.1.1
  have hb := X.1.2.1
  have hl : lv_has ls 6 [(0, .ref mM), (1, .int 0), (2, .int w)] := hl
  unfold s_shapes8_0 at hu
  refine lv_iconst (v := 0) hx hb dX8_shapes_0 (by decide) ?_
  refine lv_istore_n (lv' := [(3, .int 0), (0, .ref mM), (1, .int 0), (2, .int w)]) hx hb dX8_shapes_1 rfl hl (by decide) rfl (fun ls hl => ?_)
  refine lv_iconst (v := 0) hx hb dX8_shapes_2 (by decide) ?_
  refine lv_istore (lv' := [(4, .int 0), (3, .int 0), (0, .ref mM), (1, .int 0), (2, .int w)]) hx hb dX8_shapes_3 hl (by decide) rfl (fun ls hl => ?_)
  refine lv_iload hx hb dX8_shapes_5 (lv_at hl 0 rfl) ?_
  refine lv_iconst (v := 2) hx hb dX8_shapes_7 (by decide) ?_
  refine lv_icmp_ge (tgt := 71) hx hb dX8_shapes_8 (by decide) (fun c_ => absurd c_ (by decide)) (fun _ => ?_)
  refine lv_aload_n hx hb dX8_shapes_11 rfl (lv_at hl 2 rfl) ?_
  refine lv_iload hx hb dX8_shapes_12 (lv_at hl 0 rfl) ?_
  refine lv_iload_n hx hb dX8_shapes_14 rfl (lv_at hl 3 rfl) ?_
  refine bVI0 (As := [.int 0, .int 0]) (rest := []) (wc := [(mM, .inr (8, [.ref mN, .ref mR, .ref mA, .ref mP, .int ch, .ref mT, .int le, .int sp, .ref mD])), (mN, .inl (cyI, 515, .inl nw))]) (ci := 8) (q0 := 0) X Y (c_heeds8_00 l D cyC cyI mM mN mR mA mP mT mD ch le sp nw true rfl) gX8_shapes_X8_heeds rfl ⟨rfl, rfl⟩ hd_X8_heeds ⟨(Nat.le_of_ble_eq_true rfl), (Nat.le_of_ble_eq_true rfl)⟩ rfl rfl rfl [0, 1] rfl rfl rfl rfl hl.1 (Nat.le_of_ble_eq_true rfl) ⟨Nat.zero_le _, Nat.zero_le _⟩ dX8_shapes_15 (fun H locs Y => ?_)
  refine lv_if_eq (tgt := 65) hx hb dX8_shapes_18 (by decide) (fun c_ => absurd c_ (by decide)) (fun _ => ?_)
  refine lv_aload_n hx hb dX8_shapes_21 rfl (lv_at hl 2 rfl) ?_
  refine bGet (v := .ref mN) (T := TX8) (N := 9) (ci := 8) X Y i_X8_shapes_X8 0 rfl rfl 0 (Nat.le_of_ble_eq_true rfl) f_X8_shapes_7 rfl rfl dX8_shapes_22 ?_
  refine lv_iconst (v := 5) hx hb dX8_shapes_25 (by decide) ?_
  refine bIald (v := nw 5) X Y 1 rfl (bInD (by decide)) dX8_shapes_26 rfl ?_
  refine lv_istore (lv' := [(5, .int (nw 5)), (4, .int 0), (3, .int 0), (0, .ref mM), (1, .int 0), (2, .int w)]) hx hb dX8_shapes_27 hl (by decide) rfl (fun ls hl => ?_)
  refine lv_aload_n hx hb dX8_shapes_29 rfl (lv_at hl 3 rfl) ?_
  refine bGet (v := .ref mN) (T := TX8) (N := 9) (ci := 8) X Y i_X8_shapes_X8 0 rfl rfl 0 (Nat.le_of_ble_eq_true rfl) f_X8_shapes_7 rfl rfl dX8_shapes_30 ?_
  refine lv_iconst (v := 5) hx hb dX8_shapes_33 (by decide) ?_
  refine lv_bipush (v := (-4)) hx hb dX8_shapes_34 (by decide) ?_
  refine bIast (f' := upd nw 5 (-4)) (ws' := [(mM, .inr (8, [.ref mN, .ref mR, .ref mA, .ref mP, .int ch, .ref mT, .int le, .int sp, .ref mD])), (mN, .inl (cyI, 515, .inl (upd nw 5 (-4))))]) X Y 1 rfl (bInD (by decide)) rfl rfl dX8_shapes_36 (fun H locs Y => ?_)
  refine lv_iload_n hx hb dX8_shapes_37 rfl (lv_at hl 2 rfl) ?_
  refine lv_aload_n hx hb dX8_shapes_38 rfl (lv_at hl 3 rfl) ?_
  refine lv_iload hx hb dX8_shapes_39 (lv_at hl 1 rfl) ?_
  refine lv_iload_n hx hb dX8_shapes_41 rfl (lv_at hl 5 rfl) ?_
  refine lv_aload_n hx hb dX8_shapes_42 rfl (lv_at hl 3 rfl) ?_
  refine lv_iload hx hb dX8_shapes_43 (lv_at hl 1 rfl) ?_
  refine lv_iconst (v := 2) hx hb dX8_shapes_45 (by decide) ?_
  refine bVI0 (As := [.int 0, .int 2]) (rest := [.int w, .int 0, .ref mM, .int 0]) (wc := [(mM, .inr (8, [.ref mN, .ref mR, .ref mA, .ref mP, .int ch, .ref mT, .int le, .int sp, .ref mD])), (mN, .inl (cyI, 515, .inl (upd nw 5 (-4))))]) (ci := 8) (q0 := 0) X Y (c_of8 l D cyC cyI mM mN mR mA mP mT mD ch le sp (upd nw 5 (-4)) 0 2 (nw 9) (bOf (i := 9) (by decide) ((upd_ne (by decide)).trans rfl)) (bInD (by decide))) gX8_shapes_X8_of rfl ⟨rfl, rfl⟩ hd_X8_of ⟨(Nat.le_of_ble_eq_true rfl), (Nat.le_of_ble_eq_true rfl)⟩ rfl rfl rfl [0, 1] rfl rfl rfl rfl hl.1 (Nat.le_of_ble_eq_true rfl) ⟨Nat.zero_le _, Nat.zero_le _⟩ dX8_shapes_46 (fun H locs Y => ?_)
  refine bSI (As := [.int (nw 9)]) (rest := [.int w, .int 0, .ref mM, .int 0]) X Y (c_halfOf8 l D cyC cyI (nw 9) (s_halfOf8 (nw 9)) rfl (by first | exact half0 (hG.2.2.2.1).1 | exact half0 (hG.2.2.2.2.1).1 | exact half0 ((GI_cmdp_0_1 (GI_upd5 hG)).2.2.2.2.1).1 | exact half0 ((GI_cmdp_0_1 (GI_upd5 hG)).2.2.2.1).1 | exact half0 ((GI_cmdp_0_2 (GI_upd5 hG)).2.2.2.2.1).1 | exact half0 ((GI_cmdp_0_2 (GI_upd5 hG)).2.2.2.1).1 | exact half0 ((GI_cmdp_0_3 (GI_upd5 hG)).2.2.2.2.1).1 | exact half0 ((GI_cmdp_0_3 (GI_upd5 hG)).2.2.2.1).1 | exact half0 ((GI_cmdp_0_4 (GI_upd5 hG)).2.2.2.2.1).1 | exact half0 ((GI_cmdp_0_4 (GI_upd5 hG)).2.2.2.1).1 | exact half0 ((GI_cmdp_0_5 (GI_upd5 hG)).2.2.2.2.1).1 | exact half0 ((GI_cmdp_0_5 (GI_upd5 hG)).2.2.2.1).1 | exact half0 ((GI_cmdp_0_6 (GI_upd5 hG)).2.2.2.2.1).1 | exact half0 ((GI_cmdp_0_6 (GI_upd5 hG)).2.2.2.1).1 | exact half0 ((GI_cmdp_0_7 (GI_upd5 hG)).2.2.2.2.1).1 | exact half0 ((GI_cmdp_0_7 (GI_upd5 hG)).2.2.2.1).1 | exact half0 ((GI_cmdp_1_1 (GI_upd5 hG)).2.2.2.2.1).1 | exact half0 ((GI_cmdp_1_1 (GI_upd5 hG)).2.2.2.1).1 | exact half0 ((GI_cmdp_1_2 (GI_upd5 hG)).2.2.2.2.1).1 | exact half0 ((GI_cmdp_1_2 (GI_upd5 hG)).2.2.2.1).1 | exact half0 ((GI_cmdp_1_3 (GI_upd5 hG)).2.2.2.2.1).1 | exact half0 ((GI_cmdp_1_3 (GI_upd5 hG)).2.2.2.1).1 | exact half0 ((GI_cmdp_1_4 (GI_upd5 hG)).2.2.2.2.1).1 | exact half0 ((GI_cmdp_1_4 (GI_upd5 hG)).2.2.2.1).1 | exact half0 ((GI_cmdp_1_5 (GI_upd5 hG)).2.2.2.2.1).1 | exact half0 ((GI_cmdp_1_5 (GI_upd5 hG)).2.2.2.1).1 | exact half0 ((GI_cmdp_1_6 (GI_upd5 hG)).2.2.2.2.1).1 | exact half0 ((GI_cmdp_1_6 (GI_upd5 hG)).2.2.2.1).1 | exact half0 ((GI_cmdp_1_7 (GI_upd5 hG)).2.2.2.2.1).1 | exact half0 ((GI_cmdp_1_7 (GI_upd5 hG)).2.2.2.1).1) (by first | exact (hG.2.2.2.1).2 | exact (hG.2.2.2.2.1).2 | exact ((GI_cmdp_0_1 (GI_upd5 hG)).2.2.2.2.1).2 | exact ((GI_cmdp_0_1 (GI_upd5 hG)).2.2.2.1).2 | exact ((GI_cmdp_0_2 (GI_upd5 hG)).2.2.2.2.1).2 | exact ((GI_cmdp_0_2 (GI_upd5 hG)).2.2.2.1).2 | exact ((GI_cmdp_0_3 (GI_upd5 hG)).2.2.2.2.1).2 | exact ((GI_cmdp_0_3 (GI_upd5 hG)).2.2.2.1).2 | exact ((GI_cmdp_0_4 (GI_upd5 hG)).2.2.2.2.1).2 | exact ((GI_cmdp_0_4 (GI_upd5 hG)).2.2.2.1).2 | exact ((GI_cmdp_0_5 (GI_upd5 hG)).2.2.2.2.1).2 | exact ((GI_cmdp_0_5 (GI_upd5 hG)).2.2.2.1).2 | exact ((GI_cmdp_0_6 (GI_upd5 hG)).2.2.2.2.1).2 | exact ((GI_cmdp_0_6 (GI_upd5 hG)).2.2.2.1).2 | exact ((GI_cmdp_0_7 (GI_upd5 hG)).2.2.2.2.1).2 | exact ((GI_cmdp_0_7 (GI_upd5 hG)).2.2.2.1).2 | exact ((GI_cmdp_1_1 (GI_upd5 hG)).2.2.2.2.1).2 | exact ((GI_cmdp_1_1 (GI_upd5 hG)).2.2.2.1).2 | exact ((GI_cmdp_1_2 (GI_upd5 hG)).2.2.2.2.1).2 | exact ((GI_cmdp_1_2 (GI_upd5 hG)).2.2.2.1).2 | exact ((GI_cmdp_1_3 (GI_upd5 hG)).2.2.2.2.1).2 | exact ((GI_cmdp_1_3 (GI_upd5 hG)).2.2.2.1).2 | exact ((GI_cmdp_1_4 (GI_upd5 hG)).2.2.2.2.1).2 | exact ((GI_cmdp_1_4 (GI_upd5 hG)).2.2.2.1).2 | exact ((GI_cmdp_1_5 (GI_upd5 hG)).2.2.2.2.1).2 | exact ((GI_cmdp_1_5 (GI_upd5 hG)).2.2.2.1).2 | exact ((GI_cmdp_1_6 (GI_upd5 hG)).2.2.2.2.1).2 | exact ((GI_cmdp_1_6 (GI_upd5 hG)).2.2.2.1).2 | exact ((GI_cmdp_1_7 (GI_upd5 hG)).2.2.2.2.1).2 | exact ((GI_cmdp_1_7 (GI_upd5 hG)).2.2.2.1).2)) gX8_shapes_X8_halfOf rfl ⟨rfl, rfl⟩ hd_X8_halfOf.2 ⟨(Nat.le_of_ble_eq_true rfl), (Nat.le_of_ble_eq_true rfl)⟩ rfl rfl hl.1 (Nat.le_of_ble_eq_true rfl) ⟨Nat.zero_le _, Nat.zero_le _⟩ dX8_shapes_49 (fun H locs Y => ?_)
  obtain ⟨u_1_0, u_1_1, hr_1⟩ := bEx2 (s_commands8p_0 (upd nw 5 (-4)) w (nI (s_halfOf8 (nw 9))))
  rw [hr_1] at hu
  dsimp only at hu
  have GI_cmdp_0_1 := GI_cmdp_0 hr_1
  refine bVI (As := [.int 0, .int w, .int (nI (s_halfOf8 (nw 9)))]) (rest := [.int 0]) (wc := [(mM, .inr (8, [.ref mN, .ref mR, .ref mA, .ref mP, .int ch, .ref mT, .int le, .int sp, .ref mD])), (mN, .inl (cyI, 515, .inl (upd nw 5 (-4))))]) (w1 := [(mM, .inr (8, [.ref mN, .ref mR, .ref mA, .ref mP, .int ch, .ref mT, .int le, .int sp, .ref mD])), (mN, .inl (cyI, 515, .inl u_1_1))]) (ws' := [(mM, .inr (8, [.ref mN, .ref mR, .ref mA, .ref mP, .int ch, .ref mT, .int le, .int sp, .ref mD])), (mN, .inl (cyI, 515, .inl u_1_1))]) (ad := [mM, mN]) (wr := []) (nn := 2) (ci := 8) (q0 := 0) X Y (c_commands8p_0 l D cyC cyI mM mN mR mA mP mT mD ch le sp (upd nw 5 (-4)) w (nI (s_halfOf8 (nw 9))) u_1_0 u_1_1 hr_1) gX8_shapes_X8_commands rfl ⟨rfl, rfl⟩ hd_X8_commands ⟨(Nat.le_of_ble_eq_true rfl), (Nat.le_of_ble_eq_true rfl)⟩ rfl rfl rfl [0, 1] [] rfl rfl rfl rfl rfl rfl rfl rfl (by decide) rfl rfl hl.1 (Nat.le_of_ble_eq_true rfl) ⟨Nat.zero_le _, Nat.zero_le _⟩ dX8_shapes_52 (fun H locs Y => ?_)
  refine bAdd (v := 0 + u_1_0) X dX8_shapes_55 rfl ?_
  refine lv_istore_n (lv' := [(3, .int (0 + u_1_0)), (5, .int (nw 5)), (4, .int 0), (0, .ref mM), (1, .int 0), (2, .int w)]) hx hb dX8_shapes_56 rfl hl (by decide) rfl (fun ls hl => ?_)
  refine lv_aload_n hx hb dX8_shapes_57 rfl (lv_at hl 3 rfl) ?_
  refine bGet (v := .ref mN) (T := TX8) (N := 9) (ci := 8) X Y i_X8_shapes_X8 0 rfl rfl 0 (Nat.le_of_ble_eq_true rfl) f_X8_shapes_7 rfl rfl dX8_shapes_58 ?_
  refine lv_iconst (v := 5) hx hb dX8_shapes_61 (by decide) ?_
  refine lv_iload hx hb dX8_shapes_62 (lv_at hl 1 rfl) ?_
  refine bIast (f' := upd u_1_1 5 (nw 5)) (ws' := [(mM, .inr (8, [.ref mN, .ref mR, .ref mA, .ref mP, .int ch, .ref mT, .int le, .int sp, .ref mD])), (mN, .inl (cyI, 515, .inl (upd u_1_1 5 (nw 5))))]) X Y 1 rfl (bInD (by decide)) rfl rfl dX8_shapes_64 (fun H locs Y => ?_)
  refine lv_iinc (v := 1) (lv' := [(4, .int 1), (3, .int (0 + u_1_0)), (5, .int (nw 5)), (0, .ref mM), (1, .int 0), (2, .int w)]) hx hb dX8_shapes_65 hl (k := 2) rfl (by decide) (by decide) rfl (fun ls hl => ?_)
  refine lv_goto (tgt := 5) hx hb dX8_shapes_68 (by decide) ?_
  refine lv_iload hx hb dX8_shapes_5 (lv_at hl 0 rfl) ?_
  refine lv_iconst (v := 2) hx hb dX8_shapes_7 (by decide) ?_
  refine lv_icmp_ge (tgt := 71) hx hb dX8_shapes_8 (by decide) (fun c_ => absurd c_ (by decide)) (fun _ => ?_)
  refine lv_aload_n hx hb dX8_shapes_11 rfl (lv_at hl 3 rfl) ?_
  refine lv_iload hx hb dX8_shapes_12 (lv_at hl 0 rfl) ?_
  refine lv_iload_n hx hb dX8_shapes_14 rfl (lv_at hl 4 rfl) ?_
  refine bVI0 (As := [.int 1, .int 0]) (rest := []) (wc := [(mM, .inr (8, [.ref mN, .ref mR, .ref mA, .ref mP, .int ch, .ref mT, .int le, .int sp, .ref mD])), (mN, .inl (cyI, 515, .inl (upd u_1_1 5 (nw 5))))]) (ci := 8) (q0 := 0) X Y (c_heeds8_10 l D cyC cyI mM mN mR mA mP mT mD ch le sp (upd u_1_1 5 (nw 5)) (s_heeds8_10 (upd u_1_1 5 (nw 5))) rfl) gX8_shapes_X8_heeds rfl ⟨rfl, rfl⟩ hd_X8_heeds ⟨(Nat.le_of_ble_eq_true rfl), (Nat.le_of_ble_eq_true rfl)⟩ rfl rfl rfl [0, 1] rfl rfl rfl rfl hl.1 (Nat.le_of_ble_eq_true rfl) ⟨Nat.zero_le _, Nat.zero_le _⟩ dX8_shapes_15 (fun H locs Y => ?_)
  refine lv_if_eq (tgt := 65) hx hb dX8_shapes_18 (by decide) (fun c_2 => ?_) (fun c_2 => ?_)
  · have c_2 := bB_f c_2
    rw [if_neg c_2] at hu
    refine lv_iinc (v := 2) (lv' := [(4, .int 2), (3, .int (0 + u_1_0)), (5, .int (nw 5)), (0, .ref mM), (1, .int 0), (2, .int w)]) hx hb dX8_shapes_65 hl (k := 0) rfl (by decide) (by decide) rfl (fun ls hl => ?_)
    refine lv_goto (tgt := 5) hx hb dX8_shapes_68 (by decide) ?_
    refine lv_iload hx hb dX8_shapes_5 (lv_at hl 0 rfl) ?_
    refine lv_iconst (v := 2) hx hb dX8_shapes_7 (by decide) ?_
    refine lv_icmp_ge (tgt := 71) hx hb dX8_shapes_8 (by decide) (fun _ => ?_) (fun c_ => absurd (by decide) c_)
    refine lv_iload_n hx hb dX8_shapes_71 rfl (lv_at hl 1 rfl) ?_
    have h9 := (Prod.mk.inj hu).1; replace hu := (Prod.mk.inj hu).2; subst h9
    subst hu
    exact bEndI X Y hr hlk dX8_shapes_72 rfl rfl
  · have c_2 := bB_t c_2
    rw [if_pos c_2] at hu
    refine lv_aload_n hx hb dX8_shapes_21 rfl (lv_at hl 3 rfl) ?_
    refine bGet (v := .ref mN) (T := TX8) (N := 9) (ci := 8) X Y i_X8_shapes_X8 0 rfl rfl 0 (Nat.le_of_ble_eq_true rfl) f_X8_shapes_7 rfl rfl dX8_shapes_22 ?_
    refine lv_iconst (v := 5) hx hb dX8_shapes_25 (by decide) ?_
    refine bIald (v := nw 5) X Y 1 rfl (bInD (by decide)) dX8_shapes_26 upd_eq ?_
    refine lv_istore (lv' := [(5, .int (nw 5)), (4, .int 1), (3, .int (0 + u_1_0)), (0, .ref mM), (1, .int 0), (2, .int w)]) hx hb dX8_shapes_27 hl (by decide) rfl (fun ls hl => ?_)
    refine lv_aload_n hx hb dX8_shapes_29 rfl (lv_at hl 3 rfl) ?_
    refine bGet (v := .ref mN) (T := TX8) (N := 9) (ci := 8) X Y i_X8_shapes_X8 0 rfl rfl 0 (Nat.le_of_ble_eq_true rfl) f_X8_shapes_7 rfl rfl dX8_shapes_30 ?_
    refine lv_iconst (v := 5) hx hb dX8_shapes_33 (by decide) ?_
    refine lv_bipush (v := (-4)) hx hb dX8_shapes_34 (by decide) ?_
    refine bIast (f' := upd (upd u_1_1 5 (nw 5)) 5 (-4)) (ws' := [(mM, .inr (8, [.ref mN, .ref mR, .ref mA, .ref mP, .int ch, .ref mT, .int le, .int sp, .ref mD])), (mN, .inl (cyI, 515, .inl (upd (upd u_1_1 5 (nw 5)) 5 (-4))))]) X Y 1 rfl (bInD (by decide)) rfl rfl dX8_shapes_36 (fun H locs Y => ?_)
    refine lv_iload_n hx hb dX8_shapes_37 rfl (lv_at hl 2 rfl) ?_
    refine lv_aload_n hx hb dX8_shapes_38 rfl (lv_at hl 3 rfl) ?_
    refine lv_iload hx hb dX8_shapes_39 (lv_at hl 1 rfl) ?_
    refine lv_iload_n hx hb dX8_shapes_41 rfl (lv_at hl 5 rfl) ?_
    refine lv_aload_n hx hb dX8_shapes_42 rfl (lv_at hl 3 rfl) ?_
    refine lv_iload hx hb dX8_shapes_43 (lv_at hl 1 rfl) ?_
    refine lv_iconst (v := 2) hx hb dX8_shapes_45 (by decide) ?_
    refine bVI0 (As := [.int 1, .int 2]) (rest := [.int w, .int 1, .ref mM, .int (0 + u_1_0)]) (wc := [(mM, .inr (8, [.ref mN, .ref mR, .ref mA, .ref mP, .int ch, .ref mT, .int le, .int sp, .ref mD])), (mN, .inl (cyI, 515, .inl (upd (upd u_1_1 5 (nw 5)) 5 (-4))))]) (ci := 8) (q0 := 0) X Y (c_of8 l D cyC cyI mM mN mR mA mP mT mD ch le sp (upd (upd u_1_1 5 (nw 5)) 5 (-4)) 1 2 (u_1_1 22) (bOf (i := 22) (by decide) ((upd_ne (by decide)).trans ((upd_ne (by decide)).trans rfl))) (bInD (by decide))) gX8_shapes_X8_of rfl ⟨rfl, rfl⟩ hd_X8_of ⟨(Nat.le_of_ble_eq_true rfl), (Nat.le_of_ble_eq_true rfl)⟩ rfl rfl rfl [0, 1] rfl rfl rfl rfl hl.1 (Nat.le_of_ble_eq_true rfl) ⟨Nat.zero_le _, Nat.zero_le _⟩ dX8_shapes_46 (fun H locs Y => ?_)
    refine bSI (As := [.int (u_1_1 22)]) (rest := [.int w, .int 1, .ref mM, .int (0 + u_1_0)]) X Y (c_halfOf8 l D cyC cyI (u_1_1 22) (s_halfOf8 (u_1_1 22)) rfl (by first | exact half0 (hG.2.2.2.1).1 | exact half0 (hG.2.2.2.2.1).1 | exact half0 ((GI_cmdp_0_1 (GI_upd5 hG)).2.2.2.2.1).1 | exact half0 ((GI_cmdp_0_1 (GI_upd5 hG)).2.2.2.1).1 | exact half0 ((GI_cmdp_0_2 (GI_upd5 hG)).2.2.2.2.1).1 | exact half0 ((GI_cmdp_0_2 (GI_upd5 hG)).2.2.2.1).1 | exact half0 ((GI_cmdp_0_3 (GI_upd5 hG)).2.2.2.2.1).1 | exact half0 ((GI_cmdp_0_3 (GI_upd5 hG)).2.2.2.1).1 | exact half0 ((GI_cmdp_0_4 (GI_upd5 hG)).2.2.2.2.1).1 | exact half0 ((GI_cmdp_0_4 (GI_upd5 hG)).2.2.2.1).1 | exact half0 ((GI_cmdp_0_5 (GI_upd5 hG)).2.2.2.2.1).1 | exact half0 ((GI_cmdp_0_5 (GI_upd5 hG)).2.2.2.1).1 | exact half0 ((GI_cmdp_0_6 (GI_upd5 hG)).2.2.2.2.1).1 | exact half0 ((GI_cmdp_0_6 (GI_upd5 hG)).2.2.2.1).1 | exact half0 ((GI_cmdp_0_7 (GI_upd5 hG)).2.2.2.2.1).1 | exact half0 ((GI_cmdp_0_7 (GI_upd5 hG)).2.2.2.1).1 | exact half0 ((GI_cmdp_1_1 (GI_upd5 hG)).2.2.2.2.1).1 | exact half0 ((GI_cmdp_1_1 (GI_upd5 hG)).2.2.2.1).1 | exact half0 ((GI_cmdp_1_2 (GI_upd5 hG)).2.2.2.2.1).1 | exact half0 ((GI_cmdp_1_2 (GI_upd5 hG)).2.2.2.1).1 | exact half0 ((GI_cmdp_1_3 (GI_upd5 hG)).2.2.2.2.1).1 | exact half0 ((GI_cmdp_1_3 (GI_upd5 hG)).2.2.2.1).1 | exact half0 ((GI_cmdp_1_4 (GI_upd5 hG)).2.2.2.2.1).1 | exact half0 ((GI_cmdp_1_4 (GI_upd5 hG)).2.2.2.1).1 | exact half0 ((GI_cmdp_1_5 (GI_upd5 hG)).2.2.2.2.1).1 | exact half0 ((GI_cmdp_1_5 (GI_upd5 hG)).2.2.2.1).1 | exact half0 ((GI_cmdp_1_6 (GI_upd5 hG)).2.2.2.2.1).1 | exact half0 ((GI_cmdp_1_6 (GI_upd5 hG)).2.2.2.1).1 | exact half0 ((GI_cmdp_1_7 (GI_upd5 hG)).2.2.2.2.1).1 | exact half0 ((GI_cmdp_1_7 (GI_upd5 hG)).2.2.2.1).1) (by first | exact (hG.2.2.2.1).2 | exact (hG.2.2.2.2.1).2 | exact ((GI_cmdp_0_1 (GI_upd5 hG)).2.2.2.2.1).2 | exact ((GI_cmdp_0_1 (GI_upd5 hG)).2.2.2.1).2 | exact ((GI_cmdp_0_2 (GI_upd5 hG)).2.2.2.2.1).2 | exact ((GI_cmdp_0_2 (GI_upd5 hG)).2.2.2.1).2 | exact ((GI_cmdp_0_3 (GI_upd5 hG)).2.2.2.2.1).2 | exact ((GI_cmdp_0_3 (GI_upd5 hG)).2.2.2.1).2 | exact ((GI_cmdp_0_4 (GI_upd5 hG)).2.2.2.2.1).2 | exact ((GI_cmdp_0_4 (GI_upd5 hG)).2.2.2.1).2 | exact ((GI_cmdp_0_5 (GI_upd5 hG)).2.2.2.2.1).2 | exact ((GI_cmdp_0_5 (GI_upd5 hG)).2.2.2.1).2 | exact ((GI_cmdp_0_6 (GI_upd5 hG)).2.2.2.2.1).2 | exact ((GI_cmdp_0_6 (GI_upd5 hG)).2.2.2.1).2 | exact ((GI_cmdp_0_7 (GI_upd5 hG)).2.2.2.2.1).2 | exact ((GI_cmdp_0_7 (GI_upd5 hG)).2.2.2.1).2 | exact ((GI_cmdp_1_1 (GI_upd5 hG)).2.2.2.2.1).2 | exact ((GI_cmdp_1_1 (GI_upd5 hG)).2.2.2.1).2 | exact ((GI_cmdp_1_2 (GI_upd5 hG)).2.2.2.2.1).2 | exact ((GI_cmdp_1_2 (GI_upd5 hG)).2.2.2.1).2 | exact ((GI_cmdp_1_3 (GI_upd5 hG)).2.2.2.2.1).2 | exact ((GI_cmdp_1_3 (GI_upd5 hG)).2.2.2.1).2 | exact ((GI_cmdp_1_4 (GI_upd5 hG)).2.2.2.2.1).2 | exact ((GI_cmdp_1_4 (GI_upd5 hG)).2.2.2.1).2 | exact ((GI_cmdp_1_5 (GI_upd5 hG)).2.2.2.2.1).2 | exact ((GI_cmdp_1_5 (GI_upd5 hG)).2.2.2.1).2 | exact ((GI_cmdp_1_6 (GI_upd5 hG)).2.2.2.2.1).2 | exact ((GI_cmdp_1_6 (GI_upd5 hG)).2.2.2.1).2 | exact ((GI_cmdp_1_7 (GI_upd5 hG)).2.2.2.2.1).2 | exact ((GI_cmdp_1_7 (GI_upd5 hG)).2.2.2.1).2)) gX8_shapes_X8_halfOf rfl ⟨rfl, rfl⟩ hd_X8_halfOf.2 ⟨(Nat.le_of_ble_eq_true rfl), (Nat.le_of_ble_eq_true rfl)⟩ rfl rfl hl.1 (Nat.le_of_ble_eq_true rfl) ⟨Nat.zero_le _, Nat.zero_le _⟩ dX8_shapes_49 (fun H locs Y => ?_)
    obtain ⟨u_3_0, u_3_1, hr_3⟩ := bEx2 (s_commands8p_1 (upd (upd u_1_1 5 (nw 5)) 5 (-4)) w (nI (s_halfOf8 (u_1_1 22))))
    rw [hr_3] at hu
    dsimp only at hu
    have GI_cmdp_1_3 := GI_cmdp_1 hr_3
    refine bVI (As := [.int 1, .int w, .int (nI (s_halfOf8 (u_1_1 22)))]) (rest := [.int (0 + u_1_0)]) (wc := [(mM, .inr (8, [.ref mN, .ref mR, .ref mA, .ref mP, .int ch, .ref mT, .int le, .int sp, .ref mD])), (mN, .inl (cyI, 515, .inl (upd (upd u_1_1 5 (nw 5)) 5 (-4))))]) (w1 := [(mM, .inr (8, [.ref mN, .ref mR, .ref mA, .ref mP, .int ch, .ref mT, .int le, .int sp, .ref mD])), (mN, .inl (cyI, 515, .inl u_3_1))]) (ws' := [(mM, .inr (8, [.ref mN, .ref mR, .ref mA, .ref mP, .int ch, .ref mT, .int le, .int sp, .ref mD])), (mN, .inl (cyI, 515, .inl u_3_1))]) (ad := [mM, mN]) (wr := []) (nn := 2) (ci := 8) (q0 := 0) X Y (c_commands8p_1 l D cyC cyI mM mN mR mA mP mT mD ch le sp (upd (upd u_1_1 5 (nw 5)) 5 (-4)) w (nI (s_halfOf8 (u_1_1 22))) u_3_0 u_3_1 hr_3) gX8_shapes_X8_commands rfl ⟨rfl, rfl⟩ hd_X8_commands ⟨(Nat.le_of_ble_eq_true rfl), (Nat.le_of_ble_eq_true rfl)⟩ rfl rfl rfl [0, 1] [] rfl rfl rfl rfl rfl rfl rfl rfl (by decide) rfl rfl hl.1 (Nat.le_of_ble_eq_true rfl) ⟨Nat.zero_le _, Nat.zero_le _⟩ dX8_shapes_52 (fun H locs Y => ?_)
    refine bAdd (v := (0 + u_1_0) + u_3_0) X dX8_shapes_55 rfl ?_
    refine lv_istore_n (lv' := [(3, .int ((0 + u_1_0) + u_3_0)), (5, .int (nw 5)), (4, .int 1), (0, .ref mM), (1, .int 0), (2, .int w)]) hx hb dX8_shapes_56 rfl hl (by decide) rfl (fun ls hl => ?_)
    refine lv_aload_n hx hb dX8_shapes_57 rfl (lv_at hl 3 rfl) ?_
    refine bGet (v := .ref mN) (T := TX8) (N := 9) (ci := 8) X Y i_X8_shapes_X8 0 rfl rfl 0 (Nat.le_of_ble_eq_true rfl) f_X8_shapes_7 rfl rfl dX8_shapes_58 ?_
    refine lv_iconst (v := 5) hx hb dX8_shapes_61 (by decide) ?_
    refine lv_iload hx hb dX8_shapes_62 (lv_at hl 1 rfl) ?_
    refine bIast (f' := upd u_3_1 5 (nw 5)) (ws' := [(mM, .inr (8, [.ref mN, .ref mR, .ref mA, .ref mP, .int ch, .ref mT, .int le, .int sp, .ref mD])), (mN, .inl (cyI, 515, .inl (upd u_3_1 5 (nw 5))))]) X Y 1 rfl (bInD (by decide)) rfl rfl dX8_shapes_64 (fun H locs Y => ?_)
    refine lv_iinc (v := 2) (lv' := [(4, .int 2), (3, .int ((0 + u_1_0) + u_3_0)), (5, .int (nw 5)), (0, .ref mM), (1, .int 0), (2, .int w)]) hx hb dX8_shapes_65 hl (k := 2) rfl (by decide) (by decide) rfl (fun ls hl => ?_)
    refine lv_goto (tgt := 5) hx hb dX8_shapes_68 (by decide) ?_
    refine lv_iload hx hb dX8_shapes_5 (lv_at hl 0 rfl) ?_
    refine lv_iconst (v := 2) hx hb dX8_shapes_7 (by decide) ?_
    refine lv_icmp_ge (tgt := 71) hx hb dX8_shapes_8 (by decide) (fun _ => ?_) (fun c_ => absurd (by decide) c_)
    refine lv_iload_n hx hb dX8_shapes_71 rfl (lv_at hl 1 rfl) ?_
    have h9 := (Prod.mk.inj hu).1; replace hu := (Prod.mk.inj hu).2; subst h9
    subst hu
    exact bEndI X Y hr hlk dX8_shapes_72 rfl rfl
def s_shapes8_1 (nw : Nat → Int32) (w : Int32) : Int32 × (Nat → Int32) :=
  if (s_heeds8_01 nw) = true then
    match s_commands8p_0 (upd nw 5 (-4)) w (nI (s_halfOf8 (nw 9))) with
    | (u_3_0, u_3_1) =>
      match s_commands8p_1 (upd (upd u_3_1 5 (nw 5)) 5 (-4)) w (nI (s_halfOf8 (u_3_1 22))) with
      | (u_4_0, u_4_1) =>
        ((0 + u_3_0) + u_4_0, upd u_4_1 5 (nw 5))
  else
    match s_commands8p_1 (upd nw 5 (-4)) w (nI (s_halfOf8 (nw 22))) with
    | (u_2_0, u_2_1) =>
      (0 + u_2_0, upd u_2_1 5 (nw 5))
set_option maxHeartbeats 4000000 in
set_option maxRecDepth 100000 in
theorem c_shapes8_1 (l : Launch) (D : va_G) (cyC cyI : ClassId) (mM : Nat) (mN : Nat) (mR : Nat) (mA : Nat) (mP : Nat) (mT : Nat) (mD : Nat) (ch : Int32) (le : Int32) (sp : Int32) (nw : Nat → Int32) (w : Int32) (o0 : Int32) (o1 : Nat → Int32) (hu : s_shapes8_1 nw w = (o0, o1)) (hG : GI nw) : CI l yX8_shapes wsX8_shapes { frames := 3, cells := 0, slots := 0, locals := 74 } D cyC cyI [.ref mM, .int 1, .int w] [(mM, .inr (8, [.ref mN, .ref mR, .ref mA, .ref mP, .int ch, .ref mT, .int le, .int sp, .ref mD])), (mN, .inl (cyI, 515, .inl nw))] o0 [(mM, .inr (8, [.ref mN, .ref mR, .ref mA, .ref mP, .int ch, .ref mT, .int le, .int sp, .ref mD])), (mN, .inl (cyI, 515, .inl o1))] := by
  refine CI.of (cc := cX8_shapes) (n := 6) (ret := (some .int)) (by decide +kernel) rfl (Nat.le_of_ble_eq_true rfl) ?_
  intro p_ e_ s_ m_ bl_ me_ cd_ A_ ls X Y hr hlk hl
  have hx := X.1.1
  have hb := X.1.2.1
  have hl : lv_has ls 6 [(0, .ref mM), (1, .int 1), (2, .int w)] := hl
  unfold s_shapes8_1 at hu
  refine lv_iconst (v := 0) hx hb dX8_shapes_0 (by decide) ?_
  refine lv_istore_n (lv' := [(3, .int 0), (0, .ref mM), (1, .int 1), (2, .int w)]) hx hb dX8_shapes_1 rfl hl (by decide) rfl (fun ls hl => ?_)
  refine lv_iconst (v := 0) hx hb dX8_shapes_2 (by decide) ?_
  refine lv_istore (lv' := [(4, .int 0), (3, .int 0), (0, .ref mM), (1, .int 1), (2, .int w)]) hx hb dX8_shapes_3 hl (by decide) rfl (fun ls hl => ?_)
  refine lv_iload hx hb dX8_shapes_5 (lv_at hl 0 rfl) ?_
  refine lv_iconst (v := 2) hx hb dX8_shapes_7 (by decide) ?_
  refine lv_icmp_ge (tgt := 71) hx hb dX8_shapes_8 (by decide) (fun c_ => absurd c_ (by decide)) (fun _ => ?_)
  refine lv_aload_n hx hb dX8_shapes_11 rfl (lv_at hl 2 rfl) ?_
  refine lv_iload hx hb dX8_shapes_12 (lv_at hl 0 rfl) ?_
  refine lv_iload_n hx hb dX8_shapes_14 rfl (lv_at hl 3 rfl) ?_
  refine bVI0 (As := [.int 0, .int 1]) (rest := []) (wc := [(mM, .inr (8, [.ref mN, .ref mR, .ref mA, .ref mP, .int ch, .ref mT, .int le, .int sp, .ref mD])), (mN, .inl (cyI, 515, .inl nw))]) (ci := 8) (q0 := 0) X Y (c_heeds8_01 l D cyC cyI mM mN mR mA mP mT mD ch le sp nw (s_heeds8_01 nw) rfl) gX8_shapes_X8_heeds rfl ⟨rfl, rfl⟩ hd_X8_heeds ⟨(Nat.le_of_ble_eq_true rfl), (Nat.le_of_ble_eq_true rfl)⟩ rfl rfl rfl [0, 1] rfl rfl rfl rfl hl.1 (Nat.le_of_ble_eq_true rfl) ⟨Nat.zero_le _, Nat.zero_le _⟩ dX8_shapes_15 (fun H locs Y => ?_)
  refine lv_if_eq (tgt := 65) hx hb dX8_shapes_18 (by decide) (fun c_1 => ?_) (fun c_1 => ?_)
  · have c_1 := bB_f c_1
    rw [if_neg c_1] at hu
    refine lv_iinc (v := 1) (lv' := [(4, .int 1), (3, .int 0), (0, .ref mM), (1, .int 1), (2, .int w)]) hx hb dX8_shapes_65 hl (k := 0) rfl (by decide) (by decide) rfl (fun ls hl => ?_)
    refine lv_goto (tgt := 5) hx hb dX8_shapes_68 (by decide) ?_
    refine lv_iload hx hb dX8_shapes_5 (lv_at hl 0 rfl) ?_
    refine lv_iconst (v := 2) hx hb dX8_shapes_7 (by decide) ?_
    refine lv_icmp_ge (tgt := 71) hx hb dX8_shapes_8 (by decide) (fun c_ => absurd c_ (by decide)) (fun _ => ?_)
    refine lv_aload_n hx hb dX8_shapes_11 rfl (lv_at hl 2 rfl) ?_
    refine lv_iload hx hb dX8_shapes_12 (lv_at hl 0 rfl) ?_
    refine lv_iload_n hx hb dX8_shapes_14 rfl (lv_at hl 3 rfl) ?_
    refine bVI0 (As := [.int 1, .int 1]) (rest := []) (wc := [(mM, .inr (8, [.ref mN, .ref mR, .ref mA, .ref mP, .int ch, .ref mT, .int le, .int sp, .ref mD])), (mN, .inl (cyI, 515, .inl nw))]) (ci := 8) (q0 := 0) X Y (c_heeds8_11 l D cyC cyI mM mN mR mA mP mT mD ch le sp nw true rfl) gX8_shapes_X8_heeds rfl ⟨rfl, rfl⟩ hd_X8_heeds ⟨(Nat.le_of_ble_eq_true rfl), (Nat.le_of_ble_eq_true rfl)⟩ rfl rfl rfl [0, 1] rfl rfl rfl rfl hl.1 (Nat.le_of_ble_eq_true rfl) ⟨Nat.zero_le _, Nat.zero_le _⟩ dX8_shapes_15 (fun H locs Y => ?_)
    refine lv_if_eq (tgt := 65) hx hb dX8_shapes_18 (by decide) (fun c_ => absurd c_ (by decide)) (fun _ => ?_)
    refine lv_aload_n hx hb dX8_shapes_21 rfl (lv_at hl 2 rfl) ?_
    refine bGet (v := .ref mN) (T := TX8) (N := 9) (ci := 8) X Y i_X8_shapes_X8 0 rfl rfl 0 (Nat.le_of_ble_eq_true rfl) f_X8_shapes_7 rfl rfl dX8_shapes_22 ?_
    refine lv_iconst (v := 5) hx hb dX8_shapes_25 (by decide) ?_
    refine bIald (v := nw 5) X Y 1 rfl (bInD (by decide)) dX8_shapes_26 rfl ?_
    refine lv_istore (lv' := [(5, .int (nw 5)), (4, .int 1), (3, .int 0), (0, .ref mM), (1, .int 1), (2, .int w)]) hx hb dX8_shapes_27 hl (by decide) rfl (fun ls hl => ?_)
    refine lv_aload_n hx hb dX8_shapes_29 rfl (lv_at hl 3 rfl) ?_
    refine bGet (v := .ref mN) (T := TX8) (N := 9) (ci := 8) X Y i_X8_shapes_X8 0 rfl rfl 0 (Nat.le_of_ble_eq_true rfl) f_X8_shapes_7 rfl rfl dX8_shapes_30 ?_
    refine lv_iconst (v := 5) hx hb dX8_shapes_33 (by decide) ?_
    refine lv_bipush (v := (-4)) hx hb dX8_shapes_34 (by decide) ?_
    refine bIast (f' := upd nw 5 (-4)) (ws' := [(mM, .inr (8, [.ref mN, .ref mR, .ref mA, .ref mP, .int ch, .ref mT, .int le, .int sp, .ref mD])), (mN, .inl (cyI, 515, .inl (upd nw 5 (-4))))]) X Y 1 rfl (bInD (by decide)) rfl rfl dX8_shapes_36 (fun H locs Y => ?_)
    refine lv_iload_n hx hb dX8_shapes_37 rfl (lv_at hl 2 rfl) ?_
    refine lv_aload_n hx hb dX8_shapes_38 rfl (lv_at hl 3 rfl) ?_
    refine lv_iload hx hb dX8_shapes_39 (lv_at hl 1 rfl) ?_
    refine lv_iload_n hx hb dX8_shapes_41 rfl (lv_at hl 5 rfl) ?_
    refine lv_aload_n hx hb dX8_shapes_42 rfl (lv_at hl 3 rfl) ?_
    refine lv_iload hx hb dX8_shapes_43 (lv_at hl 1 rfl) ?_
    refine lv_iconst (v := 2) hx hb dX8_shapes_45 (by decide) ?_
    refine bVI0 (As := [.int 1, .int 2]) (rest := [.int w, .int 1, .ref mM, .int 0]) (wc := [(mM, .inr (8, [.ref mN, .ref mR, .ref mA, .ref mP, .int ch, .ref mT, .int le, .int sp, .ref mD])), (mN, .inl (cyI, 515, .inl (upd nw 5 (-4))))]) (ci := 8) (q0 := 0) X Y (c_of8 l D cyC cyI mM mN mR mA mP mT mD ch le sp (upd nw 5 (-4)) 1 2 (nw 22) (bOf (i := 22) (by decide) ((upd_ne (by decide)).trans rfl)) (bInD (by decide))) gX8_shapes_X8_of rfl ⟨rfl, rfl⟩ hd_X8_of ⟨(Nat.le_of_ble_eq_true rfl), (Nat.le_of_ble_eq_true rfl)⟩ rfl rfl rfl [0, 1] rfl rfl rfl rfl hl.1 (Nat.le_of_ble_eq_true rfl) ⟨Nat.zero_le _, Nat.zero_le _⟩ dX8_shapes_46 (fun H locs Y => ?_)
    refine bSI (As := [.int (nw 22)]) (rest := [.int w, .int 1, .ref mM, .int 0]) X Y (c_halfOf8 l D cyC cyI (nw 22) (s_halfOf8 (nw 22)) rfl (by first | exact half0 (hG.2.2.2.1).1 | exact half0 (hG.2.2.2.2.1).1 | exact half0 ((GI_cmdp_0_1 (GI_upd5 hG)).2.2.2.2.1).1 | exact half0 ((GI_cmdp_0_1 (GI_upd5 hG)).2.2.2.1).1 | exact half0 ((GI_cmdp_0_2 (GI_upd5 hG)).2.2.2.2.1).1 | exact half0 ((GI_cmdp_0_2 (GI_upd5 hG)).2.2.2.1).1 | exact half0 ((GI_cmdp_0_3 (GI_upd5 hG)).2.2.2.2.1).1 | exact half0 ((GI_cmdp_0_3 (GI_upd5 hG)).2.2.2.1).1 | exact half0 ((GI_cmdp_0_4 (GI_upd5 hG)).2.2.2.2.1).1 | exact half0 ((GI_cmdp_0_4 (GI_upd5 hG)).2.2.2.1).1 | exact half0 ((GI_cmdp_0_5 (GI_upd5 hG)).2.2.2.2.1).1 | exact half0 ((GI_cmdp_0_5 (GI_upd5 hG)).2.2.2.1).1 | exact half0 ((GI_cmdp_0_6 (GI_upd5 hG)).2.2.2.2.1).1 | exact half0 ((GI_cmdp_0_6 (GI_upd5 hG)).2.2.2.1).1 | exact half0 ((GI_cmdp_0_7 (GI_upd5 hG)).2.2.2.2.1).1 | exact half0 ((GI_cmdp_0_7 (GI_upd5 hG)).2.2.2.1).1 | exact half0 ((GI_cmdp_1_1 (GI_upd5 hG)).2.2.2.2.1).1 | exact half0 ((GI_cmdp_1_1 (GI_upd5 hG)).2.2.2.1).1 | exact half0 ((GI_cmdp_1_2 (GI_upd5 hG)).2.2.2.2.1).1 | exact half0 ((GI_cmdp_1_2 (GI_upd5 hG)).2.2.2.1).1 | exact half0 ((GI_cmdp_1_3 (GI_upd5 hG)).2.2.2.2.1).1 | exact half0 ((GI_cmdp_1_3 (GI_upd5 hG)).2.2.2.1).1 | exact half0 ((GI_cmdp_1_4 (GI_upd5 hG)).2.2.2.2.1).1 | exact half0 ((GI_cmdp_1_4 (GI_upd5 hG)).2.2.2.1).1 | exact half0 ((GI_cmdp_1_5 (GI_upd5 hG)).2.2.2.2.1).1 | exact half0 ((GI_cmdp_1_5 (GI_upd5 hG)).2.2.2.1).1 | exact half0 ((GI_cmdp_1_6 (GI_upd5 hG)).2.2.2.2.1).1 | exact half0 ((GI_cmdp_1_6 (GI_upd5 hG)).2.2.2.1).1 | exact half0 ((GI_cmdp_1_7 (GI_upd5 hG)).2.2.2.2.1).1 | exact half0 ((GI_cmdp_1_7 (GI_upd5 hG)).2.2.2.1).1) (by first | exact (hG.2.2.2.1).2 | exact (hG.2.2.2.2.1).2 | exact ((GI_cmdp_0_1 (GI_upd5 hG)).2.2.2.2.1).2 | exact ((GI_cmdp_0_1 (GI_upd5 hG)).2.2.2.1).2 | exact ((GI_cmdp_0_2 (GI_upd5 hG)).2.2.2.2.1).2 | exact ((GI_cmdp_0_2 (GI_upd5 hG)).2.2.2.1).2 | exact ((GI_cmdp_0_3 (GI_upd5 hG)).2.2.2.2.1).2 | exact ((GI_cmdp_0_3 (GI_upd5 hG)).2.2.2.1).2 | exact ((GI_cmdp_0_4 (GI_upd5 hG)).2.2.2.2.1).2 | exact ((GI_cmdp_0_4 (GI_upd5 hG)).2.2.2.1).2 | exact ((GI_cmdp_0_5 (GI_upd5 hG)).2.2.2.2.1).2 | exact ((GI_cmdp_0_5 (GI_upd5 hG)).2.2.2.1).2 | exact ((GI_cmdp_0_6 (GI_upd5 hG)).2.2.2.2.1).2 | exact ((GI_cmdp_0_6 (GI_upd5 hG)).2.2.2.1).2 | exact ((GI_cmdp_0_7 (GI_upd5 hG)).2.2.2.2.1).2 | exact ((GI_cmdp_0_7 (GI_upd5 hG)).2.2.2.1).2 | exact ((GI_cmdp_1_1 (GI_upd5 hG)).2.2.2.2.1).2 | exact ((GI_cmdp_1_1 (GI_upd5 hG)).2.2.2.1).2 | exact ((GI_cmdp_1_2 (GI_upd5 hG)).2.2.2.2.1).2 | exact ((GI_cmdp_1_2 (GI_upd5 hG)).2.2.2.1).2 | exact ((GI_cmdp_1_3 (GI_upd5 hG)).2.2.2.2.1).2 | exact ((GI_cmdp_1_3 (GI_upd5 hG)).2.2.2.1).2 | exact ((GI_cmdp_1_4 (GI_upd5 hG)).2.2.2.2.1).2 | exact ((GI_cmdp_1_4 (GI_upd5 hG)).2.2.2.1).2 | exact ((GI_cmdp_1_5 (GI_upd5 hG)).2.2.2.2.1).2 | exact ((GI_cmdp_1_5 (GI_upd5 hG)).2.2.2.1).2 | exact ((GI_cmdp_1_6 (GI_upd5 hG)).2.2.2.2.1).2 | exact ((GI_cmdp_1_6 (GI_upd5 hG)).2.2.2.1).2 | exact ((GI_cmdp_1_7 (GI_upd5 hG)).2.2.2.2.1).2 | exact ((GI_cmdp_1_7 (GI_upd5 hG)).2.2.2.1).2)) gX8_shapes_X8_halfOf rfl ⟨rfl, rfl⟩ hd_X8_halfOf.2 ⟨(Nat.le_of_ble_eq_true rfl), (Nat.le_of_ble_eq_true rfl)⟩ rfl rfl hl.1 (Nat.le_of_ble_eq_true rfl) ⟨Nat.zero_le _, Nat.zero_le _⟩ dX8_shapes_49 (fun H locs Y => ?_)
    obtain ⟨u_2_0, u_2_1, hr_2⟩ := bEx2 (s_commands8p_1 (upd nw 5 (-4)) w (nI (s_halfOf8 (nw 22))))
    rw [hr_2] at hu
    dsimp only at hu
    have GI_cmdp_1_2 := GI_cmdp_1 hr_2
    refine bVI (As := [.int 1, .int w, .int (nI (s_halfOf8 (nw 22)))]) (rest := [.int 0]) (wc := [(mM, .inr (8, [.ref mN, .ref mR, .ref mA, .ref mP, .int ch, .ref mT, .int le, .int sp, .ref mD])), (mN, .inl (cyI, 515, .inl (upd nw 5 (-4))))]) (w1 := [(mM, .inr (8, [.ref mN, .ref mR, .ref mA, .ref mP, .int ch, .ref mT, .int le, .int sp, .ref mD])), (mN, .inl (cyI, 515, .inl u_2_1))]) (ws' := [(mM, .inr (8, [.ref mN, .ref mR, .ref mA, .ref mP, .int ch, .ref mT, .int le, .int sp, .ref mD])), (mN, .inl (cyI, 515, .inl u_2_1))]) (ad := [mM, mN]) (wr := []) (nn := 2) (ci := 8) (q0 := 0) X Y (c_commands8p_1 l D cyC cyI mM mN mR mA mP mT mD ch le sp (upd nw 5 (-4)) w (nI (s_halfOf8 (nw 22))) u_2_0 u_2_1 hr_2) gX8_shapes_X8_commands rfl ⟨rfl, rfl⟩ hd_X8_commands ⟨(Nat.le_of_ble_eq_true rfl), (Nat.le_of_ble_eq_true rfl)⟩ rfl rfl rfl [0, 1] [] rfl rfl rfl rfl rfl rfl rfl rfl (by decide) rfl rfl hl.1 (Nat.le_of_ble_eq_true rfl) ⟨Nat.zero_le _, Nat.zero_le _⟩ dX8_shapes_52 (fun H locs Y => ?_)
    refine bAdd (v := 0 + u_2_0) X dX8_shapes_55 rfl ?_
    refine lv_istore_n (lv' := [(3, .int (0 + u_2_0)), (5, .int (nw 5)), (4, .int 1), (0, .ref mM), (1, .int 1), (2, .int w)]) hx hb dX8_shapes_56 rfl hl (by decide) rfl (fun ls hl => ?_)
    refine lv_aload_n hx hb dX8_shapes_57 rfl (lv_at hl 3 rfl) ?_
    refine bGet (v := .ref mN) (T := TX8) (N := 9) (ci := 8) X Y i_X8_shapes_X8 0 rfl rfl 0 (Nat.le_of_ble_eq_true rfl) f_X8_shapes_7 rfl rfl dX8_shapes_58 ?_
    refine lv_iconst (v := 5) hx hb dX8_shapes_61 (by decide) ?_
    refine lv_iload hx hb dX8_shapes_62 (lv_at hl 1 rfl) ?_
    refine bIast (f' := upd u_2_1 5 (nw 5)) (ws' := [(mM, .inr (8, [.ref mN, .ref mR, .ref mA, .ref mP, .int ch, .ref mT, .int le, .int sp, .ref mD])), (mN, .inl (cyI, 515, .inl (upd u_2_1 5 (nw 5))))]) X Y 1 rfl (bInD (by decide)) rfl rfl dX8_shapes_64 (fun H locs Y => ?_)
    refine lv_iinc (v := 2) (lv' := [(4, .int 2), (3, .int (0 + u_2_0)), (5, .int (nw 5)), (0, .ref mM), (1, .int 1), (2, .int w)]) hx hb dX8_shapes_65 hl (k := 2) rfl (by decide) (by decide) rfl (fun ls hl => ?_)
    refine lv_goto (tgt := 5) hx hb dX8_shapes_68 (by decide) ?_
    refine lv_iload hx hb dX8_shapes_5 (lv_at hl 0 rfl) ?_
    refine lv_iconst (v := 2) hx hb dX8_shapes_7 (by decide) ?_
    refine lv_icmp_ge (tgt := 71) hx hb dX8_shapes_8 (by decide) (fun _ => ?_) (fun c_ => absurd (by decide) c_)
    refine lv_iload_n hx hb dX8_shapes_71 rfl (lv_at hl 1 rfl) ?_
    have h9 := (Prod.mk.inj hu).1; replace hu := (Prod.mk.inj hu).2; subst h9
    subst hu
    exact bEndI X Y hr hlk dX8_shapes_72 rfl rfl
  · have c_1 := bB_t c_1
    rw [if_pos c_1] at hu
    refine lv_aload_n hx hb dX8_shapes_21 rfl (lv_at hl 2 rfl) ?_
    refine bGet (v := .ref mN) (T := TX8) (N := 9) (ci := 8) X Y i_X8_shapes_X8 0 rfl rfl 0 (Nat.le_of_ble_eq_true rfl) f_X8_shapes_7 rfl rfl dX8_shapes_22 ?_
    refine lv_iconst (v := 5) hx hb dX8_shapes_25 (by decide) ?_
    refine bIald (v := nw 5) X Y 1 rfl (bInD (by decide)) dX8_shapes_26 rfl ?_
    refine lv_istore (lv' := [(5, .int (nw 5)), (4, .int 0), (3, .int 0), (0, .ref mM), (1, .int 1), (2, .int w)]) hx hb dX8_shapes_27 hl (by decide) rfl (fun ls hl => ?_)
    refine lv_aload_n hx hb dX8_shapes_29 rfl (lv_at hl 3 rfl) ?_
    refine bGet (v := .ref mN) (T := TX8) (N := 9) (ci := 8) X Y i_X8_shapes_X8 0 rfl rfl 0 (Nat.le_of_ble_eq_true rfl) f_X8_shapes_7 rfl rfl dX8_shapes_30 ?_
    refine lv_iconst (v := 5) hx hb dX8_shapes_33 (by decide) ?_
    refine lv_bipush (v := (-4)) hx hb dX8_shapes_34 (by decide) ?_
    refine bIast (f' := upd nw 5 (-4)) (ws' := [(mM, .inr (8, [.ref mN, .ref mR, .ref mA, .ref mP, .int ch, .ref mT, .int le, .int sp, .ref mD])), (mN, .inl (cyI, 515, .inl (upd nw 5 (-4))))]) X Y 1 rfl (bInD (by decide)) rfl rfl dX8_shapes_36 (fun H locs Y => ?_)
    refine lv_iload_n hx hb dX8_shapes_37 rfl (lv_at hl 2 rfl) ?_
    refine lv_aload_n hx hb dX8_shapes_38 rfl (lv_at hl 3 rfl) ?_
    refine lv_iload hx hb dX8_shapes_39 (lv_at hl 1 rfl) ?_
    refine lv_iload_n hx hb dX8_shapes_41 rfl (lv_at hl 5 rfl) ?_
    refine lv_aload_n hx hb dX8_shapes_42 rfl (lv_at hl 3 rfl) ?_
    refine lv_iload hx hb dX8_shapes_43 (lv_at hl 1 rfl) ?_
    refine lv_iconst (v := 2) hx hb dX8_shapes_45 (by decide) ?_
    refine bVI0 (As := [.int 0, .int 2]) (rest := [.int w, .int 0, .ref mM, .int 0]) (wc := [(mM, .inr (8, [.ref mN, .ref mR, .ref mA, .ref mP, .int ch, .ref mT, .int le, .int sp, .ref mD])), (mN, .inl (cyI, 515, .inl (upd nw 5 (-4))))]) (ci := 8) (q0 := 0) X Y (c_of8 l D cyC cyI mM mN mR mA mP mT mD ch le sp (upd nw 5 (-4)) 0 2 (nw 9) (bOf (i := 9) (by decide) ((upd_ne (by decide)).trans rfl)) (bInD (by decide))) gX8_shapes_X8_of rfl ⟨rfl, rfl⟩ hd_X8_of ⟨(Nat.le_of_ble_eq_true rfl), (Nat.le_of_ble_eq_true rfl)⟩ rfl rfl rfl [0, 1] rfl rfl rfl rfl hl.1 (Nat.le_of_ble_eq_true rfl) ⟨Nat.zero_le _, Nat.zero_le _⟩ dX8_shapes_46 (fun H locs Y => ?_)
    refine bSI (As := [.int (nw 9)]) (rest := [.int w, .int 0, .ref mM, .int 0]) X Y (c_halfOf8 l D cyC cyI (nw 9) (s_halfOf8 (nw 9)) rfl (by first | exact half0 (hG.2.2.2.1).1 | exact half0 (hG.2.2.2.2.1).1 | exact half0 ((GI_cmdp_0_1 (GI_upd5 hG)).2.2.2.2.1).1 | exact half0 ((GI_cmdp_0_1 (GI_upd5 hG)).2.2.2.1).1 | exact half0 ((GI_cmdp_0_2 (GI_upd5 hG)).2.2.2.2.1).1 | exact half0 ((GI_cmdp_0_2 (GI_upd5 hG)).2.2.2.1).1 | exact half0 ((GI_cmdp_0_3 (GI_upd5 hG)).2.2.2.2.1).1 | exact half0 ((GI_cmdp_0_3 (GI_upd5 hG)).2.2.2.1).1 | exact half0 ((GI_cmdp_0_4 (GI_upd5 hG)).2.2.2.2.1).1 | exact half0 ((GI_cmdp_0_4 (GI_upd5 hG)).2.2.2.1).1 | exact half0 ((GI_cmdp_0_5 (GI_upd5 hG)).2.2.2.2.1).1 | exact half0 ((GI_cmdp_0_5 (GI_upd5 hG)).2.2.2.1).1 | exact half0 ((GI_cmdp_0_6 (GI_upd5 hG)).2.2.2.2.1).1 | exact half0 ((GI_cmdp_0_6 (GI_upd5 hG)).2.2.2.1).1 | exact half0 ((GI_cmdp_0_7 (GI_upd5 hG)).2.2.2.2.1).1 | exact half0 ((GI_cmdp_0_7 (GI_upd5 hG)).2.2.2.1).1 | exact half0 ((GI_cmdp_1_1 (GI_upd5 hG)).2.2.2.2.1).1 | exact half0 ((GI_cmdp_1_1 (GI_upd5 hG)).2.2.2.1).1 | exact half0 ((GI_cmdp_1_2 (GI_upd5 hG)).2.2.2.2.1).1 | exact half0 ((GI_cmdp_1_2 (GI_upd5 hG)).2.2.2.1).1 | exact half0 ((GI_cmdp_1_3 (GI_upd5 hG)).2.2.2.2.1).1 | exact half0 ((GI_cmdp_1_3 (GI_upd5 hG)).2.2.2.1).1 | exact half0 ((GI_cmdp_1_4 (GI_upd5 hG)).2.2.2.2.1).1 | exact half0 ((GI_cmdp_1_4 (GI_upd5 hG)).2.2.2.1).1 | exact half0 ((GI_cmdp_1_5 (GI_upd5 hG)).2.2.2.2.1).1 | exact half0 ((GI_cmdp_1_5 (GI_upd5 hG)).2.2.2.1).1 | exact half0 ((GI_cmdp_1_6 (GI_upd5 hG)).2.2.2.2.1).1 | exact half0 ((GI_cmdp_1_6 (GI_upd5 hG)).2.2.2.1).1 | exact half0 ((GI_cmdp_1_7 (GI_upd5 hG)).2.2.2.2.1).1 | exact half0 ((GI_cmdp_1_7 (GI_upd5 hG)).2.2.2.1).1) (by first | exact (hG.2.2.2.1).2 | exact (hG.2.2.2.2.1).2 | exact ((GI_cmdp_0_1 (GI_upd5 hG)).2.2.2.2.1).2 | exact ((GI_cmdp_0_1 (GI_upd5 hG)).2.2.2.1).2 | exact ((GI_cmdp_0_2 (GI_upd5 hG)).2.2.2.2.1).2 | exact ((GI_cmdp_0_2 (GI_upd5 hG)).2.2.2.1).2 | exact ((GI_cmdp_0_3 (GI_upd5 hG)).2.2.2.2.1).2 | exact ((GI_cmdp_0_3 (GI_upd5 hG)).2.2.2.1).2 | exact ((GI_cmdp_0_4 (GI_upd5 hG)).2.2.2.2.1).2 | exact ((GI_cmdp_0_4 (GI_upd5 hG)).2.2.2.1).2 | exact ((GI_cmdp_0_5 (GI_upd5 hG)).2.2.2.2.1).2 | exact ((GI_cmdp_0_5 (GI_upd5 hG)).2.2.2.1).2 | exact ((GI_cmdp_0_6 (GI_upd5 hG)).2.2.2.2.1).2 | exact ((GI_cmdp_0_6 (GI_upd5 hG)).2.2.2.1).2 | exact ((GI_cmdp_0_7 (GI_upd5 hG)).2.2.2.2.1).2 | exact ((GI_cmdp_0_7 (GI_upd5 hG)).2.2.2.1).2 | exact ((GI_cmdp_1_1 (GI_upd5 hG)).2.2.2.2.1).2 | exact ((GI_cmdp_1_1 (GI_upd5 hG)).2.2.2.1).2 | exact ((GI_cmdp_1_2 (GI_upd5 hG)).2.2.2.2.1).2 | exact ((GI_cmdp_1_2 (GI_upd5 hG)).2.2.2.1).2 | exact ((GI_cmdp_1_3 (GI_upd5 hG)).2.2.2.2.1).2 | exact ((GI_cmdp_1_3 (GI_upd5 hG)).2.2.2.1).2 | exact ((GI_cmdp_1_4 (GI_upd5 hG)).2.2.2.2.1).2 | exact ((GI_cmdp_1_4 (GI_upd5 hG)).2.2.2.1).2 | exact ((GI_cmdp_1_5 (GI_upd5 hG)).2.2.2.2.1).2 | exact ((GI_cmdp_1_5 (GI_upd5 hG)).2.2.2.1).2 | exact ((GI_cmdp_1_6 (GI_upd5 hG)).2.2.2.2.1).2 | exact ((GI_cmdp_1_6 (GI_upd5 hG)).2.2.2.1).2 | exact ((GI_cmdp_1_7 (GI_upd5 hG)).2.2.2.2.1).2 | exact ((GI_cmdp_1_7 (GI_upd5 hG)).2.2.2.1).2)) gX8_shapes_X8_halfOf rfl ⟨rfl, rfl⟩ hd_X8_halfOf.2 ⟨(Nat.le_of_ble_eq_true rfl), (Nat.le_of_ble_eq_true rfl)⟩ rfl rfl hl.1 (Nat.le_of_ble_eq_true rfl) ⟨Nat.zero_le _, Nat.zero_le _⟩ dX8_shapes_49 (fun H locs Y => ?_)
    obtain ⟨u_3_0, u_3_1, hr_3⟩ := bEx2 (s_commands8p_0 (upd nw 5 (-4)) w (nI (s_halfOf8 (nw 9))))
    rw [hr_3] at hu
    dsimp only at hu
    have GI_cmdp_0_3 := GI_cmdp_0 hr_3
    refine bVI (As := [.int 0, .int w, .int (nI (s_halfOf8 (nw 9)))]) (rest := [.int 0]) (wc := [(mM, .inr (8, [.ref mN, .ref mR, .ref mA, .ref mP, .int ch, .ref mT, .int le, .int sp, .ref mD])), (mN, .inl (cyI, 515, .inl (upd nw 5 (-4))))]) (w1 := [(mM, .inr (8, [.ref mN, .ref mR, .ref mA, .ref mP, .int ch, .ref mT, .int le, .int sp, .ref mD])), (mN, .inl (cyI, 515, .inl u_3_1))]) (ws' := [(mM, .inr (8, [.ref mN, .ref mR, .ref mA, .ref mP, .int ch, .ref mT, .int le, .int sp, .ref mD])), (mN, .inl (cyI, 515, .inl u_3_1))]) (ad := [mM, mN]) (wr := []) (nn := 2) (ci := 8) (q0 := 0) X Y (c_commands8p_0 l D cyC cyI mM mN mR mA mP mT mD ch le sp (upd nw 5 (-4)) w (nI (s_halfOf8 (nw 9))) u_3_0 u_3_1 hr_3) gX8_shapes_X8_commands rfl ⟨rfl, rfl⟩ hd_X8_commands ⟨(Nat.le_of_ble_eq_true rfl), (Nat.le_of_ble_eq_true rfl)⟩ rfl rfl rfl [0, 1] [] rfl rfl rfl rfl rfl rfl rfl rfl (by decide) rfl rfl hl.1 (Nat.le_of_ble_eq_true rfl) ⟨Nat.zero_le _, Nat.zero_le _⟩ dX8_shapes_52 (fun H locs Y => ?_)
    refine bAdd (v := 0 + u_3_0) X dX8_shapes_55 rfl ?_
    refine lv_istore_n (lv' := [(3, .int (0 + u_3_0)), (5, .int (nw 5)), (4, .int 0), (0, .ref mM), (1, .int 1), (2, .int w)]) hx hb dX8_shapes_56 rfl hl (by decide) rfl (fun ls hl => ?_)
    refine lv_aload_n hx hb dX8_shapes_57 rfl (lv_at hl 3 rfl) ?_
    refine bGet (v := .ref mN) (T := TX8) (N := 9) (ci := 8) X Y i_X8_shapes_X8 0 rfl rfl 0 (Nat.le_of_ble_eq_true rfl) f_X8_shapes_7 rfl rfl dX8_shapes_58 ?_
    refine lv_iconst (v := 5) hx hb dX8_shapes_61 (by decide) ?_
    refine lv_iload hx hb dX8_shapes_62 (lv_at hl 1 rfl) ?_
    refine bIast (f' := upd u_3_1 5 (nw 5)) (ws' := [(mM, .inr (8, [.ref mN, .ref mR, .ref mA, .ref mP, .int ch, .ref mT, .int le, .int sp, .ref mD])), (mN, .inl (cyI, 515, .inl (upd u_3_1 5 (nw 5))))]) X Y 1 rfl (bInD (by decide)) rfl rfl dX8_shapes_64 (fun H locs Y => ?_)
    refine lv_iinc (v := 1) (lv' := [(4, .int 1), (3, .int (0 + u_3_0)), (5, .int (nw 5)), (0, .ref mM), (1, .int 1), (2, .int w)]) hx hb dX8_shapes_65 hl (k := 2) rfl (by decide) (by decide) rfl (fun ls hl => ?_)
    refine lv_goto (tgt := 5) hx hb dX8_shapes_68 (by decide) ?_
    refine lv_iload hx hb dX8_shapes_5 (lv_at hl 0 rfl) ?_
    refine lv_iconst (v := 2) hx hb dX8_shapes_7 (by decide) ?_
    refine lv_icmp_ge (tgt := 71) hx hb dX8_shapes_8 (by decide) (fun c_ => absurd c_ (by decide)) (fun _ => ?_)
    refine lv_aload_n hx hb dX8_shapes_11 rfl (lv_at hl 3 rfl) ?_
    refine lv_iload hx hb dX8_shapes_12 (lv_at hl 0 rfl) ?_
    refine lv_iload_n hx hb dX8_shapes_14 rfl (lv_at hl 4 rfl) ?_
    refine bVI0 (As := [.int 1, .int 1]) (rest := []) (wc := [(mM, .inr (8, [.ref mN, .ref mR, .ref mA, .ref mP, .int ch, .ref mT, .int le, .int sp, .ref mD])), (mN, .inl (cyI, 515, .inl (upd u_3_1 5 (nw 5))))]) (ci := 8) (q0 := 0) X Y (c_heeds8_11 l D cyC cyI mM mN mR mA mP mT mD ch le sp (upd u_3_1 5 (nw 5)) true rfl) gX8_shapes_X8_heeds rfl ⟨rfl, rfl⟩ hd_X8_heeds ⟨(Nat.le_of_ble_eq_true rfl), (Nat.le_of_ble_eq_true rfl)⟩ rfl rfl rfl [0, 1] rfl rfl rfl rfl hl.1 (Nat.le_of_ble_eq_true rfl) ⟨Nat.zero_le _, Nat.zero_le _⟩ dX8_shapes_15 (fun H locs Y => ?_)
    refine lv_if_eq (tgt := 65) hx hb dX8_shapes_18 (by decide) (fun c_ => absurd c_ (by decide)) (fun _ => ?_)
    refine lv_aload_n hx hb dX8_shapes_21 rfl (lv_at hl 3 rfl) ?_
    refine bGet (v := .ref mN) (T := TX8) (N := 9) (ci := 8) X Y i_X8_shapes_X8 0 rfl rfl 0 (Nat.le_of_ble_eq_true rfl) f_X8_shapes_7 rfl rfl dX8_shapes_22 ?_
    refine lv_iconst (v := 5) hx hb dX8_shapes_25 (by decide) ?_
    refine bIald (v := nw 5) X Y 1 rfl (bInD (by decide)) dX8_shapes_26 upd_eq ?_
    refine lv_istore (lv' := [(5, .int (nw 5)), (4, .int 1), (3, .int (0 + u_3_0)), (0, .ref mM), (1, .int 1), (2, .int w)]) hx hb dX8_shapes_27 hl (by decide) rfl (fun ls hl => ?_)
    refine lv_aload_n hx hb dX8_shapes_29 rfl (lv_at hl 3 rfl) ?_
    refine bGet (v := .ref mN) (T := TX8) (N := 9) (ci := 8) X Y i_X8_shapes_X8 0 rfl rfl 0 (Nat.le_of_ble_eq_true rfl) f_X8_shapes_7 rfl rfl dX8_shapes_30 ?_
    refine lv_iconst (v := 5) hx hb dX8_shapes_33 (by decide) ?_
    refine lv_bipush (v := (-4)) hx hb dX8_shapes_34 (by decide) ?_
    refine bIast (f' := upd (upd u_3_1 5 (nw 5)) 5 (-4)) (ws' := [(mM, .inr (8, [.ref mN, .ref mR, .ref mA, .ref mP, .int ch, .ref mT, .int le, .int sp, .ref mD])), (mN, .inl (cyI, 515, .inl (upd (upd u_3_1 5 (nw 5)) 5 (-4))))]) X Y 1 rfl (bInD (by decide)) rfl rfl dX8_shapes_36 (fun H locs Y => ?_)
    refine lv_iload_n hx hb dX8_shapes_37 rfl (lv_at hl 2 rfl) ?_
    refine lv_aload_n hx hb dX8_shapes_38 rfl (lv_at hl 3 rfl) ?_
    refine lv_iload hx hb dX8_shapes_39 (lv_at hl 1 rfl) ?_
    refine lv_iload_n hx hb dX8_shapes_41 rfl (lv_at hl 5 rfl) ?_
    refine lv_aload_n hx hb dX8_shapes_42 rfl (lv_at hl 3 rfl) ?_
    refine lv_iload hx hb dX8_shapes_43 (lv_at hl 1 rfl) ?_
    refine lv_iconst (v := 2) hx hb dX8_shapes_45 (by decide) ?_
    refine bVI0 (As := [.int 1, .int 2]) (rest := [.int w, .int 1, .ref mM, .int (0 + u_3_0)]) (wc := [(mM, .inr (8, [.ref mN, .ref mR, .ref mA, .ref mP, .int ch, .ref mT, .int le, .int sp, .ref mD])), (mN, .inl (cyI, 515, .inl (upd (upd u_3_1 5 (nw 5)) 5 (-4))))]) (ci := 8) (q0 := 0) X Y (c_of8 l D cyC cyI mM mN mR mA mP mT mD ch le sp (upd (upd u_3_1 5 (nw 5)) 5 (-4)) 1 2 (u_3_1 22) (bOf (i := 22) (by decide) ((upd_ne (by decide)).trans ((upd_ne (by decide)).trans rfl))) (bInD (by decide))) gX8_shapes_X8_of rfl ⟨rfl, rfl⟩ hd_X8_of ⟨(Nat.le_of_ble_eq_true rfl), (Nat.le_of_ble_eq_true rfl)⟩ rfl rfl rfl [0, 1] rfl rfl rfl rfl hl.1 (Nat.le_of_ble_eq_true rfl) ⟨Nat.zero_le _, Nat.zero_le _⟩ dX8_shapes_46 (fun H locs Y => ?_)
    refine bSI (As := [.int (u_3_1 22)]) (rest := [.int w, .int 1, .ref mM, .int (0 + u_3_0)]) X Y (c_halfOf8 l D cyC cyI (u_3_1 22) (s_halfOf8 (u_3_1 22)) rfl (by first | exact half0 (hG.2.2.2.1).1 | exact half0 (hG.2.2.2.2.1).1 | exact half0 ((GI_cmdp_0_1 (GI_upd5 hG)).2.2.2.2.1).1 | exact half0 ((GI_cmdp_0_1 (GI_upd5 hG)).2.2.2.1).1 | exact half0 ((GI_cmdp_0_2 (GI_upd5 hG)).2.2.2.2.1).1 | exact half0 ((GI_cmdp_0_2 (GI_upd5 hG)).2.2.2.1).1 | exact half0 ((GI_cmdp_0_3 (GI_upd5 hG)).2.2.2.2.1).1 | exact half0 ((GI_cmdp_0_3 (GI_upd5 hG)).2.2.2.1).1 | exact half0 ((GI_cmdp_0_4 (GI_upd5 hG)).2.2.2.2.1).1 | exact half0 ((GI_cmdp_0_4 (GI_upd5 hG)).2.2.2.1).1 | exact half0 ((GI_cmdp_0_5 (GI_upd5 hG)).2.2.2.2.1).1 | exact half0 ((GI_cmdp_0_5 (GI_upd5 hG)).2.2.2.1).1 | exact half0 ((GI_cmdp_0_6 (GI_upd5 hG)).2.2.2.2.1).1 | exact half0 ((GI_cmdp_0_6 (GI_upd5 hG)).2.2.2.1).1 | exact half0 ((GI_cmdp_0_7 (GI_upd5 hG)).2.2.2.2.1).1 | exact half0 ((GI_cmdp_0_7 (GI_upd5 hG)).2.2.2.1).1 | exact half0 ((GI_cmdp_1_1 (GI_upd5 hG)).2.2.2.2.1).1 | exact half0 ((GI_cmdp_1_1 (GI_upd5 hG)).2.2.2.1).1 | exact half0 ((GI_cmdp_1_2 (GI_upd5 hG)).2.2.2.2.1).1 | exact half0 ((GI_cmdp_1_2 (GI_upd5 hG)).2.2.2.1).1 | exact half0 ((GI_cmdp_1_3 (GI_upd5 hG)).2.2.2.2.1).1 | exact half0 ((GI_cmdp_1_3 (GI_upd5 hG)).2.2.2.1).1 | exact half0 ((GI_cmdp_1_4 (GI_upd5 hG)).2.2.2.2.1).1 | exact half0 ((GI_cmdp_1_4 (GI_upd5 hG)).2.2.2.1).1 | exact half0 ((GI_cmdp_1_5 (GI_upd5 hG)).2.2.2.2.1).1 | exact half0 ((GI_cmdp_1_5 (GI_upd5 hG)).2.2.2.1).1 | exact half0 ((GI_cmdp_1_6 (GI_upd5 hG)).2.2.2.2.1).1 | exact half0 ((GI_cmdp_1_6 (GI_upd5 hG)).2.2.2.1).1 | exact half0 ((GI_cmdp_1_7 (GI_upd5 hG)).2.2.2.2.1).1 | exact half0 ((GI_cmdp_1_7 (GI_upd5 hG)).2.2.2.1).1) (by first | exact (hG.2.2.2.1).2 | exact (hG.2.2.2.2.1).2 | exact ((GI_cmdp_0_1 (GI_upd5 hG)).2.2.2.2.1).2 | exact ((GI_cmdp_0_1 (GI_upd5 hG)).2.2.2.1).2 | exact ((GI_cmdp_0_2 (GI_upd5 hG)).2.2.2.2.1).2 | exact ((GI_cmdp_0_2 (GI_upd5 hG)).2.2.2.1).2 | exact ((GI_cmdp_0_3 (GI_upd5 hG)).2.2.2.2.1).2 | exact ((GI_cmdp_0_3 (GI_upd5 hG)).2.2.2.1).2 | exact ((GI_cmdp_0_4 (GI_upd5 hG)).2.2.2.2.1).2 | exact ((GI_cmdp_0_4 (GI_upd5 hG)).2.2.2.1).2 | exact ((GI_cmdp_0_5 (GI_upd5 hG)).2.2.2.2.1).2 | exact ((GI_cmdp_0_5 (GI_upd5 hG)).2.2.2.1).2 | exact ((GI_cmdp_0_6 (GI_upd5 hG)).2.2.2.2.1).2 | exact ((GI_cmdp_0_6 (GI_upd5 hG)).2.2.2.1).2 | exact ((GI_cmdp_0_7 (GI_upd5 hG)).2.2.2.2.1).2 | exact ((GI_cmdp_0_7 (GI_upd5 hG)).2.2.2.1).2 | exact ((GI_cmdp_1_1 (GI_upd5 hG)).2.2.2.2.1).2 | exact ((GI_cmdp_1_1 (GI_upd5 hG)).2.2.2.1).2 | exact ((GI_cmdp_1_2 (GI_upd5 hG)).2.2.2.2.1).2 | exact ((GI_cmdp_1_2 (GI_upd5 hG)).2.2.2.1).2 | exact ((GI_cmdp_1_3 (GI_upd5 hG)).2.2.2.2.1).2 | exact ((GI_cmdp_1_3 (GI_upd5 hG)).2.2.2.1).2 | exact ((GI_cmdp_1_4 (GI_upd5 hG)).2.2.2.2.1).2 | exact ((GI_cmdp_1_4 (GI_upd5 hG)).2.2.2.1).2 | exact ((GI_cmdp_1_5 (GI_upd5 hG)).2.2.2.2.1).2 | exact ((GI_cmdp_1_5 (GI_upd5 hG)).2.2.2.1).2 | exact ((GI_cmdp_1_6 (GI_upd5 hG)).2.2.2.2.1).2 | exact ((GI_cmdp_1_6 (GI_upd5 hG)).2.2.2.1).2 | exact ((GI_cmdp_1_7 (GI_upd5 hG)).2.2.2.2.1).2 | exact ((GI_cmdp_1_7 (GI_upd5 hG)).2.2.2.1).2)) gX8_shapes_X8_halfOf rfl ⟨rfl, rfl⟩ hd_X8_halfOf.2 ⟨(Nat.le_of_ble_eq_true rfl), (Nat.le_of_ble_eq_true rfl)⟩ rfl rfl hl.1 (Nat.le_of_ble_eq_true rfl) ⟨Nat.zero_le _, Nat.zero_le _⟩ dX8_shapes_49 (fun H locs Y => ?_)
    obtain ⟨u_4_0, u_4_1, hr_4⟩ := bEx2 (s_commands8p_1 (upd (upd u_3_1 5 (nw 5)) 5 (-4)) w (nI (s_halfOf8 (u_3_1 22))))
    rw [hr_4] at hu
    dsimp only at hu
    have GI_cmdp_1_4 := GI_cmdp_1 hr_4
    refine bVI (As := [.int 1, .int w, .int (nI (s_halfOf8 (u_3_1 22)))]) (rest := [.int (0 + u_3_0)]) (wc := [(mM, .inr (8, [.ref mN, .ref mR, .ref mA, .ref mP, .int ch, .ref mT, .int le, .int sp, .ref mD])), (mN, .inl (cyI, 515, .inl (upd (upd u_3_1 5 (nw 5)) 5 (-4))))]) (w1 := [(mM, .inr (8, [.ref mN, .ref mR, .ref mA, .ref mP, .int ch, .ref mT, .int le, .int sp, .ref mD])), (mN, .inl (cyI, 515, .inl u_4_1))]) (ws' := [(mM, .inr (8, [.ref mN, .ref mR, .ref mA, .ref mP, .int ch, .ref mT, .int le, .int sp, .ref mD])), (mN, .inl (cyI, 515, .inl u_4_1))]) (ad := [mM, mN]) (wr := []) (nn := 2) (ci := 8) (q0 := 0) X Y (c_commands8p_1 l D cyC cyI mM mN mR mA mP mT mD ch le sp (upd (upd u_3_1 5 (nw 5)) 5 (-4)) w (nI (s_halfOf8 (u_3_1 22))) u_4_0 u_4_1 hr_4) gX8_shapes_X8_commands rfl ⟨rfl, rfl⟩ hd_X8_commands ⟨(Nat.le_of_ble_eq_true rfl), (Nat.le_of_ble_eq_true rfl)⟩ rfl rfl rfl [0, 1] [] rfl rfl rfl rfl rfl rfl rfl rfl (by decide) rfl rfl hl.1 (Nat.le_of_ble_eq_true rfl) ⟨Nat.zero_le _, Nat.zero_le _⟩ dX8_shapes_52 (fun H locs Y => ?_)
    refine bAdd (v := (0 + u_3_0) + u_4_0) X dX8_shapes_55 rfl ?_
    refine lv_istore_n (lv' := [(3, .int ((0 + u_3_0) + u_4_0)), (5, .int (nw 5)), (4, .int 1), (0, .ref mM), (1, .int 1), (2, .int w)]) hx hb dX8_shapes_56 rfl hl (by decide) rfl (fun ls hl => ?_)
    refine lv_aload_n hx hb dX8_shapes_57 rfl (lv_at hl 3 rfl) ?_
    refine bGet (v := .ref mN) (T := TX8) (N := 9) (ci := 8) X Y i_X8_shapes_X8 0 rfl rfl 0 (Nat.le_of_ble_eq_true rfl) f_X8_shapes_7 rfl rfl dX8_shapes_58 ?_
    refine lv_iconst (v := 5) hx hb dX8_shapes_61 (by decide) ?_
    refine lv_iload hx hb dX8_shapes_62 (lv_at hl 1 rfl) ?_
    refine bIast (f' := upd u_4_1 5 (nw 5)) (ws' := [(mM, .inr (8, [.ref mN, .ref mR, .ref mA, .ref mP, .int ch, .ref mT, .int le, .int sp, .ref mD])), (mN, .inl (cyI, 515, .inl (upd u_4_1 5 (nw 5))))]) X Y 1 rfl (bInD (by decide)) rfl rfl dX8_shapes_64 (fun H locs Y => ?_)
    refine lv_iinc (v := 2) (lv' := [(4, .int 2), (3, .int ((0 + u_3_0) + u_4_0)), (5, .int (nw 5)), (0, .ref mM), (1, .int 1), (2, .int w)]) hx hb dX8_shapes_65 hl (k := 2) rfl (by decide) (by decide) rfl (fun ls hl => ?_)
    refine lv_goto (tgt := 5) hx hb dX8_shapes_68 (by decide) ?_
    refine lv_iload hx hb dX8_shapes_5 (lv_at hl 0 rfl) ?_
    refine lv_iconst (v := 2) hx hb dX8_shapes_7 (by decide) ?_
    refine lv_icmp_ge (tgt := 71) hx hb dX8_shapes_8 (by decide) (fun _ => ?_) (fun c_ => absurd (by decide) c_)
    refine lv_iload_n hx hb dX8_shapes_71 rfl (lv_at hl 1 rfl) ?_
    have h9 := (Prod.mk.inj hu).1; replace hu := (Prod.mk.inj hu).2; subst h9
    subst hu
    exact bEndI X Y hr hlk dX8_shapes_72 rfl rfl
theorem hd_X8_shapes : bD1 yX8_shapes RX8 2 := by decide +kernel
def s_shape8_0 (ch : Int32) (nw : Nat → Int32) (ps : Nat → Int32) (w : Int32) (pa : Int32) : Int32 × Int32 × (Nat → Int32) × (Nat → Int32) :=
  if (s_isCrane8 0) = true then
    if (s_in8 w (-40) 40) = true then
      if (s_in8 pa (-1) 20) = true then
        match s_keeps8 ch nw ps with
        | (u_4_0, u_4_1) =>
          if 0 ≤ pa then
            match s_commands8p_0 nw w pa with
            | (u_6_0, u_6_1) =>
              (u_6_0, u_4_0, u_6_1, u_4_1)
          else
            match s_shapes8_0 nw w with
            | (u_7_0, u_7_1) =>
              (u_7_0, u_4_0, u_7_1, u_4_1)
      else
        ((-1), ch, nw, ps)
    else
      ((-1), ch, nw, ps)
  else
    ((-1), ch, nw, ps)
set_option maxHeartbeats 4000000 in
set_option maxRecDepth 100000 in
theorem c_shape8_0 (l : Launch) (D : va_G) (cyC cyI : ClassId) (mM : Nat) (mN : Nat) (mR : Nat) (mA : Nat) (mP : Nat) (mT : Nat) (mD : Nat) (ch : Int32) (le : Int32) (sp : Int32) (nw : Nat → Int32) (ps : Nat → Int32) (w : Int32) (pa : Int32) (o0 : Int32) (o1 : Int32) (o2 : Nat → Int32) (o3 : Nat → Int32) (hu : s_shape8_0 ch nw ps w pa = (o0, o1, o2, o3)) (hch : ch = 0 ∨ ch = 1 ∨ ch = 2 ∨ ch = 3 ∨ ch = 4) (hG : GI nw) : CI l yX8_shape wsX8_shape { frames := 4, cells := 0, slots := 0, locals := 99 } D cyC cyI [.ref mM, .int 0, .int w, .int pa] [(mM, .inr (8, [.ref mN, .ref mR, .ref mA, .ref mP, .int ch, .ref mT, .int le, .int sp, .ref mD])), (mN, .inl (cyI, 515, .inl nw)), (mP, .inl (cyI, 2060, .inl ps))] o0 [(mM, .inr (8, [.ref mN, .ref mR, .ref mA, .ref mP, .int o1, .ref mT, .int le, .int sp, .ref mD])), (mN, .inl (cyI, 515, .inl o2)), (mP, .inl (cyI, 2060, .inl o3))] := by
  refine CI.of (cc := cX8_shape) (n := 4) (ret := (some .int)) (by decide +kernel) rfl (Nat.le_of_ble_eq_true rfl) ?_
  intro p_ e_ s_ m_ bl_ me_ cd_ A_ ls X Y hr hlk hl
  have hx := X.1.1
  have hb := X.1.2.1
  have hl : lv_has ls 4 [(0, .ref mM), (1, .int 0), (2, .int w), (3, .int pa)] := hl
  unfold s_shape8_0 at hu
  refine lv_iload_n hx hb dX8_shape_0 rfl (lv_at hl 1 rfl) ?_
  refine bSI (As := [.int 0]) (rest := []) X Y (c_isCrane8 l D cyC cyI 0 (s_isCrane8 0) rfl) gX8_shape_X8_isCrane rfl ⟨rfl, rfl⟩ hd_X8_isCrane.2 ⟨(Nat.le_of_ble_eq_true rfl), (Nat.le_of_ble_eq_true rfl)⟩ rfl rfl hl.1 (Nat.le_of_ble_eq_true rfl) ⟨Nat.zero_le _, Nat.zero_le _⟩ dX8_shape_1 (fun H locs Y => ?_)
  refine lv_if_eq (tgt := 28) hx hb dX8_shape_4 (by decide) (fun c_1 => ?_) (fun c_1 => ?_)
  · have c_1 := bB_f c_1
    rw [if_neg c_1] at hu
    refine lv_iconst (v := (-1)) hx hb dX8_shape_28 (by decide) ?_
    have h9 := (Prod.mk.inj hu).1; replace hu := (Prod.mk.inj hu).2; subst h9
    have h9 := (Prod.mk.inj hu).1; replace hu := (Prod.mk.inj hu).2; subst h9
    have h9 := (Prod.mk.inj hu).1; replace hu := (Prod.mk.inj hu).2; subst h9
    subst hu
    exact bEndI X Y hr hlk dX8_shape_29 rfl rfl
  · have c_1 := bB_t c_1
    rw [if_pos c_1] at hu
    refine lv_iload_n hx hb dX8_shape_7 rfl (lv_at hl 2 rfl) ?_
    refine lv_bipush (v := (-40)) hx hb dX8_shape_8 (by decide) ?_
    refine lv_bipush (v := 40) hx hb dX8_shape_10 (by decide) ?_
    refine bSI (As := [.int w, .int (-40), .int 40]) (rest := []) X Y (c_in8 l D cyC cyI w (-40) 40 (s_in8 w (-40) 40) rfl) gX8_shape_X8_in rfl ⟨rfl, rfl⟩ hd_X8_in.2 ⟨(Nat.le_of_ble_eq_true rfl), (Nat.le_of_ble_eq_true rfl)⟩ rfl rfl hl.1 (Nat.le_of_ble_eq_true rfl) ⟨Nat.zero_le _, Nat.zero_le _⟩ dX8_shape_12 (fun H locs Y => ?_)
    refine lv_if_eq (tgt := 28) hx hb dX8_shape_15 (by decide) (fun c_2 => ?_) (fun c_2 => ?_)
    · have c_2 := bB_f c_2
      rw [if_neg c_2] at hu
      refine lv_iconst (v := (-1)) hx hb dX8_shape_28 (by decide) ?_
      have h9 := (Prod.mk.inj hu).1; replace hu := (Prod.mk.inj hu).2; subst h9
      have h9 := (Prod.mk.inj hu).1; replace hu := (Prod.mk.inj hu).2; subst h9
      have h9 := (Prod.mk.inj hu).1; replace hu := (Prod.mk.inj hu).2; subst h9
      subst hu
      exact bEndI X Y hr hlk dX8_shape_29 rfl rfl
    · have c_2 := bB_t c_2
      rw [if_pos c_2] at hu
      refine lv_iload_n hx hb dX8_shape_18 rfl (lv_at hl 3 rfl) ?_
      refine lv_iconst (v := (-1)) hx hb dX8_shape_19 (by decide) ?_
      refine lv_bipush (v := 20) hx hb dX8_shape_20 (by decide) ?_
      refine bSI (As := [.int pa, .int (-1), .int 20]) (rest := []) X Y (c_in8 l D cyC cyI pa (-1) 20 (s_in8 pa (-1) 20) rfl) gX8_shape_X8_in rfl ⟨rfl, rfl⟩ hd_X8_in.2 ⟨(Nat.le_of_ble_eq_true rfl), (Nat.le_of_ble_eq_true rfl)⟩ rfl rfl hl.1 (Nat.le_of_ble_eq_true rfl) ⟨Nat.zero_le _, Nat.zero_le _⟩ dX8_shape_22 (fun H locs Y => ?_)
      refine lv_if_ne (tgt := 30) hx hb dX8_shape_25 (by decide) (fun c_3 => ?_) (fun c_3 => ?_)
      · have c_3 := bB_t c_3
        rw [if_pos c_3] at hu
        refine lv_aload_n hx hb dX8_shape_30 rfl (lv_at hl 0 rfl) ?_
        obtain ⟨u_4_0, u_4_1, hr_4⟩ := bEx2 (s_keeps8 ch nw ps)
        rw [hr_4] at hu
        dsimp only at hu
        refine bVV (As := []) (rest := []) (wc := [(mM, .inr (8, [.ref mN, .ref mR, .ref mA, .ref mP, .int ch, .ref mT, .int le, .int sp, .ref mD])), (mN, .inl (cyI, 515, .inl nw)), (mP, .inl (cyI, 2060, .inl ps))]) (w1 := [(mM, .inr (8, [.ref mN, .ref mR, .ref mA, .ref mP, .int u_4_0, .ref mT, .int le, .int sp, .ref mD])), (mN, .inl (cyI, 515, .inl nw)), (mP, .inl (cyI, 2060, .inl u_4_1))]) (ws' := [(mM, .inr (8, [.ref mN, .ref mR, .ref mA, .ref mP, .int u_4_0, .ref mT, .int le, .int sp, .ref mD])), (mN, .inl (cyI, 515, .inl nw)), (mP, .inl (cyI, 2060, .inl u_4_1))]) (ad := [mM, mN, mP]) (wr := []) (nn := 3) (ci := 8) (q0 := 0) X Y (c_keeps8 l D cyC cyI mM mN mR mA mP mT mD ch le sp nw ps u_4_0 u_4_1 hr_4 (by first | assumption | omega | decide)) gX8_shape_X8_keeps rfl ⟨rfl, rfl⟩ hd_X8_keeps ⟨(Nat.le_of_ble_eq_true rfl), (Nat.le_of_ble_eq_true rfl)⟩ rfl rfl rfl [0, 1, 2] [] rfl rfl rfl rfl rfl rfl rfl rfl (by decide) rfl rfl hl.1 (Nat.le_of_ble_eq_true rfl) ⟨Nat.zero_le _, Nat.zero_le _⟩ dX8_shape_31 (fun H locs Y => ?_)
        refine lv_iload_n hx hb dX8_shape_34 rfl (lv_at hl 3 rfl) ?_
        refine lv_if_ge (tgt := 47) hx hb dX8_shape_35 (by decide) (fun c_5 => ?_) (fun c_5 => ?_)
        · have c_5 : 0 ≤ pa := c_5
          rw [if_pos c_5] at hu
          refine lv_aload_n hx hb dX8_shape_47 rfl (lv_at hl 0 rfl) ?_
          refine lv_iload_n hx hb dX8_shape_48 rfl (lv_at hl 1 rfl) ?_
          refine lv_iload_n hx hb dX8_shape_49 rfl (lv_at hl 2 rfl) ?_
          refine lv_iload_n hx hb dX8_shape_50 rfl (lv_at hl 3 rfl) ?_
          obtain ⟨u_6_0, u_6_1, hr_6⟩ := bEx2 (s_commands8p_0 nw w pa)
          rw [hr_6] at hu
          dsimp only at hu
          have GI_cmdp_0_6 := GI_cmdp_0 hr_6
          refine bVI (As := [.int 0, .int w, .int pa]) (rest := []) (wc := [(mM, .inr (8, [.ref mN, .ref mR, .ref mA, .ref mP, .int u_4_0, .ref mT, .int le, .int sp, .ref mD])), (mN, .inl (cyI, 515, .inl nw))]) (w1 := [(mM, .inr (8, [.ref mN, .ref mR, .ref mA, .ref mP, .int u_4_0, .ref mT, .int le, .int sp, .ref mD])), (mN, .inl (cyI, 515, .inl u_6_1))]) (ws' := [(mM, .inr (8, [.ref mN, .ref mR, .ref mA, .ref mP, .int u_4_0, .ref mT, .int le, .int sp, .ref mD])), (mN, .inl (cyI, 515, .inl u_6_1)), (mP, .inl (cyI, 2060, .inl u_4_1))]) (ad := [mM, mN]) (wr := [(mP, .inl (cyI, 2060, .inl u_4_1))]) (nn := 3) (ci := 8) (q0 := 0) X Y (c_commands8p_0 l D cyC cyI mM mN mR mA mP mT mD u_4_0 le sp nw w pa u_6_0 u_6_1 hr_6) gX8_shape_X8_commands rfl ⟨rfl, rfl⟩ hd_X8_commands ⟨(Nat.le_of_ble_eq_true rfl), (Nat.le_of_ble_eq_true rfl)⟩ rfl rfl rfl [0, 1] [2] rfl rfl rfl rfl rfl rfl rfl rfl (by decide) rfl rfl hl.1 (Nat.le_of_ble_eq_true rfl) ⟨Nat.zero_le _, Nat.zero_le _⟩ dX8_shape_51 (fun H locs Y => ?_)
          have h9 := (Prod.mk.inj hu).1; replace hu := (Prod.mk.inj hu).2; subst h9
          have h9 := (Prod.mk.inj hu).1; replace hu := (Prod.mk.inj hu).2; subst h9
          have h9 := (Prod.mk.inj hu).1; replace hu := (Prod.mk.inj hu).2; subst h9
          subst hu
          exact bEndI X Y hr hlk dX8_shape_54 rfl rfl
        · have c_5 : ¬ (0 ≤ pa) := c_5
          rw [if_neg c_5] at hu
          refine lv_aload_n hx hb dX8_shape_38 rfl (lv_at hl 0 rfl) ?_
          refine lv_iload_n hx hb dX8_shape_39 rfl (lv_at hl 1 rfl) ?_
          refine lv_iload_n hx hb dX8_shape_40 rfl (lv_at hl 2 rfl) ?_
          obtain ⟨u_7_0, u_7_1, hr_7⟩ := bEx2 (s_shapes8_0 nw w)
          rw [hr_7] at hu
          dsimp only at hu
          refine bVI (As := [.int 0, .int w]) (rest := []) (wc := [(mM, .inr (8, [.ref mN, .ref mR, .ref mA, .ref mP, .int u_4_0, .ref mT, .int le, .int sp, .ref mD])), (mN, .inl (cyI, 515, .inl nw))]) (w1 := [(mM, .inr (8, [.ref mN, .ref mR, .ref mA, .ref mP, .int u_4_0, .ref mT, .int le, .int sp, .ref mD])), (mN, .inl (cyI, 515, .inl u_7_1))]) (ws' := [(mM, .inr (8, [.ref mN, .ref mR, .ref mA, .ref mP, .int u_4_0, .ref mT, .int le, .int sp, .ref mD])), (mN, .inl (cyI, 515, .inl u_7_1)), (mP, .inl (cyI, 2060, .inl u_4_1))]) (ad := [mM, mN]) (wr := [(mP, .inl (cyI, 2060, .inl u_4_1))]) (nn := 3) (ci := 8) (q0 := 0) X Y (c_shapes8_0 l D cyC cyI mM mN mR mA mP mT mD u_4_0 le sp nw w u_7_0 u_7_1 hr_7 (by first | assumption | omega | decide)) gX8_shape_X8_shapes rfl ⟨rfl, rfl⟩ hd_X8_shapes ⟨(Nat.le_of_ble_eq_true rfl), (Nat.le_of_ble_eq_true rfl)⟩ rfl rfl rfl [0, 1] [2] rfl rfl rfl rfl rfl rfl rfl rfl (by decide) rfl rfl hl.1 (Nat.le_of_ble_eq_true rfl) ⟨Nat.zero_le _, Nat.zero_le _⟩ dX8_shape_41 (fun H locs Y => ?_)
          refine lv_goto (tgt := 54) hx hb dX8_shape_44 (by decide) ?_
          have h9 := (Prod.mk.inj hu).1; replace hu := (Prod.mk.inj hu).2; subst h9
          have h9 := (Prod.mk.inj hu).1; replace hu := (Prod.mk.inj hu).2; subst h9
          have h9 := (Prod.mk.inj hu).1; replace hu := (Prod.mk.inj hu).2; subst h9
          subst hu
          exact bEndI X Y hr hlk dX8_shape_54 rfl rfl
      · have c_3 := bB_f c_3
        rw [if_neg c_3] at hu
        refine lv_iconst (v := (-1)) hx hb dX8_shape_28 (by decide) ?_
        have h9 := (Prod.mk.inj hu).1; replace hu := (Prod.mk.inj hu).2; subst h9
        have h9 := (Prod.mk.inj hu).1; replace hu := (Prod.mk.inj hu).2; subst h9
        have h9 := (Prod.mk.inj hu).1; replace hu := (Prod.mk.inj hu).2; subst h9
        subst hu
        exact bEndI X Y hr hlk dX8_shape_29 rfl rfl
def s_shape8_1 (ch : Int32) (nw : Nat → Int32) (ps : Nat → Int32) (w : Int32) (pa : Int32) : Int32 × Int32 × (Nat → Int32) × (Nat → Int32) :=
  if (s_isCrane8 1) = true then
    if (s_in8 w (-40) 40) = true then
      if (s_in8 pa (-1) 20) = true then
        match s_keeps8 ch nw ps with
        | (u_4_0, u_4_1) =>
          if 0 ≤ pa then
            match s_commands8p_1 nw w pa with
            | (u_6_0, u_6_1) =>
              (u_6_0, u_4_0, u_6_1, u_4_1)
          else
            match s_shapes8_1 nw w with
            | (u_7_0, u_7_1) =>
              (u_7_0, u_4_0, u_7_1, u_4_1)
      else
        ((-1), ch, nw, ps)
    else
      ((-1), ch, nw, ps)
  else
    ((-1), ch, nw, ps)
set_option maxHeartbeats 4000000 in
set_option maxRecDepth 100000 in
theorem c_shape8_1 (l : Launch) (D : va_G) (cyC cyI : ClassId) (mM : Nat) (mN : Nat) (mR : Nat) (mA : Nat) (mP : Nat) (mT : Nat) (mD : Nat) (ch : Int32) (le : Int32) (sp : Int32) (nw : Nat → Int32) (ps : Nat → Int32) (w : Int32) (pa : Int32) (o0 : Int32) (o1 : Int32) (o2 : Nat → Int32) (o3 : Nat → Int32) (hu : s_shape8_1 ch nw ps w pa = (o0, o1, o2, o3)) (hch : ch = 0 ∨ ch = 1 ∨ ch = 2 ∨ ch = 3 ∨ ch = 4) (hG : GI nw) : CI l yX8_shape wsX8_shape { frames := 4, cells := 0, slots := 0, locals := 99 } D cyC cyI [.ref mM, .int 1, .int w, .int pa] [(mM, .inr (8, [.ref mN, .ref mR, .ref mA, .ref mP, .int ch, .ref mT, .int le, .int sp, .ref mD])), (mN, .inl (cyI, 515, .inl nw)), (mP, .inl (cyI, 2060, .inl ps))] o0 [(mM, .inr (8, [.ref mN, .ref mR, .ref mA, .ref mP, .int o1, .ref mT, .int le, .int sp, .ref mD])), (mN, .inl (cyI, 515, .inl o2)), (mP, .inl (cyI, 2060, .inl o3))] := by
  refine CI.of (cc := cX8_shape) (n := 4) (ret := (some .int)) (by decide +kernel) rfl (Nat.le_of_ble_eq_true rfl) ?_
  intro p_ e_ s_ m_ bl_ me_ cd_ A_ ls X Y hr hlk hl
  have hx := X.1.1
  have hb := X.1.2.1
  have hl : lv_has ls 4 [(0, .ref mM), (1, .int 1), (2, .int w), (3, .int pa)] := hl
  unfold s_shape8_1 at hu
  refine lv_iload_n hx hb dX8_shape_0 rfl (lv_at hl 1 rfl) ?_
  refine bSI (As := [.int 1]) (rest := []) X Y (c_isCrane8 l D cyC cyI 1 (s_isCrane8 1) rfl) gX8_shape_X8_isCrane rfl ⟨rfl, rfl⟩ hd_X8_isCrane.2 ⟨(Nat.le_of_ble_eq_true rfl), (Nat.le_of_ble_eq_true rfl)⟩ rfl rfl hl.1 (Nat.le_of_ble_eq_true rfl) ⟨Nat.zero_le _, Nat.zero_le _⟩ dX8_shape_1 (fun H locs Y => ?_)
  refine lv_if_eq (tgt := 28) hx hb dX8_shape_4 (by decide) (fun c_1 => ?_) (fun c_1 => ?_)
  · have c_1 := bB_f c_1
    rw [if_neg c_1] at hu
    refine lv_iconst (v := (-1)) hx hb dX8_shape_28 (by decide) ?_
    have h9 := (Prod.mk.inj hu).1; replace hu := (Prod.mk.inj hu).2; subst h9
    have h9 := (Prod.mk.inj hu).1; replace hu := (Prod.mk.inj hu).2; subst h9
    have h9 := (Prod.mk.inj hu).1; replace hu := (Prod.mk.inj hu).2; subst h9
    subst hu
    exact bEndI X Y hr hlk dX8_shape_29 rfl rfl
  · have c_1 := bB_t c_1
    rw [if_pos c_1] at hu
    refine lv_iload_n hx hb dX8_shape_7 rfl (lv_at hl 2 rfl) ?_
    refine lv_bipush (v := (-40)) hx hb dX8_shape_8 (by decide) ?_
    refine lv_bipush (v := 40) hx hb dX8_shape_10 (by decide) ?_
    refine bSI (As := [.int w, .int (-40), .int 40]) (rest := []) X Y (c_in8 l D cyC cyI w (-40) 40 (s_in8 w (-40) 40) rfl) gX8_shape_X8_in rfl ⟨rfl, rfl⟩ hd_X8_in.2 ⟨(Nat.le_of_ble_eq_true rfl), (Nat.le_of_ble_eq_true rfl)⟩ rfl rfl hl.1 (Nat.le_of_ble_eq_true rfl) ⟨Nat.zero_le _, Nat.zero_le _⟩ dX8_shape_12 (fun H locs Y => ?_)
    refine lv_if_eq (tgt := 28) hx hb dX8_shape_15 (by decide) (fun c_2 => ?_) (fun c_2 => ?_)
    · have c_2 := bB_f c_2
      rw [if_neg c_2] at hu
      refine lv_iconst (v := (-1)) hx hb dX8_shape_28 (by decide) ?_
      have h9 := (Prod.mk.inj hu).1; replace hu := (Prod.mk.inj hu).2; subst h9
      have h9 := (Prod.mk.inj hu).1; replace hu := (Prod.mk.inj hu).2; subst h9
      have h9 := (Prod.mk.inj hu).1; replace hu := (Prod.mk.inj hu).2; subst h9
      subst hu
      exact bEndI X Y hr hlk dX8_shape_29 rfl rfl
    · have c_2 := bB_t c_2
      rw [if_pos c_2] at hu
      refine lv_iload_n hx hb dX8_shape_18 rfl (lv_at hl 3 rfl) ?_
      refine lv_iconst (v := (-1)) hx hb dX8_shape_19 (by decide) ?_
      refine lv_bipush (v := 20) hx hb dX8_shape_20 (by decide) ?_
      refine bSI (As := [.int pa, .int (-1), .int 20]) (rest := []) X Y (c_in8 l D cyC cyI pa (-1) 20 (s_in8 pa (-1) 20) rfl) gX8_shape_X8_in rfl ⟨rfl, rfl⟩ hd_X8_in.2 ⟨(Nat.le_of_ble_eq_true rfl), (Nat.le_of_ble_eq_true rfl)⟩ rfl rfl hl.1 (Nat.le_of_ble_eq_true rfl) ⟨Nat.zero_le _, Nat.zero_le _⟩ dX8_shape_22 (fun H locs Y => ?_)
      refine lv_if_ne (tgt := 30) hx hb dX8_shape_25 (by decide) (fun c_3 => ?_) (fun c_3 => ?_)
      · have c_3 := bB_t c_3
        rw [if_pos c_3] at hu
        refine lv_aload_n hx hb dX8_shape_30 rfl (lv_at hl 0 rfl) ?_
        obtain ⟨u_4_0, u_4_1, hr_4⟩ := bEx2 (s_keeps8 ch nw ps)
        rw [hr_4] at hu
        dsimp only at hu
        refine bVV (As := []) (rest := []) (wc := [(mM, .inr (8, [.ref mN, .ref mR, .ref mA, .ref mP, .int ch, .ref mT, .int le, .int sp, .ref mD])), (mN, .inl (cyI, 515, .inl nw)), (mP, .inl (cyI, 2060, .inl ps))]) (w1 := [(mM, .inr (8, [.ref mN, .ref mR, .ref mA, .ref mP, .int u_4_0, .ref mT, .int le, .int sp, .ref mD])), (mN, .inl (cyI, 515, .inl nw)), (mP, .inl (cyI, 2060, .inl u_4_1))]) (ws' := [(mM, .inr (8, [.ref mN, .ref mR, .ref mA, .ref mP, .int u_4_0, .ref mT, .int le, .int sp, .ref mD])), (mN, .inl (cyI, 515, .inl nw)), (mP, .inl (cyI, 2060, .inl u_4_1))]) (ad := [mM, mN, mP]) (wr := []) (nn := 3) (ci := 8) (q0 := 0) X Y (c_keeps8 l D cyC cyI mM mN mR mA mP mT mD ch le sp nw ps u_4_0 u_4_1 hr_4 (by first | assumption | omega | decide)) gX8_shape_X8_keeps rfl ⟨rfl, rfl⟩ hd_X8_keeps ⟨(Nat.le_of_ble_eq_true rfl), (Nat.le_of_ble_eq_true rfl)⟩ rfl rfl rfl [0, 1, 2] [] rfl rfl rfl rfl rfl rfl rfl rfl (by decide) rfl rfl hl.1 (Nat.le_of_ble_eq_true rfl) ⟨Nat.zero_le _, Nat.zero_le _⟩ dX8_shape_31 (fun H locs Y => ?_)
        refine lv_iload_n hx hb dX8_shape_34 rfl (lv_at hl 3 rfl) ?_
        refine lv_if_ge (tgt := 47) hx hb dX8_shape_35 (by decide) (fun c_5 => ?_) (fun c_5 => ?_)
        · have c_5 : 0 ≤ pa := c_5
          rw [if_pos c_5] at hu
          refine lv_aload_n hx hb dX8_shape_47 rfl (lv_at hl 0 rfl) ?_
          refine lv_iload_n hx hb dX8_shape_48 rfl (lv_at hl 1 rfl) ?_
          refine lv_iload_n hx hb dX8_shape_49 rfl (lv_at hl 2 rfl) ?_
          refine lv_iload_n hx hb dX8_shape_50 rfl (lv_at hl 3 rfl) ?_
          obtain ⟨u_6_0, u_6_1, hr_6⟩ := bEx2 (s_commands8p_1 nw w pa)
          rw [hr_6] at hu
          dsimp only at hu
          have GI_cmdp_1_6 := GI_cmdp_1 hr_6
          refine bVI (As := [.int 1, .int w, .int pa]) (rest := []) (wc := [(mM, .inr (8, [.ref mN, .ref mR, .ref mA, .ref mP, .int u_4_0, .ref mT, .int le, .int sp, .ref mD])), (mN, .inl (cyI, 515, .inl nw))]) (w1 := [(mM, .inr (8, [.ref mN, .ref mR, .ref mA, .ref mP, .int u_4_0, .ref mT, .int le, .int sp, .ref mD])), (mN, .inl (cyI, 515, .inl u_6_1))]) (ws' := [(mM, .inr (8, [.ref mN, .ref mR, .ref mA, .ref mP, .int u_4_0, .ref mT, .int le, .int sp, .ref mD])), (mN, .inl (cyI, 515, .inl u_6_1)), (mP, .inl (cyI, 2060, .inl u_4_1))]) (ad := [mM, mN]) (wr := [(mP, .inl (cyI, 2060, .inl u_4_1))]) (nn := 3) (ci := 8) (q0 := 0) X Y (c_commands8p_1 l D cyC cyI mM mN mR mA mP mT mD u_4_0 le sp nw w pa u_6_0 u_6_1 hr_6) gX8_shape_X8_commands rfl ⟨rfl, rfl⟩ hd_X8_commands ⟨(Nat.le_of_ble_eq_true rfl), (Nat.le_of_ble_eq_true rfl)⟩ rfl rfl rfl [0, 1] [2] rfl rfl rfl rfl rfl rfl rfl rfl (by decide) rfl rfl hl.1 (Nat.le_of_ble_eq_true rfl) ⟨Nat.zero_le _, Nat.zero_le _⟩ dX8_shape_51 (fun H locs Y => ?_)
          have h9 := (Prod.mk.inj hu).1; replace hu := (Prod.mk.inj hu).2; subst h9
          have h9 := (Prod.mk.inj hu).1; replace hu := (Prod.mk.inj hu).2; subst h9
          have h9 := (Prod.mk.inj hu).1; replace hu := (Prod.mk.inj hu).2; subst h9
          subst hu
          exact bEndI X Y hr hlk dX8_shape_54 rfl rfl
        · have c_5 : ¬ (0 ≤ pa) := c_5
          rw [if_neg c_5] at hu
          refine lv_aload_n hx hb dX8_shape_38 rfl (lv_at hl 0 rfl) ?_
          refine lv_iload_n hx hb dX8_shape_39 rfl (lv_at hl 1 rfl) ?_
          refine lv_iload_n hx hb dX8_shape_40 rfl (lv_at hl 2 rfl) ?_
          obtain ⟨u_7_0, u_7_1, hr_7⟩ := bEx2 (s_shapes8_1 nw w)
          rw [hr_7] at hu
          dsimp only at hu
          refine bVI (As := [.int 1, .int w]) (rest := []) (wc := [(mM, .inr (8, [.ref mN, .ref mR, .ref mA, .ref mP, .int u_4_0, .ref mT, .int le, .int sp, .ref mD])), (mN, .inl (cyI, 515, .inl nw))]) (w1 := [(mM, .inr (8, [.ref mN, .ref mR, .ref mA, .ref mP, .int u_4_0, .ref mT, .int le, .int sp, .ref mD])), (mN, .inl (cyI, 515, .inl u_7_1))]) (ws' := [(mM, .inr (8, [.ref mN, .ref mR, .ref mA, .ref mP, .int u_4_0, .ref mT, .int le, .int sp, .ref mD])), (mN, .inl (cyI, 515, .inl u_7_1)), (mP, .inl (cyI, 2060, .inl u_4_1))]) (ad := [mM, mN]) (wr := [(mP, .inl (cyI, 2060, .inl u_4_1))]) (nn := 3) (ci := 8) (q0 := 0) X Y (c_shapes8_1 l D cyC cyI mM mN mR mA mP mT mD u_4_0 le sp nw w u_7_0 u_7_1 hr_7 (by first | assumption | omega | decide)) gX8_shape_X8_shapes rfl ⟨rfl, rfl⟩ hd_X8_shapes ⟨(Nat.le_of_ble_eq_true rfl), (Nat.le_of_ble_eq_true rfl)⟩ rfl rfl rfl [0, 1] [2] rfl rfl rfl rfl rfl rfl rfl rfl (by decide) rfl rfl hl.1 (Nat.le_of_ble_eq_true rfl) ⟨Nat.zero_le _, Nat.zero_le _⟩ dX8_shape_41 (fun H locs Y => ?_)
          refine lv_goto (tgt := 54) hx hb dX8_shape_44 (by decide) ?_
          have h9 := (Prod.mk.inj hu).1; replace hu := (Prod.mk.inj hu).2; subst h9
          have h9 := (Prod.mk.inj hu).1; replace hu := (Prod.mk.inj hu).2; subst h9
          have h9 := (Prod.mk.inj hu).1; replace hu := (Prod.mk.inj hu).2; subst h9
          subst hu
          exact bEndI X Y hr hlk dX8_shape_54 rfl rfl
      · have c_3 := bB_f c_3
        rw [if_neg c_3] at hu
        refine lv_iconst (v := (-1)) hx hb dX8_shape_28 (by decide) ?_
        have h9 := (Prod.mk.inj hu).1; replace hu := (Prod.mk.inj hu).2; subst h9
        have h9 := (Prod.mk.inj hu).1; replace hu := (Prod.mk.inj hu).2; subst h9
        have h9 := (Prod.mk.inj hu).1; replace hu := (Prod.mk.inj hu).2; subst h9
        subst hu
        exact bEndI X Y hr hlk dX8_shape_29 rfl rfl
def s_shape8_b : Int32 :=
  (-1)
set_option maxHeartbeats 4000000 in
set_option maxRecDepth 100000 in
theorem c_shape8_b (l : Launch) (D : va_G) (cyC cyI : ClassId) (mM : Nat) (mN : Nat) (mR : Nat) (mA : Nat) (mP : Nat) (mT : Nat) (mD : Nat) (ch : Int32) (le : Int32) (sp : Int32) (c : Int32) (w : Int32) (pa : Int32) (o0 : Int32) (hu : s_shape8_b = o0) (hc0 : ¬ c = 0) (hc1 : ¬ c = 1) : CI l yX8_shape wsX8_shape { frames := 1, cells := 0, slots := 0, locals := 20 } D cyC cyI [.ref mM, .int c, .int w, .int pa] [(mM, .inr (8, [.ref mN, .ref mR, .ref mA, .ref mP, .int ch, .ref mT, .int le, .int sp, .ref mD]))] o0 [(mM, .inr (8, [.ref mN, .ref mR, .ref mA, .ref mP, .int ch, .ref mT, .int le, .int sp, .ref mD]))] := by
  refine CI.of (cc := cX8_shape) (n := 4) (ret := (some .int)) (by decide +kernel) rfl (Nat.le_of_ble_eq_true rfl) ?_
  intro p_ e_ s_ m_ bl_ me_ cd_ A_ ls X Y hr hlk hl
  have hx := X.1.1
  have hb := X.1.2.1
  have hl : lv_has ls 4 [(0, .ref mM), (1, .int c), (2, .int w), (3, .int pa)] := hl
  unfold s_shape8_b at hu
  refine lv_iload_n hx hb dX8_shape_0 rfl (lv_at hl 1 rfl) ?_
  refine bSI (As := [.int c]) (rest := []) X Y (c_isCrane8 l D cyC cyI c (s_isCrane8 c) rfl) gX8_shape_X8_isCrane rfl ⟨rfl, rfl⟩ hd_X8_isCrane.2 ⟨(Nat.le_of_ble_eq_true rfl), (Nat.le_of_ble_eq_true rfl)⟩ rfl rfl hl.1 (Nat.le_of_ble_eq_true rfl) ⟨Nat.zero_le _, Nat.zero_le _⟩ dX8_shape_1 (fun H locs Y => ?_)
  refine lv_if_eq (tgt := 28) hx hb dX8_shape_4 (by decide) (fun c_1 => ?_) (fun c_1 => ?_)
  · have c_1 := bB_f c_1
    refine lv_iconst (v := (-1)) hx hb dX8_shape_28 (by decide) ?_
    subst hu
    exact bEndI X Y hr hlk dX8_shape_29 rfl rfl
  · have c_1 := bB_t c_1
    exact absurd c_1 (isCrane8_no hc0 hc1)
theorem kNo {k x : Int32} (h : ¬ k < 0) (h0 : ¬ k = 0) (h1 : ¬ k = 1) (hx : x = 0 ∨ x = 1 ∨ x = 2) : ¬ k < x := by
  intro q
  have e0 : k.toInt ≠ 0 := fun z => h0 (Int32.toInt_inj.mp (by rw [z]; rfl))
  have e1 : k.toInt ≠ 1 := fun z => h1 (Int32.toInt_inj.mp (by rw [z]; rfl))
  rw [Int32.lt_iff_toInt_lt, Int32.toInt_zero] at h
  rw [Int32.lt_iff_toInt_lt] at q
  rcases hx with z | z | z <;> subst z
  · rw [Int32.toInt_zero] at q; omega
  · rw [show (1 : Int32).toInt = 1 from by decide] at q; omega
  · rw [show (2 : Int32).toInt = 2 from by decide] at q; omega
theorem k_X8_stepOf_161 : Cond.constant RX8 161 (100000) ∈ wsX8_stepOf := by decide +kernel
theorem i_X8_stepOf_X8 : ∀ w ∈ wsX80, w ∈ wsX8_stepOf := by decide +kernel
theorem f_X8_stepOf_7 : Cond.fieldLink RX8 7 "SwingCranesModel" "now" "[I" ∈ wsX8_stepOf := by decide +kernel
def s_stepOf8_00 (nw : Nat → Int32) (what : Int32) : Int32 :=
  if (s_isCrane8 0) = true then
    if (s_in8 what 0 1) = true then
      if 0 < (nw 15) then
        if what = 0 then
          (nw 16) - (nw 6)
        else
          (nw 17) + 100000
      else
        (-4)
    else
      (-1)
  else
    (-1)
set_option maxHeartbeats 4000000 in
set_option maxRecDepth 100000 in
theorem c_stepOf8_00 (l : Launch) (D : va_G) (cyC cyI : ClassId) (mM : Nat) (mN : Nat) (mR : Nat) (mA : Nat) (mP : Nat) (mT : Nat) (mD : Nat) (ch : Int32) (le : Int32) (sp : Int32) (nw : Nat → Int32) (what : Int32) (o0 : Int32) (hu : s_stepOf8_00 nw what = o0) : CI l yX8_stepOf wsX8_stepOf { frames := 1, cells := 0, slots := 0, locals := 22 } D cyC cyI [.ref mM, .int 0, .int 0, .int what] [(mM, .inr (8, [.ref mN, .ref mR, .ref mA, .ref mP, .int ch, .ref mT, .int le, .int sp, .ref mD])), (mN, .inl (cyI, 515, .inl nw))] o0 [(mM, .inr (8, [.ref mN, .ref mR, .ref mA, .ref mP, .int ch, .ref mT, .int le, .int sp, .ref mD])), (mN, .inl (cyI, 515, .inl nw))] := by
  refine CI.of (cc := cX8_stepOf) (n := 4) (ret := (some .int)) (by decide +kernel) rfl (Nat.le_of_ble_eq_true rfl) ?_
  intro p_ e_ s_ m_ bl_ me_ cd_ A_ ls X Y hr hlk hl
  have hx := X.1.1
  have hb := X.1.2.1
  have hl : lv_has ls 4 [(0, .ref mM), (1, .int 0), (2, .int 0), (3, .int what)] := hl
  unfold s_stepOf8_00 at hu
  refine lv_iload_n hx hb dX8_stepOf_0 rfl (lv_at hl 1 rfl) ?_
  refine bSI (As := [.int 0]) (rest := []) X Y (c_isCrane8 l D cyC cyI 0 (s_isCrane8 0) rfl) gX8_stepOf_X8_isCrane rfl ⟨rfl, rfl⟩ hd_X8_isCrane.2 ⟨(Nat.le_of_ble_eq_true rfl), (Nat.le_of_ble_eq_true rfl)⟩ rfl rfl hl.1 (Nat.le_of_ble_eq_true rfl) ⟨Nat.zero_le _, Nat.zero_le _⟩ dX8_stepOf_1 (fun H locs Y => ?_)
  refine lv_if_eq (tgt := 20) hx hb dX8_stepOf_4 (by decide) (fun c_1 => ?_) (fun c_1 => ?_)
  · have c_1 := bB_f c_1
    rw [if_neg c_1] at hu
    refine lv_iconst (v := (-1)) hx hb dX8_stepOf_20 (by decide) ?_
    subst hu
    exact bEndI X Y hr hlk dX8_stepOf_21 rfl rfl
  · have c_1 := bB_t c_1
    rw [if_pos c_1] at hu
    refine lv_iload_n hx hb dX8_stepOf_7 rfl (lv_at hl 2 rfl) ?_
    refine lv_if_lt (tgt := 20) hx hb dX8_stepOf_8 (by decide) (fun c_ => absurd c_ (by decide)) (fun _ => ?_)
    refine lv_iload_n hx hb dX8_stepOf_11 rfl (lv_at hl 3 rfl) ?_
    refine lv_iconst (v := 0) hx hb dX8_stepOf_12 (by decide) ?_
    refine lv_iconst (v := 1) hx hb dX8_stepOf_13 (by decide) ?_
    refine bSI (As := [.int what, .int 0, .int 1]) (rest := []) X Y (c_in8 l D cyC cyI what 0 1 (s_in8 what 0 1) rfl) gX8_stepOf_X8_in rfl ⟨rfl, rfl⟩ hd_X8_in.2 ⟨(Nat.le_of_ble_eq_true rfl), (Nat.le_of_ble_eq_true rfl)⟩ rfl rfl hl.1 (Nat.le_of_ble_eq_true rfl) ⟨Nat.zero_le _, Nat.zero_le _⟩ dX8_stepOf_14 (fun H locs Y => ?_)
    refine lv_if_ne (tgt := 22) hx hb dX8_stepOf_17 (by decide) (fun c_2 => ?_) (fun c_2 => ?_)
    · have c_2 := bB_t c_2
      rw [if_pos c_2] at hu
      refine lv_iload_n hx hb dX8_stepOf_22 rfl (lv_at hl 2 rfl) ?_
      refine lv_aload_n hx hb dX8_stepOf_23 rfl (lv_at hl 0 rfl) ?_
      refine lv_iload_n hx hb dX8_stepOf_24 rfl (lv_at hl 1 rfl) ?_
      refine lv_bipush (v := 8) hx hb dX8_stepOf_25 (by decide) ?_
      refine bVI0 (As := [.int 0, .int 8]) (rest := [.int 0]) (wc := [(mM, .inr (8, [.ref mN, .ref mR, .ref mA, .ref mP, .int ch, .ref mT, .int le, .int sp, .ref mD])), (mN, .inl (cyI, 515, .inl nw))]) (ci := 8) (q0 := 0) X Y (c_of8 l D cyC cyI mM mN mR mA mP mT mD ch le sp nw 0 8 (nw 15) (bOf (i := 15) (by decide) rfl) (bInD (by decide))) gX8_stepOf_X8_of rfl ⟨rfl, rfl⟩ hd_X8_of ⟨(Nat.le_of_ble_eq_true rfl), (Nat.le_of_ble_eq_true rfl)⟩ rfl rfl rfl [0, 1] rfl rfl rfl rfl hl.1 (Nat.le_of_ble_eq_true rfl) ⟨Nat.zero_le _, Nat.zero_le _⟩ dX8_stepOf_27 (fun H locs Y => ?_)
      refine lv_icmp_lt (tgt := 36) hx hb dX8_stepOf_30 (by decide) (fun c_3 => ?_) (fun c_3 => ?_)
      · have c_3 : 0 < (nw 15) := c_3
        rw [if_pos c_3] at hu
        refine lv_iload_n hx hb dX8_stepOf_36 rfl (lv_at hl 3 rfl) ?_
        refine lv_if_ne (tgt := 62) hx hb dX8_stepOf_37 (by decide) (fun c_4 => ?_) (fun c_4 => ?_)
        · have c_4 : ¬ (what = 0) := c_4
          rw [if_neg c_4] at hu
          refine lv_aload_n hx hb dX8_stepOf_62 rfl (lv_at hl 0 rfl) ?_
          refine lv_iload_n hx hb dX8_stepOf_63 rfl (lv_at hl 1 rfl) ?_
          refine lv_bipush (v := 9) hx hb dX8_stepOf_64 (by decide) ?_
          refine lv_iconst (v := 2) hx hb dX8_stepOf_66 (by decide) ?_
          refine lv_iload_n hx hb dX8_stepOf_67 rfl (lv_at hl 2 rfl) ?_
          refine bMul (v := 0) X dX8_stepOf_68 (by decide) ?_
          refine bAdd (v := 9) X dX8_stepOf_69 (by decide) ?_
          refine lv_iconst (v := 1) hx hb dX8_stepOf_70 (by decide) ?_
          refine bAdd (v := 10) X dX8_stepOf_71 (by decide) ?_
          refine bVI0 (As := [.int 0, .int 10]) (rest := []) (wc := [(mM, .inr (8, [.ref mN, .ref mR, .ref mA, .ref mP, .int ch, .ref mT, .int le, .int sp, .ref mD])), (mN, .inl (cyI, 515, .inl nw))]) (ci := 8) (q0 := 0) X Y (c_of8 l D cyC cyI mM mN mR mA mP mT mD ch le sp nw 0 10 (nw 17) (bOf (i := 17) (by decide) rfl) (bInD (by decide))) gX8_stepOf_X8_of rfl ⟨rfl, rfl⟩ hd_X8_of ⟨(Nat.le_of_ble_eq_true rfl), (Nat.le_of_ble_eq_true rfl)⟩ rfl rfl rfl [0, 1] rfl rfl rfl rfl hl.1 (Nat.le_of_ble_eq_true rfl) ⟨Nat.zero_le _, Nat.zero_le _⟩ dX8_stepOf_72 (fun H locs Y => ?_)
          refine lv_ldc (v := 100000) hx hb X.1.2.2.2.1 (X.1.2.2.2.2 _ k_X8_stepOf_161) dX8_stepOf_75 ?_
          refine bAdd (v := (nw 17) + 100000) X dX8_stepOf_77 rfl ?_
          subst hu
          exact bEndI X Y hr hlk dX8_stepOf_78 rfl rfl
        · have c_4 : what = 0 := c_4
          rw [if_pos c_4] at hu
          refine lv_aload_n hx hb dX8_stepOf_40 rfl (lv_at hl 0 rfl) ?_
          refine lv_iload_n hx hb dX8_stepOf_41 rfl (lv_at hl 1 rfl) ?_
          refine lv_bipush (v := 9) hx hb dX8_stepOf_42 (by decide) ?_
          refine lv_iconst (v := 2) hx hb dX8_stepOf_44 (by decide) ?_
          refine lv_iload_n hx hb dX8_stepOf_45 rfl (lv_at hl 2 rfl) ?_
          refine bMul (v := 0) X dX8_stepOf_46 (by decide) ?_
          refine bAdd (v := 9) X dX8_stepOf_47 (by decide) ?_
          refine bVI0 (As := [.int 0, .int 9]) (rest := []) (wc := [(mM, .inr (8, [.ref mN, .ref mR, .ref mA, .ref mP, .int ch, .ref mT, .int le, .int sp, .ref mD])), (mN, .inl (cyI, 515, .inl nw))]) (ci := 8) (q0 := 0) X Y (c_of8 l D cyC cyI mM mN mR mA mP mT mD ch le sp nw 0 9 (nw 16) (bOf (i := 16) (by decide) rfl) (bInD (by decide))) gX8_stepOf_X8_of rfl ⟨rfl, rfl⟩ hd_X8_of ⟨(Nat.le_of_ble_eq_true rfl), (Nat.le_of_ble_eq_true rfl)⟩ rfl rfl rfl [0, 1] rfl rfl rfl rfl hl.1 (Nat.le_of_ble_eq_true rfl) ⟨Nat.zero_le _, Nat.zero_le _⟩ dX8_stepOf_48 (fun H locs Y => ?_)
          refine lv_aload_n hx hb dX8_stepOf_51 rfl (lv_at hl 0 rfl) ?_
          refine bGet (v := .ref mN) (T := TX8) (N := 9) (ci := 8) X Y i_X8_stepOf_X8 0 rfl rfl 0 (Nat.le_of_ble_eq_true rfl) f_X8_stepOf_7 rfl rfl dX8_stepOf_52 ?_
          refine lv_bipush (v := 6) hx hb dX8_stepOf_55 (by decide) ?_
          refine bIald (v := nw 6) X Y 1 rfl (bInD (by decide)) dX8_stepOf_57 rfl ?_
          refine bSub (v := (nw 16) - (nw 6)) X dX8_stepOf_58 rfl ?_
          refine lv_goto (tgt := 78) hx hb dX8_stepOf_59 (by decide) ?_
          subst hu
          exact bEndI X Y hr hlk dX8_stepOf_78 rfl rfl
      · have c_3 : ¬ (0 < (nw 15)) := c_3
        rw [if_neg c_3] at hu
        refine lv_bipush (v := (-4)) hx hb dX8_stepOf_33 (by decide) ?_
        subst hu
        exact bEndI X Y hr hlk dX8_stepOf_35 rfl rfl
    · have c_2 := bB_f c_2
      rw [if_neg c_2] at hu
      refine lv_iconst (v := (-1)) hx hb dX8_stepOf_20 (by decide) ?_
      subst hu
      exact bEndI X Y hr hlk dX8_stepOf_21 rfl rfl
def s_stepOf8_01 (nw : Nat → Int32) (what : Int32) : Int32 :=
  if (s_isCrane8 0) = true then
    if (s_in8 what 0 1) = true then
      if 1 < (nw 15) then
        if what = 0 then
          (nw 18) - (nw 6)
        else
          (nw 19) + 100000
      else
        (-4)
    else
      (-1)
  else
    (-1)
set_option maxHeartbeats 4000000 in
set_option maxRecDepth 100000 in
theorem c_stepOf8_01 (l : Launch) (D : va_G) (cyC cyI : ClassId) (mM : Nat) (mN : Nat) (mR : Nat) (mA : Nat) (mP : Nat) (mT : Nat) (mD : Nat) (ch : Int32) (le : Int32) (sp : Int32) (nw : Nat → Int32) (what : Int32) (o0 : Int32) (hu : s_stepOf8_01 nw what = o0) : CI l yX8_stepOf wsX8_stepOf { frames := 1, cells := 0, slots := 0, locals := 22 } D cyC cyI [.ref mM, .int 0, .int 1, .int what] [(mM, .inr (8, [.ref mN, .ref mR, .ref mA, .ref mP, .int ch, .ref mT, .int le, .int sp, .ref mD])), (mN, .inl (cyI, 515, .inl nw))] o0 [(mM, .inr (8, [.ref mN, .ref mR, .ref mA, .ref mP, .int ch, .ref mT, .int le, .int sp, .ref mD])), (mN, .inl (cyI, 515, .inl nw))] := by
  refine CI.of (cc := cX8_stepOf) (n := 4) (ret := (some .int)) (by decide +kernel) rfl (Nat.le_of_ble_eq_true rfl) ?_
  intro p_ e_ s_ m_ bl_ me_ cd_ A_ ls X Y hr hlk hl
  have hx := X.1.1
  have hb := X.1.2.1
  have hl : lv_has ls 4 [(0, .ref mM), (1, .int 0), (2, .int 1), (3, .int what)] := hl
  unfold s_stepOf8_01 at hu
  refine lv_iload_n hx hb dX8_stepOf_0 rfl (lv_at hl 1 rfl) ?_
  refine bSI (As := [.int 0]) (rest := []) X Y (c_isCrane8 l D cyC cyI 0 (s_isCrane8 0) rfl) gX8_stepOf_X8_isCrane rfl ⟨rfl, rfl⟩ hd_X8_isCrane.2 ⟨(Nat.le_of_ble_eq_true rfl), (Nat.le_of_ble_eq_true rfl)⟩ rfl rfl hl.1 (Nat.le_of_ble_eq_true rfl) ⟨Nat.zero_le _, Nat.zero_le _⟩ dX8_stepOf_1 (fun H locs Y => ?_)
  refine lv_if_eq (tgt := 20) hx hb dX8_stepOf_4 (by decide) (fun c_1 => ?_) (fun c_1 => ?_)
  · have c_1 := bB_f c_1
    rw [if_neg c_1] at hu
    refine lv_iconst (v := (-1)) hx hb dX8_stepOf_20 (by decide) ?_
    subst hu
    exact bEndI X Y hr hlk dX8_stepOf_21 rfl rfl
  · have c_1 := bB_t c_1
    rw [if_pos c_1] at hu
    refine lv_iload_n hx hb dX8_stepOf_7 rfl (lv_at hl 2 rfl) ?_
    refine lv_if_lt (tgt := 20) hx hb dX8_stepOf_8 (by decide) (fun c_ => absurd c_ (by decide)) (fun _ => ?_)
    refine lv_iload_n hx hb dX8_stepOf_11 rfl (lv_at hl 3 rfl) ?_
    refine lv_iconst (v := 0) hx hb dX8_stepOf_12 (by decide) ?_
    refine lv_iconst (v := 1) hx hb dX8_stepOf_13 (by decide) ?_
    refine bSI (As := [.int what, .int 0, .int 1]) (rest := []) X Y (c_in8 l D cyC cyI what 0 1 (s_in8 what 0 1) rfl) gX8_stepOf_X8_in rfl ⟨rfl, rfl⟩ hd_X8_in.2 ⟨(Nat.le_of_ble_eq_true rfl), (Nat.le_of_ble_eq_true rfl)⟩ rfl rfl hl.1 (Nat.le_of_ble_eq_true rfl) ⟨Nat.zero_le _, Nat.zero_le _⟩ dX8_stepOf_14 (fun H locs Y => ?_)
    refine lv_if_ne (tgt := 22) hx hb dX8_stepOf_17 (by decide) (fun c_2 => ?_) (fun c_2 => ?_)
    · have c_2 := bB_t c_2
      rw [if_pos c_2] at hu
      refine lv_iload_n hx hb dX8_stepOf_22 rfl (lv_at hl 2 rfl) ?_
      refine lv_aload_n hx hb dX8_stepOf_23 rfl (lv_at hl 0 rfl) ?_
      refine lv_iload_n hx hb dX8_stepOf_24 rfl (lv_at hl 1 rfl) ?_
      refine lv_bipush (v := 8) hx hb dX8_stepOf_25 (by decide) ?_
      refine bVI0 (As := [.int 0, .int 8]) (rest := [.int 1]) (wc := [(mM, .inr (8, [.ref mN, .ref mR, .ref mA, .ref mP, .int ch, .ref mT, .int le, .int sp, .ref mD])), (mN, .inl (cyI, 515, .inl nw))]) (ci := 8) (q0 := 0) X Y (c_of8 l D cyC cyI mM mN mR mA mP mT mD ch le sp nw 0 8 (nw 15) (bOf (i := 15) (by decide) rfl) (bInD (by decide))) gX8_stepOf_X8_of rfl ⟨rfl, rfl⟩ hd_X8_of ⟨(Nat.le_of_ble_eq_true rfl), (Nat.le_of_ble_eq_true rfl)⟩ rfl rfl rfl [0, 1] rfl rfl rfl rfl hl.1 (Nat.le_of_ble_eq_true rfl) ⟨Nat.zero_le _, Nat.zero_le _⟩ dX8_stepOf_27 (fun H locs Y => ?_)
      refine lv_icmp_lt (tgt := 36) hx hb dX8_stepOf_30 (by decide) (fun c_3 => ?_) (fun c_3 => ?_)
      · have c_3 : 1 < (nw 15) := c_3
        rw [if_pos c_3] at hu
        refine lv_iload_n hx hb dX8_stepOf_36 rfl (lv_at hl 3 rfl) ?_
        refine lv_if_ne (tgt := 62) hx hb dX8_stepOf_37 (by decide) (fun c_4 => ?_) (fun c_4 => ?_)
        · have c_4 : ¬ (what = 0) := c_4
          rw [if_neg c_4] at hu
          refine lv_aload_n hx hb dX8_stepOf_62 rfl (lv_at hl 0 rfl) ?_
          refine lv_iload_n hx hb dX8_stepOf_63 rfl (lv_at hl 1 rfl) ?_
          refine lv_bipush (v := 9) hx hb dX8_stepOf_64 (by decide) ?_
          refine lv_iconst (v := 2) hx hb dX8_stepOf_66 (by decide) ?_
          refine lv_iload_n hx hb dX8_stepOf_67 rfl (lv_at hl 2 rfl) ?_
          refine bMul (v := 2) X dX8_stepOf_68 (by decide) ?_
          refine bAdd (v := 11) X dX8_stepOf_69 (by decide) ?_
          refine lv_iconst (v := 1) hx hb dX8_stepOf_70 (by decide) ?_
          refine bAdd (v := 12) X dX8_stepOf_71 (by decide) ?_
          refine bVI0 (As := [.int 0, .int 12]) (rest := []) (wc := [(mM, .inr (8, [.ref mN, .ref mR, .ref mA, .ref mP, .int ch, .ref mT, .int le, .int sp, .ref mD])), (mN, .inl (cyI, 515, .inl nw))]) (ci := 8) (q0 := 0) X Y (c_of8 l D cyC cyI mM mN mR mA mP mT mD ch le sp nw 0 12 (nw 19) (bOf (i := 19) (by decide) rfl) (bInD (by decide))) gX8_stepOf_X8_of rfl ⟨rfl, rfl⟩ hd_X8_of ⟨(Nat.le_of_ble_eq_true rfl), (Nat.le_of_ble_eq_true rfl)⟩ rfl rfl rfl [0, 1] rfl rfl rfl rfl hl.1 (Nat.le_of_ble_eq_true rfl) ⟨Nat.zero_le _, Nat.zero_le _⟩ dX8_stepOf_72 (fun H locs Y => ?_)
          refine lv_ldc (v := 100000) hx hb X.1.2.2.2.1 (X.1.2.2.2.2 _ k_X8_stepOf_161) dX8_stepOf_75 ?_
          refine bAdd (v := (nw 19) + 100000) X dX8_stepOf_77 rfl ?_
          subst hu
          exact bEndI X Y hr hlk dX8_stepOf_78 rfl rfl
        · have c_4 : what = 0 := c_4
          rw [if_pos c_4] at hu
          refine lv_aload_n hx hb dX8_stepOf_40 rfl (lv_at hl 0 rfl) ?_
          refine lv_iload_n hx hb dX8_stepOf_41 rfl (lv_at hl 1 rfl) ?_
          refine lv_bipush (v := 9) hx hb dX8_stepOf_42 (by decide) ?_
          refine lv_iconst (v := 2) hx hb dX8_stepOf_44 (by decide) ?_
          refine lv_iload_n hx hb dX8_stepOf_45 rfl (lv_at hl 2 rfl) ?_
          refine bMul (v := 2) X dX8_stepOf_46 (by decide) ?_
          refine bAdd (v := 11) X dX8_stepOf_47 (by decide) ?_
          refine bVI0 (As := [.int 0, .int 11]) (rest := []) (wc := [(mM, .inr (8, [.ref mN, .ref mR, .ref mA, .ref mP, .int ch, .ref mT, .int le, .int sp, .ref mD])), (mN, .inl (cyI, 515, .inl nw))]) (ci := 8) (q0 := 0) X Y (c_of8 l D cyC cyI mM mN mR mA mP mT mD ch le sp nw 0 11 (nw 18) (bOf (i := 18) (by decide) rfl) (bInD (by decide))) gX8_stepOf_X8_of rfl ⟨rfl, rfl⟩ hd_X8_of ⟨(Nat.le_of_ble_eq_true rfl), (Nat.le_of_ble_eq_true rfl)⟩ rfl rfl rfl [0, 1] rfl rfl rfl rfl hl.1 (Nat.le_of_ble_eq_true rfl) ⟨Nat.zero_le _, Nat.zero_le _⟩ dX8_stepOf_48 (fun H locs Y => ?_)
          refine lv_aload_n hx hb dX8_stepOf_51 rfl (lv_at hl 0 rfl) ?_
          refine bGet (v := .ref mN) (T := TX8) (N := 9) (ci := 8) X Y i_X8_stepOf_X8 0 rfl rfl 0 (Nat.le_of_ble_eq_true rfl) f_X8_stepOf_7 rfl rfl dX8_stepOf_52 ?_
          refine lv_bipush (v := 6) hx hb dX8_stepOf_55 (by decide) ?_
          refine bIald (v := nw 6) X Y 1 rfl (bInD (by decide)) dX8_stepOf_57 rfl ?_
          refine bSub (v := (nw 18) - (nw 6)) X dX8_stepOf_58 rfl ?_
          refine lv_goto (tgt := 78) hx hb dX8_stepOf_59 (by decide) ?_
          subst hu
          exact bEndI X Y hr hlk dX8_stepOf_78 rfl rfl
      · have c_3 : ¬ (1 < (nw 15)) := c_3
        rw [if_neg c_3] at hu
        refine lv_bipush (v := (-4)) hx hb dX8_stepOf_33 (by decide) ?_
        subst hu
        exact bEndI X Y hr hlk dX8_stepOf_35 rfl rfl
    · have c_2 := bB_f c_2
      rw [if_neg c_2] at hu
      refine lv_iconst (v := (-1)) hx hb dX8_stepOf_20 (by decide) ?_
      subst hu
      exact bEndI X Y hr hlk dX8_stepOf_21 rfl rfl
def s_stepOf8_0n (k : Int32) (what : Int32) : Int32 :=
  if (s_isCrane8 0) = true then
    if k < 0 then
      (-1)
    else
      if (s_in8 what 0 1) = true then
        (-4)
      else
        (-1)
  else
    (-1)
set_option maxHeartbeats 4000000 in
set_option maxRecDepth 100000 in
theorem c_stepOf8_0n (l : Launch) (D : va_G) (cyC cyI : ClassId) (mM : Nat) (mN : Nat) (mR : Nat) (mA : Nat) (mP : Nat) (mT : Nat) (mD : Nat) (ch : Int32) (le : Int32) (sp : Int32) (nw : Nat → Int32) (k : Int32) (what : Int32) (o0 : Int32) (hu : s_stepOf8_0n k what = o0) (hk0 : ¬ k = 0) (hk1 : ¬ k = 1) (hst : nw 15 = 0 ∨ nw 15 = 1 ∨ nw 15 = 2) : CI l yX8_stepOf wsX8_stepOf { frames := 1, cells := 0, slots := 0, locals := 22 } D cyC cyI [.ref mM, .int 0, .int k, .int what] [(mM, .inr (8, [.ref mN, .ref mR, .ref mA, .ref mP, .int ch, .ref mT, .int le, .int sp, .ref mD])), (mN, .inl (cyI, 515, .inl nw))] o0 [(mM, .inr (8, [.ref mN, .ref mR, .ref mA, .ref mP, .int ch, .ref mT, .int le, .int sp, .ref mD])), (mN, .inl (cyI, 515, .inl nw))] := by
  refine CI.of (cc := cX8_stepOf) (n := 4) (ret := (some .int)) (by decide +kernel) rfl (Nat.le_of_ble_eq_true rfl) ?_
  intro p_ e_ s_ m_ bl_ me_ cd_ A_ ls X Y hr hlk hl
  have hx := X.1.1
  have hb := X.1.2.1
  have hl : lv_has ls 4 [(0, .ref mM), (1, .int 0), (2, .int k), (3, .int what)] := hl
  unfold s_stepOf8_0n at hu
  refine lv_iload_n hx hb dX8_stepOf_0 rfl (lv_at hl 1 rfl) ?_
  refine bSI (As := [.int 0]) (rest := []) X Y (c_isCrane8 l D cyC cyI 0 (s_isCrane8 0) rfl) gX8_stepOf_X8_isCrane rfl ⟨rfl, rfl⟩ hd_X8_isCrane.2 ⟨(Nat.le_of_ble_eq_true rfl), (Nat.le_of_ble_eq_true rfl)⟩ rfl rfl hl.1 (Nat.le_of_ble_eq_true rfl) ⟨Nat.zero_le _, Nat.zero_le _⟩ dX8_stepOf_1 (fun H locs Y => ?_)
  refine lv_if_eq (tgt := 20) hx hb dX8_stepOf_4 (by decide) (fun c_1 => ?_) (fun c_1 => ?_)
  · have c_1 := bB_f c_1
    rw [if_neg c_1] at hu
    refine lv_iconst (v := (-1)) hx hb dX8_stepOf_20 (by decide) ?_
    subst hu
    exact bEndI X Y hr hlk dX8_stepOf_21 rfl rfl
  · have c_1 := bB_t c_1
    rw [if_pos c_1] at hu
    refine lv_iload_n hx hb dX8_stepOf_7 rfl (lv_at hl 2 rfl) ?_
    refine lv_if_lt (tgt := 20) hx hb dX8_stepOf_8 (by decide) (fun c_2 => ?_) (fun c_2 => ?_)
    · have c_2 : k < 0 := c_2
      rw [if_pos c_2] at hu
      refine lv_iconst (v := (-1)) hx hb dX8_stepOf_20 (by decide) ?_
      subst hu
      exact bEndI X Y hr hlk dX8_stepOf_21 rfl rfl
    · have c_2 : ¬ (k < 0) := c_2
      rw [if_neg c_2] at hu
      refine lv_iload_n hx hb dX8_stepOf_11 rfl (lv_at hl 3 rfl) ?_
      refine lv_iconst (v := 0) hx hb dX8_stepOf_12 (by decide) ?_
      refine lv_iconst (v := 1) hx hb dX8_stepOf_13 (by decide) ?_
      refine bSI (As := [.int what, .int 0, .int 1]) (rest := []) X Y (c_in8 l D cyC cyI what 0 1 (s_in8 what 0 1) rfl) gX8_stepOf_X8_in rfl ⟨rfl, rfl⟩ hd_X8_in.2 ⟨(Nat.le_of_ble_eq_true rfl), (Nat.le_of_ble_eq_true rfl)⟩ rfl rfl hl.1 (Nat.le_of_ble_eq_true rfl) ⟨Nat.zero_le _, Nat.zero_le _⟩ dX8_stepOf_14 (fun H locs Y => ?_)
      refine lv_if_ne (tgt := 22) hx hb dX8_stepOf_17 (by decide) (fun c_3 => ?_) (fun c_3 => ?_)
      · have c_3 := bB_t c_3
        rw [if_pos c_3] at hu
        refine lv_iload_n hx hb dX8_stepOf_22 rfl (lv_at hl 2 rfl) ?_
        refine lv_aload_n hx hb dX8_stepOf_23 rfl (lv_at hl 0 rfl) ?_
        refine lv_iload_n hx hb dX8_stepOf_24 rfl (lv_at hl 1 rfl) ?_
        refine lv_bipush (v := 8) hx hb dX8_stepOf_25 (by decide) ?_
        refine bVI0 (As := [.int 0, .int 8]) (rest := [.int k]) (wc := [(mM, .inr (8, [.ref mN, .ref mR, .ref mA, .ref mP, .int ch, .ref mT, .int le, .int sp, .ref mD])), (mN, .inl (cyI, 515, .inl nw))]) (ci := 8) (q0 := 0) X Y (c_of8 l D cyC cyI mM mN mR mA mP mT mD ch le sp nw 0 8 (nw 15) (bOf (i := 15) (by decide) rfl) (bInD (by decide))) gX8_stepOf_X8_of rfl ⟨rfl, rfl⟩ hd_X8_of ⟨(Nat.le_of_ble_eq_true rfl), (Nat.le_of_ble_eq_true rfl)⟩ rfl rfl rfl [0, 1] rfl rfl rfl rfl hl.1 (Nat.le_of_ble_eq_true rfl) ⟨Nat.zero_le _, Nat.zero_le _⟩ dX8_stepOf_27 (fun H locs Y => ?_)
        refine lv_icmp_lt (tgt := 36) hx hb dX8_stepOf_30 (by decide) (fun c_4 => ?_) (fun c_4 => ?_)
        · have c_4 : k < (nw 15) := c_4
          exact absurd c_4 (kNo c_2 hk0 hk1 hst)
        · have c_4 : ¬ (k < (nw 15)) := c_4
          refine lv_bipush (v := (-4)) hx hb dX8_stepOf_33 (by decide) ?_
          subst hu
          exact bEndI X Y hr hlk dX8_stepOf_35 rfl rfl
      · have c_3 := bB_f c_3
        rw [if_neg c_3] at hu
        refine lv_iconst (v := (-1)) hx hb dX8_stepOf_20 (by decide) ?_
        subst hu
        exact bEndI X Y hr hlk dX8_stepOf_21 rfl rfl
def s_stepOf8_10 (nw : Nat → Int32) (what : Int32) : Int32 :=
  if (s_isCrane8 1) = true then
    if (s_in8 what 0 1) = true then
      if 0 < (nw 28) then
        if what = 0 then
          (nw 29) - (nw 6)
        else
          (nw 30) + 100000
      else
        (-4)
    else
      (-1)
  else
    (-1)
set_option maxHeartbeats 4000000 in
set_option maxRecDepth 100000 in
theorem c_stepOf8_10 (l : Launch) (D : va_G) (cyC cyI : ClassId) (mM : Nat) (mN : Nat) (mR : Nat) (mA : Nat) (mP : Nat) (mT : Nat) (mD : Nat) (ch : Int32) (le : Int32) (sp : Int32) (nw : Nat → Int32) (what : Int32) (o0 : Int32) (hu : s_stepOf8_10 nw what = o0) : CI l yX8_stepOf wsX8_stepOf { frames := 1, cells := 0, slots := 0, locals := 22 } D cyC cyI [.ref mM, .int 1, .int 0, .int what] [(mM, .inr (8, [.ref mN, .ref mR, .ref mA, .ref mP, .int ch, .ref mT, .int le, .int sp, .ref mD])), (mN, .inl (cyI, 515, .inl nw))] o0 [(mM, .inr (8, [.ref mN, .ref mR, .ref mA, .ref mP, .int ch, .ref mT, .int le, .int sp, .ref mD])), (mN, .inl (cyI, 515, .inl nw))] := by
  refine CI.of (cc := cX8_stepOf) (n := 4) (ret := (some .int)) (by decide +kernel) rfl (Nat.le_of_ble_eq_true rfl) ?_
  intro p_ e_ s_ m_ bl_ me_ cd_ A_ ls X Y hr hlk hl
  have hx := X.1.1
  have hb := X.1.2.1
  have hl : lv_has ls 4 [(0, .ref mM), (1, .int 1), (2, .int 0), (3, .int what)] := hl
  unfold s_stepOf8_10 at hu
  refine lv_iload_n hx hb dX8_stepOf_0 rfl (lv_at hl 1 rfl) ?_
  refine bSI (As := [.int 1]) (rest := []) X Y (c_isCrane8 l D cyC cyI 1 (s_isCrane8 1) rfl) gX8_stepOf_X8_isCrane rfl ⟨rfl, rfl⟩ hd_X8_isCrane.2 ⟨(Nat.le_of_ble_eq_true rfl), (Nat.le_of_ble_eq_true rfl)⟩ rfl rfl hl.1 (Nat.le_of_ble_eq_true rfl) ⟨Nat.zero_le _, Nat.zero_le _⟩ dX8_stepOf_1 (fun H locs Y => ?_)
  refine lv_if_eq (tgt := 20) hx hb dX8_stepOf_4 (by decide) (fun c_1 => ?_) (fun c_1 => ?_)
  · have c_1 := bB_f c_1
    rw [if_neg c_1] at hu
    refine lv_iconst (v := (-1)) hx hb dX8_stepOf_20 (by decide) ?_
    subst hu
    exact bEndI X Y hr hlk dX8_stepOf_21 rfl rfl
  · have c_1 := bB_t c_1
    rw [if_pos c_1] at hu
    refine lv_iload_n hx hb dX8_stepOf_7 rfl (lv_at hl 2 rfl) ?_
    refine lv_if_lt (tgt := 20) hx hb dX8_stepOf_8 (by decide) (fun c_ => absurd c_ (by decide)) (fun _ => ?_)
    refine lv_iload_n hx hb dX8_stepOf_11 rfl (lv_at hl 3 rfl) ?_
    refine lv_iconst (v := 0) hx hb dX8_stepOf_12 (by decide) ?_
    refine lv_iconst (v := 1) hx hb dX8_stepOf_13 (by decide) ?_
    refine bSI (As := [.int what, .int 0, .int 1]) (rest := []) X Y (c_in8 l D cyC cyI what 0 1 (s_in8 what 0 1) rfl) gX8_stepOf_X8_in rfl ⟨rfl, rfl⟩ hd_X8_in.2 ⟨(Nat.le_of_ble_eq_true rfl), (Nat.le_of_ble_eq_true rfl)⟩ rfl rfl hl.1 (Nat.le_of_ble_eq_true rfl) ⟨Nat.zero_le _, Nat.zero_le _⟩ dX8_stepOf_14 (fun H locs Y => ?_)
    refine lv_if_ne (tgt := 22) hx hb dX8_stepOf_17 (by decide) (fun c_2 => ?_) (fun c_2 => ?_)
    · have c_2 := bB_t c_2
      rw [if_pos c_2] at hu
      refine lv_iload_n hx hb dX8_stepOf_22 rfl (lv_at hl 2 rfl) ?_
      refine lv_aload_n hx hb dX8_stepOf_23 rfl (lv_at hl 0 rfl) ?_
      refine lv_iload_n hx hb dX8_stepOf_24 rfl (lv_at hl 1 rfl) ?_
      refine lv_bipush (v := 8) hx hb dX8_stepOf_25 (by decide) ?_
      refine bVI0 (As := [.int 1, .int 8]) (rest := [.int 0]) (wc := [(mM, .inr (8, [.ref mN, .ref mR, .ref mA, .ref mP, .int ch, .ref mT, .int le, .int sp, .ref mD])), (mN, .inl (cyI, 515, .inl nw))]) (ci := 8) (q0 := 0) X Y (c_of8 l D cyC cyI mM mN mR mA mP mT mD ch le sp nw 1 8 (nw 28) (bOf (i := 28) (by decide) rfl) (bInD (by decide))) gX8_stepOf_X8_of rfl ⟨rfl, rfl⟩ hd_X8_of ⟨(Nat.le_of_ble_eq_true rfl), (Nat.le_of_ble_eq_true rfl)⟩ rfl rfl rfl [0, 1] rfl rfl rfl rfl hl.1 (Nat.le_of_ble_eq_true rfl) ⟨Nat.zero_le _, Nat.zero_le _⟩ dX8_stepOf_27 (fun H locs Y => ?_)
      refine lv_icmp_lt (tgt := 36) hx hb dX8_stepOf_30 (by decide) (fun c_3 => ?_) (fun c_3 => ?_)
      · have c_3 : 0 < (nw 28) := c_3
        rw [if_pos c_3] at hu
        refine lv_iload_n hx hb dX8_stepOf_36 rfl (lv_at hl 3 rfl) ?_
        refine lv_if_ne (tgt := 62) hx hb dX8_stepOf_37 (by decide) (fun c_4 => ?_) (fun c_4 => ?_)
        · have c_4 : ¬ (what = 0) := c_4
          rw [if_neg c_4] at hu
          refine lv_aload_n hx hb dX8_stepOf_62 rfl (lv_at hl 0 rfl) ?_
          refine lv_iload_n hx hb dX8_stepOf_63 rfl (lv_at hl 1 rfl) ?_
          refine lv_bipush (v := 9) hx hb dX8_stepOf_64 (by decide) ?_
          refine lv_iconst (v := 2) hx hb dX8_stepOf_66 (by decide) ?_
          refine lv_iload_n hx hb dX8_stepOf_67 rfl (lv_at hl 2 rfl) ?_
          refine bMul (v := 0) X dX8_stepOf_68 (by decide) ?_
          refine bAdd (v := 9) X dX8_stepOf_69 (by decide) ?_
          refine lv_iconst (v := 1) hx hb dX8_stepOf_70 (by decide) ?_
          refine bAdd (v := 10) X dX8_stepOf_71 (by decide) ?_
          refine bVI0 (As := [.int 1, .int 10]) (rest := []) (wc := [(mM, .inr (8, [.ref mN, .ref mR, .ref mA, .ref mP, .int ch, .ref mT, .int le, .int sp, .ref mD])), (mN, .inl (cyI, 515, .inl nw))]) (ci := 8) (q0 := 0) X Y (c_of8 l D cyC cyI mM mN mR mA mP mT mD ch le sp nw 1 10 (nw 30) (bOf (i := 30) (by decide) rfl) (bInD (by decide))) gX8_stepOf_X8_of rfl ⟨rfl, rfl⟩ hd_X8_of ⟨(Nat.le_of_ble_eq_true rfl), (Nat.le_of_ble_eq_true rfl)⟩ rfl rfl rfl [0, 1] rfl rfl rfl rfl hl.1 (Nat.le_of_ble_eq_true rfl) ⟨Nat.zero_le _, Nat.zero_le _⟩ dX8_stepOf_72 (fun H locs Y => ?_)
          refine lv_ldc (v := 100000) hx hb X.1.2.2.2.1 (X.1.2.2.2.2 _ k_X8_stepOf_161) dX8_stepOf_75 ?_
          refine bAdd (v := (nw 30) + 100000) X dX8_stepOf_77 rfl ?_
          subst hu
          exact bEndI X Y hr hlk dX8_stepOf_78 rfl rfl
        · have c_4 : what = 0 := c_4
          rw [if_pos c_4] at hu
          refine lv_aload_n hx hb dX8_stepOf_40 rfl (lv_at hl 0 rfl) ?_
          refine lv_iload_n hx hb dX8_stepOf_41 rfl (lv_at hl 1 rfl) ?_
          refine lv_bipush (v := 9) hx hb dX8_stepOf_42 (by decide) ?_
          refine lv_iconst (v := 2) hx hb dX8_stepOf_44 (by decide) ?_
          refine lv_iload_n hx hb dX8_stepOf_45 rfl (lv_at hl 2 rfl) ?_
          refine bMul (v := 0) X dX8_stepOf_46 (by decide) ?_
          refine bAdd (v := 9) X dX8_stepOf_47 (by decide) ?_
          refine bVI0 (As := [.int 1, .int 9]) (rest := []) (wc := [(mM, .inr (8, [.ref mN, .ref mR, .ref mA, .ref mP, .int ch, .ref mT, .int le, .int sp, .ref mD])), (mN, .inl (cyI, 515, .inl nw))]) (ci := 8) (q0 := 0) X Y (c_of8 l D cyC cyI mM mN mR mA mP mT mD ch le sp nw 1 9 (nw 29) (bOf (i := 29) (by decide) rfl) (bInD (by decide))) gX8_stepOf_X8_of rfl ⟨rfl, rfl⟩ hd_X8_of ⟨(Nat.le_of_ble_eq_true rfl), (Nat.le_of_ble_eq_true rfl)⟩ rfl rfl rfl [0, 1] rfl rfl rfl rfl hl.1 (Nat.le_of_ble_eq_true rfl) ⟨Nat.zero_le _, Nat.zero_le _⟩ dX8_stepOf_48 (fun H locs Y => ?_)
          refine lv_aload_n hx hb dX8_stepOf_51 rfl (lv_at hl 0 rfl) ?_
          refine bGet (v := .ref mN) (T := TX8) (N := 9) (ci := 8) X Y i_X8_stepOf_X8 0 rfl rfl 0 (Nat.le_of_ble_eq_true rfl) f_X8_stepOf_7 rfl rfl dX8_stepOf_52 ?_
          refine lv_bipush (v := 6) hx hb dX8_stepOf_55 (by decide) ?_
          refine bIald (v := nw 6) X Y 1 rfl (bInD (by decide)) dX8_stepOf_57 rfl ?_
          refine bSub (v := (nw 29) - (nw 6)) X dX8_stepOf_58 rfl ?_
          refine lv_goto (tgt := 78) hx hb dX8_stepOf_59 (by decide) ?_
          subst hu
          exact bEndI X Y hr hlk dX8_stepOf_78 rfl rfl
      · have c_3 : ¬ (0 < (nw 28)) := c_3
        rw [if_neg c_3] at hu
        refine lv_bipush (v := (-4)) hx hb dX8_stepOf_33 (by decide) ?_
        subst hu
        exact bEndI X Y hr hlk dX8_stepOf_35 rfl rfl
    · have c_2 := bB_f c_2
      rw [if_neg c_2] at hu
      refine lv_iconst (v := (-1)) hx hb dX8_stepOf_20 (by decide) ?_
      subst hu
      exact bEndI X Y hr hlk dX8_stepOf_21 rfl rfl
def s_stepOf8_11 (nw : Nat → Int32) (what : Int32) : Int32 :=
  if (s_isCrane8 1) = true then
    if (s_in8 what 0 1) = true then
      if 1 < (nw 28) then
        if what = 0 then
          (nw 31) - (nw 6)
        else
          (nw 32) + 100000
      else
        (-4)
    else
      (-1)
  else
    (-1)
set_option maxHeartbeats 4000000 in
set_option maxRecDepth 100000 in
theorem c_stepOf8_11 (l : Launch) (D : va_G) (cyC cyI : ClassId) (mM : Nat) (mN : Nat) (mR : Nat) (mA : Nat) (mP : Nat) (mT : Nat) (mD : Nat) (ch : Int32) (le : Int32) (sp : Int32) (nw : Nat → Int32) (what : Int32) (o0 : Int32) (hu : s_stepOf8_11 nw what = o0) : CI l yX8_stepOf wsX8_stepOf { frames := 1, cells := 0, slots := 0, locals := 22 } D cyC cyI [.ref mM, .int 1, .int 1, .int what] [(mM, .inr (8, [.ref mN, .ref mR, .ref mA, .ref mP, .int ch, .ref mT, .int le, .int sp, .ref mD])), (mN, .inl (cyI, 515, .inl nw))] o0 [(mM, .inr (8, [.ref mN, .ref mR, .ref mA, .ref mP, .int ch, .ref mT, .int le, .int sp, .ref mD])), (mN, .inl (cyI, 515, .inl nw))] := by
  refine CI.of (cc := cX8_stepOf) (n := 4) (ret := (some .int)) (by decide +kernel) rfl (Nat.le_of_ble_eq_true rfl) ?_
  intro p_ e_ s_ m_ bl_ me_ cd_ A_ ls X Y hr hlk hl
  have hx := X.1.1
  have hb := X.1.2.1
  have hl : lv_has ls 4 [(0, .ref mM), (1, .int 1), (2, .int 1), (3, .int what)] := hl
  unfold s_stepOf8_11 at hu
  refine lv_iload_n hx hb dX8_stepOf_0 rfl (lv_at hl 1 rfl) ?_
  refine bSI (As := [.int 1]) (rest := []) X Y (c_isCrane8 l D cyC cyI 1 (s_isCrane8 1) rfl) gX8_stepOf_X8_isCrane rfl ⟨rfl, rfl⟩ hd_X8_isCrane.2 ⟨(Nat.le_of_ble_eq_true rfl), (Nat.le_of_ble_eq_true rfl)⟩ rfl rfl hl.1 (Nat.le_of_ble_eq_true rfl) ⟨Nat.zero_le _, Nat.zero_le _⟩ dX8_stepOf_1 (fun H locs Y => ?_)
  refine lv_if_eq (tgt := 20) hx hb dX8_stepOf_4 (by decide) (fun c_1 => ?_) (fun c_1 => ?_)
  · have c_1 := bB_f c_1
    rw [if_neg c_1] at hu
    refine lv_iconst (v := (-1)) hx hb dX8_stepOf_20 (by decide) ?_
    subst hu
    exact bEndI X Y hr hlk dX8_stepOf_21 rfl rfl
  · have c_1 := bB_t c_1
    rw [if_pos c_1] at hu
    refine lv_iload_n hx hb dX8_stepOf_7 rfl (lv_at hl 2 rfl) ?_
    refine lv_if_lt (tgt := 20) hx hb dX8_stepOf_8 (by decide) (fun c_ => absurd c_ (by decide)) (fun _ => ?_)
    refine lv_iload_n hx hb dX8_stepOf_11 rfl (lv_at hl 3 rfl) ?_
    refine lv_iconst (v := 0) hx hb dX8_stepOf_12 (by decide) ?_
    refine lv_iconst (v := 1) hx hb dX8_stepOf_13 (by decide) ?_
    refine bSI (As := [.int what, .int 0, .int 1]) (rest := []) X Y (c_in8 l D cyC cyI what 0 1 (s_in8 what 0 1) rfl) gX8_stepOf_X8_in rfl ⟨rfl, rfl⟩ hd_X8_in.2 ⟨(Nat.le_of_ble_eq_true rfl), (Nat.le_of_ble_eq_true rfl)⟩ rfl rfl hl.1 (Nat.le_of_ble_eq_true rfl) ⟨Nat.zero_le _, Nat.zero_le _⟩ dX8_stepOf_14 (fun H locs Y => ?_)
    refine lv_if_ne (tgt := 22) hx hb dX8_stepOf_17 (by decide) (fun c_2 => ?_) (fun c_2 => ?_)
    · have c_2 := bB_t c_2
      rw [if_pos c_2] at hu
      refine lv_iload_n hx hb dX8_stepOf_22 rfl (lv_at hl 2 rfl) ?_
      refine lv_aload_n hx hb dX8_stepOf_23 rfl (lv_at hl 0 rfl) ?_
      refine lv_iload_n hx hb dX8_stepOf_24 rfl (lv_at hl 1 rfl) ?_
      refine lv_bipush (v := 8) hx hb dX8_stepOf_25 (by decide) ?_
      refine bVI0 (As := [.int 1, .int 8]) (rest := [.int 1]) (wc := [(mM, .inr (8, [.ref mN, .ref mR, .ref mA, .ref mP, .int ch, .ref mT, .int le, .int sp, .ref mD])), (mN, .inl (cyI, 515, .inl nw))]) (ci := 8) (q0 := 0) X Y (c_of8 l D cyC cyI mM mN mR mA mP mT mD ch le sp nw 1 8 (nw 28) (bOf (i := 28) (by decide) rfl) (bInD (by decide))) gX8_stepOf_X8_of rfl ⟨rfl, rfl⟩ hd_X8_of ⟨(Nat.le_of_ble_eq_true rfl), (Nat.le_of_ble_eq_true rfl)⟩ rfl rfl rfl [0, 1] rfl rfl rfl rfl hl.1 (Nat.le_of_ble_eq_true rfl) ⟨Nat.zero_le _, Nat.zero_le _⟩ dX8_stepOf_27 (fun H locs Y => ?_)
      refine lv_icmp_lt (tgt := 36) hx hb dX8_stepOf_30 (by decide) (fun c_3 => ?_) (fun c_3 => ?_)
      · have c_3 : 1 < (nw 28) := c_3
        rw [if_pos c_3] at hu
        refine lv_iload_n hx hb dX8_stepOf_36 rfl (lv_at hl 3 rfl) ?_
        refine lv_if_ne (tgt := 62) hx hb dX8_stepOf_37 (by decide) (fun c_4 => ?_) (fun c_4 => ?_)
        · have c_4 : ¬ (what = 0) := c_4
          rw [if_neg c_4] at hu
          refine lv_aload_n hx hb dX8_stepOf_62 rfl (lv_at hl 0 rfl) ?_
          refine lv_iload_n hx hb dX8_stepOf_63 rfl (lv_at hl 1 rfl) ?_
          refine lv_bipush (v := 9) hx hb dX8_stepOf_64 (by decide) ?_
          refine lv_iconst (v := 2) hx hb dX8_stepOf_66 (by decide) ?_
          refine lv_iload_n hx hb dX8_stepOf_67 rfl (lv_at hl 2 rfl) ?_
          refine bMul (v := 2) X dX8_stepOf_68 (by decide) ?_
          refine bAdd (v := 11) X dX8_stepOf_69 (by decide) ?_
          refine lv_iconst (v := 1) hx hb dX8_stepOf_70 (by decide) ?_
          refine bAdd (v := 12) X dX8_stepOf_71 (by decide) ?_
          refine bVI0 (As := [.int 1, .int 12]) (rest := []) (wc := [(mM, .inr (8, [.ref mN, .ref mR, .ref mA, .ref mP, .int ch, .ref mT, .int le, .int sp, .ref mD])), (mN, .inl (cyI, 515, .inl nw))]) (ci := 8) (q0 := 0) X Y (c_of8 l D cyC cyI mM mN mR mA mP mT mD ch le sp nw 1 12 (nw 32) (bOf (i := 32) (by decide) rfl) (bInD (by decide))) gX8_stepOf_X8_of rfl ⟨rfl, rfl⟩ hd_X8_of ⟨(Nat.le_of_ble_eq_true rfl), (Nat.le_of_ble_eq_true rfl)⟩ rfl rfl rfl [0, 1] rfl rfl rfl rfl hl.1 (Nat.le_of_ble_eq_true rfl) ⟨Nat.zero_le _, Nat.zero_le _⟩ dX8_stepOf_72 (fun H locs Y => ?_)
          refine lv_ldc (v := 100000) hx hb X.1.2.2.2.1 (X.1.2.2.2.2 _ k_X8_stepOf_161) dX8_stepOf_75 ?_
          refine bAdd (v := (nw 32) + 100000) X dX8_stepOf_77 rfl ?_
          subst hu
          exact bEndI X Y hr hlk dX8_stepOf_78 rfl rfl
        · have c_4 : what = 0 := c_4
          rw [if_pos c_4] at hu
          refine lv_aload_n hx hb dX8_stepOf_40 rfl (lv_at hl 0 rfl) ?_
          refine lv_iload_n hx hb dX8_stepOf_41 rfl (lv_at hl 1 rfl) ?_
          refine lv_bipush (v := 9) hx hb dX8_stepOf_42 (by decide) ?_
          refine lv_iconst (v := 2) hx hb dX8_stepOf_44 (by decide) ?_
          refine lv_iload_n hx hb dX8_stepOf_45 rfl (lv_at hl 2 rfl) ?_
          refine bMul (v := 2) X dX8_stepOf_46 (by decide) ?_
          refine bAdd (v := 11) X dX8_stepOf_47 (by decide) ?_
          refine bVI0 (As := [.int 1, .int 11]) (rest := []) (wc := [(mM, .inr (8, [.ref mN, .ref mR, .ref mA, .ref mP, .int ch, .ref mT, .int le, .int sp, .ref mD])), (mN, .inl (cyI, 515, .inl nw))]) (ci := 8) (q0 := 0) X Y (c_of8 l D cyC cyI mM mN mR mA mP mT mD ch le sp nw 1 11 (nw 31) (bOf (i := 31) (by decide) rfl) (bInD (by decide))) gX8_stepOf_X8_of rfl ⟨rfl, rfl⟩ hd_X8_of ⟨(Nat.le_of_ble_eq_true rfl), (Nat.le_of_ble_eq_true rfl)⟩ rfl rfl rfl [0, 1] rfl rfl rfl rfl hl.1 (Nat.le_of_ble_eq_true rfl) ⟨Nat.zero_le _, Nat.zero_le _⟩ dX8_stepOf_48 (fun H locs Y => ?_)
          refine lv_aload_n hx hb dX8_stepOf_51 rfl (lv_at hl 0 rfl) ?_
          refine bGet (v := .ref mN) (T := TX8) (N := 9) (ci := 8) X Y i_X8_stepOf_X8 0 rfl rfl 0 (Nat.le_of_ble_eq_true rfl) f_X8_stepOf_7 rfl rfl dX8_stepOf_52 ?_
          refine lv_bipush (v := 6) hx hb dX8_stepOf_55 (by decide) ?_
          refine bIald (v := nw 6) X Y 1 rfl (bInD (by decide)) dX8_stepOf_57 rfl ?_
          refine bSub (v := (nw 31) - (nw 6)) X dX8_stepOf_58 rfl ?_
          refine lv_goto (tgt := 78) hx hb dX8_stepOf_59 (by decide) ?_
          subst hu
          exact bEndI X Y hr hlk dX8_stepOf_78 rfl rfl
      · have c_3 : ¬ (1 < (nw 28)) := c_3
        rw [if_neg c_3] at hu
        refine lv_bipush (v := (-4)) hx hb dX8_stepOf_33 (by decide) ?_
        subst hu
        exact bEndI X Y hr hlk dX8_stepOf_35 rfl rfl
    · have c_2 := bB_f c_2
      rw [if_neg c_2] at hu
      refine lv_iconst (v := (-1)) hx hb dX8_stepOf_20 (by decide) ?_
      subst hu
      exact bEndI X Y hr hlk dX8_stepOf_21 rfl rfl
def s_stepOf8_1n (k : Int32) (what : Int32) : Int32 :=
  if (s_isCrane8 1) = true then
    if k < 0 then
      (-1)
    else
      if (s_in8 what 0 1) = true then
        (-4)
      else
        (-1)
  else
    (-1)
set_option maxHeartbeats 4000000 in
set_option maxRecDepth 100000 in
theorem c_stepOf8_1n (l : Launch) (D : va_G) (cyC cyI : ClassId) (mM : Nat) (mN : Nat) (mR : Nat) (mA : Nat) (mP : Nat) (mT : Nat) (mD : Nat) (ch : Int32) (le : Int32) (sp : Int32) (nw : Nat → Int32) (k : Int32) (what : Int32) (o0 : Int32) (hu : s_stepOf8_1n k what = o0) (hk0 : ¬ k = 0) (hk1 : ¬ k = 1) (hst : nw 28 = 0 ∨ nw 28 = 1 ∨ nw 28 = 2) : CI l yX8_stepOf wsX8_stepOf { frames := 1, cells := 0, slots := 0, locals := 22 } D cyC cyI [.ref mM, .int 1, .int k, .int what] [(mM, .inr (8, [.ref mN, .ref mR, .ref mA, .ref mP, .int ch, .ref mT, .int le, .int sp, .ref mD])), (mN, .inl (cyI, 515, .inl nw))] o0 [(mM, .inr (8, [.ref mN, .ref mR, .ref mA, .ref mP, .int ch, .ref mT, .int le, .int sp, .ref mD])), (mN, .inl (cyI, 515, .inl nw))] := by
  refine CI.of (cc := cX8_stepOf) (n := 4) (ret := (some .int)) (by decide +kernel) rfl (Nat.le_of_ble_eq_true rfl) ?_
  intro p_ e_ s_ m_ bl_ me_ cd_ A_ ls X Y hr hlk hl
  have hx := X.1.1
  have hb := X.1.2.1
  have hl : lv_has ls 4 [(0, .ref mM), (1, .int 1), (2, .int k), (3, .int what)] := hl
  unfold s_stepOf8_1n at hu
  refine lv_iload_n hx hb dX8_stepOf_0 rfl (lv_at hl 1 rfl) ?_
  refine bSI (As := [.int 1]) (rest := []) X Y (c_isCrane8 l D cyC cyI 1 (s_isCrane8 1) rfl) gX8_stepOf_X8_isCrane rfl ⟨rfl, rfl⟩ hd_X8_isCrane.2 ⟨(Nat.le_of_ble_eq_true rfl), (Nat.le_of_ble_eq_true rfl)⟩ rfl rfl hl.1 (Nat.le_of_ble_eq_true rfl) ⟨Nat.zero_le _, Nat.zero_le _⟩ dX8_stepOf_1 (fun H locs Y => ?_)
  refine lv_if_eq (tgt := 20) hx hb dX8_stepOf_4 (by decide) (fun c_1 => ?_) (fun c_1 => ?_)
  · have c_1 := bB_f c_1
    rw [if_neg c_1] at hu
    refine lv_iconst (v := (-1)) hx hb dX8_stepOf_20 (by decide) ?_
    subst hu
    exact bEndI X Y hr hlk dX8_stepOf_21 rfl rfl
  · have c_1 := bB_t c_1
    rw [if_pos c_1] at hu
    refine lv_iload_n hx hb dX8_stepOf_7 rfl (lv_at hl 2 rfl) ?_
    refine lv_if_lt (tgt := 20) hx hb dX8_stepOf_8 (by decide) (fun c_2 => ?_) (fun c_2 => ?_)
    · have c_2 : k < 0 := c_2
      rw [if_pos c_2] at hu
      refine lv_iconst (v := (-1)) hx hb dX8_stepOf_20 (by decide) ?_
      subst hu
      exact bEndI X Y hr hlk dX8_stepOf_21 rfl rfl
    · have c_2 : ¬ (k < 0) := c_2
      rw [if_neg c_2] at hu
      refine lv_iload_n hx hb dX8_stepOf_11 rfl (lv_at hl 3 rfl) ?_
      refine lv_iconst (v := 0) hx hb dX8_stepOf_12 (by decide) ?_
      refine lv_iconst (v := 1) hx hb dX8_stepOf_13 (by decide) ?_
      refine bSI (As := [.int what, .int 0, .int 1]) (rest := []) X Y (c_in8 l D cyC cyI what 0 1 (s_in8 what 0 1) rfl) gX8_stepOf_X8_in rfl ⟨rfl, rfl⟩ hd_X8_in.2 ⟨(Nat.le_of_ble_eq_true rfl), (Nat.le_of_ble_eq_true rfl)⟩ rfl rfl hl.1 (Nat.le_of_ble_eq_true rfl) ⟨Nat.zero_le _, Nat.zero_le _⟩ dX8_stepOf_14 (fun H locs Y => ?_)
      refine lv_if_ne (tgt := 22) hx hb dX8_stepOf_17 (by decide) (fun c_3 => ?_) (fun c_3 => ?_)
      · have c_3 := bB_t c_3
        rw [if_pos c_3] at hu
        refine lv_iload_n hx hb dX8_stepOf_22 rfl (lv_at hl 2 rfl) ?_
        refine lv_aload_n hx hb dX8_stepOf_23 rfl (lv_at hl 0 rfl) ?_
        refine lv_iload_n hx hb dX8_stepOf_24 rfl (lv_at hl 1 rfl) ?_
        refine lv_bipush (v := 8) hx hb dX8_stepOf_25 (by decide) ?_
        refine bVI0 (As := [.int 1, .int 8]) (rest := [.int k]) (wc := [(mM, .inr (8, [.ref mN, .ref mR, .ref mA, .ref mP, .int ch, .ref mT, .int le, .int sp, .ref mD])), (mN, .inl (cyI, 515, .inl nw))]) (ci := 8) (q0 := 0) X Y (c_of8 l D cyC cyI mM mN mR mA mP mT mD ch le sp nw 1 8 (nw 28) (bOf (i := 28) (by decide) rfl) (bInD (by decide))) gX8_stepOf_X8_of rfl ⟨rfl, rfl⟩ hd_X8_of ⟨(Nat.le_of_ble_eq_true rfl), (Nat.le_of_ble_eq_true rfl)⟩ rfl rfl rfl [0, 1] rfl rfl rfl rfl hl.1 (Nat.le_of_ble_eq_true rfl) ⟨Nat.zero_le _, Nat.zero_le _⟩ dX8_stepOf_27 (fun H locs Y => ?_)
        refine lv_icmp_lt (tgt := 36) hx hb dX8_stepOf_30 (by decide) (fun c_4 => ?_) (fun c_4 => ?_)
        · have c_4 : k < (nw 28) := c_4
          exact absurd c_4 (kNo c_2 hk0 hk1 hst)
        · have c_4 : ¬ (k < (nw 28)) := c_4
          refine lv_bipush (v := (-4)) hx hb dX8_stepOf_33 (by decide) ?_
          subst hu
          exact bEndI X Y hr hlk dX8_stepOf_35 rfl rfl
      · have c_3 := bB_f c_3
        rw [if_neg c_3] at hu
        refine lv_iconst (v := (-1)) hx hb dX8_stepOf_20 (by decide) ?_
        subst hu
        exact bEndI X Y hr hlk dX8_stepOf_21 rfl rfl
def s_stepOf8_b : Int32 :=
  (-1)
set_option maxHeartbeats 4000000 in
set_option maxRecDepth 100000 in
theorem c_stepOf8_b (l : Launch) (D : va_G) (cyC cyI : ClassId) (mM : Nat) (mN : Nat) (mR : Nat) (mA : Nat) (mP : Nat) (mT : Nat) (mD : Nat) (ch : Int32) (le : Int32) (sp : Int32) (c : Int32) (k : Int32) (what : Int32) (o0 : Int32) (hu : s_stepOf8_b = o0) (hc0 : ¬ c = 0) (hc1 : ¬ c = 1) : CI l yX8_stepOf wsX8_stepOf { frames := 1, cells := 0, slots := 0, locals := 20 } D cyC cyI [.ref mM, .int c, .int k, .int what] [(mM, .inr (8, [.ref mN, .ref mR, .ref mA, .ref mP, .int ch, .ref mT, .int le, .int sp, .ref mD]))] o0 [(mM, .inr (8, [.ref mN, .ref mR, .ref mA, .ref mP, .int ch, .ref mT, .int le, .int sp, .ref mD]))] := by
  refine CI.of (cc := cX8_stepOf) (n := 4) (ret := (some .int)) (by decide +kernel) rfl (Nat.le_of_ble_eq_true rfl) ?_
  intro p_ e_ s_ m_ bl_ me_ cd_ A_ ls X Y hr hlk hl
  have hx := X.1.1
  have hb := X.1.2.1
  have hl : lv_has ls 4 [(0, .ref mM), (1, .int c), (2, .int k), (3, .int what)] := hl
  unfold s_stepOf8_b at hu
  refine lv_iload_n hx hb dX8_stepOf_0 rfl (lv_at hl 1 rfl) ?_
  refine bSI (As := [.int c]) (rest := []) X Y (c_isCrane8 l D cyC cyI c (s_isCrane8 c) rfl) gX8_stepOf_X8_isCrane rfl ⟨rfl, rfl⟩ hd_X8_isCrane.2 ⟨(Nat.le_of_ble_eq_true rfl), (Nat.le_of_ble_eq_true rfl)⟩ rfl rfl hl.1 (Nat.le_of_ble_eq_true rfl) ⟨Nat.zero_le _, Nat.zero_le _⟩ dX8_stepOf_1 (fun H locs Y => ?_)
  refine lv_if_eq (tgt := 20) hx hb dX8_stepOf_4 (by decide) (fun c_1 => ?_) (fun c_1 => ?_)
  · have c_1 := bB_f c_1
    refine lv_iconst (v := (-1)) hx hb dX8_stepOf_20 (by decide) ?_
    subst hu
    exact bEndI X Y hr hlk dX8_stepOf_21 rfl rfl
  · have c_1 := bB_t c_1
    exact absurd c_1 (isCrane8_no hc0 hc1)
theorem bInSp {k x : Int32} {mm a : Nat} (h0 : 0 ≤ k) (h1 : k < nI mm) (hm : mm ≤ 120) (hx : x = nI a) (ha : a + 120 ≤ 515) : vp_in (x + k) 515 := by
  subst hx
  rw [Int32.le_iff_toInt_le, Int32.toInt_zero] at h0
  rw [Int32.lt_iff_toInt_lt, nI_toInt (by omega)] at h1
  have e : (nI a + k).toInt = a + k.toInt := by
    rw [Int32.toInt_add, nI_toInt (by omega)]
    have hy : 0 ≤ (a : Int) + k.toInt ∧ (a : Int) + k.toInt ≤ 1000 := by omega
    generalize (a : Int) + k.toInt = y at *
    rw [Int.bmod_def]; omega
  intro q
  rcases q with q | q
  · rw [Int32.lt_iff_toInt_lt, Int32.toInt_zero] at q; omega
  · have e2 : (nI a + k).toNatClampNeg = (nI a + k).toInt.toNat := rfl
    omega
theorem i_X8_spot_X8 : ∀ w ∈ wsX80, w ∈ wsX8_spot := by decide +kernel
theorem f_X8_spot_7 : Cond.fieldLink RX8 7 "SwingCranesModel" "now" "[I" ∈ wsX8_spot := by decide +kernel
def s_spot8_0 (nw : Nat → Int32) (mm : Nat ) (k : Int32) (what : Int32) : Int32 :=
  if (s_isCrane8 0) = true then
    if k < (-1) then
      (-1)
    else
      if (s_in8 what 0 2) = true then
        if 0 ≤ k then
          if k < (nI mm) then
            if what = 0 then
              (nw (34 + k).toNatClampNeg) / 100
            else
              if what = 1 then
                (nw (34 + k).toNatClampNeg) - (nw (34 + k).toNatClampNeg) / 100 * 100
              else
                nw (154 + k).toNatClampNeg
          else
            (-4)
        else
          nI mm
      else
        (-1)
  else
    (-1)
set_option maxHeartbeats 4000000 in
set_option maxRecDepth 100000 in
theorem c_spot8_0 (l : Launch) (D : va_G) (cyC cyI : ClassId) (mM : Nat) (mN : Nat) (mR : Nat) (mA : Nat) (mP : Nat) (mT : Nat) (mD : Nat) (ch : Int32) (le : Int32) (sp : Int32) (nw : Nat → Int32) (mm : Nat ) (k : Int32) (what : Int32) (o0 : Int32) (hu : s_spot8_0 nw mm k what = o0) (hk : nw 33 = nI mm) (hm : mm ≤ 120) : CI l yX8_spot wsX8_spot { frames := 1, cells := 0, slots := 0, locals := 22 } D cyC cyI [.ref mM, .int 0, .int k, .int what] [(mM, .inr (8, [.ref mN, .ref mR, .ref mA, .ref mP, .int ch, .ref mT, .int le, .int sp, .ref mD])), (mN, .inl (cyI, 515, .inl nw))] o0 [(mM, .inr (8, [.ref mN, .ref mR, .ref mA, .ref mP, .int ch, .ref mT, .int le, .int sp, .ref mD])), (mN, .inl (cyI, 515, .inl nw))] := by
  refine CI.of (cc := cX8_spot) (n := 6) (ret := (some .int)) (by decide +kernel) rfl (Nat.le_of_ble_eq_true rfl) ?_
  intro p_ e_ s_ m_ bl_ me_ cd_ A_ ls X Y hr hlk hl
  have hx := X.1.1
  have hb := X.1.2.1
  have hl : lv_has ls 6 [(0, .ref mM), (1, .int 0), (2, .int k), (3, .int what)] := hl
  unfold s_spot8_0 at hu
  refine lv_iload_n hx hb dX8_spot_0 rfl (lv_at hl 1 rfl) ?_
  refine bSI (As := [.int 0]) (rest := []) X Y (c_isCrane8 l D cyC cyI 0 (s_isCrane8 0) rfl) gX8_spot_X8_isCrane rfl ⟨rfl, rfl⟩ hd_X8_isCrane.2 ⟨(Nat.le_of_ble_eq_true rfl), (Nat.le_of_ble_eq_true rfl)⟩ rfl rfl hl.1 (Nat.le_of_ble_eq_true rfl) ⟨Nat.zero_le _, Nat.zero_le _⟩ dX8_spot_1 (fun H locs Y => ?_)
  refine lv_if_eq (tgt := 21) hx hb dX8_spot_4 (by decide) (fun c_1 => ?_) (fun c_1 => ?_)
  · have c_1 := bB_f c_1
    rw [if_neg c_1] at hu
    refine lv_iconst (v := (-1)) hx hb dX8_spot_21 (by decide) ?_
    subst hu
    exact bEndI X Y hr hlk dX8_spot_22 rfl rfl
  · have c_1 := bB_t c_1
    rw [if_pos c_1] at hu
    refine lv_iload_n hx hb dX8_spot_7 rfl (lv_at hl 2 rfl) ?_
    refine lv_iconst (v := (-1)) hx hb dX8_spot_8 (by decide) ?_
    refine lv_icmp_lt (tgt := 21) hx hb dX8_spot_9 (by decide) (fun c_2 => ?_) (fun c_2 => ?_)
    · have c_2 : k < (-1) := c_2
      rw [if_pos c_2] at hu
      refine lv_iconst (v := (-1)) hx hb dX8_spot_21 (by decide) ?_
      subst hu
      exact bEndI X Y hr hlk dX8_spot_22 rfl rfl
    · have c_2 : ¬ (k < (-1)) := c_2
      rw [if_neg c_2] at hu
      refine lv_iload_n hx hb dX8_spot_12 rfl (lv_at hl 3 rfl) ?_
      refine lv_iconst (v := 0) hx hb dX8_spot_13 (by decide) ?_
      refine lv_iconst (v := 2) hx hb dX8_spot_14 (by decide) ?_
      refine bSI (As := [.int what, .int 0, .int 2]) (rest := []) X Y (c_in8 l D cyC cyI what 0 2 (s_in8 what 0 2) rfl) gX8_spot_X8_in rfl ⟨rfl, rfl⟩ hd_X8_in.2 ⟨(Nat.le_of_ble_eq_true rfl), (Nat.le_of_ble_eq_true rfl)⟩ rfl rfl hl.1 (Nat.le_of_ble_eq_true rfl) ⟨Nat.zero_le _, Nat.zero_le _⟩ dX8_spot_15 (fun H locs Y => ?_)
      refine lv_if_ne (tgt := 23) hx hb dX8_spot_18 (by decide) (fun c_3 => ?_) (fun c_3 => ?_)
      · have c_3 := bB_t c_3
        rw [if_pos c_3] at hu
        refine lv_iload_n hx hb dX8_spot_23 rfl (lv_at hl 1 rfl) ?_
        refine bSI (As := [.int 0]) (rest := []) X Y (c_spotPlace8 l D cyC cyI 0 33 (by decide +kernel)) gX8_spot_X8_spotPlace rfl ⟨rfl, rfl⟩ hd_X8_spotPlace.2 ⟨(Nat.le_of_ble_eq_true rfl), (Nat.le_of_ble_eq_true rfl)⟩ rfl rfl hl.1 (Nat.le_of_ble_eq_true rfl) ⟨Nat.zero_le _, Nat.zero_le _⟩ dX8_spot_24 (fun H locs Y => ?_)
        refine lv_istore (lv' := [(4, .int 33), (0, .ref mM), (1, .int 0), (2, .int k), (3, .int what)]) hx hb dX8_spot_27 hl (by decide) rfl (fun ls hl => ?_)
        refine lv_iload_n hx hb dX8_spot_29 rfl (lv_at hl 3 rfl) ?_
        refine lv_if_ge (tgt := 41) hx hb dX8_spot_30 (by decide) (fun c_4 => ?_) (fun c_4 => ?_)
        · have c_4 : 0 ≤ k := c_4
          rw [if_pos c_4] at hu
          refine lv_iload_n hx hb dX8_spot_41 rfl (lv_at hl 3 rfl) ?_
          refine lv_aload_n hx hb dX8_spot_42 rfl (lv_at hl 1 rfl) ?_
          refine bGet (v := .ref mN) (T := TX8) (N := 9) (ci := 8) X Y i_X8_spot_X8 0 rfl rfl 0 (Nat.le_of_ble_eq_true rfl) f_X8_spot_7 rfl rfl dX8_spot_43 ?_
          refine lv_iload hx hb dX8_spot_46 (lv_at hl 0 rfl) ?_
          refine bIald (v := nI mm) X Y 1 rfl (bInD (by decide)) dX8_spot_48 hk ?_
          refine lv_icmp_lt (tgt := 55) hx hb dX8_spot_49 (by decide) (fun c_5 => ?_) (fun c_5 => ?_)
          · have c_5 : k < (nI mm) := c_5
            rw [if_pos c_5] at hu
            refine lv_aload_n hx hb dX8_spot_55 rfl (lv_at hl 1 rfl) ?_
            refine bGet (v := .ref mN) (T := TX8) (N := 9) (ci := 8) X Y i_X8_spot_X8 0 rfl rfl 0 (Nat.le_of_ble_eq_true rfl) f_X8_spot_7 rfl rfl dX8_spot_56 ?_
            refine lv_iload hx hb dX8_spot_59 (lv_at hl 0 rfl) ?_
            refine lv_iconst (v := 1) hx hb dX8_spot_61 (by decide) ?_
            refine bAdd (v := 34) X dX8_spot_62 (by decide) ?_
            refine lv_iload_n hx hb dX8_spot_63 rfl (lv_at hl 3 rfl) ?_
            refine bAdd (v := 34 + k) X dX8_spot_64 rfl ?_
            refine bIald (v := nw (34 + k).toNatClampNeg) X Y 1 rfl (bInSp (a := 34) (by assumption) (by assumption) hm rfl (by decide)) dX8_spot_65 rfl ?_
            refine lv_istore (lv' := [(5, .int (nw (34 + k).toNatClampNeg)), (4, .int 33), (0, .ref mM), (1, .int 0), (2, .int k), (3, .int what)]) hx hb dX8_spot_66 hl (by decide) rfl (fun ls hl => ?_)
            refine lv_iload_n hx hb dX8_spot_68 rfl (lv_at hl 5 rfl) ?_
            refine lv_if_ne (tgt := 80) hx hb dX8_spot_69 (by decide) (fun c_6 => ?_) (fun c_6 => ?_)
            · have c_6 : ¬ (what = 0) := c_6
              rw [if_neg c_6] at hu
              refine lv_iload_n hx hb dX8_spot_80 rfl (lv_at hl 5 rfl) ?_
              refine lv_iconst (v := 1) hx hb dX8_spot_81 (by decide) ?_
              refine lv_icmp_ne (tgt := 93) hx hb dX8_spot_82 (by decide) (fun c_7 => ?_) (fun c_7 => ?_)
              · have c_7 : ¬ (what = 1) := c_7
                rw [if_neg c_7] at hu
                refine lv_aload_n hx hb dX8_spot_93 rfl (lv_at hl 2 rfl) ?_
                refine bGet (v := .ref mN) (T := TX8) (N := 9) (ci := 8) X Y i_X8_spot_X8 0 rfl rfl 0 (Nat.le_of_ble_eq_true rfl) f_X8_spot_7 rfl rfl dX8_spot_94 ?_
                refine lv_iload hx hb dX8_spot_97 (lv_at hl 1 rfl) ?_
                refine lv_iconst (v := 1) hx hb dX8_spot_99 (by decide) ?_
                refine bAdd (v := 34) X dX8_spot_100 (by decide) ?_
                refine lv_bipush (v := 120) hx hb dX8_spot_101 (by decide) ?_
                refine bAdd (v := 154) X dX8_spot_103 (by decide) ?_
                refine lv_iload_n hx hb dX8_spot_104 rfl (lv_at hl 4 rfl) ?_
                refine bAdd (v := 154 + k) X dX8_spot_105 rfl ?_
                refine bIald (v := nw (154 + k).toNatClampNeg) X Y 1 rfl (bInSp (a := 154) (by assumption) (by assumption) hm rfl (by decide)) dX8_spot_106 rfl ?_
                subst hu
                exact bEndI X Y hr hlk dX8_spot_107 rfl rfl
              · have c_7 : what = 1 := c_7
                rw [if_pos c_7] at hu
                refine lv_iload hx hb dX8_spot_85 (lv_at hl 0 rfl) ?_
                refine lv_bipush (v := 100) hx hb dX8_spot_87 (by decide) ?_
                refine bRem (v := (nw (34 + k).toNatClampNeg) - (nw (34 + k).toNatClampNeg) / 100 * 100) X dX8_spot_89 (by decide) rfl ?_
                refine lv_goto (tgt := 107) hx hb dX8_spot_90 (by decide) ?_
                subst hu
                exact bEndI X Y hr hlk dX8_spot_107 rfl rfl
            · have c_6 : what = 0 := c_6
              rw [if_pos c_6] at hu
              refine lv_iload hx hb dX8_spot_72 (lv_at hl 0 rfl) ?_
              refine lv_bipush (v := 100) hx hb dX8_spot_74 (by decide) ?_
              refine bDiv (v := (nw (34 + k).toNatClampNeg) / 100) X dX8_spot_76 (by decide) rfl ?_
              refine lv_goto (tgt := 107) hx hb dX8_spot_77 (by decide) ?_
              subst hu
              exact bEndI X Y hr hlk dX8_spot_107 rfl rfl
          · have c_5 : ¬ (k < (nI mm)) := c_5
            rw [if_neg c_5] at hu
            refine lv_bipush (v := (-4)) hx hb dX8_spot_52 (by decide) ?_
            subst hu
            exact bEndI X Y hr hlk dX8_spot_54 rfl rfl
        · have c_4 : ¬ (0 ≤ k) := c_4
          rw [if_neg c_4] at hu
          refine lv_aload_n hx hb dX8_spot_33 rfl (lv_at hl 1 rfl) ?_
          refine bGet (v := .ref mN) (T := TX8) (N := 9) (ci := 8) X Y i_X8_spot_X8 0 rfl rfl 0 (Nat.le_of_ble_eq_true rfl) f_X8_spot_7 rfl rfl dX8_spot_34 ?_
          refine lv_iload hx hb dX8_spot_37 (lv_at hl 0 rfl) ?_
          refine bIald (v := nI mm) X Y 1 rfl (bInD (by decide)) dX8_spot_39 hk ?_
          subst hu
          exact bEndI X Y hr hlk dX8_spot_40 rfl rfl
      · have c_3 := bB_f c_3
        rw [if_neg c_3] at hu
        refine lv_iconst (v := (-1)) hx hb dX8_spot_21 (by decide) ?_
        subst hu
        exact bEndI X Y hr hlk dX8_spot_22 rfl rfl
theorem siG_0 {nw : Nat → Int32} {mm : Nat} {cd : Int32} : ∀ (n j : Nat), 121 ≤ j + n → j ≤ mm → mm ≤ 120 → g_spotIndex8_0 nw mm cd n j ≤ mm := by
  intro n
  induction n with
  | zero => intro j h1 h2 h3; omega
  | succ n ih =>
    intro j h1 h2 h3
    rw [g_spotIndex8_0]
    by_cases c1 : nI mm ≤ nI j
    · rw [if_pos c1]; exact h2
    · rw [if_neg c1]
      have c2 := (bLtN (by omega) (by omega)).mp (bLtN2 c1)
      split
      · exact h2
      · exact ih (j + 1) (by omega) (by omega) h3
theorem siK_0 {nw : Nat → Int32} {mm : Nat} {cd : Int32} (h : mm ≤ 120) : s_spotIndex8_0 nw mm cd ≤ mm := siG_0 121 0 (by omega) (by omega) h
theorem i_X8_been_X8 : ∀ w ∈ wsX80, w ∈ wsX8_been := by decide +kernel
theorem f_X8_been_7 : Cond.fieldLink RX8 7 "SwingCranesModel" "now" "[I" ∈ wsX8_been := by decide +kernel
def s_been8_0 (nw : Nat → Int32) (mm : Nat ) (x : Int32) (rp : Int32) : Int32 :=
  if (s_isCrane8 0) = true then
    if (s_in8 x 0 99) = true then
      if (s_in8 rp 0 99) = true then
        if nI (s_spotIndex8_0 nw mm ((100 * x) + rp)) = (nI mm) then
          0
        else
          nw (s_spotIndex8_0 nw mm ((100 * x) + rp) + 154)
      else
        (-1)
    else
      (-1)
  else
    (-1)
set_option maxHeartbeats 4000000 in
set_option maxRecDepth 100000 in
theorem c_been8_0 (l : Launch) (D : va_G) (cyC cyI : ClassId) (mM : Nat) (mN : Nat) (mR : Nat) (mA : Nat) (mP : Nat) (mT : Nat) (mD : Nat) (ch : Int32) (le : Int32) (sp : Int32) (nw : Nat → Int32) (mm : Nat ) (x : Int32) (rp : Int32) (o0 : Int32) (hu : s_been8_0 nw mm x rp = o0) (hk : nw 33 = nI mm) (hm : mm ≤ 120) : CI l yX8_been wsX8_been { frames := 2, cells := 0, slots := 0, locals := 44 } D cyC cyI [.ref mM, .int 0, .int x, .int rp] [(mM, .inr (8, [.ref mN, .ref mR, .ref mA, .ref mP, .int ch, .ref mT, .int le, .int sp, .ref mD])), (mN, .inl (cyI, 515, .inl nw))] o0 [(mM, .inr (8, [.ref mN, .ref mR, .ref mA, .ref mP, .int ch, .ref mT, .int le, .int sp, .ref mD])), (mN, .inl (cyI, 515, .inl nw))] := by
  refine CI.of (cc := cX8_been) (n := 6) (ret := (some .int)) (by decide +kernel) rfl (Nat.le_of_ble_eq_true rfl) ?_
  intro p_ e_ s_ m_ bl_ me_ cd_ A_ ls X Y hr hlk hl
  have hx := X.1.1
  have hb := X.1.2.1
  have hl : lv_has ls 6 [(0, .ref mM), (1, .int 0), (2, .int x), (3, .int rp)] := hl
  unfold s_been8_0 at hu
  refine lv_iload_n hx hb dX8_been_0 rfl (lv_at hl 1 rfl) ?_
  refine bSI (As := [.int 0]) (rest := []) X Y (c_isCrane8 l D cyC cyI 0 (s_isCrane8 0) rfl) gX8_been_X8_isCrane rfl ⟨rfl, rfl⟩ hd_X8_isCrane.2 ⟨(Nat.le_of_ble_eq_true rfl), (Nat.le_of_ble_eq_true rfl)⟩ rfl rfl hl.1 (Nat.le_of_ble_eq_true rfl) ⟨Nat.zero_le _, Nat.zero_le _⟩ dX8_been_1 (fun H locs Y => ?_)
  refine lv_if_eq (tgt := 27) hx hb dX8_been_4 (by decide) (fun c_1 => ?_) (fun c_1 => ?_)
  · have c_1 := bB_f c_1
    rw [if_neg c_1] at hu
    refine lv_iconst (v := (-1)) hx hb dX8_been_27 (by decide) ?_
    subst hu
    exact bEndI X Y hr hlk dX8_been_28 rfl rfl
  · have c_1 := bB_t c_1
    rw [if_pos c_1] at hu
    refine lv_iload_n hx hb dX8_been_7 rfl (lv_at hl 2 rfl) ?_
    refine lv_iconst (v := 0) hx hb dX8_been_8 (by decide) ?_
    refine lv_bipush (v := 99) hx hb dX8_been_9 (by decide) ?_
    refine bSI (As := [.int x, .int 0, .int 99]) (rest := []) X Y (c_in8 l D cyC cyI x 0 99 (s_in8 x 0 99) rfl) gX8_been_X8_in rfl ⟨rfl, rfl⟩ hd_X8_in.2 ⟨(Nat.le_of_ble_eq_true rfl), (Nat.le_of_ble_eq_true rfl)⟩ rfl rfl hl.1 (Nat.le_of_ble_eq_true rfl) ⟨Nat.zero_le _, Nat.zero_le _⟩ dX8_been_11 (fun H locs Y => ?_)
    refine lv_if_eq (tgt := 27) hx hb dX8_been_14 (by decide) (fun c_2 => ?_) (fun c_2 => ?_)
    · have c_2 := bB_f c_2
      rw [if_neg c_2] at hu
      refine lv_iconst (v := (-1)) hx hb dX8_been_27 (by decide) ?_
      subst hu
      exact bEndI X Y hr hlk dX8_been_28 rfl rfl
    · have c_2 := bB_t c_2
      rw [if_pos c_2] at hu
      refine lv_iload_n hx hb dX8_been_17 rfl (lv_at hl 3 rfl) ?_
      refine lv_iconst (v := 0) hx hb dX8_been_18 (by decide) ?_
      refine lv_bipush (v := 99) hx hb dX8_been_19 (by decide) ?_
      refine bSI (As := [.int rp, .int 0, .int 99]) (rest := []) X Y (c_in8 l D cyC cyI rp 0 99 (s_in8 rp 0 99) rfl) gX8_been_X8_in rfl ⟨rfl, rfl⟩ hd_X8_in.2 ⟨(Nat.le_of_ble_eq_true rfl), (Nat.le_of_ble_eq_true rfl)⟩ rfl rfl hl.1 (Nat.le_of_ble_eq_true rfl) ⟨Nat.zero_le _, Nat.zero_le _⟩ dX8_been_21 (fun H locs Y => ?_)
      refine lv_if_ne (tgt := 29) hx hb dX8_been_24 (by decide) (fun c_3 => ?_) (fun c_3 => ?_)
      · have c_3 := bB_t c_3
        rw [if_pos c_3] at hu
        refine lv_iload_n hx hb dX8_been_29 rfl (lv_at hl 1 rfl) ?_
        refine bSI (As := [.int 0]) (rest := []) X Y (c_spotPlace8 l D cyC cyI 0 33 (by decide +kernel)) gX8_been_X8_spotPlace rfl ⟨rfl, rfl⟩ hd_X8_spotPlace.2 ⟨(Nat.le_of_ble_eq_true rfl), (Nat.le_of_ble_eq_true rfl)⟩ rfl rfl hl.1 (Nat.le_of_ble_eq_true rfl) ⟨Nat.zero_le _, Nat.zero_le _⟩ dX8_been_30 (fun H locs Y => ?_)
        refine lv_istore (lv' := [(4, .int 33), (0, .ref mM), (1, .int 0), (2, .int x), (3, .int rp)]) hx hb dX8_been_33 hl (by decide) rfl (fun ls hl => ?_)
        refine lv_aload_n hx hb dX8_been_35 rfl (lv_at hl 1 rfl) ?_
        refine lv_iload_n hx hb dX8_been_36 rfl (lv_at hl 2 rfl) ?_
        refine lv_bipush (v := 100) hx hb dX8_been_37 (by decide) ?_
        refine lv_iload_n hx hb dX8_been_39 rfl (lv_at hl 3 rfl) ?_
        refine bMul (v := 100 * x) X dX8_been_40 rfl ?_
        refine lv_iload_n hx hb dX8_been_41 rfl (lv_at hl 4 rfl) ?_
        refine bAdd (v := (100 * x) + rp) X dX8_been_42 rfl ?_
        refine bVI0 (As := [.int 0, .int ((100 * x) + rp)]) (rest := []) (wc := [(mM, .inr (8, [.ref mN, .ref mR, .ref mA, .ref mP, .int ch, .ref mT, .int le, .int sp, .ref mD])), (mN, .inl (cyI, 515, .inl nw))]) (ci := 8) (q0 := 0) X Y (c_spotIndex8_0 l D cyC cyI mM mN mR mA mP mT mD ch le sp nw mm ((100 * x) + rp) (s_spotIndex8_0 nw mm ((100 * x) + rp)) rfl (by first | assumption | omega | decide) (by first | assumption | omega | decide)) gX8_been_X8_spotIndex rfl ⟨rfl, rfl⟩ hd_X8_spotIndex ⟨(Nat.le_of_ble_eq_true rfl), (Nat.le_of_ble_eq_true rfl)⟩ rfl rfl rfl [0, 1] rfl rfl rfl rfl hl.1 (Nat.le_of_ble_eq_true rfl) ⟨Nat.zero_le _, Nat.zero_le _⟩ dX8_been_43 (fun H locs Y => ?_)
        refine lv_istore (lv' := [(5, .int (nI (s_spotIndex8_0 nw mm ((100 * x) + rp)))), (4, .int 33), (0, .ref mM), (1, .int 0), (2, .int x), (3, .int rp)]) hx hb dX8_been_46 hl (by decide) rfl (fun ls hl => ?_)
        refine lv_iload hx hb dX8_been_48 (lv_at hl 0 rfl) ?_
        refine lv_aload_n hx hb dX8_been_50 rfl (lv_at hl 2 rfl) ?_
        refine bGet (v := .ref mN) (T := TX8) (N := 9) (ci := 8) X Y i_X8_been_X8 0 rfl rfl 0 (Nat.le_of_ble_eq_true rfl) f_X8_been_7 rfl rfl dX8_been_51 ?_
        refine lv_iload hx hb dX8_been_54 (lv_at hl 1 rfl) ?_
        refine bIald (v := nI mm) X Y 1 rfl (bInD (by decide)) dX8_been_56 hk ?_
        refine lv_icmp_ne (tgt := 64) hx hb dX8_been_57 (by decide) (fun c_4 => ?_) (fun c_4 => ?_)
        · have c_4 : ¬ (nI (s_spotIndex8_0 nw mm ((100 * x) + rp)) = (nI mm)) := c_4
          rw [if_neg c_4] at hu
          refine lv_aload_n hx hb dX8_been_64 rfl (lv_at hl 2 rfl) ?_
          refine bGet (v := .ref mN) (T := TX8) (N := 9) (ci := 8) X Y i_X8_been_X8 0 rfl rfl 0 (Nat.le_of_ble_eq_true rfl) f_X8_been_7 rfl rfl dX8_been_65 ?_
          refine lv_iload hx hb dX8_been_68 (lv_at hl 1 rfl) ?_
          refine lv_iconst (v := 1) hx hb dX8_been_70 (by decide) ?_
          refine bAdd (v := 34) X dX8_been_71 (by decide) ?_
          refine lv_bipush (v := 120) hx hb dX8_been_72 (by decide) ?_
          refine bAdd (v := 154) X dX8_been_74 (by decide) ?_
          refine lv_iload hx hb dX8_been_75 (lv_at hl 0 rfl) ?_
          refine bAdd (v := nI (s_spotIndex8_0 nw mm ((100 * x) + rp) + 154)) X dX8_been_77 (nI_sum (a := 154) (b := (s_spotIndex8_0 nw mm ((100 * x) + rp))) rfl rfl (by omega)) ?_
          refine bIald (v := nw (s_spotIndex8_0 nw mm ((100 * x) + rp) + 154)) X Y 1 rfl (by have h1 := siK_0 (nw := nw) (cd := (100 * x) + rp) hm; have h2 : (s_spotIndex8_0 nw mm ((100 * x) + rp)) ≠ mm := fun q => absurd (congrArg nI q) (by assumption); exact bIn (by omega) (by decide)) dX8_been_78 (by have h1 := siK_0 (nw := nw) (cd := (100 * x) + rp) hm; exact bIdx (by omega)) ?_
          subst hu
          exact bEndI X Y hr hlk dX8_been_79 rfl rfl
        · have c_4 : nI (s_spotIndex8_0 nw mm ((100 * x) + rp)) = (nI mm) := c_4
          rw [if_pos c_4] at hu
          refine lv_iconst (v := 0) hx hb dX8_been_60 (by decide) ?_
          refine lv_goto (tgt := 79) hx hb dX8_been_61 (by decide) ?_
          subst hu
          exact bEndI X Y hr hlk dX8_been_79 rfl rfl
      · have c_3 := bB_f c_3
        rw [if_neg c_3] at hu
        refine lv_iconst (v := (-1)) hx hb dX8_been_27 (by decide) ?_
        subst hu
        exact bEndI X Y hr hlk dX8_been_28 rfl rfl
def s_spot8_1 (nw : Nat → Int32) (mm : Nat ) (k : Int32) (what : Int32) : Int32 :=
  if (s_isCrane8 1) = true then
    if k < (-1) then
      (-1)
    else
      if (s_in8 what 0 2) = true then
        if 0 ≤ k then
          if k < (nI mm) then
            if what = 0 then
              (nw (275 + k).toNatClampNeg) / 100
            else
              if what = 1 then
                (nw (275 + k).toNatClampNeg) - (nw (275 + k).toNatClampNeg) / 100 * 100
              else
                nw (395 + k).toNatClampNeg
          else
            (-4)
        else
          nI mm
      else
        (-1)
  else
    (-1)
set_option maxHeartbeats 4000000 in
set_option maxRecDepth 100000 in
theorem c_spot8_1 (l : Launch) (D : va_G) (cyC cyI : ClassId) (mM : Nat) (mN : Nat) (mR : Nat) (mA : Nat) (mP : Nat) (mT : Nat) (mD : Nat) (ch : Int32) (le : Int32) (sp : Int32) (nw : Nat → Int32) (mm : Nat ) (k : Int32) (what : Int32) (o0 : Int32) (hu : s_spot8_1 nw mm k what = o0) (hk : nw 274 = nI mm) (hm : mm ≤ 120) : CI l yX8_spot wsX8_spot { frames := 1, cells := 0, slots := 0, locals := 22 } D cyC cyI [.ref mM, .int 1, .int k, .int what] [(mM, .inr (8, [.ref mN, .ref mR, .ref mA, .ref mP, .int ch, .ref mT, .int le, .int sp, .ref mD])), (mN, .inl (cyI, 515, .inl nw))] o0 [(mM, .inr (8, [.ref mN, .ref mR, .ref mA, .ref mP, .int ch, .ref mT, .int le, .int sp, .ref mD])), (mN, .inl (cyI, 515, .inl nw))] := by
  refine CI.of (cc := cX8_spot) (n := 6) (ret := (some .int)) (by decide +kernel) rfl (Nat.le_of_ble_eq_true rfl) ?_
  intro p_ e_ s_ m_ bl_ me_ cd_ A_ ls X Y hr hlk hl
  have hx := X.1.1
  have hb := X.1.2.1
  have hl : lv_has ls 6 [(0, .ref mM), (1, .int 1), (2, .int k), (3, .int what)] := hl
  unfold s_spot8_1 at hu
  refine lv_iload_n hx hb dX8_spot_0 rfl (lv_at hl 1 rfl) ?_
  refine bSI (As := [.int 1]) (rest := []) X Y (c_isCrane8 l D cyC cyI 1 (s_isCrane8 1) rfl) gX8_spot_X8_isCrane rfl ⟨rfl, rfl⟩ hd_X8_isCrane.2 ⟨(Nat.le_of_ble_eq_true rfl), (Nat.le_of_ble_eq_true rfl)⟩ rfl rfl hl.1 (Nat.le_of_ble_eq_true rfl) ⟨Nat.zero_le _, Nat.zero_le _⟩ dX8_spot_1 (fun H locs Y => ?_)
  refine lv_if_eq (tgt := 21) hx hb dX8_spot_4 (by decide) (fun c_1 => ?_) (fun c_1 => ?_)
  · have c_1 := bB_f c_1
    rw [if_neg c_1] at hu
    refine lv_iconst (v := (-1)) hx hb dX8_spot_21 (by decide) ?_
    subst hu
    exact bEndI X Y hr hlk dX8_spot_22 rfl rfl
  · have c_1 := bB_t c_1
    rw [if_pos c_1] at hu
    refine lv_iload_n hx hb dX8_spot_7 rfl (lv_at hl 2 rfl) ?_
    refine lv_iconst (v := (-1)) hx hb dX8_spot_8 (by decide) ?_
    refine lv_icmp_lt (tgt := 21) hx hb dX8_spot_9 (by decide) (fun c_2 => ?_) (fun c_2 => ?_)
    · have c_2 : k < (-1) := c_2
      rw [if_pos c_2] at hu
      refine lv_iconst (v := (-1)) hx hb dX8_spot_21 (by decide) ?_
      subst hu
      exact bEndI X Y hr hlk dX8_spot_22 rfl rfl
    · have c_2 : ¬ (k < (-1)) := c_2
      rw [if_neg c_2] at hu
      refine lv_iload_n hx hb dX8_spot_12 rfl (lv_at hl 3 rfl) ?_
      refine lv_iconst (v := 0) hx hb dX8_spot_13 (by decide) ?_
      refine lv_iconst (v := 2) hx hb dX8_spot_14 (by decide) ?_
      refine bSI (As := [.int what, .int 0, .int 2]) (rest := []) X Y (c_in8 l D cyC cyI what 0 2 (s_in8 what 0 2) rfl) gX8_spot_X8_in rfl ⟨rfl, rfl⟩ hd_X8_in.2 ⟨(Nat.le_of_ble_eq_true rfl), (Nat.le_of_ble_eq_true rfl)⟩ rfl rfl hl.1 (Nat.le_of_ble_eq_true rfl) ⟨Nat.zero_le _, Nat.zero_le _⟩ dX8_spot_15 (fun H locs Y => ?_)
      refine lv_if_ne (tgt := 23) hx hb dX8_spot_18 (by decide) (fun c_3 => ?_) (fun c_3 => ?_)
      · have c_3 := bB_t c_3
        rw [if_pos c_3] at hu
        refine lv_iload_n hx hb dX8_spot_23 rfl (lv_at hl 1 rfl) ?_
        refine bSI (As := [.int 1]) (rest := []) X Y (c_spotPlace8 l D cyC cyI 1 274 (by decide +kernel)) gX8_spot_X8_spotPlace rfl ⟨rfl, rfl⟩ hd_X8_spotPlace.2 ⟨(Nat.le_of_ble_eq_true rfl), (Nat.le_of_ble_eq_true rfl)⟩ rfl rfl hl.1 (Nat.le_of_ble_eq_true rfl) ⟨Nat.zero_le _, Nat.zero_le _⟩ dX8_spot_24 (fun H locs Y => ?_)
        refine lv_istore (lv' := [(4, .int 274), (0, .ref mM), (1, .int 1), (2, .int k), (3, .int what)]) hx hb dX8_spot_27 hl (by decide) rfl (fun ls hl => ?_)
        refine lv_iload_n hx hb dX8_spot_29 rfl (lv_at hl 3 rfl) ?_
        refine lv_if_ge (tgt := 41) hx hb dX8_spot_30 (by decide) (fun c_4 => ?_) (fun c_4 => ?_)
        · have c_4 : 0 ≤ k := c_4
          rw [if_pos c_4] at hu
          refine lv_iload_n hx hb dX8_spot_41 rfl (lv_at hl 3 rfl) ?_
          refine lv_aload_n hx hb dX8_spot_42 rfl (lv_at hl 1 rfl) ?_
          refine bGet (v := .ref mN) (T := TX8) (N := 9) (ci := 8) X Y i_X8_spot_X8 0 rfl rfl 0 (Nat.le_of_ble_eq_true rfl) f_X8_spot_7 rfl rfl dX8_spot_43 ?_
          refine lv_iload hx hb dX8_spot_46 (lv_at hl 0 rfl) ?_
          refine bIald (v := nI mm) X Y 1 rfl (bInD (by decide)) dX8_spot_48 hk ?_
          refine lv_icmp_lt (tgt := 55) hx hb dX8_spot_49 (by decide) (fun c_5 => ?_) (fun c_5 => ?_)
          · have c_5 : k < (nI mm) := c_5
            rw [if_pos c_5] at hu
            refine lv_aload_n hx hb dX8_spot_55 rfl (lv_at hl 1 rfl) ?_
            refine bGet (v := .ref mN) (T := TX8) (N := 9) (ci := 8) X Y i_X8_spot_X8 0 rfl rfl 0 (Nat.le_of_ble_eq_true rfl) f_X8_spot_7 rfl rfl dX8_spot_56 ?_
            refine lv_iload hx hb dX8_spot_59 (lv_at hl 0 rfl) ?_
            refine lv_iconst (v := 1) hx hb dX8_spot_61 (by decide) ?_
            refine bAdd (v := 275) X dX8_spot_62 (by decide) ?_
            refine lv_iload_n hx hb dX8_spot_63 rfl (lv_at hl 3 rfl) ?_
            refine bAdd (v := 275 + k) X dX8_spot_64 rfl ?_
            refine bIald (v := nw (275 + k).toNatClampNeg) X Y 1 rfl (bInSp (a := 275) (by assumption) (by assumption) hm rfl (by decide)) dX8_spot_65 rfl ?_
            refine lv_istore (lv' := [(5, .int (nw (275 + k).toNatClampNeg)), (4, .int 274), (0, .ref mM), (1, .int 1), (2, .int k), (3, .int what)]) hx hb dX8_spot_66 hl (by decide) rfl (fun ls hl => ?_)
            refine lv_iload_n hx hb dX8_spot_68 rfl (lv_at hl 5 rfl) ?_
            refine lv_if_ne (tgt := 80) hx hb dX8_spot_69 (by decide) (fun c_6 => ?_) (fun c_6 => ?_)
            · have c_6 : ¬ (what = 0) := c_6
              rw [if_neg c_6] at hu
              refine lv_iload_n hx hb dX8_spot_80 rfl (lv_at hl 5 rfl) ?_
              refine lv_iconst (v := 1) hx hb dX8_spot_81 (by decide) ?_
              refine lv_icmp_ne (tgt := 93) hx hb dX8_spot_82 (by decide) (fun c_7 => ?_) (fun c_7 => ?_)
              · have c_7 : ¬ (what = 1) := c_7
                rw [if_neg c_7] at hu
                refine lv_aload_n hx hb dX8_spot_93 rfl (lv_at hl 2 rfl) ?_
                refine bGet (v := .ref mN) (T := TX8) (N := 9) (ci := 8) X Y i_X8_spot_X8 0 rfl rfl 0 (Nat.le_of_ble_eq_true rfl) f_X8_spot_7 rfl rfl dX8_spot_94 ?_
                refine lv_iload hx hb dX8_spot_97 (lv_at hl 1 rfl) ?_
                refine lv_iconst (v := 1) hx hb dX8_spot_99 (by decide) ?_
                refine bAdd (v := 275) X dX8_spot_100 (by decide) ?_
                refine lv_bipush (v := 120) hx hb dX8_spot_101 (by decide) ?_
                refine bAdd (v := 395) X dX8_spot_103 (by decide) ?_
                refine lv_iload_n hx hb dX8_spot_104 rfl (lv_at hl 4 rfl) ?_
                refine bAdd (v := 395 + k) X dX8_spot_105 rfl ?_
                refine bIald (v := nw (395 + k).toNatClampNeg) X Y 1 rfl (bInSp (a := 395) (by assumption) (by assumption) hm rfl (by decide)) dX8_spot_106 rfl ?_
                subst hu
                exact bEndI X Y hr hlk dX8_spot_107 rfl rfl
              · have c_7 : what = 1 := c_7
                rw [if_pos c_7] at hu
                refine lv_iload hx hb dX8_spot_85 (lv_at hl 0 rfl) ?_
                refine lv_bipush (v := 100) hx hb dX8_spot_87 (by decide) ?_
                refine bRem (v := (nw (275 + k).toNatClampNeg) - (nw (275 + k).toNatClampNeg) / 100 * 100) X dX8_spot_89 (by decide) rfl ?_
                refine lv_goto (tgt := 107) hx hb dX8_spot_90 (by decide) ?_
                subst hu
                exact bEndI X Y hr hlk dX8_spot_107 rfl rfl
            · have c_6 : what = 0 := c_6
              rw [if_pos c_6] at hu
              refine lv_iload hx hb dX8_spot_72 (lv_at hl 0 rfl) ?_
              refine lv_bipush (v := 100) hx hb dX8_spot_74 (by decide) ?_
              refine bDiv (v := (nw (275 + k).toNatClampNeg) / 100) X dX8_spot_76 (by decide) rfl ?_
              refine lv_goto (tgt := 107) hx hb dX8_spot_77 (by decide) ?_
              subst hu
              exact bEndI X Y hr hlk dX8_spot_107 rfl rfl
          · have c_5 : ¬ (k < (nI mm)) := c_5
            rw [if_neg c_5] at hu
            refine lv_bipush (v := (-4)) hx hb dX8_spot_52 (by decide) ?_
            subst hu
            exact bEndI X Y hr hlk dX8_spot_54 rfl rfl
        · have c_4 : ¬ (0 ≤ k) := c_4
          rw [if_neg c_4] at hu
          refine lv_aload_n hx hb dX8_spot_33 rfl (lv_at hl 1 rfl) ?_
          refine bGet (v := .ref mN) (T := TX8) (N := 9) (ci := 8) X Y i_X8_spot_X8 0 rfl rfl 0 (Nat.le_of_ble_eq_true rfl) f_X8_spot_7 rfl rfl dX8_spot_34 ?_
          refine lv_iload hx hb dX8_spot_37 (lv_at hl 0 rfl) ?_
          refine bIald (v := nI mm) X Y 1 rfl (bInD (by decide)) dX8_spot_39 hk ?_
          subst hu
          exact bEndI X Y hr hlk dX8_spot_40 rfl rfl
      · have c_3 := bB_f c_3
        rw [if_neg c_3] at hu
        refine lv_iconst (v := (-1)) hx hb dX8_spot_21 (by decide) ?_
        subst hu
        exact bEndI X Y hr hlk dX8_spot_22 rfl rfl
theorem siG_1 {nw : Nat → Int32} {mm : Nat} {cd : Int32} : ∀ (n j : Nat), 121 ≤ j + n → j ≤ mm → mm ≤ 120 → g_spotIndex8_1 nw mm cd n j ≤ mm := by
  intro n
  induction n with
  | zero => intro j h1 h2 h3; omega
  | succ n ih =>
    intro j h1 h2 h3
    rw [g_spotIndex8_1]
    by_cases c1 : nI mm ≤ nI j
    · rw [if_pos c1]; exact h2
    · rw [if_neg c1]
      have c2 := (bLtN (by omega) (by omega)).mp (bLtN2 c1)
      split
      · exact h2
      · exact ih (j + 1) (by omega) (by omega) h3
theorem siK_1 {nw : Nat → Int32} {mm : Nat} {cd : Int32} (h : mm ≤ 120) : s_spotIndex8_1 nw mm cd ≤ mm := siG_1 121 0 (by omega) (by omega) h
def s_been8_1 (nw : Nat → Int32) (mm : Nat ) (x : Int32) (rp : Int32) : Int32 :=
  if (s_isCrane8 1) = true then
    if (s_in8 x 0 99) = true then
      if (s_in8 rp 0 99) = true then
        if nI (s_spotIndex8_1 nw mm ((100 * x) + rp)) = (nI mm) then
          0
        else
          nw (s_spotIndex8_1 nw mm ((100 * x) + rp) + 395)
      else
        (-1)
    else
      (-1)
  else
    (-1)
set_option maxHeartbeats 4000000 in
set_option maxRecDepth 100000 in
theorem c_been8_1 (l : Launch) (D : va_G) (cyC cyI : ClassId) (mM : Nat) (mN : Nat) (mR : Nat) (mA : Nat) (mP : Nat) (mT : Nat) (mD : Nat) (ch : Int32) (le : Int32) (sp : Int32) (nw : Nat → Int32) (mm : Nat ) (x : Int32) (rp : Int32) (o0 : Int32) (hu : s_been8_1 nw mm x rp = o0) (hk : nw 274 = nI mm) (hm : mm ≤ 120) : CI l yX8_been wsX8_been { frames := 2, cells := 0, slots := 0, locals := 44 } D cyC cyI [.ref mM, .int 1, .int x, .int rp] [(mM, .inr (8, [.ref mN, .ref mR, .ref mA, .ref mP, .int ch, .ref mT, .int le, .int sp, .ref mD])), (mN, .inl (cyI, 515, .inl nw))] o0 [(mM, .inr (8, [.ref mN, .ref mR, .ref mA, .ref mP, .int ch, .ref mT, .int le, .int sp, .ref mD])), (mN, .inl (cyI, 515, .inl nw))] := by
  refine CI.of (cc := cX8_been) (n := 6) (ret := (some .int)) (by decide +kernel) rfl (Nat.le_of_ble_eq_true rfl) ?_
  intro p_ e_ s_ m_ bl_ me_ cd_ A_ ls X Y hr hlk hl
  have hx := X.1.1
  have hb := X.1.2.1
  have hl : lv_has ls 6 [(0, .ref mM), (1, .int 1), (2, .int x), (3, .int rp)] := hl
  unfold s_been8_1 at hu
  refine lv_iload_n hx hb dX8_been_0 rfl (lv_at hl 1 rfl) ?_
  refine bSI (As := [.int 1]) (rest := []) X Y (c_isCrane8 l D cyC cyI 1 (s_isCrane8 1) rfl) gX8_been_X8_isCrane rfl ⟨rfl, rfl⟩ hd_X8_isCrane.2 ⟨(Nat.le_of_ble_eq_true rfl), (Nat.le_of_ble_eq_true rfl)⟩ rfl rfl hl.1 (Nat.le_of_ble_eq_true rfl) ⟨Nat.zero_le _, Nat.zero_le _⟩ dX8_been_1 (fun H locs Y => ?_)
  refine lv_if_eq (tgt := 27) hx hb dX8_been_4 (by decide) (fun c_1 => ?_) (fun c_1 => ?_)
  · have c_1 := bB_f c_1
    rw [if_neg c_1] at hu
    refine lv_iconst (v := (-1)) hx hb dX8_been_27 (by decide) ?_
    subst hu
    exact bEndI X Y hr hlk dX8_been_28 rfl rfl
  · have c_1 := bB_t c_1
    rw [if_pos c_1] at hu
    refine lv_iload_n hx hb dX8_been_7 rfl (lv_at hl 2 rfl) ?_
    refine lv_iconst (v := 0) hx hb dX8_been_8 (by decide) ?_
    refine lv_bipush (v := 99) hx hb dX8_been_9 (by decide) ?_
    refine bSI (As := [.int x, .int 0, .int 99]) (rest := []) X Y (c_in8 l D cyC cyI x 0 99 (s_in8 x 0 99) rfl) gX8_been_X8_in rfl ⟨rfl, rfl⟩ hd_X8_in.2 ⟨(Nat.le_of_ble_eq_true rfl), (Nat.le_of_ble_eq_true rfl)⟩ rfl rfl hl.1 (Nat.le_of_ble_eq_true rfl) ⟨Nat.zero_le _, Nat.zero_le _⟩ dX8_been_11 (fun H locs Y => ?_)
    refine lv_if_eq (tgt := 27) hx hb dX8_been_14 (by decide) (fun c_2 => ?_) (fun c_2 => ?_)
    · have c_2 := bB_f c_2
      rw [if_neg c_2] at hu
      refine lv_iconst (v := (-1)) hx hb dX8_been_27 (by decide) ?_
      subst hu
      exact bEndI X Y hr hlk dX8_been_28 rfl rfl
    · have c_2 := bB_t c_2
      rw [if_pos c_2] at hu
      refine lv_iload_n hx hb dX8_been_17 rfl (lv_at hl 3 rfl) ?_
      refine lv_iconst (v := 0) hx hb dX8_been_18 (by decide) ?_
      refine lv_bipush (v := 99) hx hb dX8_been_19 (by decide) ?_
      refine bSI (As := [.int rp, .int 0, .int 99]) (rest := []) X Y (c_in8 l D cyC cyI rp 0 99 (s_in8 rp 0 99) rfl) gX8_been_X8_in rfl ⟨rfl, rfl⟩ hd_X8_in.2 ⟨(Nat.le_of_ble_eq_true rfl), (Nat.le_of_ble_eq_true rfl)⟩ rfl rfl hl.1 (Nat.le_of_ble_eq_true rfl) ⟨Nat.zero_le _, Nat.zero_le _⟩ dX8_been_21 (fun H locs Y => ?_)
      refine lv_if_ne (tgt := 29) hx hb dX8_been_24 (by decide) (fun c_3 => ?_) (fun c_3 => ?_)
      · have c_3 := bB_t c_3
        rw [if_pos c_3] at hu
        refine lv_iload_n hx hb dX8_been_29 rfl (lv_at hl 1 rfl) ?_
        refine bSI (As := [.int 1]) (rest := []) X Y (c_spotPlace8 l D cyC cyI 1 274 (by decide +kernel)) gX8_been_X8_spotPlace rfl ⟨rfl, rfl⟩ hd_X8_spotPlace.2 ⟨(Nat.le_of_ble_eq_true rfl), (Nat.le_of_ble_eq_true rfl)⟩ rfl rfl hl.1 (Nat.le_of_ble_eq_true rfl) ⟨Nat.zero_le _, Nat.zero_le _⟩ dX8_been_30 (fun H locs Y => ?_)
        refine lv_istore (lv' := [(4, .int 274), (0, .ref mM), (1, .int 1), (2, .int x), (3, .int rp)]) hx hb dX8_been_33 hl (by decide) rfl (fun ls hl => ?_)
        refine lv_aload_n hx hb dX8_been_35 rfl (lv_at hl 1 rfl) ?_
        refine lv_iload_n hx hb dX8_been_36 rfl (lv_at hl 2 rfl) ?_
        refine lv_bipush (v := 100) hx hb dX8_been_37 (by decide) ?_
        refine lv_iload_n hx hb dX8_been_39 rfl (lv_at hl 3 rfl) ?_
        refine bMul (v := 100 * x) X dX8_been_40 rfl ?_
        refine lv_iload_n hx hb dX8_been_41 rfl (lv_at hl 4 rfl) ?_
        refine bAdd (v := (100 * x) + rp) X dX8_been_42 rfl ?_
        refine bVI0 (As := [.int 1, .int ((100 * x) + rp)]) (rest := []) (wc := [(mM, .inr (8, [.ref mN, .ref mR, .ref mA, .ref mP, .int ch, .ref mT, .int le, .int sp, .ref mD])), (mN, .inl (cyI, 515, .inl nw))]) (ci := 8) (q0 := 0) X Y (c_spotIndex8_1 l D cyC cyI mM mN mR mA mP mT mD ch le sp nw mm ((100 * x) + rp) (s_spotIndex8_1 nw mm ((100 * x) + rp)) rfl (by first | assumption | omega | decide) (by first | assumption | omega | decide)) gX8_been_X8_spotIndex rfl ⟨rfl, rfl⟩ hd_X8_spotIndex ⟨(Nat.le_of_ble_eq_true rfl), (Nat.le_of_ble_eq_true rfl)⟩ rfl rfl rfl [0, 1] rfl rfl rfl rfl hl.1 (Nat.le_of_ble_eq_true rfl) ⟨Nat.zero_le _, Nat.zero_le _⟩ dX8_been_43 (fun H locs Y => ?_)
        refine lv_istore (lv' := [(5, .int (nI (s_spotIndex8_1 nw mm ((100 * x) + rp)))), (4, .int 274), (0, .ref mM), (1, .int 1), (2, .int x), (3, .int rp)]) hx hb dX8_been_46 hl (by decide) rfl (fun ls hl => ?_)
        refine lv_iload hx hb dX8_been_48 (lv_at hl 0 rfl) ?_
        refine lv_aload_n hx hb dX8_been_50 rfl (lv_at hl 2 rfl) ?_
        refine bGet (v := .ref mN) (T := TX8) (N := 9) (ci := 8) X Y i_X8_been_X8 0 rfl rfl 0 (Nat.le_of_ble_eq_true rfl) f_X8_been_7 rfl rfl dX8_been_51 ?_
        refine lv_iload hx hb dX8_been_54 (lv_at hl 1 rfl) ?_
        refine bIald (v := nI mm) X Y 1 rfl (bInD (by decide)) dX8_been_56 hk ?_
        refine lv_icmp_ne (tgt := 64) hx hb dX8_been_57 (by decide) (fun c_4 => ?_) (fun c_4 => ?_)
        · have c_4 : ¬ (nI (s_spotIndex8_1 nw mm ((100 * x) + rp)) = (nI mm)) := c_4
          rw [if_neg c_4] at hu
          refine lv_aload_n hx hb dX8_been_64 rfl (lv_at hl 2 rfl) ?_
          refine bGet (v := .ref mN) (T := TX8) (N := 9) (ci := 8) X Y i_X8_been_X8 0 rfl rfl 0 (Nat.le_of_ble_eq_true rfl) f_X8_been_7 rfl rfl dX8_been_65 ?_
          refine lv_iload hx hb dX8_been_68 (lv_at hl 1 rfl) ?_
          refine lv_iconst (v := 1) hx hb dX8_been_70 (by decide) ?_
          refine bAdd (v := 275) X dX8_been_71 (by decide) ?_
          refine lv_bipush (v := 120) hx hb dX8_been_72 (by decide) ?_
          refine bAdd (v := 395) X dX8_been_74 (by decide) ?_
          refine lv_iload hx hb dX8_been_75 (lv_at hl 0 rfl) ?_
          refine bAdd (v := nI (s_spotIndex8_1 nw mm ((100 * x) + rp) + 395)) X dX8_been_77 (nI_sum (a := 395) (b := (s_spotIndex8_1 nw mm ((100 * x) + rp))) rfl rfl (by omega)) ?_
          refine bIald (v := nw (s_spotIndex8_1 nw mm ((100 * x) + rp) + 395)) X Y 1 rfl (by have h1 := siK_1 (nw := nw) (cd := (100 * x) + rp) hm; have h2 : (s_spotIndex8_1 nw mm ((100 * x) + rp)) ≠ mm := fun q => absurd (congrArg nI q) (by assumption); exact bIn (by omega) (by decide)) dX8_been_78 (by have h1 := siK_1 (nw := nw) (cd := (100 * x) + rp) hm; exact bIdx (by omega)) ?_
          subst hu
          exact bEndI X Y hr hlk dX8_been_79 rfl rfl
        · have c_4 : nI (s_spotIndex8_1 nw mm ((100 * x) + rp)) = (nI mm) := c_4
          rw [if_pos c_4] at hu
          refine lv_iconst (v := 0) hx hb dX8_been_60 (by decide) ?_
          refine lv_goto (tgt := 79) hx hb dX8_been_61 (by decide) ?_
          subst hu
          exact bEndI X Y hr hlk dX8_been_79 rfl rfl
      · have c_3 := bB_f c_3
        rw [if_neg c_3] at hu
        refine lv_iconst (v := (-1)) hx hb dX8_been_27 (by decide) ?_
        subst hu
        exact bEndI X Y hr hlk dX8_been_28 rfl rfl
def s_spot8_b : Int32 :=
  (-1)
set_option maxHeartbeats 4000000 in
set_option maxRecDepth 100000 in
theorem c_spot8_b (l : Launch) (D : va_G) (cyC cyI : ClassId) (mM : Nat) (mN : Nat) (mR : Nat) (mA : Nat) (mP : Nat) (mT : Nat) (mD : Nat) (ch : Int32) (le : Int32) (sp : Int32) (c : Int32) (k : Int32) (what : Int32) (o0 : Int32) (hu : s_spot8_b = o0) (hc0 : ¬ c = 0) (hc1 : ¬ c = 1) : CI l yX8_spot wsX8_spot { frames := 1, cells := 0, slots := 0, locals := 20 } D cyC cyI [.ref mM, .int c, .int k, .int what] [(mM, .inr (8, [.ref mN, .ref mR, .ref mA, .ref mP, .int ch, .ref mT, .int le, .int sp, .ref mD]))] o0 [(mM, .inr (8, [.ref mN, .ref mR, .ref mA, .ref mP, .int ch, .ref mT, .int le, .int sp, .ref mD]))] := by
  refine CI.of (cc := cX8_spot) (n := 6) (ret := (some .int)) (by decide +kernel) rfl (Nat.le_of_ble_eq_true rfl) ?_
  intro p_ e_ s_ m_ bl_ me_ cd_ A_ ls X Y hr hlk hl
  have hx := X.1.1
  have hb := X.1.2.1
  have hl : lv_has ls 6 [(0, .ref mM), (1, .int c), (2, .int k), (3, .int what)] := hl
  unfold s_spot8_b at hu
  refine lv_iload_n hx hb dX8_spot_0 rfl (lv_at hl 1 rfl) ?_
  refine bSI (As := [.int c]) (rest := []) X Y (c_isCrane8 l D cyC cyI c (s_isCrane8 c) rfl) gX8_spot_X8_isCrane rfl ⟨rfl, rfl⟩ hd_X8_isCrane.2 ⟨(Nat.le_of_ble_eq_true rfl), (Nat.le_of_ble_eq_true rfl)⟩ rfl rfl hl.1 (Nat.le_of_ble_eq_true rfl) ⟨Nat.zero_le _, Nat.zero_le _⟩ dX8_spot_1 (fun H locs Y => ?_)
  refine lv_if_eq (tgt := 21) hx hb dX8_spot_4 (by decide) (fun c_1 => ?_) (fun c_1 => ?_)
  · have c_1 := bB_f c_1
    refine lv_iconst (v := (-1)) hx hb dX8_spot_21 (by decide) ?_
    subst hu
    exact bEndI X Y hr hlk dX8_spot_22 rfl rfl
  · have c_1 := bB_t c_1
    exact absurd c_1 (isCrane8_no hc0 hc1)
def s_been8_b : Int32 :=
  (-1)
set_option maxHeartbeats 4000000 in
set_option maxRecDepth 100000 in
theorem c_been8_b (l : Launch) (D : va_G) (cyC cyI : ClassId) (mM : Nat) (mN : Nat) (mR : Nat) (mA : Nat) (mP : Nat) (mT : Nat) (mD : Nat) (ch : Int32) (le : Int32) (sp : Int32) (c : Int32) (x : Int32) (rp : Int32) (o0 : Int32) (hu : s_been8_b = o0) (hc0 : ¬ c = 0) (hc1 : ¬ c = 1) : CI l yX8_been wsX8_been { frames := 1, cells := 0, slots := 0, locals := 20 } D cyC cyI [.ref mM, .int c, .int x, .int rp] [(mM, .inr (8, [.ref mN, .ref mR, .ref mA, .ref mP, .int ch, .ref mT, .int le, .int sp, .ref mD]))] o0 [(mM, .inr (8, [.ref mN, .ref mR, .ref mA, .ref mP, .int ch, .ref mT, .int le, .int sp, .ref mD]))] := by
  refine CI.of (cc := cX8_been) (n := 6) (ret := (some .int)) (by decide +kernel) rfl (Nat.le_of_ble_eq_true rfl) ?_
  intro p_ e_ s_ m_ bl_ me_ cd_ A_ ls X Y hr hlk hl
  have hx := X.1.1
  have hb := X.1.2.1
  have hl : lv_has ls 6 [(0, .ref mM), (1, .int c), (2, .int x), (3, .int rp)] := hl
  unfold s_been8_b at hu
  refine lv_iload_n hx hb dX8_been_0 rfl (lv_at hl 1 rfl) ?_
  refine bSI (As := [.int c]) (rest := []) X Y (c_isCrane8 l D cyC cyI c (s_isCrane8 c) rfl) gX8_been_X8_isCrane rfl ⟨rfl, rfl⟩ hd_X8_isCrane.2 ⟨(Nat.le_of_ble_eq_true rfl), (Nat.le_of_ble_eq_true rfl)⟩ rfl rfl hl.1 (Nat.le_of_ble_eq_true rfl) ⟨Nat.zero_le _, Nat.zero_le _⟩ dX8_been_1 (fun H locs Y => ?_)
  refine lv_if_eq (tgt := 27) hx hb dX8_been_4 (by decide) (fun c_1 => ?_) (fun c_1 => ?_)
  · have c_1 := bB_f c_1
    refine lv_iconst (v := (-1)) hx hb dX8_been_27 (by decide) ?_
    subst hu
    exact bEndI X Y hr hlk dX8_been_28 rfl rfl
  · have c_1 := bB_t c_1
    exact absurd c_1 (isCrane8_no hc0 hc1)
