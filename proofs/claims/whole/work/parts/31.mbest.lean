theorem hd_X8_swingsBy : bD1 yX8_swingsBy RX8 3 := by decide +kernel
def g_best8_0 (w : Int32) (what : Int32) : Nat → Nat → (Nat → Int32) → (Nat → Int32) → Int32 → Int32 → Int32 × (Nat → Int32) × (Nat → Int32)
  | 0, _, _, _, _, _ => (0, fun _ => 0, fun _ => 0)
  | n_ + 1, j, ng, ag, fo, lst =>
    if 20 < nI j then
      if what = 0 then
        (fo, ng, ag)
      else
        (lst, ng, ag)
    else
      match s_swingsBy8_0 ng ag w (nI j) with
      | (u_3_0, u_3_1, u_3_2) =>
        if lst ≤ u_3_0 then
          g_best8_0 w what n_ (j + 1) u_3_1 u_3_2 fo lst
        else
          g_best8_0 w what n_ (j + 1) u_3_1 u_3_2 (nI j) u_3_0
def s_best8_0 (nw : Nat → Int32) (az : Nat → Int32) (w : Int32) (what : Int32) : Int32 × (Nat → Int32) × (Nat → Int32) :=
  if (s_isCrane8 0) = true then
    if (s_in8 w (-40) 40) = true then
      if (s_in8 what 0 1) = true then
        match s_swingsBy8_0 nw az w 0 with
        | (u_4_0, u_4_1, u_4_2) =>
          g_best8_0 w what (21) 1 u_4_1 u_4_2 0 u_4_0
      else
        ((-1), nw, az)
    else
      ((-1), nw, az)
  else
    ((-1), nw, az)
set_option maxHeartbeats 4000000 in
set_option maxRecDepth 100000 in
theorem lp_best8_0 {p_ : Program} {e_ : Env} {s_ : State} {m_ : MethodId} {bl_ : List Frame} {me_ : Method} {cd_ : Code} {A_ : Nat → Prop} (l : Launch) (D : va_G) (cyC cyI : ClassId) (mM : Nat) (mN : Nat) (mR : Nat) (mA : Nat) (mP : Nat) (mT : Nat) (mD : Nat) (ch : Int32) (le : Int32) (sp : Int32) (nw : Nat → Int32) (az : Nat → Int32) (w : Int32) (what : Int32) (o0 : Int32) (o1 : Nat → Int32) (o2 : Nat → Int32) (X : bX p_ s_ m_ ([.ref mM, .int 0, .int w, .int what] : List Value).toArray cd_ cX8_best 8 wsX8_best yX8_best.cls D cyC cyI) (hr : me_.sig.returnType = (some .int)) (hlk : me_.locks = false) (hG : GI nw) : ∀ (n_ : Nat) (j : Nat) (ng : Nat → Int32) (ag : Nat → Int32) (fo : Int32) (lst : Int32) (hN : 22 ≤ j + n_) (hJ : j ≤ 21) (hG : GI ng) (hu : g_best8_0 w what n_ j ng ag fo lst = (o0, o1, o2)) (ls : Array Slot) (H : Heap) (locs : List Loc), lv_has ls 8 [(0, .ref mM), (1, .int 0), (2, .int w), (3, .int what), (4, .int fo), (5, .int lst), (6, .int (nI j))] → bY D A_ s_.heap [(mM, .inr (8, [.ref mN, .ref mR, .ref mA, .ref mP, .int ch, .ref mT, .int le, .int sp, .ref mD])), (mN, .inl (cyI, 515, .inl ng)), (mA, .inl (cyI, 33, .inl ag))] H locs → W p_ l e_ ({ frames := 6, cells := 0, slots := 0, locals := 137 } : Room) s_ m_ ([.ref mM, .int 0, .int w, .int what] : List Value).toArray bl_ me_ cd_ H locs 0 0 (bQI bl_ ([.ref mM, .int 0, .int w, .int what] : List Value).toArray s_ D [(mM, .inr (8, [.ref mN, .ref mR, .ref mA, .ref mP, .int ch, .ref mT, .int le, .int sp, .ref mD])), (mN, .inl (cyI, 515, .inl o1)), (mA, .inl (cyI, 33, .inl o2))] o0 A_) (F0 m_ 44 ls []) := by
  intro n_
  induction n_ with
  | zero =>
    intro j ng ag fo lst hN hJ hG hu ls H locs hl Y
    exfalso; omega
  | succ n_ ih =>
    intro j ng ag fo lst hN hJ hG hu ls H locs hl Y
    have hx := X.1.1
    have hb := X.1.2.1
    rw [g_best8_0] at hu
    refine lv_iload hx hb dX8_best_44 (lv_at hl 6 rfl) ?_
    refine lv_bipush (v := 20) hx hb dX8_best_46 (by decide) ?_
    refine lv_icmp_gt (tgt := 99) hx hb dX8_best_48 (by decide) (fun c_1 => ?_) (fun c_1 => ?_)
    · have c_1 : 20 < nI j := c_1
      rw [if_pos c_1] at hu
      refine lv_iload_n hx hb dX8_best_99 rfl (lv_at hl 3 rfl) ?_
      refine lv_if_ne (tgt := 108) hx hb dX8_best_100 (by decide) (fun c_2 => ?_) (fun c_2 => ?_)
      · have c_2 : ¬ (what = 0) := c_2
        rw [if_neg c_2] at hu
        refine lv_iload hx hb dX8_best_108 (lv_at hl 5 rfl) ?_
        have h9 := (Prod.mk.inj hu).1; replace hu := (Prod.mk.inj hu).2; subst h9
        have h9 := (Prod.mk.inj hu).1; replace hu := (Prod.mk.inj hu).2; subst h9
        subst hu
        exact bEndI X Y hr hlk dX8_best_110 rfl rfl
      · have c_2 : what = 0 := c_2
        rw [if_pos c_2] at hu
        refine lv_iload hx hb dX8_best_103 (lv_at hl 4 rfl) ?_
        refine lv_goto (tgt := 110) hx hb dX8_best_105 (by decide) ?_
        have h9 := (Prod.mk.inj hu).1; replace hu := (Prod.mk.inj hu).2; subst h9
        have h9 := (Prod.mk.inj hu).1; replace hu := (Prod.mk.inj hu).2; subst h9
        subst hu
        exact bEndI X Y hr hlk dX8_best_110 rfl rfl
    · have c_1 : ¬ (20 < nI j) := c_1
      rw [if_neg c_1] at hu
      refine lv_aload_n hx hb dX8_best_51 rfl (lv_at hl 0 rfl) ?_
      refine lv_iload_n hx hb dX8_best_52 rfl (lv_at hl 1 rfl) ?_
      refine lv_iload_n hx hb dX8_best_53 rfl (lv_at hl 2 rfl) ?_
      refine lv_iload hx hb dX8_best_54 (lv_at hl 6 rfl) ?_
      obtain ⟨u_3_0, u_3_1, u_3_2, hr_3⟩ := bEx3 (s_swingsBy8_0 ng ag w (nI j))
      rw [hr_3] at hu
      dsimp only at hu
      have swK_0_3 := swK_0 hr_3
      refine bVI (As := [.int 0, .int w, .int (nI j)]) (rest := []) (wc := [(mM, .inr (8, [.ref mN, .ref mR, .ref mA, .ref mP, .int ch, .ref mT, .int le, .int sp, .ref mD])), (mN, .inl (cyI, 515, .inl ng)), (mA, .inl (cyI, 33, .inl ag))]) (w1 := [(mM, .inr (8, [.ref mN, .ref mR, .ref mA, .ref mP, .int ch, .ref mT, .int le, .int sp, .ref mD])), (mN, .inl (cyI, 515, .inl u_3_1)), (mA, .inl (cyI, 33, .inl u_3_2))]) (ws' := [(mM, .inr (8, [.ref mN, .ref mR, .ref mA, .ref mP, .int ch, .ref mT, .int le, .int sp, .ref mD])), (mN, .inl (cyI, 515, .inl u_3_1)), (mA, .inl (cyI, 33, .inl u_3_2))]) (ad := [mM, mN, mA]) (wr := []) (nn := 3) (ci := 8) (q0 := 0) X Y (c_swingsBy8_0 l D cyC cyI mM mN mR mA mP mT mD ch le sp ng ag w (nI j) u_3_0 u_3_1 u_3_2 hr_3 (by first | assumption | omega | decide)) gX8_best_X8_swingsBy rfl ⟨rfl, rfl⟩ hd_X8_swingsBy ⟨(Nat.le_of_ble_eq_true rfl), (Nat.le_of_ble_eq_true rfl)⟩ rfl rfl rfl [0, 1, 2] [] rfl rfl rfl rfl rfl rfl rfl rfl (by decide) rfl rfl hl.1 (Nat.le_of_ble_eq_true rfl) ⟨Nat.zero_le _, Nat.zero_le _⟩ dX8_best_56 (fun H locs Y => ?_)
      refine lv_istore (lv' := [(7, .int u_3_0), (0, .ref mM), (1, .int 0), (2, .int w), (3, .int what), (4, .int fo), (5, .int lst), (6, .int (nI j))]) hx hb dX8_best_59 hl (by decide) rfl (fun ls hl => ?_)
      refine lv_iload hx hb dX8_best_61 (lv_at hl 0 rfl) ?_
      refine lv_iload hx hb dX8_best_63 (lv_at hl 6 rfl) ?_
      refine lv_icmp_ge (tgt := 73) hx hb dX8_best_65 (by decide) (fun c_4 => ?_) (fun c_4 => ?_)
      · have c_4 : lst ≤ u_3_0 := c_4
        rw [if_pos c_4] at hu
        refine lv_iload hx hb dX8_best_73 (lv_at hl 5 rfl) ?_
        refine lv_istore (lv' := [(4, .int fo), (7, .int u_3_0), (0, .ref mM), (1, .int 0), (2, .int w), (3, .int what), (5, .int lst), (6, .int (nI j))]) hx hb dX8_best_75 hl (by decide) rfl (fun ls hl => ?_)
        refine lv_iload hx hb dX8_best_77 (lv_at hl 1 rfl) ?_
        refine lv_iload hx hb dX8_best_79 (lv_at hl 6 rfl) ?_
        refine lv_icmp_ge (tgt := 89) hx hb dX8_best_81 (by decide) (fun c_5 => ?_) (fun c_5 => ?_)
        · have c_5 : lst ≤ u_3_0 := c_5
          refine lv_iload hx hb dX8_best_89 (lv_at hl 6 rfl) ?_
          refine lv_istore (lv' := [(5, .int lst), (4, .int fo), (7, .int u_3_0), (0, .ref mM), (1, .int 0), (2, .int w), (3, .int what), (6, .int (nI j))]) hx hb dX8_best_91 hl (by decide) rfl (fun ls hl => ?_)
          refine lv_iinc (v := nI (j + 1)) (lv' := [(6, .int (nI (j + 1))), (5, .int lst), (4, .int fo), (7, .int u_3_0), (0, .ref mM), (1, .int 0), (2, .int w), (3, .int what)]) hx hb dX8_best_93 hl (k := 7) rfl (nI_inc _) (by decide) rfl (fun ls hl => ?_)
          refine lv_goto (tgt := 44) hx hb dX8_best_96 (by decide) ?_
          exact ih (j + 1) u_3_1 u_3_2 fo lst (by omega) (by have h9 := bNlt (k := 20) rfl (by omega) (by decide) c_1; omega) (GI_congr swK_0_3 hG) hu _ _ _ (lv_sub hl [4, 5, 6, 7, 2, 1, 0] rfl) Y
        · have c_5 : ¬ (lst ≤ u_3_0) := c_5
          exact absurd c_4 c_5
      · have c_4 : ¬ (lst ≤ u_3_0) := c_4
        rw [if_neg c_4] at hu
        refine lv_iload hx hb dX8_best_68 (lv_at hl 7 rfl) ?_
        refine lv_goto (tgt := 75) hx hb dX8_best_70 (by decide) ?_
        refine lv_istore (lv' := [(4, .int (nI j)), (7, .int u_3_0), (0, .ref mM), (1, .int 0), (2, .int w), (3, .int what), (5, .int lst), (6, .int (nI j))]) hx hb dX8_best_75 hl (by decide) rfl (fun ls hl => ?_)
        refine lv_iload hx hb dX8_best_77 (lv_at hl 1 rfl) ?_
        refine lv_iload hx hb dX8_best_79 (lv_at hl 6 rfl) ?_
        refine lv_icmp_ge (tgt := 89) hx hb dX8_best_81 (by decide) (fun c_6 => ?_) (fun c_6 => ?_)
        · have c_6 : lst ≤ u_3_0 := c_6
          exact absurd c_6 c_4
        · have c_6 : ¬ (lst ≤ u_3_0) := c_6
          refine lv_iload hx hb dX8_best_84 (lv_at hl 1 rfl) ?_
          refine lv_goto (tgt := 91) hx hb dX8_best_86 (by decide) ?_
          refine lv_istore (lv' := [(5, .int u_3_0), (4, .int (nI j)), (7, .int u_3_0), (0, .ref mM), (1, .int 0), (2, .int w), (3, .int what), (6, .int (nI j))]) hx hb dX8_best_91 hl (by decide) rfl (fun ls hl => ?_)
          refine lv_iinc (v := nI (j + 1)) (lv' := [(6, .int (nI (j + 1))), (5, .int u_3_0), (4, .int (nI j)), (7, .int u_3_0), (0, .ref mM), (1, .int 0), (2, .int w), (3, .int what)]) hx hb dX8_best_93 hl (k := 7) rfl (nI_inc _) (by decide) rfl (fun ls hl => ?_)
          refine lv_goto (tgt := 44) hx hb dX8_best_96 (by decide) ?_
          exact ih (j + 1) u_3_1 u_3_2 (nI j) u_3_0 (by omega) (by have h9 := bNlt (k := 20) rfl (by omega) (by decide) c_1; omega) (GI_congr swK_0_3 hG) hu _ _ _ (lv_sub hl [4, 5, 6, 7, 2, 1, 0] rfl) Y
set_option maxHeartbeats 4000000 in
set_option maxRecDepth 100000 in
theorem c_best8_0 (l : Launch) (D : va_G) (cyC cyI : ClassId) (mM : Nat) (mN : Nat) (mR : Nat) (mA : Nat) (mP : Nat) (mT : Nat) (mD : Nat) (ch : Int32) (le : Int32) (sp : Int32) (nw : Nat → Int32) (az : Nat → Int32) (w : Int32) (what : Int32) (o0 : Int32) (o1 : Nat → Int32) (o2 : Nat → Int32) (hu : s_best8_0 nw az w what = (o0, o1, o2)) (hG : GI nw) : CI l yX8_best wsX8_best { frames := 6, cells := 0, slots := 0, locals := 137 } D cyC cyI [.ref mM, .int 0, .int w, .int what] [(mM, .inr (8, [.ref mN, .ref mR, .ref mA, .ref mP, .int ch, .ref mT, .int le, .int sp, .ref mD])), (mN, .inl (cyI, 515, .inl nw)), (mA, .inl (cyI, 33, .inl az))] o0 [(mM, .inr (8, [.ref mN, .ref mR, .ref mA, .ref mP, .int ch, .ref mT, .int le, .int sp, .ref mD])), (mN, .inl (cyI, 515, .inl o1)), (mA, .inl (cyI, 33, .inl o2))] := by
  refine CI.of (cc := cX8_best) (n := 8) (ret := (some .int)) (by decide +kernel) rfl (Nat.le_of_ble_eq_true rfl) ?_
  intro p_ e_ s_ m_ bl_ me_ cd_ A_ ls X Y hr hlk hl
  have hx := X.1.1
  have hb := X.1.2.1
  have hl : lv_has ls 8 [(0, .ref mM), (1, .int 0), (2, .int w), (3, .int what)] := hl
  unfold s_best8_0 at hu
  refine lv_iload_n hx hb dX8_best_0 rfl (lv_at hl 1 rfl) ?_
  refine bSI (As := [.int 0]) (rest := []) X Y (c_isCrane8 l D cyC cyI 0 (s_isCrane8 0) rfl) gX8_best_X8_isCrane rfl ⟨rfl, rfl⟩ hd_X8_isCrane.2 ⟨(Nat.le_of_ble_eq_true rfl), (Nat.le_of_ble_eq_true rfl)⟩ rfl rfl hl.1 (Nat.le_of_ble_eq_true rfl) ⟨Nat.zero_le _, Nat.zero_le _⟩ dX8_best_1 (fun H locs Y => ?_)
  refine lv_if_eq (tgt := 27) hx hb dX8_best_4 (by decide) (fun c_1 => ?_) (fun c_1 => ?_)
  · have c_1 := bB_f c_1
    rw [if_neg c_1] at hu
    refine lv_iconst (v := (-1)) hx hb dX8_best_27 (by decide) ?_
    have h9 := (Prod.mk.inj hu).1; replace hu := (Prod.mk.inj hu).2; subst h9
    have h9 := (Prod.mk.inj hu).1; replace hu := (Prod.mk.inj hu).2; subst h9
    subst hu
    exact bEndI X Y hr hlk dX8_best_28 rfl rfl
  · have c_1 := bB_t c_1
    rw [if_pos c_1] at hu
    refine lv_iload_n hx hb dX8_best_7 rfl (lv_at hl 2 rfl) ?_
    refine lv_bipush (v := (-40)) hx hb dX8_best_8 (by decide) ?_
    refine lv_bipush (v := 40) hx hb dX8_best_10 (by decide) ?_
    refine bSI (As := [.int w, .int (-40), .int 40]) (rest := []) X Y (c_in8 l D cyC cyI w (-40) 40 (s_in8 w (-40) 40) rfl) gX8_best_X8_in rfl ⟨rfl, rfl⟩ hd_X8_in.2 ⟨(Nat.le_of_ble_eq_true rfl), (Nat.le_of_ble_eq_true rfl)⟩ rfl rfl hl.1 (Nat.le_of_ble_eq_true rfl) ⟨Nat.zero_le _, Nat.zero_le _⟩ dX8_best_12 (fun H locs Y => ?_)
    refine lv_if_eq (tgt := 27) hx hb dX8_best_15 (by decide) (fun c_2 => ?_) (fun c_2 => ?_)
    · have c_2 := bB_f c_2
      rw [if_neg c_2] at hu
      refine lv_iconst (v := (-1)) hx hb dX8_best_27 (by decide) ?_
      have h9 := (Prod.mk.inj hu).1; replace hu := (Prod.mk.inj hu).2; subst h9
      have h9 := (Prod.mk.inj hu).1; replace hu := (Prod.mk.inj hu).2; subst h9
      subst hu
      exact bEndI X Y hr hlk dX8_best_28 rfl rfl
    · have c_2 := bB_t c_2
      rw [if_pos c_2] at hu
      refine lv_iload_n hx hb dX8_best_18 rfl (lv_at hl 3 rfl) ?_
      refine lv_iconst (v := 0) hx hb dX8_best_19 (by decide) ?_
      refine lv_iconst (v := 1) hx hb dX8_best_20 (by decide) ?_
      refine bSI (As := [.int what, .int 0, .int 1]) (rest := []) X Y (c_in8 l D cyC cyI what 0 1 (s_in8 what 0 1) rfl) gX8_best_X8_in rfl ⟨rfl, rfl⟩ hd_X8_in.2 ⟨(Nat.le_of_ble_eq_true rfl), (Nat.le_of_ble_eq_true rfl)⟩ rfl rfl hl.1 (Nat.le_of_ble_eq_true rfl) ⟨Nat.zero_le _, Nat.zero_le _⟩ dX8_best_21 (fun H locs Y => ?_)
      refine lv_if_ne (tgt := 29) hx hb dX8_best_24 (by decide) (fun c_3 => ?_) (fun c_3 => ?_)
      · have c_3 := bB_t c_3
        rw [if_pos c_3] at hu
        refine lv_iconst (v := 0) hx hb dX8_best_29 (by decide) ?_
        refine lv_istore (lv' := [(4, .int 0), (0, .ref mM), (1, .int 0), (2, .int w), (3, .int what)]) hx hb dX8_best_30 hl (by decide) rfl (fun ls hl => ?_)
        refine lv_aload_n hx hb dX8_best_32 rfl (lv_at hl 1 rfl) ?_
        refine lv_iload_n hx hb dX8_best_33 rfl (lv_at hl 2 rfl) ?_
        refine lv_iload_n hx hb dX8_best_34 rfl (lv_at hl 3 rfl) ?_
        refine lv_iconst (v := 0) hx hb dX8_best_35 (by decide) ?_
        obtain ⟨u_4_0, u_4_1, u_4_2, hr_4⟩ := bEx3 (s_swingsBy8_0 nw az w 0)
        rw [hr_4] at hu
        dsimp only at hu
        have swK_0_4 := swK_0 hr_4
        refine bVI (As := [.int 0, .int w, .int 0]) (rest := []) (wc := [(mM, .inr (8, [.ref mN, .ref mR, .ref mA, .ref mP, .int ch, .ref mT, .int le, .int sp, .ref mD])), (mN, .inl (cyI, 515, .inl nw)), (mA, .inl (cyI, 33, .inl az))]) (w1 := [(mM, .inr (8, [.ref mN, .ref mR, .ref mA, .ref mP, .int ch, .ref mT, .int le, .int sp, .ref mD])), (mN, .inl (cyI, 515, .inl u_4_1)), (mA, .inl (cyI, 33, .inl u_4_2))]) (ws' := [(mM, .inr (8, [.ref mN, .ref mR, .ref mA, .ref mP, .int ch, .ref mT, .int le, .int sp, .ref mD])), (mN, .inl (cyI, 515, .inl u_4_1)), (mA, .inl (cyI, 33, .inl u_4_2))]) (ad := [mM, mN, mA]) (wr := []) (nn := 3) (ci := 8) (q0 := 0) X Y (c_swingsBy8_0 l D cyC cyI mM mN mR mA mP mT mD ch le sp nw az w 0 u_4_0 u_4_1 u_4_2 hr_4 (by first | assumption | omega | decide)) gX8_best_X8_swingsBy rfl ⟨rfl, rfl⟩ hd_X8_swingsBy ⟨(Nat.le_of_ble_eq_true rfl), (Nat.le_of_ble_eq_true rfl)⟩ rfl rfl rfl [0, 1, 2] [] rfl rfl rfl rfl rfl rfl rfl rfl (by decide) rfl rfl hl.1 (Nat.le_of_ble_eq_true rfl) ⟨Nat.zero_le _, Nat.zero_le _⟩ dX8_best_36 (fun H locs Y => ?_)
        refine lv_istore (lv' := [(5, .int u_4_0), (4, .int 0), (0, .ref mM), (1, .int 0), (2, .int w), (3, .int what)]) hx hb dX8_best_39 hl (by decide) rfl (fun ls hl => ?_)
        refine lv_iconst (v := 1) hx hb dX8_best_41 (by decide) ?_
        refine lv_istore (lv' := [(6, .int 1), (5, .int u_4_0), (4, .int 0), (0, .ref mM), (1, .int 0), (2, .int w), (3, .int what)]) hx hb dX8_best_42 hl (by decide) rfl (fun ls hl => ?_)
        exact lp_best8_0 l D cyC cyI mM mN mR mA mP mT mD ch le sp nw az w what o0 o1 o2 X hr hlk hG (21) 1 u_4_1 u_4_2 0 u_4_0 (by omega) (by omega) (GI_congr swK_0_4 hG) hu _ _ _ (lv_sub hl [3, 4, 5, 6, 2, 1, 0] rfl) Y
      · have c_3 := bB_f c_3
        rw [if_neg c_3] at hu
        refine lv_iconst (v := (-1)) hx hb dX8_best_27 (by decide) ?_
        have h9 := (Prod.mk.inj hu).1; replace hu := (Prod.mk.inj hu).2; subst h9
        have h9 := (Prod.mk.inj hu).1; replace hu := (Prod.mk.inj hu).2; subst h9
        subst hu
        exact bEndI X Y hr hlk dX8_best_28 rfl rfl
def g_best8_1 (w : Int32) (what : Int32) : Nat → Nat → (Nat → Int32) → (Nat → Int32) → Int32 → Int32 → Int32 × (Nat → Int32) × (Nat → Int32)
  | 0, _, _, _, _, _ => (0, fun _ => 0, fun _ => 0)
  | n_ + 1, j, ng, ag, fo, lst =>
    if 20 < nI j then
      if what = 0 then
        (fo, ng, ag)
      else
        (lst, ng, ag)
    else
      match s_swingsBy8_1 ng ag w (nI j) with
      | (u_3_0, u_3_1, u_3_2) =>
        if lst ≤ u_3_0 then
          g_best8_1 w what n_ (j + 1) u_3_1 u_3_2 fo lst
        else
          g_best8_1 w what n_ (j + 1) u_3_1 u_3_2 (nI j) u_3_0
def s_best8_1 (nw : Nat → Int32) (az : Nat → Int32) (w : Int32) (what : Int32) : Int32 × (Nat → Int32) × (Nat → Int32) :=
  if (s_isCrane8 1) = true then
    if (s_in8 w (-40) 40) = true then
      if (s_in8 what 0 1) = true then
        match s_swingsBy8_1 nw az w 0 with
        | (u_4_0, u_4_1, u_4_2) =>
          g_best8_1 w what (21) 1 u_4_1 u_4_2 0 u_4_0
      else
        ((-1), nw, az)
    else
      ((-1), nw, az)
  else
    ((-1), nw, az)
set_option maxHeartbeats 4000000 in
set_option maxRecDepth 100000 in
theorem lp_best8_1 {p_ : Program} {e_ : Env} {s_ : State} {m_ : MethodId} {bl_ : List Frame} {me_ : Method} {cd_ : Code} {A_ : Nat → Prop} (l : Launch) (D : va_G) (cyC cyI : ClassId) (mM : Nat) (mN : Nat) (mR : Nat) (mA : Nat) (mP : Nat) (mT : Nat) (mD : Nat) (ch : Int32) (le : Int32) (sp : Int32) (nw : Nat → Int32) (az : Nat → Int32) (w : Int32) (what : Int32) (o0 : Int32) (o1 : Nat → Int32) (o2 : Nat → Int32) (X : bX p_ s_ m_ ([.ref mM, .int 1, .int w, .int what] : List Value).toArray cd_ cX8_best 8 wsX8_best yX8_best.cls D cyC cyI) (hr : me_.sig.returnType = (some .int)) (hlk : me_.locks = false) (hG : GI nw) : ∀ (n_ : Nat) (j : Nat) (ng : Nat → Int32) (ag : Nat → Int32) (fo : Int32) (lst : Int32) (hN : 22 ≤ j + n_) (hJ : j ≤ 21) (hG : GI ng) (hu : g_best8_1 w what n_ j ng ag fo lst = (o0, o1, o2)) (ls : Array Slot) (H : Heap) (locs : List Loc), lv_has ls 8 [(0, .ref mM), (1, .int 1), (2, .int w), (3, .int what), (4, .int fo), (5, .int lst), (6, .int (nI j))] → bY D A_ s_.heap [(mM, .inr (8, [.ref mN, .ref mR, .ref mA, .ref mP, .int ch, .ref mT, .int le, .int sp, .ref mD])), (mN, .inl (cyI, 515, .inl ng)), (mA, .inl (cyI, 33, .inl ag))] H locs → W p_ l e_ ({ frames := 6, cells := 0, slots := 0, locals := 137 } : Room) s_ m_ ([.ref mM, .int 1, .int w, .int what] : List Value).toArray bl_ me_ cd_ H locs 0 0 (bQI bl_ ([.ref mM, .int 1, .int w, .int what] : List Value).toArray s_ D [(mM, .inr (8, [.ref mN, .ref mR, .ref mA, .ref mP, .int ch, .ref mT, .int le, .int sp, .ref mD])), (mN, .inl (cyI, 515, .inl o1)), (mA, .inl (cyI, 33, .inl o2))] o0 A_) (F0 m_ 44 ls []) := by
  intro n_
  induction n_ with
  | zero =>
    intro j ng ag fo lst hN hJ hG hu ls H locs hl Y
    exfalso; omega
  | succ n_ ih =>
    intro j ng ag fo lst hN hJ hG hu ls H locs hl Y
    have hx := X.1.1
    have hb := X.1.2.1
    rw [g_best8_1] at hu
    refine lv_iload hx hb dX8_best_44 (lv_at hl 6 rfl) ?_
    refine lv_bipush (v := 20) hx hb dX8_best_46 (by decide) ?_
    refine lv_icmp_gt (tgt := 99) hx hb dX8_best_48 (by decide) (fun c_1 => ?_) (fun c_1 => ?_)
    · have c_1 : 20 < nI j := c_1
      rw [if_pos c_1] at hu
      refine lv_iload_n hx hb dX8_best_99 rfl (lv_at hl 3 rfl) ?_
      refine lv_if_ne (tgt := 108) hx hb dX8_best_100 (by decide) (fun c_2 => ?_) (fun c_2 => ?_)
      · have c_2 : ¬ (what = 0) := c_2
        rw [if_neg c_2] at hu
        refine lv_iload hx hb dX8_best_108 (lv_at hl 5 rfl) ?_
        have h9 := (Prod.mk.inj hu).1; replace hu := (Prod.mk.inj hu).2; subst h9
        have h9 := (Prod.mk.inj hu).1; replace hu := (Prod.mk.inj hu).2; subst h9
        subst hu
        exact bEndI X Y hr hlk dX8_best_110 rfl rfl
      · have c_2 : what = 0 := c_2
        rw [if_pos c_2] at hu
        refine lv_iload hx hb dX8_best_103 (lv_at hl 4 rfl) ?_
        refine lv_goto (tgt := 110) hx hb dX8_best_105 (by decide) ?_
        have h9 := (Prod.mk.inj hu).1; replace hu := (Prod.mk.inj hu).2; subst h9
        have h9 := (Prod.mk.inj hu).1; replace hu := (Prod.mk.inj hu).2; subst h9
        subst hu
        exact bEndI X Y hr hlk dX8_best_110 rfl rfl
    · have c_1 : ¬ (20 < nI j) := c_1
      rw [if_neg c_1] at hu
      refine lv_aload_n hx hb dX8_best_51 rfl (lv_at hl 0 rfl) ?_
      refine lv_iload_n hx hb dX8_best_52 rfl (lv_at hl 1 rfl) ?_
      refine lv_iload_n hx hb dX8_best_53 rfl (lv_at hl 2 rfl) ?_
      refine lv_iload hx hb dX8_best_54 (lv_at hl 6 rfl) ?_
      obtain ⟨u_3_0, u_3_1, u_3_2, hr_3⟩ := bEx3 (s_swingsBy8_1 ng ag w (nI j))
      rw [hr_3] at hu
      dsimp only at hu
      have swK_1_3 := swK_1 hr_3
      refine bVI (As := [.int 1, .int w, .int (nI j)]) (rest := []) (wc := [(mM, .inr (8, [.ref mN, .ref mR, .ref mA, .ref mP, .int ch, .ref mT, .int le, .int sp, .ref mD])), (mN, .inl (cyI, 515, .inl ng)), (mA, .inl (cyI, 33, .inl ag))]) (w1 := [(mM, .inr (8, [.ref mN, .ref mR, .ref mA, .ref mP, .int ch, .ref mT, .int le, .int sp, .ref mD])), (mN, .inl (cyI, 515, .inl u_3_1)), (mA, .inl (cyI, 33, .inl u_3_2))]) (ws' := [(mM, .inr (8, [.ref mN, .ref mR, .ref mA, .ref mP, .int ch, .ref mT, .int le, .int sp, .ref mD])), (mN, .inl (cyI, 515, .inl u_3_1)), (mA, .inl (cyI, 33, .inl u_3_2))]) (ad := [mM, mN, mA]) (wr := []) (nn := 3) (ci := 8) (q0 := 0) X Y (c_swingsBy8_1 l D cyC cyI mM mN mR mA mP mT mD ch le sp ng ag w (nI j) u_3_0 u_3_1 u_3_2 hr_3 (by first | assumption | omega | decide)) gX8_best_X8_swingsBy rfl ⟨rfl, rfl⟩ hd_X8_swingsBy ⟨(Nat.le_of_ble_eq_true rfl), (Nat.le_of_ble_eq_true rfl)⟩ rfl rfl rfl [0, 1, 2] [] rfl rfl rfl rfl rfl rfl rfl rfl (by decide) rfl rfl hl.1 (Nat.le_of_ble_eq_true rfl) ⟨Nat.zero_le _, Nat.zero_le _⟩ dX8_best_56 (fun H locs Y => ?_)
      refine lv_istore (lv' := [(7, .int u_3_0), (0, .ref mM), (1, .int 1), (2, .int w), (3, .int what), (4, .int fo), (5, .int lst), (6, .int (nI j))]) hx hb dX8_best_59 hl (by decide) rfl (fun ls hl => ?_)
      refine lv_iload hx hb dX8_best_61 (lv_at hl 0 rfl) ?_
      refine lv_iload hx hb dX8_best_63 (lv_at hl 6 rfl) ?_
      refine lv_icmp_ge (tgt := 73) hx hb dX8_best_65 (by decide) (fun c_4 => ?_) (fun c_4 => ?_)
      · have c_4 : lst ≤ u_3_0 := c_4
        rw [if_pos c_4] at hu
        refine lv_iload hx hb dX8_best_73 (lv_at hl 5 rfl) ?_
        refine lv_istore (lv' := [(4, .int fo), (7, .int u_3_0), (0, .ref mM), (1, .int 1), (2, .int w), (3, .int what), (5, .int lst), (6, .int (nI j))]) hx hb dX8_best_75 hl (by decide) rfl (fun ls hl => ?_)
        refine lv_iload hx hb dX8_best_77 (lv_at hl 1 rfl) ?_
        refine lv_iload hx hb dX8_best_79 (lv_at hl 6 rfl) ?_
        refine lv_icmp_ge (tgt := 89) hx hb dX8_best_81 (by decide) (fun c_5 => ?_) (fun c_5 => ?_)
        · have c_5 : lst ≤ u_3_0 := c_5
          refine lv_iload hx hb dX8_best_89 (lv_at hl 6 rfl) ?_
          refine lv_istore (lv' := [(5, .int lst), (4, .int fo), (7, .int u_3_0), (0, .ref mM), (1, .int 1), (2, .int w), (3, .int what), (6, .int (nI j))]) hx hb dX8_best_91 hl (by decide) rfl (fun ls hl => ?_)
          refine lv_iinc (v := nI (j + 1)) (lv' := [(6, .int (nI (j + 1))), (5, .int lst), (4, .int fo), (7, .int u_3_0), (0, .ref mM), (1, .int 1), (2, .int w), (3, .int what)]) hx hb dX8_best_93 hl (k := 7) rfl (nI_inc _) (by decide) rfl (fun ls hl => ?_)
          refine lv_goto (tgt := 44) hx hb dX8_best_96 (by decide) ?_
          exact ih (j + 1) u_3_1 u_3_2 fo lst (by omega) (by have h9 := bNlt (k := 20) rfl (by omega) (by decide) c_1; omega) (GI_congr swK_1_3 hG) hu _ _ _ (lv_sub hl [4, 5, 6, 7, 2, 1, 0] rfl) Y
        · have c_5 : ¬ (lst ≤ u_3_0) := c_5
          exact absurd c_4 c_5
      · have c_4 : ¬ (lst ≤ u_3_0) := c_4
        rw [if_neg c_4] at hu
        refine lv_iload hx hb dX8_best_68 (lv_at hl 7 rfl) ?_
        refine lv_goto (tgt := 75) hx hb dX8_best_70 (by decide) ?_
        refine lv_istore (lv' := [(4, .int (nI j)), (7, .int u_3_0), (0, .ref mM), (1, .int 1), (2, .int w), (3, .int what), (5, .int lst), (6, .int (nI j))]) hx hb dX8_best_75 hl (by decide) rfl (fun ls hl => ?_)
        refine lv_iload hx hb dX8_best_77 (lv_at hl 1 rfl) ?_
        refine lv_iload hx hb dX8_best_79 (lv_at hl 6 rfl) ?_
        refine lv_icmp_ge (tgt := 89) hx hb dX8_best_81 (by decide) (fun c_6 => ?_) (fun c_6 => ?_)
        · have c_6 : lst ≤ u_3_0 := c_6
          exact absurd c_6 c_4
        · have c_6 : ¬ (lst ≤ u_3_0) := c_6
          refine lv_iload hx hb dX8_best_84 (lv_at hl 1 rfl) ?_
          refine lv_goto (tgt := 91) hx hb dX8_best_86 (by decide) ?_
          refine lv_istore (lv' := [(5, .int u_3_0), (4, .int (nI j)), (7, .int u_3_0), (0, .ref mM), (1, .int 1), (2, .int w), (3, .int what), (6, .int (nI j))]) hx hb dX8_best_91 hl (by decide) rfl (fun ls hl => ?_)
          refine lv_iinc (v := nI (j + 1)) (lv' := [(6, .int (nI (j + 1))), (5, .int u_3_0), (4, .int (nI j)), (7, .int u_3_0), (0, .ref mM), (1, .int 1), (2, .int w), (3, .int what)]) hx hb dX8_best_93 hl (k := 7) rfl (nI_inc _) (by decide) rfl (fun ls hl => ?_)
          refine lv_goto (tgt := 44) hx hb dX8_best_96 (by decide) ?_
          exact ih (j + 1) u_3_1 u_3_2 (nI j) u_3_0 (by omega) (by have h9 := bNlt (k := 20) rfl (by omega) (by decide) c_1; omega) (GI_congr swK_1_3 hG) hu _ _ _ (lv_sub hl [4, 5, 6, 7, 2, 1, 0] rfl) Y
set_option maxHeartbeats 4000000 in
set_option maxRecDepth 100000 in
theorem c_best8_1 (l : Launch) (D : va_G) (cyC cyI : ClassId) (mM : Nat) (mN : Nat) (mR : Nat) (mA : Nat) (mP : Nat) (mT : Nat) (mD : Nat) (ch : Int32) (le : Int32) (sp : Int32) (nw : Nat → Int32) (az : Nat → Int32) (w : Int32) (what : Int32) (o0 : Int32) (o1 : Nat → Int32) (o2 : Nat → Int32) (hu : s_best8_1 nw az w what = (o0, o1, o2)) (hG : GI nw) : CI l yX8_best wsX8_best { frames := 6, cells := 0, slots := 0, locals := 137 } D cyC cyI [.ref mM, .int 1, .int w, .int what] [(mM, .inr (8, [.ref mN, .ref mR, .ref mA, .ref mP, .int ch, .ref mT, .int le, .int sp, .ref mD])), (mN, .inl (cyI, 515, .inl nw)), (mA, .inl (cyI, 33, .inl az))] o0 [(mM, .inr (8, [.ref mN, .ref mR, .ref mA, .ref mP, .int ch, .ref mT, .int le, .int sp, .ref mD])), (mN, .inl (cyI, 515, .inl o1)), (mA, .inl (cyI, 33, .inl o2))] := by
  refine CI.of (cc := cX8_best) (n := 8) (ret := (some .int)) (by decide +kernel) rfl (Nat.le_of_ble_eq_true rfl) ?_
  intro p_ e_ s_ m_ bl_ me_ cd_ A_ ls X Y hr hlk hl
  have hx := X.1.1
  have hb := X.1.2.1
  have hl : lv_has ls 8 [(0, .ref mM), (1, .int 1), (2, .int w), (3, .int what)] := hl
  unfold s_best8_1 at hu
  refine lv_iload_n hx hb dX8_best_0 rfl (lv_at hl 1 rfl) ?_
  refine bSI (As := [.int 1]) (rest := []) X Y (c_isCrane8 l D cyC cyI 1 (s_isCrane8 1) rfl) gX8_best_X8_isCrane rfl ⟨rfl, rfl⟩ hd_X8_isCrane.2 ⟨(Nat.le_of_ble_eq_true rfl), (Nat.le_of_ble_eq_true rfl)⟩ rfl rfl hl.1 (Nat.le_of_ble_eq_true rfl) ⟨Nat.zero_le _, Nat.zero_le _⟩ dX8_best_1 (fun H locs Y => ?_)
  refine lv_if_eq (tgt := 27) hx hb dX8_best_4 (by decide) (fun c_1 => ?_) (fun c_1 => ?_)
  · have c_1 := bB_f c_1
    rw [if_neg c_1] at hu
    refine lv_iconst (v := (-1)) hx hb dX8_best_27 (by decide) ?_
    have h9 := (Prod.mk.inj hu).1; replace hu := (Prod.mk.inj hu).2; subst h9
    have h9 := (Prod.mk.inj hu).1; replace hu := (Prod.mk.inj hu).2; subst h9
    subst hu
    exact bEndI X Y hr hlk dX8_best_28 rfl rfl
  · have c_1 := bB_t c_1
    rw [if_pos c_1] at hu
    refine lv_iload_n hx hb dX8_best_7 rfl (lv_at hl 2 rfl) ?_
    refine lv_bipush (v := (-40)) hx hb dX8_best_8 (by decide) ?_
    refine lv_bipush (v := 40) hx hb dX8_best_10 (by decide) ?_
    refine bSI (As := [.int w, .int (-40), .int 40]) (rest := []) X Y (c_in8 l D cyC cyI w (-40) 40 (s_in8 w (-40) 40) rfl) gX8_best_X8_in rfl ⟨rfl, rfl⟩ hd_X8_in.2 ⟨(Nat.le_of_ble_eq_true rfl), (Nat.le_of_ble_eq_true rfl)⟩ rfl rfl hl.1 (Nat.le_of_ble_eq_true rfl) ⟨Nat.zero_le _, Nat.zero_le _⟩ dX8_best_12 (fun H locs Y => ?_)
    refine lv_if_eq (tgt := 27) hx hb dX8_best_15 (by decide) (fun c_2 => ?_) (fun c_2 => ?_)
    · have c_2 := bB_f c_2
      rw [if_neg c_2] at hu
      refine lv_iconst (v := (-1)) hx hb dX8_best_27 (by decide) ?_
      have h9 := (Prod.mk.inj hu).1; replace hu := (Prod.mk.inj hu).2; subst h9
      have h9 := (Prod.mk.inj hu).1; replace hu := (Prod.mk.inj hu).2; subst h9
      subst hu
      exact bEndI X Y hr hlk dX8_best_28 rfl rfl
    · have c_2 := bB_t c_2
      rw [if_pos c_2] at hu
      refine lv_iload_n hx hb dX8_best_18 rfl (lv_at hl 3 rfl) ?_
      refine lv_iconst (v := 0) hx hb dX8_best_19 (by decide) ?_
      refine lv_iconst (v := 1) hx hb dX8_best_20 (by decide) ?_
      refine bSI (As := [.int what, .int 0, .int 1]) (rest := []) X Y (c_in8 l D cyC cyI what 0 1 (s_in8 what 0 1) rfl) gX8_best_X8_in rfl ⟨rfl, rfl⟩ hd_X8_in.2 ⟨(Nat.le_of_ble_eq_true rfl), (Nat.le_of_ble_eq_true rfl)⟩ rfl rfl hl.1 (Nat.le_of_ble_eq_true rfl) ⟨Nat.zero_le _, Nat.zero_le _⟩ dX8_best_21 (fun H locs Y => ?_)
      refine lv_if_ne (tgt := 29) hx hb dX8_best_24 (by decide) (fun c_3 => ?_) (fun c_3 => ?_)
      · have c_3 := bB_t c_3
        rw [if_pos c_3] at hu
        refine lv_iconst (v := 0) hx hb dX8_best_29 (by decide) ?_
        refine lv_istore (lv' := [(4, .int 0), (0, .ref mM), (1, .int 1), (2, .int w), (3, .int what)]) hx hb dX8_best_30 hl (by decide) rfl (fun ls hl => ?_)
        refine lv_aload_n hx hb dX8_best_32 rfl (lv_at hl 1 rfl) ?_
        refine lv_iload_n hx hb dX8_best_33 rfl (lv_at hl 2 rfl) ?_
        refine lv_iload_n hx hb dX8_best_34 rfl (lv_at hl 3 rfl) ?_
        refine lv_iconst (v := 0) hx hb dX8_best_35 (by decide) ?_
        obtain ⟨u_4_0, u_4_1, u_4_2, hr_4⟩ := bEx3 (s_swingsBy8_1 nw az w 0)
        rw [hr_4] at hu
        dsimp only at hu
        have swK_1_4 := swK_1 hr_4
        refine bVI (As := [.int 1, .int w, .int 0]) (rest := []) (wc := [(mM, .inr (8, [.ref mN, .ref mR, .ref mA, .ref mP, .int ch, .ref mT, .int le, .int sp, .ref mD])), (mN, .inl (cyI, 515, .inl nw)), (mA, .inl (cyI, 33, .inl az))]) (w1 := [(mM, .inr (8, [.ref mN, .ref mR, .ref mA, .ref mP, .int ch, .ref mT, .int le, .int sp, .ref mD])), (mN, .inl (cyI, 515, .inl u_4_1)), (mA, .inl (cyI, 33, .inl u_4_2))]) (ws' := [(mM, .inr (8, [.ref mN, .ref mR, .ref mA, .ref mP, .int ch, .ref mT, .int le, .int sp, .ref mD])), (mN, .inl (cyI, 515, .inl u_4_1)), (mA, .inl (cyI, 33, .inl u_4_2))]) (ad := [mM, mN, mA]) (wr := []) (nn := 3) (ci := 8) (q0 := 0) X Y (c_swingsBy8_1 l D cyC cyI mM mN mR mA mP mT mD ch le sp nw az w 0 u_4_0 u_4_1 u_4_2 hr_4 (by first | assumption | omega | decide)) gX8_best_X8_swingsBy rfl ⟨rfl, rfl⟩ hd_X8_swingsBy ⟨(Nat.le_of_ble_eq_true rfl), (Nat.le_of_ble_eq_true rfl)⟩ rfl rfl rfl [0, 1, 2] [] rfl rfl rfl rfl rfl rfl rfl rfl (by decide) rfl rfl hl.1 (Nat.le_of_ble_eq_true rfl) ⟨Nat.zero_le _, Nat.zero_le _⟩ dX8_best_36 (fun H locs Y => ?_)
        refine lv_istore (lv' := [(5, .int u_4_0), (4, .int 0), (0, .ref mM), (1, .int 1), (2, .int w), (3, .int what)]) hx hb dX8_best_39 hl (by decide) rfl (fun ls hl => ?_)
        refine lv_iconst (v := 1) hx hb dX8_best_41 (by decide) ?_
        refine lv_istore (lv' := [(6, .int 1), (5, .int u_4_0), (4, .int 0), (0, .ref mM), (1, .int 1), (2, .int w), (3, .int what)]) hx hb dX8_best_42 hl (by decide) rfl (fun ls hl => ?_)
        exact lp_best8_1 l D cyC cyI mM mN mR mA mP mT mD ch le sp nw az w what o0 o1 o2 X hr hlk hG (21) 1 u_4_1 u_4_2 0 u_4_0 (by omega) (by omega) (GI_congr swK_1_4 hG) hu _ _ _ (lv_sub hl [3, 4, 5, 6, 2, 1, 0] rfl) Y
      · have c_3 := bB_f c_3
        rw [if_neg c_3] at hu
        refine lv_iconst (v := (-1)) hx hb dX8_best_27 (by decide) ?_
        have h9 := (Prod.mk.inj hu).1; replace hu := (Prod.mk.inj hu).2; subst h9
        have h9 := (Prod.mk.inj hu).1; replace hu := (Prod.mk.inj hu).2; subst h9
        subst hu
        exact bEndI X Y hr hlk dX8_best_28 rfl rfl
def s_ahead8_b (tn : Int32) : Int32 :=
  if (s_in8 tn 1 60) = true then
    (-1)
  else
    (-1)
set_option maxHeartbeats 4000000 in
set_option maxRecDepth 100000 in
theorem c_ahead8_b (l : Launch) (D : va_G) (cyC cyI : ClassId) (mM : Nat) (mN : Nat) (mR : Nat) (mA : Nat) (mP : Nat) (mT : Nat) (mD : Nat) (ch : Int32) (le : Int32) (sp : Int32) (tn : Int32) (c : Int32) (what : Int32) (o0 : Int32) (hu : s_ahead8_b tn = o0) (hc0 : ¬ c = 0) (hc1 : ¬ c = 1) : CI l yX8_ahead wsX8_ahead { frames := 1, cells := 0, slots := 0, locals := 22 } D cyC cyI [.ref mM, .int tn, .int c, .int what] [(mM, .inr (8, [.ref mN, .ref mR, .ref mA, .ref mP, .int ch, .ref mT, .int le, .int sp, .ref mD]))] o0 [(mM, .inr (8, [.ref mN, .ref mR, .ref mA, .ref mP, .int ch, .ref mT, .int le, .int sp, .ref mD]))] := by
  refine CI.of (cc := cX8_ahead) (n := 7) (ret := (some .int)) (by decide +kernel) rfl (Nat.le_of_ble_eq_true rfl) ?_
  intro p_ e_ s_ m_ bl_ me_ cd_ A_ ls X Y hr hlk hl
  have hx := X.1.1
  have hb := X.1.2.1
  have hl : lv_has ls 7 [(0, .ref mM), (1, .int tn), (2, .int c), (3, .int what)] := hl
  unfold s_ahead8_b at hu
  refine lv_iload_n hx hb dX8_ahead_0 rfl (lv_at hl 1 rfl) ?_
  refine lv_iconst (v := 1) hx hb dX8_ahead_1 (by decide) ?_
  refine lv_bipush (v := 60) hx hb dX8_ahead_2 (by decide) ?_
  refine bSI (As := [.int tn, .int 1, .int 60]) (rest := []) X Y (c_in8 l D cyC cyI tn 1 60 (s_in8 tn 1 60) rfl) gX8_ahead_X8_in rfl ⟨rfl, rfl⟩ hd_X8_in.2 ⟨(Nat.le_of_ble_eq_true rfl), (Nat.le_of_ble_eq_true rfl)⟩ rfl rfl hl.1 (Nat.le_of_ble_eq_true rfl) ⟨Nat.zero_le _, Nat.zero_le _⟩ dX8_ahead_4 (fun H locs Y => ?_)
  refine lv_if_eq (tgt := 26) hx hb dX8_ahead_7 (by decide) (fun c_1 => ?_) (fun c_1 => ?_)
  · have c_1 := bB_f c_1
    rw [if_neg c_1] at hu
    refine lv_iconst (v := (-1)) hx hb dX8_ahead_26 (by decide) ?_
    subst hu
    exact bEndI X Y hr hlk dX8_ahead_27 rfl rfl
  · have c_1 := bB_t c_1
    rw [if_pos c_1] at hu
    refine lv_iload_n hx hb dX8_ahead_10 rfl (lv_at hl 2 rfl) ?_
    refine bSI (As := [.int c]) (rest := []) X Y (c_isCrane8 l D cyC cyI c (s_isCrane8 c) rfl) gX8_ahead_X8_isCrane rfl ⟨rfl, rfl⟩ hd_X8_isCrane.2 ⟨(Nat.le_of_ble_eq_true rfl), (Nat.le_of_ble_eq_true rfl)⟩ rfl rfl hl.1 (Nat.le_of_ble_eq_true rfl) ⟨Nat.zero_le _, Nat.zero_le _⟩ dX8_ahead_11 (fun H locs Y => ?_)
    refine lv_if_eq (tgt := 26) hx hb dX8_ahead_14 (by decide) (fun c_2 => ?_) (fun c_2 => ?_)
    · have c_2 := bB_f c_2
      refine lv_iconst (v := (-1)) hx hb dX8_ahead_26 (by decide) ?_
      subst hu
      exact bEndI X Y hr hlk dX8_ahead_27 rfl rfl
    · have c_2 := bB_t c_2
      exact absurd c_2 (isCrane8_no hc0 hc1)
def s_quiet8_b : Int32 :=
  (-1)
set_option maxHeartbeats 4000000 in
set_option maxRecDepth 100000 in
theorem c_quiet8_b (l : Launch) (D : va_G) (cyC cyI : ClassId) (mM : Nat) (mN : Nat) (mR : Nat) (mA : Nat) (mP : Nat) (mT : Nat) (mD : Nat) (ch : Int32) (le : Int32) (sp : Int32) (c : Int32) (o0 : Int32) (hu : s_quiet8_b = o0) (hc0 : ¬ c = 0) (hc1 : ¬ c = 1) : CI l yX8_quiet wsX8_quiet { frames := 1, cells := 0, slots := 0, locals := 20 } D cyC cyI [.ref mM, .int c] [(mM, .inr (8, [.ref mN, .ref mR, .ref mA, .ref mP, .int ch, .ref mT, .int le, .int sp, .ref mD]))] o0 [(mM, .inr (8, [.ref mN, .ref mR, .ref mA, .ref mP, .int ch, .ref mT, .int le, .int sp, .ref mD]))] := by
  refine CI.of (cc := cX8_quiet) (n := 4) (ret := (some .int)) (by decide +kernel) rfl (Nat.le_of_ble_eq_true rfl) ?_
  intro p_ e_ s_ m_ bl_ me_ cd_ A_ ls X Y hr hlk hl
  have hx := X.1.1
  have hb := X.1.2.1
  have hl : lv_has ls 4 [(0, .ref mM), (1, .int c)] := hl
  unfold s_quiet8_b at hu
  refine lv_iload_n hx hb dX8_quiet_0 rfl (lv_at hl 1 rfl) ?_
  refine bSI (As := [.int c]) (rest := []) X Y (c_isCrane8 l D cyC cyI c (s_isCrane8 c) rfl) gX8_quiet_X8_isCrane rfl ⟨rfl, rfl⟩ hd_X8_isCrane.2 ⟨(Nat.le_of_ble_eq_true rfl), (Nat.le_of_ble_eq_true rfl)⟩ rfl rfl hl.1 (Nat.le_of_ble_eq_true rfl) ⟨Nat.zero_le _, Nat.zero_le _⟩ dX8_quiet_1 (fun H locs Y => ?_)
  refine lv_if_ne (tgt := 9) hx hb dX8_quiet_4 (by decide) (fun c_1 => ?_) (fun c_1 => ?_)
  · have c_1 := bB_t c_1
    exact absurd c_1 (isCrane8_no hc0 hc1)
  · have c_1 := bB_f c_1
    refine lv_iconst (v := (-1)) hx hb dX8_quiet_7 (by decide) ?_
    subst hu
    exact bEndI X Y hr hlk dX8_quiet_8 rfl rfl
def s_best8_b : Int32 :=
  (-1)
set_option maxHeartbeats 4000000 in
set_option maxRecDepth 100000 in
theorem c_best8_b (l : Launch) (D : va_G) (cyC cyI : ClassId) (mM : Nat) (mN : Nat) (mR : Nat) (mA : Nat) (mP : Nat) (mT : Nat) (mD : Nat) (ch : Int32) (le : Int32) (sp : Int32) (c : Int32) (w : Int32) (what : Int32) (o0 : Int32) (hu : s_best8_b = o0) (hc0 : ¬ c = 0) (hc1 : ¬ c = 1) : CI l yX8_best wsX8_best { frames := 1, cells := 0, slots := 0, locals := 20 } D cyC cyI [.ref mM, .int c, .int w, .int what] [(mM, .inr (8, [.ref mN, .ref mR, .ref mA, .ref mP, .int ch, .ref mT, .int le, .int sp, .ref mD]))] o0 [(mM, .inr (8, [.ref mN, .ref mR, .ref mA, .ref mP, .int ch, .ref mT, .int le, .int sp, .ref mD]))] := by
  refine CI.of (cc := cX8_best) (n := 8) (ret := (some .int)) (by decide +kernel) rfl (Nat.le_of_ble_eq_true rfl) ?_
  intro p_ e_ s_ m_ bl_ me_ cd_ A_ ls X Y hr hlk hl
  have hx := X.1.1
  have hb := X.1.2.1
  have hl : lv_has ls 8 [(0, .ref mM), (1, .int c), (2, .int w), (3, .int what)] := hl
  unfold s_best8_b at hu
  refine lv_iload_n hx hb dX8_best_0 rfl (lv_at hl 1 rfl) ?_
  refine bSI (As := [.int c]) (rest := []) X Y (c_isCrane8 l D cyC cyI c (s_isCrane8 c) rfl) gX8_best_X8_isCrane rfl ⟨rfl, rfl⟩ hd_X8_isCrane.2 ⟨(Nat.le_of_ble_eq_true rfl), (Nat.le_of_ble_eq_true rfl)⟩ rfl rfl hl.1 (Nat.le_of_ble_eq_true rfl) ⟨Nat.zero_le _, Nat.zero_le _⟩ dX8_best_1 (fun H locs Y => ?_)
  refine lv_if_eq (tgt := 27) hx hb dX8_best_4 (by decide) (fun c_1 => ?_) (fun c_1 => ?_)
  · have c_1 := bB_f c_1
    refine lv_iconst (v := (-1)) hx hb dX8_best_27 (by decide) ?_
    subst hu
    exact bEndI X Y hr hlk dX8_best_28 rfl rfl
  · have c_1 := bB_t c_1
    exact absurd c_1 (isCrane8_no hc0 hc1)
