theorem i_X8_puts_X8 : ∀ w ∈ wsX80, w ∈ wsX8_puts := by decide +kernel
theorem f_X8_puts_13 : Cond.fieldLink RX8 13 "SwingCranesModel" "read" "[I" ∈ wsX8_puts := by decide +kernel
def s_puts8_0 (rd : Nat → Int32) (px : Int32) (pr : Int32) (pl : Int32) : (Nat → Int32) × Unit :=
  (upd (upd (upd (upd rd 7 px) 9 pr) 10 pl) 14 pr, ())
set_option maxHeartbeats 4000000 in
set_option maxRecDepth 100000 in
theorem c_puts8_0 (l : Launch) (D : va_G) (cyC cyI : ClassId) (mM : Nat) (mN : Nat) (mR : Nat) (mA : Nat) (mP : Nat) (mT : Nat) (mD : Nat) (ch : Int32) (le : Int32) (sp : Int32) (rd : Nat → Int32) (px : Int32) (pr : Int32) (pl : Int32) (o0 : Nat → Int32) (hu : s_puts8_0 rd px pr pl = (o0, ())) : CV l yX8_puts wsX8_puts { frames := 0, cells := 0, slots := 0, locals := 0 } D cyC cyI [.ref mM, .int 0, .int px, .int pr, .int pl] [(mM, .inr (8, [.ref mN, .ref mR, .ref mA, .ref mP, .int ch, .ref mT, .int le, .int sp, .ref mD])), (mR, .inl (cyI, 515, .inl rd))] [(mM, .inr (8, [.ref mN, .ref mR, .ref mA, .ref mP, .int ch, .ref mT, .int le, .int sp, .ref mD])), (mR, .inl (cyI, 515, .inl o0))] := by
  refine CV.of (cc := cX8_puts) (n := 6) (ret := none) (by decide +kernel) rfl (Nat.le_of_ble_eq_true rfl) ?_
  intro p_ e_ s_ m_ bl_ me_ cd_ A_ ls X Y hr hlk hl
  have hx := X.1.1
  have hb := X.1.2.1
  have hl : lv_has ls 6 [(0, .ref mM), (1, .int 0), (2, .int px), (3, .int pr), (4, .int pl)] := hl
  unfold s_puts8_0 at hu
  refine lv_bipush (v := 7) hx hb dX8_puts_0 (by decide) ?_
  refine lv_bipush (v := 13) hx hb dX8_puts_2 (by decide) ?_
  refine lv_iload_n hx hb dX8_puts_4 rfl (lv_at hl 1 rfl) ?_
  refine bMul (v := 0) X dX8_puts_5 (by decide) ?_
  refine bAdd (v := 7) X dX8_puts_6 (by decide) ?_
  refine lv_istore (lv' := [(5, .int 7), (0, .ref mM), (1, .int 0), (2, .int px), (3, .int pr), (4, .int pl)]) hx hb dX8_puts_7 hl (by decide) rfl (fun ls hl => ?_)
  refine lv_aload_n hx hb dX8_puts_9 rfl (lv_at hl 1 rfl) ?_
  refine bGet (v := .ref mR) (T := TX8) (N := 9) (ci := 8) X Y i_X8_puts_X8 0 rfl rfl 1 (Nat.le_of_ble_eq_true rfl) f_X8_puts_13 rfl rfl dX8_puts_10 ?_
  refine lv_iload hx hb dX8_puts_13 (lv_at hl 0 rfl) ?_
  refine lv_iconst (v := 0) hx hb dX8_puts_15 (by decide) ?_
  refine bAdd (v := 7) X dX8_puts_16 (by decide) ?_
  refine lv_iload_n hx hb dX8_puts_17 rfl (lv_at hl 3 rfl) ?_
  refine bIast (f' := upd rd 7 px) (ws' := [(mM, .inr (8, [.ref mN, .ref mR, .ref mA, .ref mP, .int ch, .ref mT, .int le, .int sp, .ref mD])), (mR, .inl (cyI, 515, .inl (upd rd 7 px)))]) X Y 1 rfl (bInD (by decide)) rfl rfl dX8_puts_18 (fun H locs Y => ?_)
  refine lv_aload_n hx hb dX8_puts_19 rfl (lv_at hl 1 rfl) ?_
  refine bGet (v := .ref mR) (T := TX8) (N := 9) (ci := 8) X Y i_X8_puts_X8 0 rfl rfl 1 (Nat.le_of_ble_eq_true rfl) f_X8_puts_13 rfl rfl dX8_puts_20 ?_
  refine lv_iload hx hb dX8_puts_23 (lv_at hl 0 rfl) ?_
  refine lv_iconst (v := 2) hx hb dX8_puts_25 (by decide) ?_
  refine bAdd (v := 9) X dX8_puts_26 (by decide) ?_
  refine lv_iload_n hx hb dX8_puts_27 rfl (lv_at hl 4 rfl) ?_
  refine bIast (f' := upd (upd rd 7 px) 9 pr) (ws' := [(mM, .inr (8, [.ref mN, .ref mR, .ref mA, .ref mP, .int ch, .ref mT, .int le, .int sp, .ref mD])), (mR, .inl (cyI, 515, .inl (upd (upd rd 7 px) 9 pr)))]) X Y 1 rfl (bInD (by decide)) rfl rfl dX8_puts_28 (fun H locs Y => ?_)
  refine lv_aload_n hx hb dX8_puts_29 rfl (lv_at hl 1 rfl) ?_
  refine bGet (v := .ref mR) (T := TX8) (N := 9) (ci := 8) X Y i_X8_puts_X8 0 rfl rfl 1 (Nat.le_of_ble_eq_true rfl) f_X8_puts_13 rfl rfl dX8_puts_30 ?_
  refine lv_iload hx hb dX8_puts_33 (lv_at hl 0 rfl) ?_
  refine lv_iconst (v := 3) hx hb dX8_puts_35 (by decide) ?_
  refine bAdd (v := 10) X dX8_puts_36 (by decide) ?_
  refine lv_iload hx hb dX8_puts_37 (lv_at hl 5 rfl) ?_
  refine bIast (f' := upd (upd (upd rd 7 px) 9 pr) 10 pl) (ws' := [(mM, .inr (8, [.ref mN, .ref mR, .ref mA, .ref mP, .int ch, .ref mT, .int le, .int sp, .ref mD])), (mR, .inl (cyI, 515, .inl (upd (upd (upd rd 7 px) 9 pr) 10 pl)))]) X Y 1 rfl (bInD (by decide)) rfl rfl dX8_puts_39 (fun H locs Y => ?_)
  refine lv_aload_n hx hb dX8_puts_40 rfl (lv_at hl 1 rfl) ?_
  refine bGet (v := .ref mR) (T := TX8) (N := 9) (ci := 8) X Y i_X8_puts_X8 0 rfl rfl 1 (Nat.le_of_ble_eq_true rfl) f_X8_puts_13 rfl rfl dX8_puts_41 ?_
  refine lv_iload hx hb dX8_puts_44 (lv_at hl 0 rfl) ?_
  refine lv_bipush (v := 7) hx hb dX8_puts_46 (by decide) ?_
  refine bAdd (v := 14) X dX8_puts_48 (by decide) ?_
  refine lv_iload_n hx hb dX8_puts_49 rfl (lv_at hl 4 rfl) ?_
  refine bIast (f' := upd (upd (upd (upd rd 7 px) 9 pr) 10 pl) 14 pr) (ws' := [(mM, .inr (8, [.ref mN, .ref mR, .ref mA, .ref mP, .int ch, .ref mT, .int le, .int sp, .ref mD])), (mR, .inl (cyI, 515, .inl (upd (upd (upd (upd rd 7 px) 9 pr) 10 pl) 14 pr)))]) X Y 1 rfl (bInD (by decide)) rfl rfl dX8_puts_50 (fun H locs Y => ?_)
  have h9 := (Prod.mk.inj hu).1
  subst h9
  exact bEndV X Y hr hlk dX8_puts_51 rfl
def s_puts8_1 (rd : Nat → Int32) (px : Int32) (pr : Int32) (pl : Int32) : (Nat → Int32) × Unit :=
  (upd (upd (upd (upd rd 20 px) 22 pr) 23 pl) 27 pr, ())
set_option maxHeartbeats 4000000 in
set_option maxRecDepth 100000 in
theorem c_puts8_1 (l : Launch) (D : va_G) (cyC cyI : ClassId) (mM : Nat) (mN : Nat) (mR : Nat) (mA : Nat) (mP : Nat) (mT : Nat) (mD : Nat) (ch : Int32) (le : Int32) (sp : Int32) (rd : Nat → Int32) (px : Int32) (pr : Int32) (pl : Int32) (o0 : Nat → Int32) (hu : s_puts8_1 rd px pr pl = (o0, ())) : CV l yX8_puts wsX8_puts { frames := 0, cells := 0, slots := 0, locals := 0 } D cyC cyI [.ref mM, .int 1, .int px, .int pr, .int pl] [(mM, .inr (8, [.ref mN, .ref mR, .ref mA, .ref mP, .int ch, .ref mT, .int le, .int sp, .ref mD])), (mR, .inl (cyI, 515, .inl rd))] [(mM, .inr (8, [.ref mN, .ref mR, .ref mA, .ref mP, .int ch, .ref mT, .int le, .int sp, .ref mD])), (mR, .inl (cyI, 515, .inl o0))] := by
  refine CV.of (cc := cX8_puts) (n := 6) (ret := none) (by decide +kernel) rfl (Nat.le_of_ble_eq_true rfl) ?_
  intro p_ e_ s_ m_ bl_ me_ cd_ A_ ls X Y hr hlk hl
  have hx := X.1.1
  have hb := X.1.2.1
  have hl : lv_has ls 6 [(0, .ref mM), (1, .int 1), (2, .int px), (3, .int pr), (4, .int pl)] := hl
  unfold s_puts8_1 at hu
  refine lv_bipush (v := 7) hx hb dX8_puts_0 (by decide) ?_
  refine lv_bipush (v := 13) hx hb dX8_puts_2 (by decide) ?_
  refine lv_iload_n hx hb dX8_puts_4 rfl (lv_at hl 1 rfl) ?_
  refine bMul (v := 13) X dX8_puts_5 (by decide) ?_
  refine bAdd (v := 20) X dX8_puts_6 (by decide) ?_
  refine lv_istore (lv' := [(5, .int 20), (0, .ref mM), (1, .int 1), (2, .int px), (3, .int pr), (4, .int pl)]) hx hb dX8_puts_7 hl (by decide) rfl (fun ls hl => ?_)
  refine lv_aload_n hx hb dX8_puts_9 rfl (lv_at hl 1 rfl) ?_
  refine bGet (v := .ref mR) (T := TX8) (N := 9) (ci := 8) X Y i_X8_puts_X8 0 rfl rfl 1 (Nat.le_of_ble_eq_true rfl) f_X8_puts_13 rfl rfl dX8_puts_10 ?_
  refine lv_iload hx hb dX8_puts_13 (lv_at hl 0 rfl) ?_
  refine lv_iconst (v := 0) hx hb dX8_puts_15 (by decide) ?_
  refine bAdd (v := 20) X dX8_puts_16 (by decide) ?_
  refine lv_iload_n hx hb dX8_puts_17 rfl (lv_at hl 3 rfl) ?_
  refine bIast (f' := upd rd 20 px) (ws' := [(mM, .inr (8, [.ref mN, .ref mR, .ref mA, .ref mP, .int ch, .ref mT, .int le, .int sp, .ref mD])), (mR, .inl (cyI, 515, .inl (upd rd 20 px)))]) X Y 1 rfl (bInD (by decide)) rfl rfl dX8_puts_18 (fun H locs Y => ?_)
  refine lv_aload_n hx hb dX8_puts_19 rfl (lv_at hl 1 rfl) ?_
  refine bGet (v := .ref mR) (T := TX8) (N := 9) (ci := 8) X Y i_X8_puts_X8 0 rfl rfl 1 (Nat.le_of_ble_eq_true rfl) f_X8_puts_13 rfl rfl dX8_puts_20 ?_
  refine lv_iload hx hb dX8_puts_23 (lv_at hl 0 rfl) ?_
  refine lv_iconst (v := 2) hx hb dX8_puts_25 (by decide) ?_
  refine bAdd (v := 22) X dX8_puts_26 (by decide) ?_
  refine lv_iload_n hx hb dX8_puts_27 rfl (lv_at hl 4 rfl) ?_
  refine bIast (f' := upd (upd rd 20 px) 22 pr) (ws' := [(mM, .inr (8, [.ref mN, .ref mR, .ref mA, .ref mP, .int ch, .ref mT, .int le, .int sp, .ref mD])), (mR, .inl (cyI, 515, .inl (upd (upd rd 20 px) 22 pr)))]) X Y 1 rfl (bInD (by decide)) rfl rfl dX8_puts_28 (fun H locs Y => ?_)
  refine lv_aload_n hx hb dX8_puts_29 rfl (lv_at hl 1 rfl) ?_
  refine bGet (v := .ref mR) (T := TX8) (N := 9) (ci := 8) X Y i_X8_puts_X8 0 rfl rfl 1 (Nat.le_of_ble_eq_true rfl) f_X8_puts_13 rfl rfl dX8_puts_30 ?_
  refine lv_iload hx hb dX8_puts_33 (lv_at hl 0 rfl) ?_
  refine lv_iconst (v := 3) hx hb dX8_puts_35 (by decide) ?_
  refine bAdd (v := 23) X dX8_puts_36 (by decide) ?_
  refine lv_iload hx hb dX8_puts_37 (lv_at hl 5 rfl) ?_
  refine bIast (f' := upd (upd (upd rd 20 px) 22 pr) 23 pl) (ws' := [(mM, .inr (8, [.ref mN, .ref mR, .ref mA, .ref mP, .int ch, .ref mT, .int le, .int sp, .ref mD])), (mR, .inl (cyI, 515, .inl (upd (upd (upd rd 20 px) 22 pr) 23 pl)))]) X Y 1 rfl (bInD (by decide)) rfl rfl dX8_puts_39 (fun H locs Y => ?_)
  refine lv_aload_n hx hb dX8_puts_40 rfl (lv_at hl 1 rfl) ?_
  refine bGet (v := .ref mR) (T := TX8) (N := 9) (ci := 8) X Y i_X8_puts_X8 0 rfl rfl 1 (Nat.le_of_ble_eq_true rfl) f_X8_puts_13 rfl rfl dX8_puts_41 ?_
  refine lv_iload hx hb dX8_puts_44 (lv_at hl 0 rfl) ?_
  refine lv_bipush (v := 7) hx hb dX8_puts_46 (by decide) ?_
  refine bAdd (v := 27) X dX8_puts_48 (by decide) ?_
  refine lv_iload_n hx hb dX8_puts_49 rfl (lv_at hl 4 rfl) ?_
  refine bIast (f' := upd (upd (upd (upd rd 20 px) 22 pr) 23 pl) 27 pr) (ws' := [(mM, .inr (8, [.ref mN, .ref mR, .ref mA, .ref mP, .int ch, .ref mT, .int le, .int sp, .ref mD])), (mR, .inl (cyI, 515, .inl (upd (upd (upd (upd rd 20 px) 22 pr) 23 pl) 27 pr)))]) X Y 1 rfl (bInD (by decide)) rfl rfl dX8_puts_50 (fun H locs Y => ?_)
  have h9 := (Prod.mk.inj hu).1
  subst h9
  exact bEndV X Y hr hlk dX8_puts_51 rfl
theorem i_X8_begins_X8 : ∀ w ∈ wsX80, w ∈ wsX8_begins := by decide +kernel
theorem f_X8_begins_13 : Cond.fieldLink RX8 13 "SwingCranesModel" "read" "[I" ∈ wsX8_begins := by decide +kernel
theorem hd_X8_puts : bD1 yX8_puts RX8 4 := by decide +kernel
def g_begins8 : Nat → Nat → (Nat → Int32) → (Nat → Int32) × Unit
  | 0, _, _ => (fun _ => 0, ())
  | n_ + 1, j, rg =>
    if 515 ≤ nI j then
      match s_puts8_0 (upd (upd (upd (upd (upd (upd rg 0 600) 1 40) 2 2) 3 12) 4 6) 5 (-4)) 100 30 0 with
      | (u_2_0, _) =>
        match s_puts8_1 u_2_0 500 30 0 with
        | (u_3_0, _) =>
          (u_3_0, ())
    else
      g_begins8 n_ (j + 1) (upd rg j 0)
def s_begins8 (rd : Nat → Int32) : (Nat → Int32) × Unit :=
  g_begins8 (516) 0 rd
set_option maxHeartbeats 4000000 in
set_option maxRecDepth 100000 in
theorem lp_begins8 {p_ : Program} {e_ : Env} {s_ : State} {m_ : MethodId} {bl_ : List Frame} {me_ : Method} {cd_ : Code} {A_ : Nat → Prop} (l : Launch) (D : va_G) (cyC cyI : ClassId) (mM : Nat) (mN : Nat) (mR : Nat) (mA : Nat) (mP : Nat) (mT : Nat) (mD : Nat) (ch : Int32) (le : Int32) (sp : Int32) (rd : Nat → Int32) (o0 : Nat → Int32) (X : bX p_ s_ m_ ([.ref mM] : List Value).toArray cd_ cX8_begins 2 wsX8_begins yX8_begins.cls D cyC cyI) (hr : me_.sig.returnType = none) (hlk : me_.locks = false) : ∀ (n_ : Nat) (j : Nat) (rg : Nat → Int32) (hN : 516 ≤ j + n_) (hJ : j ≤ 515) (hu : g_begins8 n_ j rg = (o0, ())) (ls : Array Slot) (H : Heap) (locs : List Loc), lv_has ls 2 [(0, .ref mM), (1, .int (nI j))] → bY D A_ s_.heap [(mM, .inr (8, [.ref mN, .ref mR, .ref mA, .ref mP, .int ch, .ref mT, .int le, .int sp, .ref mD])), (mR, .inl (cyI, 515, .inl rg))] H locs → W p_ l e_ ({ frames := 1, cells := 0, slots := 0, locals := 25 } : Room) s_ m_ ([.ref mM] : List Value).toArray bl_ me_ cd_ H locs 0 0 (bQV bl_ ([.ref mM] : List Value).toArray s_ D [(mM, .inr (8, [.ref mN, .ref mR, .ref mA, .ref mP, .int ch, .ref mT, .int le, .int sp, .ref mD])), (mR, .inl (cyI, 515, .inl o0))] A_) (F0 m_ 2 ls []) := by
  intro n_
  induction n_ with
  | zero =>
    intro j rg hN hJ hu ls H locs hl Y
    exfalso; omega
  | succ n_ ih =>
    intro j rg hN hJ hu ls H locs hl Y
    have hx := X.1.1
    have hb := X.1.2.1
    rw [g_begins8] at hu
    refine lv_iload_n hx hb dX8_begins_2 rfl (lv_at hl 1 rfl) ?_
    refine lv_sipush (v := 515) hx hb dX8_begins_3 (by decide) ?_
    refine lv_icmp_ge (tgt := 22) hx hb dX8_begins_6 (by decide) (fun c_1 => ?_) (fun c_1 => ?_)
    · have c_1 : 515 ≤ nI j := c_1
      rw [if_pos c_1] at hu
      refine lv_aload_n hx hb dX8_begins_22 rfl (lv_at hl 0 rfl) ?_
      refine bGet (v := .ref mR) (T := TX8) (N := 9) (ci := 8) X Y i_X8_begins_X8 0 rfl rfl 1 (Nat.le_of_ble_eq_true rfl) f_X8_begins_13 rfl rfl dX8_begins_23 ?_
      refine lv_iconst (v := 0) hx hb dX8_begins_26 (by decide) ?_
      refine lv_sipush (v := 600) hx hb dX8_begins_27 (by decide) ?_
      refine bIast (f' := upd rg 0 600) (ws' := [(mM, .inr (8, [.ref mN, .ref mR, .ref mA, .ref mP, .int ch, .ref mT, .int le, .int sp, .ref mD])), (mR, .inl (cyI, 515, .inl (upd rg 0 600)))]) X Y 1 rfl (bInD (by decide)) rfl rfl dX8_begins_30 (fun H locs Y => ?_)
      refine lv_aload_n hx hb dX8_begins_31 rfl (lv_at hl 0 rfl) ?_
      refine bGet (v := .ref mR) (T := TX8) (N := 9) (ci := 8) X Y i_X8_begins_X8 0 rfl rfl 1 (Nat.le_of_ble_eq_true rfl) f_X8_begins_13 rfl rfl dX8_begins_32 ?_
      refine lv_iconst (v := 1) hx hb dX8_begins_35 (by decide) ?_
      refine lv_bipush (v := 40) hx hb dX8_begins_36 (by decide) ?_
      refine bIast (f' := upd (upd rg 0 600) 1 40) (ws' := [(mM, .inr (8, [.ref mN, .ref mR, .ref mA, .ref mP, .int ch, .ref mT, .int le, .int sp, .ref mD])), (mR, .inl (cyI, 515, .inl (upd (upd rg 0 600) 1 40)))]) X Y 1 rfl (bInD (by decide)) rfl rfl dX8_begins_38 (fun H locs Y => ?_)
      refine lv_aload_n hx hb dX8_begins_39 rfl (lv_at hl 0 rfl) ?_
      refine bGet (v := .ref mR) (T := TX8) (N := 9) (ci := 8) X Y i_X8_begins_X8 0 rfl rfl 1 (Nat.le_of_ble_eq_true rfl) f_X8_begins_13 rfl rfl dX8_begins_40 ?_
      refine lv_iconst (v := 2) hx hb dX8_begins_43 (by decide) ?_
      refine lv_iconst (v := 2) hx hb dX8_begins_44 (by decide) ?_
      refine bIast (f' := upd (upd (upd rg 0 600) 1 40) 2 2) (ws' := [(mM, .inr (8, [.ref mN, .ref mR, .ref mA, .ref mP, .int ch, .ref mT, .int le, .int sp, .ref mD])), (mR, .inl (cyI, 515, .inl (upd (upd (upd rg 0 600) 1 40) 2 2)))]) X Y 1 rfl (bInD (by decide)) rfl rfl dX8_begins_45 (fun H locs Y => ?_)
      refine lv_aload_n hx hb dX8_begins_46 rfl (lv_at hl 0 rfl) ?_
      refine bGet (v := .ref mR) (T := TX8) (N := 9) (ci := 8) X Y i_X8_begins_X8 0 rfl rfl 1 (Nat.le_of_ble_eq_true rfl) f_X8_begins_13 rfl rfl dX8_begins_47 ?_
      refine lv_iconst (v := 3) hx hb dX8_begins_50 (by decide) ?_
      refine lv_bipush (v := 12) hx hb dX8_begins_51 (by decide) ?_
      refine bIast (f' := upd (upd (upd (upd rg 0 600) 1 40) 2 2) 3 12) (ws' := [(mM, .inr (8, [.ref mN, .ref mR, .ref mA, .ref mP, .int ch, .ref mT, .int le, .int sp, .ref mD])), (mR, .inl (cyI, 515, .inl (upd (upd (upd (upd rg 0 600) 1 40) 2 2) 3 12)))]) X Y 1 rfl (bInD (by decide)) rfl rfl dX8_begins_53 (fun H locs Y => ?_)
      refine lv_aload_n hx hb dX8_begins_54 rfl (lv_at hl 0 rfl) ?_
      refine bGet (v := .ref mR) (T := TX8) (N := 9) (ci := 8) X Y i_X8_begins_X8 0 rfl rfl 1 (Nat.le_of_ble_eq_true rfl) f_X8_begins_13 rfl rfl dX8_begins_55 ?_
      refine lv_iconst (v := 4) hx hb dX8_begins_58 (by decide) ?_
      refine lv_bipush (v := 6) hx hb dX8_begins_59 (by decide) ?_
      refine bIast (f' := upd (upd (upd (upd (upd rg 0 600) 1 40) 2 2) 3 12) 4 6) (ws' := [(mM, .inr (8, [.ref mN, .ref mR, .ref mA, .ref mP, .int ch, .ref mT, .int le, .int sp, .ref mD])), (mR, .inl (cyI, 515, .inl (upd (upd (upd (upd (upd rg 0 600) 1 40) 2 2) 3 12) 4 6)))]) X Y 1 rfl (bInD (by decide)) rfl rfl dX8_begins_61 (fun H locs Y => ?_)
      refine lv_aload_n hx hb dX8_begins_62 rfl (lv_at hl 0 rfl) ?_
      refine bGet (v := .ref mR) (T := TX8) (N := 9) (ci := 8) X Y i_X8_begins_X8 0 rfl rfl 1 (Nat.le_of_ble_eq_true rfl) f_X8_begins_13 rfl rfl dX8_begins_63 ?_
      refine lv_iconst (v := 5) hx hb dX8_begins_66 (by decide) ?_
      refine lv_bipush (v := (-4)) hx hb dX8_begins_67 (by decide) ?_
      refine bIast (f' := upd (upd (upd (upd (upd (upd rg 0 600) 1 40) 2 2) 3 12) 4 6) 5 (-4)) (ws' := [(mM, .inr (8, [.ref mN, .ref mR, .ref mA, .ref mP, .int ch, .ref mT, .int le, .int sp, .ref mD])), (mR, .inl (cyI, 515, .inl (upd (upd (upd (upd (upd (upd rg 0 600) 1 40) 2 2) 3 12) 4 6) 5 (-4))))]) X Y 1 rfl (bInD (by decide)) rfl rfl dX8_begins_69 (fun H locs Y => ?_)
      refine lv_aload_n hx hb dX8_begins_70 rfl (lv_at hl 0 rfl) ?_
      refine lv_iconst (v := 0) hx hb dX8_begins_71 (by decide) ?_
      refine lv_bipush (v := 100) hx hb dX8_begins_72 (by decide) ?_
      refine lv_bipush (v := 30) hx hb dX8_begins_74 (by decide) ?_
      refine lv_iconst (v := 0) hx hb dX8_begins_76 (by decide) ?_
      obtain ⟨u_2_0, hr_2⟩ := bEx1 (s_puts8_0 (upd (upd (upd (upd (upd (upd rg 0 600) 1 40) 2 2) 3 12) 4 6) 5 (-4)) 100 30 0)
      rw [hr_2] at hu
      dsimp only at hu
      refine bVV (As := [.int 0, .int 100, .int 30, .int 0]) (rest := []) (wc := [(mM, .inr (8, [.ref mN, .ref mR, .ref mA, .ref mP, .int ch, .ref mT, .int le, .int sp, .ref mD])), (mR, .inl (cyI, 515, .inl (upd (upd (upd (upd (upd (upd rg 0 600) 1 40) 2 2) 3 12) 4 6) 5 (-4))))]) (w1 := [(mM, .inr (8, [.ref mN, .ref mR, .ref mA, .ref mP, .int ch, .ref mT, .int le, .int sp, .ref mD])), (mR, .inl (cyI, 515, .inl u_2_0))]) (ws' := [(mM, .inr (8, [.ref mN, .ref mR, .ref mA, .ref mP, .int ch, .ref mT, .int le, .int sp, .ref mD])), (mR, .inl (cyI, 515, .inl u_2_0))]) (ad := [mM, mR]) (wr := []) (nn := 2) (ci := 8) (q0 := 0) X Y (c_puts8_0 l D cyC cyI mM mN mR mA mP mT mD ch le sp (upd (upd (upd (upd (upd (upd rg 0 600) 1 40) 2 2) 3 12) 4 6) 5 (-4)) 100 30 0 u_2_0 hr_2) gX8_begins_X8_puts rfl ⟨rfl, rfl⟩ hd_X8_puts ⟨(Nat.le_of_ble_eq_true rfl), (Nat.le_of_ble_eq_true rfl)⟩ rfl rfl rfl [0, 1] [] rfl rfl rfl rfl rfl rfl rfl rfl (by decide) rfl rfl hl.1 (Nat.le_of_ble_eq_true rfl) ⟨Nat.zero_le _, Nat.zero_le _⟩ dX8_begins_77 (fun H locs Y => ?_)
      refine lv_aload_n hx hb dX8_begins_80 rfl (lv_at hl 0 rfl) ?_
      refine lv_iconst (v := 1) hx hb dX8_begins_81 (by decide) ?_
      refine lv_sipush (v := 500) hx hb dX8_begins_82 (by decide) ?_
      refine lv_bipush (v := 30) hx hb dX8_begins_85 (by decide) ?_
      refine lv_iconst (v := 0) hx hb dX8_begins_87 (by decide) ?_
      obtain ⟨u_3_0, hr_3⟩ := bEx1 (s_puts8_1 u_2_0 500 30 0)
      rw [hr_3] at hu
      dsimp only at hu
      refine bVV (As := [.int 1, .int 500, .int 30, .int 0]) (rest := []) (wc := [(mM, .inr (8, [.ref mN, .ref mR, .ref mA, .ref mP, .int ch, .ref mT, .int le, .int sp, .ref mD])), (mR, .inl (cyI, 515, .inl u_2_0))]) (w1 := [(mM, .inr (8, [.ref mN, .ref mR, .ref mA, .ref mP, .int ch, .ref mT, .int le, .int sp, .ref mD])), (mR, .inl (cyI, 515, .inl u_3_0))]) (ws' := [(mM, .inr (8, [.ref mN, .ref mR, .ref mA, .ref mP, .int ch, .ref mT, .int le, .int sp, .ref mD])), (mR, .inl (cyI, 515, .inl u_3_0))]) (ad := [mM, mR]) (wr := []) (nn := 2) (ci := 8) (q0 := 0) X Y (c_puts8_1 l D cyC cyI mM mN mR mA mP mT mD ch le sp u_2_0 500 30 0 u_3_0 hr_3) gX8_begins_X8_puts rfl ⟨rfl, rfl⟩ hd_X8_puts ⟨(Nat.le_of_ble_eq_true rfl), (Nat.le_of_ble_eq_true rfl)⟩ rfl rfl rfl [0, 1] [] rfl rfl rfl rfl rfl rfl rfl rfl (by decide) rfl rfl hl.1 (Nat.le_of_ble_eq_true rfl) ⟨Nat.zero_le _, Nat.zero_le _⟩ dX8_begins_88 (fun H locs Y => ?_)
      have h9 := (Prod.mk.inj hu).1
      subst h9
      exact bEndV X Y hr hlk dX8_begins_91 rfl
    · have c_1 : ¬ (515 ≤ nI j) := c_1
      rw [if_neg c_1] at hu
      refine lv_aload_n hx hb dX8_begins_9 rfl (lv_at hl 0 rfl) ?_
      refine bGet (v := .ref mR) (T := TX8) (N := 9) (ci := 8) X Y i_X8_begins_X8 0 rfl rfl 1 (Nat.le_of_ble_eq_true rfl) f_X8_begins_13 rfl rfl dX8_begins_10 ?_
      refine lv_iload_n hx hb dX8_begins_13 rfl (lv_at hl 1 rfl) ?_
      refine lv_iconst (v := 0) hx hb dX8_begins_14 (by decide) ?_
      refine bIast (f' := upd rg j 0) (ws' := [(mM, .inr (8, [.ref mN, .ref mR, .ref mA, .ref mP, .int ch, .ref mT, .int le, .int sp, .ref mD])), (mR, .inl (cyI, 515, .inl (upd rg j 0)))]) X Y 1 rfl (by have h9 := bNle (k := 515) rfl (by omega) (by decide) c_1; exact bIn (by omega) (by decide)) (bIdxs (by omega)) rfl dX8_begins_15 (fun H locs Y => ?_)
      refine lv_iinc (v := nI (j + 1)) (lv' := [(1, .int (nI (j + 1))), (0, .ref mM)]) hx hb dX8_begins_16 hl (k := 1) rfl (nI_inc _) (by decide) rfl (fun ls hl => ?_)
      refine lv_goto (tgt := 2) hx hb dX8_begins_19 (by decide) ?_
      exact ih (j + 1) (upd rg j 0) (by omega) (by have := bNle (k := 515) rfl (by omega) (by decide) c_1; omega) hu _ _ _ (lv_sub hl [1, 0] rfl) Y
set_option maxHeartbeats 4000000 in
set_option maxRecDepth 100000 in
theorem c_begins8 (l : Launch) (D : va_G) (cyC cyI : ClassId) (mM : Nat) (mN : Nat) (mR : Nat) (mA : Nat) (mP : Nat) (mT : Nat) (mD : Nat) (ch : Int32) (le : Int32) (sp : Int32) (rd : Nat → Int32) (o0 : Nat → Int32) (hu : s_begins8 rd = (o0, ())) : CV l yX8_begins wsX8_begins { frames := 1, cells := 0, slots := 0, locals := 25 } D cyC cyI [.ref mM] [(mM, .inr (8, [.ref mN, .ref mR, .ref mA, .ref mP, .int ch, .ref mT, .int le, .int sp, .ref mD])), (mR, .inl (cyI, 515, .inl rd))] [(mM, .inr (8, [.ref mN, .ref mR, .ref mA, .ref mP, .int ch, .ref mT, .int le, .int sp, .ref mD])), (mR, .inl (cyI, 515, .inl o0))] := by
  refine CV.of (cc := cX8_begins) (n := 2) (ret := none) (by decide +kernel) rfl (Nat.le_of_ble_eq_true rfl) ?_
  intro p_ e_ s_ m_ bl_ me_ cd_ A_ ls X Y hr hlk hl
  have hx := X.1.1
  have hb := X.1.2.1
  have hl : lv_has ls 2 [(0, .ref mM)] := hl
  unfold s_begins8 at hu
  refine lv_iconst (v := 0) hx hb dX8_begins_0 (by decide) ?_
  refine lv_istore_n (lv' := [(1, .int 0), (0, .ref mM)]) hx hb dX8_begins_1 rfl hl (by decide) rfl (fun ls hl => ?_)
  exact lp_begins8 l D cyC cyI mM mN mR mA mP mT mD ch le sp rd o0 X hr hlk (516) 0 rd (by omega) (by omega) hu _ _ _ (lv_sub hl [1, 0] rfl) Y
theorem i_X8_takes_X8 : ∀ w ∈ wsX80, w ∈ wsX8_takes := by decide +kernel
theorem f_X8_takes_38 : Cond.fieldLink RX8 38 "SwingCranesModel" "changes" "I" ∈ wsX8_takes := by decide +kernel
theorem f_X8_takes_7 : Cond.fieldLink RX8 7 "SwingCranesModel" "now" "[I" ∈ wsX8_takes := by decide +kernel
theorem f_X8_takes_13 : Cond.fieldLink RX8 13 "SwingCranesModel" "read" "[I" ∈ wsX8_takes := by decide +kernel
def g_takes8 (rd : Nat → Int32) : Nat → Nat → (Nat → Int32) → (Nat → Int32) × Unit
  | 0, _, _ => (fun _ => 0, ())
  | n_ + 1, j, ng =>
    if 515 ≤ nI j then
      (ng, ())
    else
      g_takes8 rd n_ (j + 1) (upd ng j (rd j))
def s_takes8 (nw : Nat → Int32) (rd : Nat → Int32) : (Nat → Int32) × Unit :=
  g_takes8 rd (516) 0 nw
set_option maxHeartbeats 4000000 in
set_option maxRecDepth 100000 in
theorem lp_takes8 {p_ : Program} {e_ : Env} {s_ : State} {m_ : MethodId} {bl_ : List Frame} {me_ : Method} {cd_ : Code} {A_ : Nat → Prop} (l : Launch) (D : va_G) (cyC cyI : ClassId) (mM : Nat) (mN : Nat) (mR : Nat) (mA : Nat) (mP : Nat) (mT : Nat) (mD : Nat) (ch : Int32) (le : Int32) (sp : Int32) (nw : Nat → Int32) (rd : Nat → Int32) (o0 : Nat → Int32) (X : bX p_ s_ m_ ([.ref mM] : List Value).toArray cd_ cX8_takes 2 wsX8_takes yX8_takes.cls D cyC cyI) (hr : me_.sig.returnType = none) (hlk : me_.locks = false) : ∀ (n_ : Nat) (j : Nat) (ng : Nat → Int32) (hN : 516 ≤ j + n_) (hJ : j ≤ 515) (hu : g_takes8 rd n_ j ng = (o0, ())) (ls : Array Slot) (H : Heap) (locs : List Loc), lv_has ls 2 [(0, .ref mM), (1, .int (nI j))] → bY D A_ s_.heap [(mM, .inr (8, [.ref mN, .ref mR, .ref mA, .ref mP, .int ch, .ref mT, .int le, .int sp, .ref mD])), (mN, .inl (cyI, 515, .inl ng)), (mR, .inl (cyI, 515, .inl rd))] H locs → W p_ l e_ ({ frames := 0, cells := 0, slots := 0, locals := 0 } : Room) s_ m_ ([.ref mM] : List Value).toArray bl_ me_ cd_ H locs 0 0 (bQV bl_ ([.ref mM] : List Value).toArray s_ D [(mM, .inr (8, [.ref mN, .ref mR, .ref mA, .ref mP, .int 0, .ref mT, .int le, .int sp, .ref mD])), (mN, .inl (cyI, 515, .inl o0)), (mR, .inl (cyI, 515, .inl rd))] A_) (F0 m_ 2 ls []) := by
  intro n_
  induction n_ with
  | zero =>
    intro j ng hN hJ hu ls H locs hl Y
    exfalso; omega
  | succ n_ ih =>
    intro j ng hN hJ hu ls H locs hl Y
    have hx := X.1.1
    have hb := X.1.2.1
    rw [g_takes8] at hu
    refine lv_iload_n hx hb dX8_takes_2 rfl (lv_at hl 1 rfl) ?_
    refine lv_sipush (v := 515) hx hb dX8_takes_3 (by decide) ?_
    refine lv_icmp_ge (tgt := 27) hx hb dX8_takes_6 (by decide) (fun c_1 => ?_) (fun c_1 => ?_)
    · have c_1 : 515 ≤ nI j := c_1
      rw [if_pos c_1] at hu
      refine lv_aload_n hx hb dX8_takes_27 rfl (lv_at hl 0 rfl) ?_
      refine lv_iconst (v := 0) hx hb dX8_takes_28 (by decide) ?_
      refine bPut (T := TX8) (N := 9) (ci := 8) (ws' := [(mM, .inr (8, [.ref mN, .ref mR, .ref mA, .ref mP, .int 0, .ref mT, .int le, .int sp, .ref mD])), (mN, .inl (cyI, 515, .inl ng)), (mR, .inl (cyI, 515, .inl rd))]) X Y i_X8_takes_X8 tyX8 tyX8_ok nmX8 0 rfl rfl 4 (Nat.le_of_ble_eq_true rfl) f_X8_takes_38 rfl rfl rfl rfl (Nat.le_of_ble_eq_true rfl) rfl dX8_takes_29 (fun H locs Y => ?_)
      have h9 := (Prod.mk.inj hu).1
      subst h9
      exact bEndV X Y hr hlk dX8_takes_32 rfl
    · have c_1 : ¬ (515 ≤ nI j) := c_1
      rw [if_neg c_1] at hu
      refine lv_aload_n hx hb dX8_takes_9 rfl (lv_at hl 0 rfl) ?_
      refine bGet (v := .ref mN) (T := TX8) (N := 9) (ci := 8) X Y i_X8_takes_X8 0 rfl rfl 0 (Nat.le_of_ble_eq_true rfl) f_X8_takes_7 rfl rfl dX8_takes_10 ?_
      refine lv_iload_n hx hb dX8_takes_13 rfl (lv_at hl 1 rfl) ?_
      refine lv_aload_n hx hb dX8_takes_14 rfl (lv_at hl 0 rfl) ?_
      refine bGet (v := .ref mR) (T := TX8) (N := 9) (ci := 8) X Y i_X8_takes_X8 0 rfl rfl 1 (Nat.le_of_ble_eq_true rfl) f_X8_takes_13 rfl rfl dX8_takes_15 ?_
      refine lv_iload_n hx hb dX8_takes_18 rfl (lv_at hl 1 rfl) ?_
      refine bIald (v := rd j) X Y 2 rfl (by have h9 := bNle (k := 515) rfl (by omega) (by decide) c_1; exact bIn (by omega) (by decide)) dX8_takes_19 (bIdx (by omega)) ?_
      refine bIast (f' := upd ng j (rd j)) (ws' := [(mM, .inr (8, [.ref mN, .ref mR, .ref mA, .ref mP, .int ch, .ref mT, .int le, .int sp, .ref mD])), (mN, .inl (cyI, 515, .inl (upd ng j (rd j)))), (mR, .inl (cyI, 515, .inl rd))]) X Y 1 rfl (by have h9 := bNle (k := 515) rfl (by omega) (by decide) c_1; exact bIn (by omega) (by decide)) (bIdxs (by omega)) rfl dX8_takes_20 (fun H locs Y => ?_)
      refine lv_iinc (v := nI (j + 1)) (lv' := [(1, .int (nI (j + 1))), (0, .ref mM)]) hx hb dX8_takes_21 hl (k := 1) rfl (nI_inc _) (by decide) rfl (fun ls hl => ?_)
      refine lv_goto (tgt := 2) hx hb dX8_takes_24 (by decide) ?_
      exact ih (j + 1) (upd ng j (rd j)) (by omega) (by have := bNle (k := 515) rfl (by omega) (by decide) c_1; omega) hu _ _ _ (lv_sub hl [1, 0] rfl) Y
set_option maxHeartbeats 4000000 in
set_option maxRecDepth 100000 in
theorem c_takes8 (l : Launch) (D : va_G) (cyC cyI : ClassId) (mM : Nat) (mN : Nat) (mR : Nat) (mA : Nat) (mP : Nat) (mT : Nat) (mD : Nat) (ch : Int32) (le : Int32) (sp : Int32) (nw : Nat → Int32) (rd : Nat → Int32) (o0 : Nat → Int32) (hu : s_takes8 nw rd = (o0, ())) : CV l yX8_takes wsX8_takes { frames := 0, cells := 0, slots := 0, locals := 0 } D cyC cyI [.ref mM] [(mM, .inr (8, [.ref mN, .ref mR, .ref mA, .ref mP, .int ch, .ref mT, .int le, .int sp, .ref mD])), (mN, .inl (cyI, 515, .inl nw)), (mR, .inl (cyI, 515, .inl rd))] [(mM, .inr (8, [.ref mN, .ref mR, .ref mA, .ref mP, .int 0, .ref mT, .int le, .int sp, .ref mD])), (mN, .inl (cyI, 515, .inl o0)), (mR, .inl (cyI, 515, .inl rd))] := by
  refine CV.of (cc := cX8_takes) (n := 2) (ret := none) (by decide +kernel) rfl (Nat.le_of_ble_eq_true rfl) ?_
  intro p_ e_ s_ m_ bl_ me_ cd_ A_ ls X Y hr hlk hl
  have hx := X.1.1
  have hb := X.1.2.1
  have hl : lv_has ls 2 [(0, .ref mM)] := hl
  unfold s_takes8 at hu
  refine lv_iconst (v := 0) hx hb dX8_takes_0 (by decide) ?_
  refine lv_istore_n (lv' := [(1, .int 0), (0, .ref mM)]) hx hb dX8_takes_1 rfl hl (by decide) rfl (fun ls hl => ?_)
  exact lp_takes8 l D cyC cyI mM mN mR mA mP mT mD ch le sp nw rd o0 X hr hlk (516) 0 nw (by omega) (by omega) hu _ _ _ (lv_sub hl [1, 0] rfl) Y
theorem i_X8_laysAside_X8 : ∀ w ∈ wsX80, w ∈ wsX8_laysAside := by decide +kernel
theorem f_X8_laysAside_16 : Cond.fieldLink RX8 16 "SwingCranesModel" "aside" "[I" ∈ wsX8_laysAside := by decide +kernel
theorem f_X8_laysAside_7 : Cond.fieldLink RX8 7 "SwingCranesModel" "now" "[I" ∈ wsX8_laysAside := by decide +kernel
def g_laysAside8 (nw : Nat → Int32) : Nat → Nat → (Nat → Int32) → (Nat → Int32) × Unit
  | 0, _, _ => (fun _ => 0, ())
  | n_ + 1, j, ag =>
    if 33 ≤ nI j then
      (ag, ())
    else
      g_laysAside8 nw n_ (j + 1) (upd ag j (nw j))
def s_laysAside8 (nw : Nat → Int32) (az : Nat → Int32) : (Nat → Int32) × Unit :=
  g_laysAside8 nw (34) 0 az
set_option maxHeartbeats 4000000 in
set_option maxRecDepth 100000 in
theorem lp_laysAside8 {p_ : Program} {e_ : Env} {s_ : State} {m_ : MethodId} {bl_ : List Frame} {me_ : Method} {cd_ : Code} {A_ : Nat → Prop} (l : Launch) (D : va_G) (cyC cyI : ClassId) (mM : Nat) (mN : Nat) (mR : Nat) (mA : Nat) (mP : Nat) (mT : Nat) (mD : Nat) (ch : Int32) (le : Int32) (sp : Int32) (nw : Nat → Int32) (az : Nat → Int32) (o0 : Nat → Int32) (X : bX p_ s_ m_ ([.ref mM] : List Value).toArray cd_ cX8_laysAside 2 wsX8_laysAside yX8_laysAside.cls D cyC cyI) (hr : me_.sig.returnType = none) (hlk : me_.locks = false) : ∀ (n_ : Nat) (j : Nat) (ag : Nat → Int32) (hN : 34 ≤ j + n_) (hJ : j ≤ 33) (hu : g_laysAside8 nw n_ j ag = (o0, ())) (ls : Array Slot) (H : Heap) (locs : List Loc), lv_has ls 2 [(0, .ref mM), (1, .int (nI j))] → bY D A_ s_.heap [(mM, .inr (8, [.ref mN, .ref mR, .ref mA, .ref mP, .int ch, .ref mT, .int le, .int sp, .ref mD])), (mN, .inl (cyI, 515, .inl nw)), (mA, .inl (cyI, 33, .inl ag))] H locs → W p_ l e_ ({ frames := 0, cells := 0, slots := 0, locals := 0 } : Room) s_ m_ ([.ref mM] : List Value).toArray bl_ me_ cd_ H locs 0 0 (bQV bl_ ([.ref mM] : List Value).toArray s_ D [(mM, .inr (8, [.ref mN, .ref mR, .ref mA, .ref mP, .int ch, .ref mT, .int le, .int sp, .ref mD])), (mN, .inl (cyI, 515, .inl nw)), (mA, .inl (cyI, 33, .inl o0))] A_) (F0 m_ 2 ls []) := by
  intro n_
  induction n_ with
  | zero =>
    intro j ag hN hJ hu ls H locs hl Y
    exfalso; omega
  | succ n_ ih =>
    intro j ag hN hJ hu ls H locs hl Y
    have hx := X.1.1
    have hb := X.1.2.1
    rw [g_laysAside8] at hu
    refine lv_iload_n hx hb dX8_laysAside_2 rfl (lv_at hl 1 rfl) ?_
    refine lv_bipush (v := 33) hx hb dX8_laysAside_3 (by decide) ?_
    refine lv_icmp_ge (tgt := 26) hx hb dX8_laysAside_5 (by decide) (fun c_1 => ?_) (fun c_1 => ?_)
    · have c_1 : 33 ≤ nI j := c_1
      rw [if_pos c_1] at hu
      have h9 := (Prod.mk.inj hu).1
      subst h9
      exact bEndV X Y hr hlk dX8_laysAside_26 rfl
    · have c_1 : ¬ (33 ≤ nI j) := c_1
      rw [if_neg c_1] at hu
      refine lv_aload_n hx hb dX8_laysAside_8 rfl (lv_at hl 0 rfl) ?_
      refine bGet (v := .ref mA) (T := TX8) (N := 9) (ci := 8) X Y i_X8_laysAside_X8 0 rfl rfl 2 (Nat.le_of_ble_eq_true rfl) f_X8_laysAside_16 rfl rfl dX8_laysAside_9 ?_
      refine lv_iload_n hx hb dX8_laysAside_12 rfl (lv_at hl 1 rfl) ?_
      refine lv_aload_n hx hb dX8_laysAside_13 rfl (lv_at hl 0 rfl) ?_
      refine bGet (v := .ref mN) (T := TX8) (N := 9) (ci := 8) X Y i_X8_laysAside_X8 0 rfl rfl 0 (Nat.le_of_ble_eq_true rfl) f_X8_laysAside_7 rfl rfl dX8_laysAside_14 ?_
      refine lv_iload_n hx hb dX8_laysAside_17 rfl (lv_at hl 1 rfl) ?_
      refine bIald (v := nw j) X Y 1 rfl (by have h9 := bNle (k := 33) rfl (by omega) (by decide) c_1; exact bIn (by omega) (by decide)) dX8_laysAside_18 (bIdx (by omega)) ?_
      refine bIast (f' := upd ag j (nw j)) (ws' := [(mM, .inr (8, [.ref mN, .ref mR, .ref mA, .ref mP, .int ch, .ref mT, .int le, .int sp, .ref mD])), (mN, .inl (cyI, 515, .inl nw)), (mA, .inl (cyI, 33, .inl (upd ag j (nw j))))]) X Y 2 rfl (by have h9 := bNle (k := 33) rfl (by omega) (by decide) c_1; exact bIn (by omega) (by decide)) (bIdxs (by omega)) rfl dX8_laysAside_19 (fun H locs Y => ?_)
      refine lv_iinc (v := nI (j + 1)) (lv' := [(1, .int (nI (j + 1))), (0, .ref mM)]) hx hb dX8_laysAside_20 hl (k := 1) rfl (nI_inc _) (by decide) rfl (fun ls hl => ?_)
      refine lv_goto (tgt := 2) hx hb dX8_laysAside_23 (by decide) ?_
      exact ih (j + 1) (upd ag j (nw j)) (by omega) (by have := bNle (k := 33) rfl (by omega) (by decide) c_1; omega) hu _ _ _ (lv_sub hl [1, 0] rfl) Y
set_option maxHeartbeats 4000000 in
set_option maxRecDepth 100000 in
theorem c_laysAside8 (l : Launch) (D : va_G) (cyC cyI : ClassId) (mM : Nat) (mN : Nat) (mR : Nat) (mA : Nat) (mP : Nat) (mT : Nat) (mD : Nat) (ch : Int32) (le : Int32) (sp : Int32) (nw : Nat → Int32) (az : Nat → Int32) (o0 : Nat → Int32) (hu : s_laysAside8 nw az = (o0, ())) : CV l yX8_laysAside wsX8_laysAside { frames := 0, cells := 0, slots := 0, locals := 0 } D cyC cyI [.ref mM] [(mM, .inr (8, [.ref mN, .ref mR, .ref mA, .ref mP, .int ch, .ref mT, .int le, .int sp, .ref mD])), (mN, .inl (cyI, 515, .inl nw)), (mA, .inl (cyI, 33, .inl az))] [(mM, .inr (8, [.ref mN, .ref mR, .ref mA, .ref mP, .int ch, .ref mT, .int le, .int sp, .ref mD])), (mN, .inl (cyI, 515, .inl nw)), (mA, .inl (cyI, 33, .inl o0))] := by
  refine CV.of (cc := cX8_laysAside) (n := 2) (ret := none) (by decide +kernel) rfl (Nat.le_of_ble_eq_true rfl) ?_
  intro p_ e_ s_ m_ bl_ me_ cd_ A_ ls X Y hr hlk hl
  have hx := X.1.1
  have hb := X.1.2.1
  have hl : lv_has ls 2 [(0, .ref mM)] := hl
  unfold s_laysAside8 at hu
  refine lv_iconst (v := 0) hx hb dX8_laysAside_0 (by decide) ?_
  refine lv_istore_n (lv' := [(1, .int 0), (0, .ref mM)]) hx hb dX8_laysAside_1 rfl hl (by decide) rfl (fun ls hl => ?_)
  exact lp_laysAside8 l D cyC cyI mM mN mR mA mP mT mD ch le sp nw az o0 X hr hlk (34) 0 az (by omega) (by omega) hu _ _ _ (lv_sub hl [1, 0] rfl) Y
theorem i_X8_comesBack_X8 : ∀ w ∈ wsX80, w ∈ wsX8_comesBack := by decide +kernel
theorem f_X8_comesBack_7 : Cond.fieldLink RX8 7 "SwingCranesModel" "now" "[I" ∈ wsX8_comesBack := by decide +kernel
theorem f_X8_comesBack_16 : Cond.fieldLink RX8 16 "SwingCranesModel" "aside" "[I" ∈ wsX8_comesBack := by decide +kernel
def g_comesBack8 (az : Nat → Int32) : Nat → Nat → (Nat → Int32) → (Nat → Int32) × Unit
  | 0, _, _ => (fun _ => 0, ())
  | n_ + 1, j, ng =>
    if 33 ≤ nI j then
      (ng, ())
    else
      g_comesBack8 az n_ (j + 1) (upd ng j (az j))
def s_comesBack8 (nw : Nat → Int32) (az : Nat → Int32) : (Nat → Int32) × Unit :=
  g_comesBack8 az (34) 0 nw
set_option maxHeartbeats 4000000 in
set_option maxRecDepth 100000 in
theorem lp_comesBack8 {p_ : Program} {e_ : Env} {s_ : State} {m_ : MethodId} {bl_ : List Frame} {me_ : Method} {cd_ : Code} {A_ : Nat → Prop} (l : Launch) (D : va_G) (cyC cyI : ClassId) (mM : Nat) (mN : Nat) (mR : Nat) (mA : Nat) (mP : Nat) (mT : Nat) (mD : Nat) (ch : Int32) (le : Int32) (sp : Int32) (nw : Nat → Int32) (az : Nat → Int32) (o0 : Nat → Int32) (X : bX p_ s_ m_ ([.ref mM] : List Value).toArray cd_ cX8_comesBack 2 wsX8_comesBack yX8_comesBack.cls D cyC cyI) (hr : me_.sig.returnType = none) (hlk : me_.locks = false) : ∀ (n_ : Nat) (j : Nat) (ng : Nat → Int32) (hN : 34 ≤ j + n_) (hJ : j ≤ 33) (hu : g_comesBack8 az n_ j ng = (o0, ())) (ls : Array Slot) (H : Heap) (locs : List Loc), lv_has ls 2 [(0, .ref mM), (1, .int (nI j))] → bY D A_ s_.heap [(mM, .inr (8, [.ref mN, .ref mR, .ref mA, .ref mP, .int ch, .ref mT, .int le, .int sp, .ref mD])), (mN, .inl (cyI, 515, .inl ng)), (mA, .inl (cyI, 33, .inl az))] H locs → W p_ l e_ ({ frames := 0, cells := 0, slots := 0, locals := 0 } : Room) s_ m_ ([.ref mM] : List Value).toArray bl_ me_ cd_ H locs 0 0 (bQV bl_ ([.ref mM] : List Value).toArray s_ D [(mM, .inr (8, [.ref mN, .ref mR, .ref mA, .ref mP, .int ch, .ref mT, .int le, .int sp, .ref mD])), (mN, .inl (cyI, 515, .inl o0)), (mA, .inl (cyI, 33, .inl az))] A_) (F0 m_ 2 ls []) := by
  intro n_
  induction n_ with
  | zero =>
    intro j ng hN hJ hu ls H locs hl Y
    exfalso; omega
  | succ n_ ih =>
    intro j ng hN hJ hu ls H locs hl Y
    have hx := X.1.1
    have hb := X.1.2.1
    rw [g_comesBack8] at hu
    refine lv_iload_n hx hb dX8_comesBack_2 rfl (lv_at hl 1 rfl) ?_
    refine lv_bipush (v := 33) hx hb dX8_comesBack_3 (by decide) ?_
    refine lv_icmp_ge (tgt := 26) hx hb dX8_comesBack_5 (by decide) (fun c_1 => ?_) (fun c_1 => ?_)
    · have c_1 : 33 ≤ nI j := c_1
      rw [if_pos c_1] at hu
      have h9 := (Prod.mk.inj hu).1
      subst h9
      exact bEndV X Y hr hlk dX8_comesBack_26 rfl
    · have c_1 : ¬ (33 ≤ nI j) := c_1
      rw [if_neg c_1] at hu
      refine lv_aload_n hx hb dX8_comesBack_8 rfl (lv_at hl 0 rfl) ?_
      refine bGet (v := .ref mN) (T := TX8) (N := 9) (ci := 8) X Y i_X8_comesBack_X8 0 rfl rfl 0 (Nat.le_of_ble_eq_true rfl) f_X8_comesBack_7 rfl rfl dX8_comesBack_9 ?_
      refine lv_iload_n hx hb dX8_comesBack_12 rfl (lv_at hl 1 rfl) ?_
      refine lv_aload_n hx hb dX8_comesBack_13 rfl (lv_at hl 0 rfl) ?_
      refine bGet (v := .ref mA) (T := TX8) (N := 9) (ci := 8) X Y i_X8_comesBack_X8 0 rfl rfl 2 (Nat.le_of_ble_eq_true rfl) f_X8_comesBack_16 rfl rfl dX8_comesBack_14 ?_
      refine lv_iload_n hx hb dX8_comesBack_17 rfl (lv_at hl 1 rfl) ?_
      refine bIald (v := az j) X Y 2 rfl (by have h9 := bNle (k := 33) rfl (by omega) (by decide) c_1; exact bIn (by omega) (by decide)) dX8_comesBack_18 (bIdx (by omega)) ?_
      refine bIast (f' := upd ng j (az j)) (ws' := [(mM, .inr (8, [.ref mN, .ref mR, .ref mA, .ref mP, .int ch, .ref mT, .int le, .int sp, .ref mD])), (mN, .inl (cyI, 515, .inl (upd ng j (az j)))), (mA, .inl (cyI, 33, .inl az))]) X Y 1 rfl (by have h9 := bNle (k := 33) rfl (by omega) (by decide) c_1; exact bIn (by omega) (by decide)) (bIdxs (by omega)) rfl dX8_comesBack_19 (fun H locs Y => ?_)
      refine lv_iinc (v := nI (j + 1)) (lv' := [(1, .int (nI (j + 1))), (0, .ref mM)]) hx hb dX8_comesBack_20 hl (k := 1) rfl (nI_inc _) (by decide) rfl (fun ls hl => ?_)
      refine lv_goto (tgt := 2) hx hb dX8_comesBack_23 (by decide) ?_
      exact ih (j + 1) (upd ng j (az j)) (by omega) (by have := bNle (k := 33) rfl (by omega) (by decide) c_1; omega) hu _ _ _ (lv_sub hl [1, 0] rfl) Y
set_option maxHeartbeats 4000000 in
set_option maxRecDepth 100000 in
theorem c_comesBack8 (l : Launch) (D : va_G) (cyC cyI : ClassId) (mM : Nat) (mN : Nat) (mR : Nat) (mA : Nat) (mP : Nat) (mT : Nat) (mD : Nat) (ch : Int32) (le : Int32) (sp : Int32) (nw : Nat → Int32) (az : Nat → Int32) (o0 : Nat → Int32) (hu : s_comesBack8 nw az = (o0, ())) : CV l yX8_comesBack wsX8_comesBack { frames := 0, cells := 0, slots := 0, locals := 0 } D cyC cyI [.ref mM] [(mM, .inr (8, [.ref mN, .ref mR, .ref mA, .ref mP, .int ch, .ref mT, .int le, .int sp, .ref mD])), (mN, .inl (cyI, 515, .inl nw)), (mA, .inl (cyI, 33, .inl az))] [(mM, .inr (8, [.ref mN, .ref mR, .ref mA, .ref mP, .int ch, .ref mT, .int le, .int sp, .ref mD])), (mN, .inl (cyI, 515, .inl o0)), (mA, .inl (cyI, 33, .inl az))] := by
  refine CV.of (cc := cX8_comesBack) (n := 2) (ret := none) (by decide +kernel) rfl (Nat.le_of_ble_eq_true rfl) ?_
  intro p_ e_ s_ m_ bl_ me_ cd_ A_ ls X Y hr hlk hl
  have hx := X.1.1
  have hb := X.1.2.1
  have hl : lv_has ls 2 [(0, .ref mM)] := hl
  unfold s_comesBack8 at hu
  refine lv_iconst (v := 0) hx hb dX8_comesBack_0 (by decide) ?_
  refine lv_istore_n (lv' := [(1, .int 0), (0, .ref mM)]) hx hb dX8_comesBack_1 rfl hl (by decide) rfl (fun ls hl => ?_)
  exact lp_comesBack8 l D cyC cyI mM mN mR mA mP mT mD ch le sp nw az o0 X hr hlk (34) 0 nw (by omega) (by omega) hu _ _ _ (lv_sub hl [1, 0] rfl) Y
theorem i_X8_isAt_X8 : ∀ w ∈ wsX80, w ∈ wsX8_isAt := by decide +kernel
theorem f_X8_isAt_42 : Cond.fieldLink RX8 42 "SwingCranesModel" "spot0" "I" ∈ wsX8_isAt := by decide +kernel
theorem f_X8_isAt_45 : Cond.fieldLink RX8 45 "SwingCranesModel" "letters" "I" ∈ wsX8_isAt := by decide +kernel
theorem f_X8_isAt_22 : Cond.fieldLink RX8 22 "SwingCranesModel" "text" "[I" ∈ wsX8_isAt := by decide +kernel
theorem hd_X8_in : bD1 yX8_in RX8 3 := by decide +kernel
def s_isAt8 (le : Int32) (sa : Nat ) (tx : Nat → Int32) (lo : Int32) (hi : Int32) : Bool :=
  if le ≤ nI sa then
    false
  else
    if (s_in8 (tx sa) lo hi) = true then
      true
    else
      false
set_option maxHeartbeats 4000000 in
set_option maxRecDepth 100000 in
theorem c_isAt8 (l : Launch) (D : va_G) (cyC cyI : ClassId) (mM : Nat) (mN : Nat) (mR : Nat) (mA : Nat) (mP : Nat) (mT : Nat) (mD : Nat) (ch : Int32) (le : Int32) (sa : Nat ) (tx : Nat → Int32) (lo : Int32) (hi : Int32) (o0 : Bool) (hu : s_isAt8 le sa tx lo hi = o0) (hle : le ≤ nI 200) (hsa : sa ≤ 2000) : CI l yX8_isAt wsX8_isAt { frames := 1, cells := 0, slots := 0, locals := 22 } D cyC cyI [.ref mM, .int lo, .int hi] [(mM, .inr (8, [.ref mN, .ref mR, .ref mA, .ref mP, .int ch, .ref mT, .int le, .int (nI sa), .ref mD])), (mT, .inl (cyI, 200, .inl tx))] (bB o0) [(mM, .inr (8, [.ref mN, .ref mR, .ref mA, .ref mP, .int ch, .ref mT, .int le, .int (nI sa), .ref mD])), (mT, .inl (cyI, 200, .inl tx))] := by
  refine CI.of (cc := cX8_isAt) (n := 3) (ret := (some .boolean)) (by decide +kernel) rfl (Nat.le_of_ble_eq_true rfl) ?_
  intro p_ e_ s_ m_ bl_ me_ cd_ A_ ls X Y hr hlk hl
  have hx := X.1.1
  have hb := X.1.2.1
  have hl : lv_has ls 3 [(0, .ref mM), (1, .int lo), (2, .int hi)] := hl
  unfold s_isAt8 at hu
  refine lv_aload_n hx hb dX8_isAt_0 rfl (lv_at hl 0 rfl) ?_
  refine bGet (v := .int (nI sa)) (T := TX8) (N := 9) (ci := 8) X Y i_X8_isAt_X8 0 rfl rfl 7 (Nat.le_of_ble_eq_true rfl) f_X8_isAt_42 rfl rfl dX8_isAt_1 ?_
  refine lv_aload_n hx hb dX8_isAt_4 rfl (lv_at hl 0 rfl) ?_
  refine bGet (v := .int le) (T := TX8) (N := 9) (ci := 8) X Y i_X8_isAt_X8 0 rfl rfl 6 (Nat.le_of_ble_eq_true rfl) f_X8_isAt_45 rfl rfl dX8_isAt_5 ?_
  refine lv_icmp_ge (tgt := 32) hx hb dX8_isAt_8 (by decide) (fun c_1 => ?_) (fun c_1 => ?_)
  · have c_1 : le ≤ nI sa := c_1
    rw [if_pos c_1] at hu
    refine lv_iconst (v := 0) hx hb dX8_isAt_32 (by decide) ?_
    subst hu
    exact bEndZ X Y hr hlk dX8_isAt_33 rfl rfl rfl
  · have c_1 : ¬ (le ≤ nI sa) := c_1
    rw [if_neg c_1] at hu
    refine lv_aload_n hx hb dX8_isAt_11 rfl (lv_at hl 0 rfl) ?_
    refine bGet (v := .ref mT) (T := TX8) (N := 9) (ci := 8) X Y i_X8_isAt_X8 0 rfl rfl 5 (Nat.le_of_ble_eq_true rfl) f_X8_isAt_22 rfl rfl dX8_isAt_12 ?_
    refine lv_aload_n hx hb dX8_isAt_15 rfl (lv_at hl 0 rfl) ?_
    refine bGet (v := .int (nI sa)) (T := TX8) (N := 9) (ci := 8) X Y i_X8_isAt_X8 0 rfl rfl 7 (Nat.le_of_ble_eq_true rfl) f_X8_isAt_42 rfl rfl dX8_isAt_16 ?_
    refine bIald (v := tx sa) X Y 1 rfl (bInT (by omega) hle c_1) dX8_isAt_19 (bIdx (by omega)) ?_
    refine lv_iload_n hx hb dX8_isAt_20 rfl (lv_at hl 1 rfl) ?_
    refine lv_iload_n hx hb dX8_isAt_21 rfl (lv_at hl 2 rfl) ?_
    refine bSI (As := [.int (tx sa), .int lo, .int hi]) (rest := []) X Y (c_in8 l D cyC cyI (tx sa) lo hi (s_in8 (tx sa) lo hi) rfl) gX8_isAt_X8_in rfl ⟨rfl, rfl⟩ hd_X8_in.2 ⟨(Nat.le_of_ble_eq_true rfl), (Nat.le_of_ble_eq_true rfl)⟩ rfl rfl hl.1 (Nat.le_of_ble_eq_true rfl) ⟨Nat.zero_le _, Nat.zero_le _⟩ dX8_isAt_22 (fun H locs Y => ?_)
    refine lv_if_eq (tgt := 32) hx hb dX8_isAt_25 (by decide) (fun c_2 => ?_) (fun c_2 => ?_)
    · have c_2 := bB_f c_2
      rw [if_neg c_2] at hu
      refine lv_iconst (v := 0) hx hb dX8_isAt_32 (by decide) ?_
      subst hu
      exact bEndZ X Y hr hlk dX8_isAt_33 rfl rfl rfl
    · have c_2 := bB_t c_2
      rw [if_pos c_2] at hu
      refine lv_iconst (v := 1) hx hb dX8_isAt_28 (by decide) ?_
      refine lv_goto (tgt := 33) hx hb dX8_isAt_29 (by decide) ?_
      subst hu
      exact bEndZ X Y hr hlk dX8_isAt_33 rfl rfl rfl
theorem isAt8_lt {le lo hi : Int32} {sa : Nat} {tx : Nat → Int32} (h : s_isAt8 le sa tx lo hi = true) : ¬ le ≤ nI sa := by
  intro q
  unfold s_isAt8 at h
  rw [if_pos q] at h
  cases h
theorem i_X8_takesNumber_X8 : ∀ w ∈ wsX80, w ∈ wsX8_takesNumber := by decide +kernel
theorem f_X8_takesNumber_42 : Cond.fieldLink RX8 42 "SwingCranesModel" "spot0" "I" ∈ wsX8_takesNumber := by decide +kernel
theorem f_X8_takesNumber_25 : Cond.fieldLink RX8 25 "SwingCranesModel" "told" "[I" ∈ wsX8_takesNumber := by decide +kernel
theorem hd_X8_isAt : bD1 yX8_isAt RX8 2 := by decide +kernel
theorem f_X8_takesNumber_22 : Cond.fieldLink RX8 22 "SwingCranesModel" "text" "[I" ∈ wsX8_takesNumber := by decide +kernel
def g_takesNumber8_0 (le : Int32) (sa : Nat ) (tx : Nat → Int32) : Nat → Nat → (Nat → Int32) → Bool × Nat × (Nat → Int32)
  | 0, _, _ => (false, 0, fun _ => 0)
  | n_ + 1, si, tg =>
    if (nI (sa + 3)) ≤ nI si then
      if nI si ≤ (nI sa) then
        (false, si, tg)
      else
        (true, si, tg)
    else
      if (s_isAt8 le si tx 48 57) = true then
        g_takesNumber8_0 le sa tx n_ (si + 1) (upd tg 0 (((10 * (tg 0)) + (tx si)) - 48))
      else
        if nI si ≤ (nI sa) then
          (false, si, tg)
        else
          (true, si, tg)
def s_takesNumber8_0 (le : Int32) (sa : Nat ) (tx : Nat → Int32) (td : Nat → Int32) : Bool × Nat × (Nat → Int32) :=
  g_takesNumber8_0 le sa tx (4) sa (upd td 0 0)
set_option maxHeartbeats 4000000 in
set_option maxRecDepth 100000 in
theorem lp_takesNumber8_0 {p_ : Program} {e_ : Env} {s_ : State} {m_ : MethodId} {bl_ : List Frame} {me_ : Method} {cd_ : Code} {A_ : Nat → Prop} (l : Launch) (D : va_G) (cyC cyI : ClassId) (mM : Nat) (mN : Nat) (mR : Nat) (mA : Nat) (mP : Nat) (mT : Nat) (mD : Nat) (ch : Int32) (le : Int32) (sa : Nat ) (tx : Nat → Int32) (td : Nat → Int32) (o0 : Bool) (o1 : Nat) (o2 : Nat → Int32) (X : bX p_ s_ m_ ([.ref mM, .int 0] : List Value).toArray cd_ cX8_takesNumber 3 wsX8_takesNumber yX8_takesNumber.cls D cyC cyI) (hr : me_.sig.returnType = (some .boolean)) (hlk : me_.locks = false) (hle : le ≤ nI 200) (hsa : sa ≤ 1000) : ∀ (n_ : Nat) (si : Nat) (tg : Nat → Int32) (hN : sa + 4 ≤ si + n_) (hS : sa ≤ si ∧ si ≤ sa + 3) (hu : g_takesNumber8_0 le sa tx n_ si tg = (o0, o1, o2)) (ls : Array Slot) (H : Heap) (locs : List Loc), lv_has ls 3 [(0, .ref mM), (1, .int 0), (2, .int (nI sa))] → bY D A_ s_.heap [(mM, .inr (8, [.ref mN, .ref mR, .ref mA, .ref mP, .int ch, .ref mT, .int le, .int (nI si), .ref mD])), (mT, .inl (cyI, 200, .inl tx)), (mD, .inl (cyI, 4, .inl tg))] H locs → W p_ l e_ ({ frames := 2, cells := 0, slots := 0, locals := 44 } : Room) s_ m_ ([.ref mM, .int 0] : List Value).toArray bl_ me_ cd_ H locs 0 0 (bQI bl_ ([.ref mM, .int 0] : List Value).toArray s_ D [(mM, .inr (8, [.ref mN, .ref mR, .ref mA, .ref mP, .int ch, .ref mT, .int le, .int (nI o1), .ref mD])), (mT, .inl (cyI, 200, .inl tx)), (mD, .inl (cyI, 4, .inl o2))] (bB o0) A_) (F0 m_ 12 ls []) := by
  intro n_
  induction n_ with
  | zero =>
    intro si tg hN hS hu ls H locs hl Y
    exfalso; omega
  | succ n_ ih =>
    intro si tg hN hS hu ls H locs hl Y
    have hx := X.1.1
    have hb := X.1.2.1
    rw [g_takesNumber8_0] at hu
    refine lv_aload_n hx hb dX8_takesNumber_12 rfl (lv_at hl 0 rfl) ?_
    refine bGet (v := .int (nI si)) (T := TX8) (N := 9) (ci := 8) X Y i_X8_takesNumber_X8 0 rfl rfl 7 (Nat.le_of_ble_eq_true rfl) f_X8_takesNumber_42 rfl rfl dX8_takesNumber_13 ?_
    refine lv_iload_n hx hb dX8_takesNumber_16 rfl (lv_at hl 2 rfl) ?_
    refine lv_iconst (v := 3) hx hb dX8_takesNumber_17 (by decide) ?_
    refine bAdd (v := nI (sa + 3)) X dX8_takesNumber_18 (nI_sum (a := sa) (b := 3) rfl rfl (by omega)) ?_
    refine lv_icmp_ge (tgt := 74) hx hb dX8_takesNumber_19 (by decide) (fun c_1 => ?_) (fun c_1 => ?_)
    · have c_1 : (nI (sa + 3)) ≤ nI si := c_1
      rw [if_pos c_1] at hu
      refine lv_aload_n hx hb dX8_takesNumber_74 rfl (lv_at hl 0 rfl) ?_
      refine bGet (v := .int (nI si)) (T := TX8) (N := 9) (ci := 8) X Y i_X8_takesNumber_X8 0 rfl rfl 7 (Nat.le_of_ble_eq_true rfl) f_X8_takesNumber_42 rfl rfl dX8_takesNumber_75 ?_
      refine lv_iload_n hx hb dX8_takesNumber_78 rfl (lv_at hl 2 rfl) ?_
      refine lv_icmp_le (tgt := 86) hx hb dX8_takesNumber_79 (by decide) (fun c_2 => ?_) (fun c_2 => ?_)
      · have c_2 : nI si ≤ (nI sa) := c_2
        rw [if_pos c_2] at hu
        refine lv_iconst (v := 0) hx hb dX8_takesNumber_86 (by decide) ?_
        have h9 := (Prod.mk.inj hu).1; replace hu := (Prod.mk.inj hu).2; subst h9
        have h9 := (Prod.mk.inj hu).1; replace hu := (Prod.mk.inj hu).2; subst h9
        subst hu
        exact bEndZ X Y hr hlk dX8_takesNumber_87 rfl rfl rfl
      · have c_2 : ¬ (nI si ≤ (nI sa)) := c_2
        rw [if_neg c_2] at hu
        refine lv_iconst (v := 1) hx hb dX8_takesNumber_82 (by decide) ?_
        refine lv_goto (tgt := 87) hx hb dX8_takesNumber_83 (by decide) ?_
        have h9 := (Prod.mk.inj hu).1; replace hu := (Prod.mk.inj hu).2; subst h9
        have h9 := (Prod.mk.inj hu).1; replace hu := (Prod.mk.inj hu).2; subst h9
        subst hu
        exact bEndZ X Y hr hlk dX8_takesNumber_87 rfl rfl rfl
    · have c_1 : ¬ ((nI (sa + 3)) ≤ nI si) := c_1
      rw [if_neg c_1] at hu
      refine lv_aload_n hx hb dX8_takesNumber_22 rfl (lv_at hl 0 rfl) ?_
      refine lv_bipush (v := 48) hx hb dX8_takesNumber_23 (by decide) ?_
      refine lv_bipush (v := 57) hx hb dX8_takesNumber_25 (by decide) ?_
      refine bVI0 (As := [.int 48, .int 57]) (rest := []) (wc := [(mM, .inr (8, [.ref mN, .ref mR, .ref mA, .ref mP, .int ch, .ref mT, .int le, .int (nI si), .ref mD])), (mT, .inl (cyI, 200, .inl tx))]) (ci := 8) (q0 := 0) X Y (c_isAt8 l D cyC cyI mM mN mR mA mP mT mD ch le si tx 48 57 (s_isAt8 le si tx 48 57) rfl (by first | assumption | omega | decide) (by first | assumption | omega | decide)) gX8_takesNumber_X8_isAt rfl ⟨rfl, rfl⟩ hd_X8_isAt ⟨(Nat.le_of_ble_eq_true rfl), (Nat.le_of_ble_eq_true rfl)⟩ rfl rfl rfl [0, 1] rfl rfl rfl rfl hl.1 (Nat.le_of_ble_eq_true rfl) ⟨Nat.zero_le _, Nat.zero_le _⟩ dX8_takesNumber_27 (fun H locs Y => ?_)
      refine lv_if_eq (tgt := 74) hx hb dX8_takesNumber_30 (by decide) (fun c_3 => ?_) (fun c_3 => ?_)
      · have c_3 := bB_f c_3
        rw [if_neg c_3] at hu
        refine lv_aload_n hx hb dX8_takesNumber_74 rfl (lv_at hl 0 rfl) ?_
        refine bGet (v := .int (nI si)) (T := TX8) (N := 9) (ci := 8) X Y i_X8_takesNumber_X8 0 rfl rfl 7 (Nat.le_of_ble_eq_true rfl) f_X8_takesNumber_42 rfl rfl dX8_takesNumber_75 ?_
        refine lv_iload_n hx hb dX8_takesNumber_78 rfl (lv_at hl 2 rfl) ?_
        refine lv_icmp_le (tgt := 86) hx hb dX8_takesNumber_79 (by decide) (fun c_4 => ?_) (fun c_4 => ?_)
        · have c_4 : nI si ≤ (nI sa) := c_4
          rw [if_pos c_4] at hu
          refine lv_iconst (v := 0) hx hb dX8_takesNumber_86 (by decide) ?_
          have h9 := (Prod.mk.inj hu).1; replace hu := (Prod.mk.inj hu).2; subst h9
          have h9 := (Prod.mk.inj hu).1; replace hu := (Prod.mk.inj hu).2; subst h9
          subst hu
          exact bEndZ X Y hr hlk dX8_takesNumber_87 rfl rfl rfl
        · have c_4 : ¬ (nI si ≤ (nI sa)) := c_4
          rw [if_neg c_4] at hu
          refine lv_iconst (v := 1) hx hb dX8_takesNumber_82 (by decide) ?_
          refine lv_goto (tgt := 87) hx hb dX8_takesNumber_83 (by decide) ?_
          have h9 := (Prod.mk.inj hu).1; replace hu := (Prod.mk.inj hu).2; subst h9
          have h9 := (Prod.mk.inj hu).1; replace hu := (Prod.mk.inj hu).2; subst h9
          subst hu
          exact bEndZ X Y hr hlk dX8_takesNumber_87 rfl rfl rfl
      · have c_3 := bB_t c_3
        rw [if_pos c_3] at hu
        refine lv_aload_n hx hb dX8_takesNumber_33 rfl (lv_at hl 0 rfl) ?_
        refine bGet (v := .ref mD) (T := TX8) (N := 9) (ci := 8) X Y i_X8_takesNumber_X8 0 rfl rfl 8 (Nat.le_of_ble_eq_true rfl) f_X8_takesNumber_25 rfl rfl dX8_takesNumber_34 ?_
        refine lv_iload_n hx hb dX8_takesNumber_37 rfl (lv_at hl 1 rfl) ?_
        refine lv_bipush (v := 10) hx hb dX8_takesNumber_38 (by decide) ?_
        refine lv_aload_n hx hb dX8_takesNumber_40 rfl (lv_at hl 0 rfl) ?_
        refine bGet (v := .ref mD) (T := TX8) (N := 9) (ci := 8) X Y i_X8_takesNumber_X8 0 rfl rfl 8 (Nat.le_of_ble_eq_true rfl) f_X8_takesNumber_25 rfl rfl dX8_takesNumber_41 ?_
        refine lv_iload_n hx hb dX8_takesNumber_44 rfl (lv_at hl 1 rfl) ?_
        refine bIald (v := tg 0) X Y 2 rfl (bInD (by decide)) dX8_takesNumber_45 rfl ?_
        refine bMul (v := 10 * (tg 0)) X dX8_takesNumber_46 rfl ?_
        refine lv_aload_n hx hb dX8_takesNumber_47 rfl (lv_at hl 0 rfl) ?_
        refine bGet (v := .ref mT) (T := TX8) (N := 9) (ci := 8) X Y i_X8_takesNumber_X8 0 rfl rfl 5 (Nat.le_of_ble_eq_true rfl) f_X8_takesNumber_22 rfl rfl dX8_takesNumber_48 ?_
        refine lv_aload_n hx hb dX8_takesNumber_51 rfl (lv_at hl 0 rfl) ?_
        refine bGet (v := .int (nI si)) (T := TX8) (N := 9) (ci := 8) X Y i_X8_takesNumber_X8 0 rfl rfl 7 (Nat.le_of_ble_eq_true rfl) f_X8_takesNumber_42 rfl rfl dX8_takesNumber_52 ?_
        refine bIald (v := tx si) X Y 1 rfl (bInT (by omega) hle (isAt8_lt c_3)) dX8_takesNumber_55 (bIdx (by omega)) ?_
        refine bAdd (v := (10 * (tg 0)) + (tx si)) X dX8_takesNumber_56 rfl ?_
        refine lv_bipush (v := 48) hx hb dX8_takesNumber_57 (by decide) ?_
        refine bSub (v := ((10 * (tg 0)) + (tx si)) - 48) X dX8_takesNumber_59 rfl ?_
        refine bIast (f' := upd tg 0 (((10 * (tg 0)) + (tx si)) - 48)) (ws' := [(mM, .inr (8, [.ref mN, .ref mR, .ref mA, .ref mP, .int ch, .ref mT, .int le, .int (nI si), .ref mD])), (mT, .inl (cyI, 200, .inl tx)), (mD, .inl (cyI, 4, .inl (upd tg 0 (((10 * (tg 0)) + (tx si)) - 48))))]) X Y 2 rfl (bInD (by decide)) rfl rfl dX8_takesNumber_60 (fun H locs Y => ?_)
        refine lv_aload_n hx hb dX8_takesNumber_61 rfl (lv_at hl 0 rfl) ?_
        refine lv_dup hx hb dX8_takesNumber_62 rfl ?_
        refine bGet (v := .int (nI si)) (T := TX8) (N := 9) (ci := 8) X Y i_X8_takesNumber_X8 0 rfl rfl 7 (Nat.le_of_ble_eq_true rfl) f_X8_takesNumber_42 rfl rfl dX8_takesNumber_63 ?_
        refine lv_iconst (v := 1) hx hb dX8_takesNumber_66 (by decide) ?_
        refine bAdd (v := nI (si + 1)) X dX8_takesNumber_67 (nI_sum (a := si) (b := 1) rfl rfl (by omega)) ?_
        refine bPut (T := TX8) (N := 9) (ci := 8) (ws' := [(mM, .inr (8, [.ref mN, .ref mR, .ref mA, .ref mP, .int ch, .ref mT, .int le, .int (nI (si + 1)), .ref mD])), (mT, .inl (cyI, 200, .inl tx)), (mD, .inl (cyI, 4, .inl (upd tg 0 (((10 * (tg 0)) + (tx si)) - 48))))]) X Y i_X8_takesNumber_X8 tyX8 tyX8_ok nmX8 0 rfl rfl 7 (Nat.le_of_ble_eq_true rfl) f_X8_takesNumber_42 rfl rfl rfl rfl (Nat.le_of_ble_eq_true rfl) rfl dX8_takesNumber_68 (fun H locs Y => ?_)
        refine lv_goto (tgt := 12) hx hb dX8_takesNumber_71 (by decide) ?_
        exact ih (si + 1) (upd tg 0 (((10 * (tg 0)) + (tx si)) - 48)) (by omega) (by have := (bLtN (by omega) (by omega)).mp (bLtN2 c_1); omega) hu _ _ _ (lv_sub hl [0, 1, 2] rfl) Y
set_option maxHeartbeats 4000000 in
set_option maxRecDepth 100000 in
theorem c_takesNumber8_0 (l : Launch) (D : va_G) (cyC cyI : ClassId) (mM : Nat) (mN : Nat) (mR : Nat) (mA : Nat) (mP : Nat) (mT : Nat) (mD : Nat) (ch : Int32) (le : Int32) (sa : Nat ) (tx : Nat → Int32) (td : Nat → Int32) (o0 : Bool) (o1 : Nat) (o2 : Nat → Int32) (hu : s_takesNumber8_0 le sa tx td = (o0, o1, o2)) (hle : le ≤ nI 200) (hsa : sa ≤ 1000) : CI l yX8_takesNumber wsX8_takesNumber { frames := 2, cells := 0, slots := 0, locals := 44 } D cyC cyI [.ref mM, .int 0] [(mM, .inr (8, [.ref mN, .ref mR, .ref mA, .ref mP, .int ch, .ref mT, .int le, .int (nI sa), .ref mD])), (mT, .inl (cyI, 200, .inl tx)), (mD, .inl (cyI, 4, .inl td))] (bB o0) [(mM, .inr (8, [.ref mN, .ref mR, .ref mA, .ref mP, .int ch, .ref mT, .int le, .int (nI o1), .ref mD])), (mT, .inl (cyI, 200, .inl tx)), (mD, .inl (cyI, 4, .inl o2))] := by
  refine CI.of (cc := cX8_takesNumber) (n := 3) (ret := (some .boolean)) (by decide +kernel) rfl (Nat.le_of_ble_eq_true rfl) ?_
  intro p_ e_ s_ m_ bl_ me_ cd_ A_ ls X Y hr hlk hl
  have hx := X.1.1
  have hb := X.1.2.1
  have hl : lv_has ls 3 [(0, .ref mM), (1, .int 0)] := hl
  unfold s_takesNumber8_0 at hu
  refine lv_aload_n hx hb dX8_takesNumber_0 rfl (lv_at hl 0 rfl) ?_
  refine bGet (v := .int (nI sa)) (T := TX8) (N := 9) (ci := 8) X Y i_X8_takesNumber_X8 0 rfl rfl 7 (Nat.le_of_ble_eq_true rfl) f_X8_takesNumber_42 rfl rfl dX8_takesNumber_1 ?_
  refine lv_istore_n (lv' := [(2, .int (nI sa)), (0, .ref mM), (1, .int 0)]) hx hb dX8_takesNumber_4 rfl hl (by decide) rfl (fun ls hl => ?_)
  refine lv_aload_n hx hb dX8_takesNumber_5 rfl (lv_at hl 1 rfl) ?_
  refine bGet (v := .ref mD) (T := TX8) (N := 9) (ci := 8) X Y i_X8_takesNumber_X8 0 rfl rfl 8 (Nat.le_of_ble_eq_true rfl) f_X8_takesNumber_25 rfl rfl dX8_takesNumber_6 ?_
  refine lv_iload_n hx hb dX8_takesNumber_9 rfl (lv_at hl 2 rfl) ?_
  refine lv_iconst (v := 0) hx hb dX8_takesNumber_10 (by decide) ?_
  refine bIast (f' := upd td 0 0) (ws' := [(mM, .inr (8, [.ref mN, .ref mR, .ref mA, .ref mP, .int ch, .ref mT, .int le, .int (nI sa), .ref mD])), (mT, .inl (cyI, 200, .inl tx)), (mD, .inl (cyI, 4, .inl (upd td 0 0)))]) X Y 2 rfl (bInD (by decide)) rfl rfl dX8_takesNumber_11 (fun H locs Y => ?_)
  exact lp_takesNumber8_0 l D cyC cyI mM mN mR mA mP mT mD ch le sa tx td o0 o1 o2 X hr hlk hle hsa (4) sa (upd td 0 0) (by omega) (by omega) hu _ _ _ (lv_sub hl [1, 2, 0] rfl) Y
theorem gtN_0 {le : Int32} {sa : Nat} {tx : Nat → Int32} : ∀ (n si : Nat) (tg : Nat → Int32) (b : Bool) (td : Nat → Int32) (s2 : Nat), sa + 4 ≤ si + n → sa ≤ si → si ≤ sa + 3 → sa ≤ 1000 → g_takesNumber8_0 le sa tx n si tg = (b, s2, td) → sa ≤ s2 ∧ s2 ≤ sa + 3 := by
  intro n
  induction n with
  | zero => intro si tg b td s2 h0 h1 h2 h3 h; omega
  | succ n ih =>
    intro si tg b td s2 h0 h1 h2 h3 h
    rw [g_takesNumber8_0] at h
    by_cases c1 : nI (sa + 3) ≤ nI si
    · rw [if_pos c1] at h
      split at h <;> (simp only [Prod.mk.injEq] at h; omega)
    · rw [if_neg c1] at h
      have c2 := (bLtN (by omega) (by omega)).mp (bLtN2 c1)
      split at h
      · exact ih (si + 1) _ b td s2 (by omega) (by omega) (by omega) h3 h
      · split at h <;> (simp only [Prod.mk.injEq] at h; omega)
theorem tnK_0 {le : Int32} {sa : Nat} {tx td td2 : Nat → Int32} {b : Bool} {s2 : Nat} (h : s_takesNumber8_0 le sa tx td = (b, s2, td2)) (h3 : sa ≤ 1000) : sa ≤ s2 ∧ s2 ≤ sa + 3 := gtN_0 4 sa _ b td2 s2 (by omega) (by omega) (by omega) h3 h
def g_takesNumber8_1 (le : Int32) (sa : Nat ) (tx : Nat → Int32) : Nat → Nat → (Nat → Int32) → Bool × Nat × (Nat → Int32)
  | 0, _, _ => (false, 0, fun _ => 0)
  | n_ + 1, si, tg =>
    if (nI (sa + 3)) ≤ nI si then
      if nI si ≤ (nI sa) then
        (false, si, tg)
      else
        (true, si, tg)
    else
      if (s_isAt8 le si tx 48 57) = true then
        g_takesNumber8_1 le sa tx n_ (si + 1) (upd tg 1 (((10 * (tg 1)) + (tx si)) - 48))
      else
        if nI si ≤ (nI sa) then
          (false, si, tg)
        else
          (true, si, tg)
def s_takesNumber8_1 (le : Int32) (sa : Nat ) (tx : Nat → Int32) (td : Nat → Int32) : Bool × Nat × (Nat → Int32) :=
  g_takesNumber8_1 le sa tx (4) sa (upd td 1 0)
set_option maxHeartbeats 4000000 in
set_option maxRecDepth 100000 in
theorem lp_takesNumber8_1 {p_ : Program} {e_ : Env} {s_ : State} {m_ : MethodId} {bl_ : List Frame} {me_ : Method} {cd_ : Code} {A_ : Nat → Prop} (l : Launch) (D : va_G) (cyC cyI : ClassId) (mM : Nat) (mN : Nat) (mR : Nat) (mA : Nat) (mP : Nat) (mT : Nat) (mD : Nat) (ch : Int32) (le : Int32) (sa : Nat ) (tx : Nat → Int32) (td : Nat → Int32) (o0 : Bool) (o1 : Nat) (o2 : Nat → Int32) (X : bX p_ s_ m_ ([.ref mM, .int 1] : List Value).toArray cd_ cX8_takesNumber 3 wsX8_takesNumber yX8_takesNumber.cls D cyC cyI) (hr : me_.sig.returnType = (some .boolean)) (hlk : me_.locks = false) (hle : le ≤ nI 200) (hsa : sa ≤ 1000) : ∀ (n_ : Nat) (si : Nat) (tg : Nat → Int32) (hN : sa + 4 ≤ si + n_) (hS : sa ≤ si ∧ si ≤ sa + 3) (hu : g_takesNumber8_1 le sa tx n_ si tg = (o0, o1, o2)) (ls : Array Slot) (H : Heap) (locs : List Loc), lv_has ls 3 [(0, .ref mM), (1, .int 1), (2, .int (nI sa))] → bY D A_ s_.heap [(mM, .inr (8, [.ref mN, .ref mR, .ref mA, .ref mP, .int ch, .ref mT, .int le, .int (nI si), .ref mD])), (mT, .inl (cyI, 200, .inl tx)), (mD, .inl (cyI, 4, .inl tg))] H locs → W p_ l e_ ({ frames := 2, cells := 0, slots := 0, locals := 44 } : Room) s_ m_ ([.ref mM, .int 1] : List Value).toArray bl_ me_ cd_ H locs 0 0 (bQI bl_ ([.ref mM, .int 1] : List Value).toArray s_ D [(mM, .inr (8, [.ref mN, .ref mR, .ref mA, .ref mP, .int ch, .ref mT, .int le, .int (nI o1), .ref mD])), (mT, .inl (cyI, 200, .inl tx)), (mD, .inl (cyI, 4, .inl o2))] (bB o0) A_) (F0 m_ 12 ls []) := by
  intro n_
  induction n_ with
  | zero =>
    intro si tg hN hS hu ls H locs hl Y
    exfalso; omega
  | succ n_ ih =>
    intro si tg hN hS hu ls H locs hl Y
    have hx := X.1.1
    have hb := X.1.2.1
    rw [g_takesNumber8_1] at hu
    refine lv_aload_n hx hb dX8_takesNumber_12 rfl (lv_at hl 0 rfl) ?_
    refine bGet (v := .int (nI si)) (T := TX8) (N := 9) (ci := 8) X Y i_X8_takesNumber_X8 0 rfl rfl 7 (Nat.le_of_ble_eq_true rfl) f_X8_takesNumber_42 rfl rfl dX8_takesNumber_13 ?_
    refine lv_iload_n hx hb dX8_takesNumber_16 rfl (lv_at hl 2 rfl) ?_
    refine lv_iconst (v := 3) hx hb dX8_takesNumber_17 (by decide) ?_
    refine bAdd (v := nI (sa + 3)) X dX8_takesNumber_18 (nI_sum (a := sa) (b := 3) rfl rfl (by omega)) ?_
    refine lv_icmp_ge (tgt := 74) hx hb dX8_takesNumber_19 (by decide) (fun c_1 => ?_) (fun c_1 => ?_)
    · have c_1 : (nI (sa + 3)) ≤ nI si := c_1
      rw [if_pos c_1] at hu
      refine lv_aload_n hx hb dX8_takesNumber_74 rfl (lv_at hl 0 rfl) ?_
      refine bGet (v := .int (nI si)) (T := TX8) (N := 9) (ci := 8) X Y i_X8_takesNumber_X8 0 rfl rfl 7 (Nat.le_of_ble_eq_true rfl) f_X8_takesNumber_42 rfl rfl dX8_takesNumber_75 ?_
      refine lv_iload_n hx hb dX8_takesNumber_78 rfl (lv_at hl 2 rfl) ?_
      refine lv_icmp_le (tgt := 86) hx hb dX8_takesNumber_79 (by decide) (fun c_2 => ?_) (fun c_2 => ?_)
      · have c_2 : nI si ≤ (nI sa) := c_2
        rw [if_pos c_2] at hu
        refine lv_iconst (v := 0) hx hb dX8_takesNumber_86 (by decide) ?_
        have h9 := (Prod.mk.inj hu).1; replace hu := (Prod.mk.inj hu).2; subst h9
        have h9 := (Prod.mk.inj hu).1; replace hu := (Prod.mk.inj hu).2; subst h9
        subst hu
        exact bEndZ X Y hr hlk dX8_takesNumber_87 rfl rfl rfl
      · have c_2 : ¬ (nI si ≤ (nI sa)) := c_2
        rw [if_neg c_2] at hu
        refine lv_iconst (v := 1) hx hb dX8_takesNumber_82 (by decide) ?_
        refine lv_goto (tgt := 87) hx hb dX8_takesNumber_83 (by decide) ?_
        have h9 := (Prod.mk.inj hu).1; replace hu := (Prod.mk.inj hu).2; subst h9
        have h9 := (Prod.mk.inj hu).1; replace hu := (Prod.mk.inj hu).2; subst h9
        subst hu
        exact bEndZ X Y hr hlk dX8_takesNumber_87 rfl rfl rfl
    · have c_1 : ¬ ((nI (sa + 3)) ≤ nI si) := c_1
      rw [if_neg c_1] at hu
      refine lv_aload_n hx hb dX8_takesNumber_22 rfl (lv_at hl 0 rfl) ?_
      refine lv_bipush (v := 48) hx hb dX8_takesNumber_23 (by decide) ?_
      refine lv_bipush (v := 57) hx hb dX8_takesNumber_25 (by decide) ?_
      refine bVI0 (As := [.int 48, .int 57]) (rest := []) (wc := [(mM, .inr (8, [.ref mN, .ref mR, .ref mA, .ref mP, .int ch, .ref mT, .int le, .int (nI si), .ref mD])), (mT, .inl (cyI, 200, .inl tx))]) (ci := 8) (q0 := 0) X Y (c_isAt8 l D cyC cyI mM mN mR mA mP mT mD ch le si tx 48 57 (s_isAt8 le si tx 48 57) rfl (by first | assumption | omega | decide) (by first | assumption | omega | decide)) gX8_takesNumber_X8_isAt rfl ⟨rfl, rfl⟩ hd_X8_isAt ⟨(Nat.le_of_ble_eq_true rfl), (Nat.le_of_ble_eq_true rfl)⟩ rfl rfl rfl [0, 1] rfl rfl rfl rfl hl.1 (Nat.le_of_ble_eq_true rfl) ⟨Nat.zero_le _, Nat.zero_le _⟩ dX8_takesNumber_27 (fun H locs Y => ?_)
      refine lv_if_eq (tgt := 74) hx hb dX8_takesNumber_30 (by decide) (fun c_3 => ?_) (fun c_3 => ?_)
      · have c_3 := bB_f c_3
        rw [if_neg c_3] at hu
        refine lv_aload_n hx hb dX8_takesNumber_74 rfl (lv_at hl 0 rfl) ?_
        refine bGet (v := .int (nI si)) (T := TX8) (N := 9) (ci := 8) X Y i_X8_takesNumber_X8 0 rfl rfl 7 (Nat.le_of_ble_eq_true rfl) f_X8_takesNumber_42 rfl rfl dX8_takesNumber_75 ?_
        refine lv_iload_n hx hb dX8_takesNumber_78 rfl (lv_at hl 2 rfl) ?_
        refine lv_icmp_le (tgt := 86) hx hb dX8_takesNumber_79 (by decide) (fun c_4 => ?_) (fun c_4 => ?_)
        · have c_4 : nI si ≤ (nI sa) := c_4
          rw [if_pos c_4] at hu
          refine lv_iconst (v := 0) hx hb dX8_takesNumber_86 (by decide) ?_
          have h9 := (Prod.mk.inj hu).1; replace hu := (Prod.mk.inj hu).2; subst h9
          have h9 := (Prod.mk.inj hu).1; replace hu := (Prod.mk.inj hu).2; subst h9
          subst hu
          exact bEndZ X Y hr hlk dX8_takesNumber_87 rfl rfl rfl
        · have c_4 : ¬ (nI si ≤ (nI sa)) := c_4
          rw [if_neg c_4] at hu
          refine lv_iconst (v := 1) hx hb dX8_takesNumber_82 (by decide) ?_
          refine lv_goto (tgt := 87) hx hb dX8_takesNumber_83 (by decide) ?_
          have h9 := (Prod.mk.inj hu).1; replace hu := (Prod.mk.inj hu).2; subst h9
          have h9 := (Prod.mk.inj hu).1; replace hu := (Prod.mk.inj hu).2; subst h9
          subst hu
          exact bEndZ X Y hr hlk dX8_takesNumber_87 rfl rfl rfl
      · have c_3 := bB_t c_3
        rw [if_pos c_3] at hu
        refine lv_aload_n hx hb dX8_takesNumber_33 rfl (lv_at hl 0 rfl) ?_
        refine bGet (v := .ref mD) (T := TX8) (N := 9) (ci := 8) X Y i_X8_takesNumber_X8 0 rfl rfl 8 (Nat.le_of_ble_eq_true rfl) f_X8_takesNumber_25 rfl rfl dX8_takesNumber_34 ?_
        refine lv_iload_n hx hb dX8_takesNumber_37 rfl (lv_at hl 1 rfl) ?_
        refine lv_bipush (v := 10) hx hb dX8_takesNumber_38 (by decide) ?_
        refine lv_aload_n hx hb dX8_takesNumber_40 rfl (lv_at hl 0 rfl) ?_
        refine bGet (v := .ref mD) (T := TX8) (N := 9) (ci := 8) X Y i_X8_takesNumber_X8 0 rfl rfl 8 (Nat.le_of_ble_eq_true rfl) f_X8_takesNumber_25 rfl rfl dX8_takesNumber_41 ?_
        refine lv_iload_n hx hb dX8_takesNumber_44 rfl (lv_at hl 1 rfl) ?_
        refine bIald (v := tg 1) X Y 2 rfl (bInD (by decide)) dX8_takesNumber_45 rfl ?_
        refine bMul (v := 10 * (tg 1)) X dX8_takesNumber_46 rfl ?_
        refine lv_aload_n hx hb dX8_takesNumber_47 rfl (lv_at hl 0 rfl) ?_
        refine bGet (v := .ref mT) (T := TX8) (N := 9) (ci := 8) X Y i_X8_takesNumber_X8 0 rfl rfl 5 (Nat.le_of_ble_eq_true rfl) f_X8_takesNumber_22 rfl rfl dX8_takesNumber_48 ?_
        refine lv_aload_n hx hb dX8_takesNumber_51 rfl (lv_at hl 0 rfl) ?_
        refine bGet (v := .int (nI si)) (T := TX8) (N := 9) (ci := 8) X Y i_X8_takesNumber_X8 0 rfl rfl 7 (Nat.le_of_ble_eq_true rfl) f_X8_takesNumber_42 rfl rfl dX8_takesNumber_52 ?_
        refine bIald (v := tx si) X Y 1 rfl (bInT (by omega) hle (isAt8_lt c_3)) dX8_takesNumber_55 (bIdx (by omega)) ?_
        refine bAdd (v := (10 * (tg 1)) + (tx si)) X dX8_takesNumber_56 rfl ?_
        refine lv_bipush (v := 48) hx hb dX8_takesNumber_57 (by decide) ?_
        refine bSub (v := ((10 * (tg 1)) + (tx si)) - 48) X dX8_takesNumber_59 rfl ?_
        refine bIast (f' := upd tg 1 (((10 * (tg 1)) + (tx si)) - 48)) (ws' := [(mM, .inr (8, [.ref mN, .ref mR, .ref mA, .ref mP, .int ch, .ref mT, .int le, .int (nI si), .ref mD])), (mT, .inl (cyI, 200, .inl tx)), (mD, .inl (cyI, 4, .inl (upd tg 1 (((10 * (tg 1)) + (tx si)) - 48))))]) X Y 2 rfl (bInD (by decide)) rfl rfl dX8_takesNumber_60 (fun H locs Y => ?_)
        refine lv_aload_n hx hb dX8_takesNumber_61 rfl (lv_at hl 0 rfl) ?_
        refine lv_dup hx hb dX8_takesNumber_62 rfl ?_
        refine bGet (v := .int (nI si)) (T := TX8) (N := 9) (ci := 8) X Y i_X8_takesNumber_X8 0 rfl rfl 7 (Nat.le_of_ble_eq_true rfl) f_X8_takesNumber_42 rfl rfl dX8_takesNumber_63 ?_
        refine lv_iconst (v := 1) hx hb dX8_takesNumber_66 (by decide) ?_
        refine bAdd (v := nI (si + 1)) X dX8_takesNumber_67 (nI_sum (a := si) (b := 1) rfl rfl (by omega)) ?_
        refine bPut (T := TX8) (N := 9) (ci := 8) (ws' := [(mM, .inr (8, [.ref mN, .ref mR, .ref mA, .ref mP, .int ch, .ref mT, .int le, .int (nI (si + 1)), .ref mD])), (mT, .inl (cyI, 200, .inl tx)), (mD, .inl (cyI, 4, .inl (upd tg 1 (((10 * (tg 1)) + (tx si)) - 48))))]) X Y i_X8_takesNumber_X8 tyX8 tyX8_ok nmX8 0 rfl rfl 7 (Nat.le_of_ble_eq_true rfl) f_X8_takesNumber_42 rfl rfl rfl rfl (Nat.le_of_ble_eq_true rfl) rfl dX8_takesNumber_68 (fun H locs Y => ?_)
        refine lv_goto (tgt := 12) hx hb dX8_takesNumber_71 (by decide) ?_
        exact ih (si + 1) (upd tg 1 (((10 * (tg 1)) + (tx si)) - 48)) (by omega) (by have := (bLtN (by omega) (by omega)).mp (bLtN2 c_1); omega) hu _ _ _ (lv_sub hl [0, 1, 2] rfl) Y
set_option maxHeartbeats 4000000 in
set_option maxRecDepth 100000 in
theorem c_takesNumber8_1 (l : Launch) (D : va_G) (cyC cyI : ClassId) (mM : Nat) (mN : Nat) (mR : Nat) (mA : Nat) (mP : Nat) (mT : Nat) (mD : Nat) (ch : Int32) (le : Int32) (sa : Nat ) (tx : Nat → Int32) (td : Nat → Int32) (o0 : Bool) (o1 : Nat) (o2 : Nat → Int32) (hu : s_takesNumber8_1 le sa tx td = (o0, o1, o2)) (hle : le ≤ nI 200) (hsa : sa ≤ 1000) : CI l yX8_takesNumber wsX8_takesNumber { frames := 2, cells := 0, slots := 0, locals := 44 } D cyC cyI [.ref mM, .int 1] [(mM, .inr (8, [.ref mN, .ref mR, .ref mA, .ref mP, .int ch, .ref mT, .int le, .int (nI sa), .ref mD])), (mT, .inl (cyI, 200, .inl tx)), (mD, .inl (cyI, 4, .inl td))] (bB o0) [(mM, .inr (8, [.ref mN, .ref mR, .ref mA, .ref mP, .int ch, .ref mT, .int le, .int (nI o1), .ref mD])), (mT, .inl (cyI, 200, .inl tx)), (mD, .inl (cyI, 4, .inl o2))] := by
  refine CI.of (cc := cX8_takesNumber) (n := 3) (ret := (some .boolean)) (by decide +kernel) rfl (Nat.le_of_ble_eq_true rfl) ?_
  intro p_ e_ s_ m_ bl_ me_ cd_ A_ ls X Y hr hlk hl
  have hx := X.1.1
  have hb := X.1.2.1
  have hl : lv_has ls 3 [(0, .ref mM), (1, .int 1)] := hl
  unfold s_takesNumber8_1 at hu
  refine lv_aload_n hx hb dX8_takesNumber_0 rfl (lv_at hl 0 rfl) ?_
  refine bGet (v := .int (nI sa)) (T := TX8) (N := 9) (ci := 8) X Y i_X8_takesNumber_X8 0 rfl rfl 7 (Nat.le_of_ble_eq_true rfl) f_X8_takesNumber_42 rfl rfl dX8_takesNumber_1 ?_
  refine lv_istore_n (lv' := [(2, .int (nI sa)), (0, .ref mM), (1, .int 1)]) hx hb dX8_takesNumber_4 rfl hl (by decide) rfl (fun ls hl => ?_)
  refine lv_aload_n hx hb dX8_takesNumber_5 rfl (lv_at hl 1 rfl) ?_
  refine bGet (v := .ref mD) (T := TX8) (N := 9) (ci := 8) X Y i_X8_takesNumber_X8 0 rfl rfl 8 (Nat.le_of_ble_eq_true rfl) f_X8_takesNumber_25 rfl rfl dX8_takesNumber_6 ?_
  refine lv_iload_n hx hb dX8_takesNumber_9 rfl (lv_at hl 2 rfl) ?_
  refine lv_iconst (v := 0) hx hb dX8_takesNumber_10 (by decide) ?_
  refine bIast (f' := upd td 1 0) (ws' := [(mM, .inr (8, [.ref mN, .ref mR, .ref mA, .ref mP, .int ch, .ref mT, .int le, .int (nI sa), .ref mD])), (mT, .inl (cyI, 200, .inl tx)), (mD, .inl (cyI, 4, .inl (upd td 1 0)))]) X Y 2 rfl (bInD (by decide)) rfl rfl dX8_takesNumber_11 (fun H locs Y => ?_)
  exact lp_takesNumber8_1 l D cyC cyI mM mN mR mA mP mT mD ch le sa tx td o0 o1 o2 X hr hlk hle hsa (4) sa (upd td 1 0) (by omega) (by omega) hu _ _ _ (lv_sub hl [1, 2, 0] rfl) Y
theorem gtN_1 {le : Int32} {sa : Nat} {tx : Nat → Int32} : ∀ (n si : Nat) (tg : Nat → Int32) (b : Bool) (td : Nat → Int32) (s2 : Nat), sa + 4 ≤ si + n → sa ≤ si → si ≤ sa + 3 → sa ≤ 1000 → g_takesNumber8_1 le sa tx n si tg = (b, s2, td) → sa ≤ s2 ∧ s2 ≤ sa + 3 := by
  intro n
  induction n with
  | zero => intro si tg b td s2 h0 h1 h2 h3 h; omega
  | succ n ih =>
    intro si tg b td s2 h0 h1 h2 h3 h
    rw [g_takesNumber8_1] at h
    by_cases c1 : nI (sa + 3) ≤ nI si
    · rw [if_pos c1] at h
      split at h <;> (simp only [Prod.mk.injEq] at h; omega)
    · rw [if_neg c1] at h
      have c2 := (bLtN (by omega) (by omega)).mp (bLtN2 c1)
      split at h
      · exact ih (si + 1) _ b td s2 (by omega) (by omega) (by omega) h3 h
      · split at h <;> (simp only [Prod.mk.injEq] at h; omega)
theorem tnK_1 {le : Int32} {sa : Nat} {tx td td2 : Nat → Int32} {b : Bool} {s2 : Nat} (h : s_takesNumber8_1 le sa tx td = (b, s2, td2)) (h3 : sa ≤ 1000) : sa ≤ s2 ∧ s2 ≤ sa + 3 := gtN_1 4 sa _ b td2 s2 (by omega) (by omega) (by omega) h3 h
def g_takesNumber8_2 (le : Int32) (sa : Nat ) (tx : Nat → Int32) : Nat → Nat → (Nat → Int32) → Bool × Nat × (Nat → Int32)
  | 0, _, _ => (false, 0, fun _ => 0)
  | n_ + 1, si, tg =>
    if (nI (sa + 3)) ≤ nI si then
      if nI si ≤ (nI sa) then
        (false, si, tg)
      else
        (true, si, tg)
    else
      if (s_isAt8 le si tx 48 57) = true then
        g_takesNumber8_2 le sa tx n_ (si + 1) (upd tg 2 (((10 * (tg 2)) + (tx si)) - 48))
      else
        if nI si ≤ (nI sa) then
          (false, si, tg)
        else
          (true, si, tg)
def s_takesNumber8_2 (le : Int32) (sa : Nat ) (tx : Nat → Int32) (td : Nat → Int32) : Bool × Nat × (Nat → Int32) :=
  g_takesNumber8_2 le sa tx (4) sa (upd td 2 0)
set_option maxHeartbeats 4000000 in
set_option maxRecDepth 100000 in
theorem lp_takesNumber8_2 {p_ : Program} {e_ : Env} {s_ : State} {m_ : MethodId} {bl_ : List Frame} {me_ : Method} {cd_ : Code} {A_ : Nat → Prop} (l : Launch) (D : va_G) (cyC cyI : ClassId) (mM : Nat) (mN : Nat) (mR : Nat) (mA : Nat) (mP : Nat) (mT : Nat) (mD : Nat) (ch : Int32) (le : Int32) (sa : Nat ) (tx : Nat → Int32) (td : Nat → Int32) (o0 : Bool) (o1 : Nat) (o2 : Nat → Int32) (X : bX p_ s_ m_ ([.ref mM, .int 2] : List Value).toArray cd_ cX8_takesNumber 3 wsX8_takesNumber yX8_takesNumber.cls D cyC cyI) (hr : me_.sig.returnType = (some .boolean)) (hlk : me_.locks = false) (hle : le ≤ nI 200) (hsa : sa ≤ 1000) : ∀ (n_ : Nat) (si : Nat) (tg : Nat → Int32) (hN : sa + 4 ≤ si + n_) (hS : sa ≤ si ∧ si ≤ sa + 3) (hu : g_takesNumber8_2 le sa tx n_ si tg = (o0, o1, o2)) (ls : Array Slot) (H : Heap) (locs : List Loc), lv_has ls 3 [(0, .ref mM), (1, .int 2), (2, .int (nI sa))] → bY D A_ s_.heap [(mM, .inr (8, [.ref mN, .ref mR, .ref mA, .ref mP, .int ch, .ref mT, .int le, .int (nI si), .ref mD])), (mT, .inl (cyI, 200, .inl tx)), (mD, .inl (cyI, 4, .inl tg))] H locs → W p_ l e_ ({ frames := 2, cells := 0, slots := 0, locals := 44 } : Room) s_ m_ ([.ref mM, .int 2] : List Value).toArray bl_ me_ cd_ H locs 0 0 (bQI bl_ ([.ref mM, .int 2] : List Value).toArray s_ D [(mM, .inr (8, [.ref mN, .ref mR, .ref mA, .ref mP, .int ch, .ref mT, .int le, .int (nI o1), .ref mD])), (mT, .inl (cyI, 200, .inl tx)), (mD, .inl (cyI, 4, .inl o2))] (bB o0) A_) (F0 m_ 12 ls []) := by
  intro n_
  induction n_ with
  | zero =>
    intro si tg hN hS hu ls H locs hl Y
    exfalso; omega
  | succ n_ ih =>
    intro si tg hN hS hu ls H locs hl Y
    have hx := X.1.1
    have hb := X.1.2.1
    rw [g_takesNumber8_2] at hu
    refine lv_aload_n hx hb dX8_takesNumber_12 rfl (lv_at hl 0 rfl) ?_
    refine bGet (v := .int (nI si)) (T := TX8) (N := 9) (ci := 8) X Y i_X8_takesNumber_X8 0 rfl rfl 7 (Nat.le_of_ble_eq_true rfl) f_X8_takesNumber_42 rfl rfl dX8_takesNumber_13 ?_
    refine lv_iload_n hx hb dX8_takesNumber_16 rfl (lv_at hl 2 rfl) ?_
    refine lv_iconst (v := 3) hx hb dX8_takesNumber_17 (by decide) ?_
    refine bAdd (v := nI (sa + 3)) X dX8_takesNumber_18 (nI_sum (a := sa) (b := 3) rfl rfl (by omega)) ?_
    refine lv_icmp_ge (tgt := 74) hx hb dX8_takesNumber_19 (by decide) (fun c_1 => ?_) (fun c_1 => ?_)
    · have c_1 : (nI (sa + 3)) ≤ nI si := c_1
      rw [if_pos c_1] at hu
      refine lv_aload_n hx hb dX8_takesNumber_74 rfl (lv_at hl 0 rfl) ?_
      refine bGet (v := .int (nI si)) (T := TX8) (N := 9) (ci := 8) X Y i_X8_takesNumber_X8 0 rfl rfl 7 (Nat.le_of_ble_eq_true rfl) f_X8_takesNumber_42 rfl rfl dX8_takesNumber_75 ?_
      refine lv_iload_n hx hb dX8_takesNumber_78 rfl (lv_at hl 2 rfl) ?_
      refine lv_icmp_le (tgt := 86) hx hb dX8_takesNumber_79 (by decide) (fun c_2 => ?_) (fun c_2 => ?_)
      · have c_2 : nI si ≤ (nI sa) := c_2
        rw [if_pos c_2] at hu
        refine lv_iconst (v := 0) hx hb dX8_takesNumber_86 (by decide) ?_
        have h9 := (Prod.mk.inj hu).1; replace hu := (Prod.mk.inj hu).2; subst h9
        have h9 := (Prod.mk.inj hu).1; replace hu := (Prod.mk.inj hu).2; subst h9
        subst hu
        exact bEndZ X Y hr hlk dX8_takesNumber_87 rfl rfl rfl
      · have c_2 : ¬ (nI si ≤ (nI sa)) := c_2
        rw [if_neg c_2] at hu
        refine lv_iconst (v := 1) hx hb dX8_takesNumber_82 (by decide) ?_
        refine lv_goto (tgt := 87) hx hb dX8_takesNumber_83 (by decide) ?_
        have h9 := (Prod.mk.inj hu).1; replace hu := (Prod.mk.inj hu).2; subst h9
        have h9 := (Prod.mk.inj hu).1; replace hu := (Prod.mk.inj hu).2; subst h9
        subst hu
        exact bEndZ X Y hr hlk dX8_takesNumber_87 rfl rfl rfl
    · have c_1 : ¬ ((nI (sa + 3)) ≤ nI si) := c_1
      rw [if_neg c_1] at hu
      refine lv_aload_n hx hb dX8_takesNumber_22 rfl (lv_at hl 0 rfl) ?_
      refine lv_bipush (v := 48) hx hb dX8_takesNumber_23 (by decide) ?_
      refine lv_bipush (v := 57) hx hb dX8_takesNumber_25 (by decide) ?_
      refine bVI0 (As := [.int 48, .int 57]) (rest := []) (wc := [(mM, .inr (8, [.ref mN, .ref mR, .ref mA, .ref mP, .int ch, .ref mT, .int le, .int (nI si), .ref mD])), (mT, .inl (cyI, 200, .inl tx))]) (ci := 8) (q0 := 0) X Y (c_isAt8 l D cyC cyI mM mN mR mA mP mT mD ch le si tx 48 57 (s_isAt8 le si tx 48 57) rfl (by first | assumption | omega | decide) (by first | assumption | omega | decide)) gX8_takesNumber_X8_isAt rfl ⟨rfl, rfl⟩ hd_X8_isAt ⟨(Nat.le_of_ble_eq_true rfl), (Nat.le_of_ble_eq_true rfl)⟩ rfl rfl rfl [0, 1] rfl rfl rfl rfl hl.1 (Nat.le_of_ble_eq_true rfl) ⟨Nat.zero_le _, Nat.zero_le _⟩ dX8_takesNumber_27 (fun H locs Y => ?_)
      refine lv_if_eq (tgt := 74) hx hb dX8_takesNumber_30 (by decide) (fun c_3 => ?_) (fun c_3 => ?_)
      · have c_3 := bB_f c_3
        rw [if_neg c_3] at hu
        refine lv_aload_n hx hb dX8_takesNumber_74 rfl (lv_at hl 0 rfl) ?_
        refine bGet (v := .int (nI si)) (T := TX8) (N := 9) (ci := 8) X Y i_X8_takesNumber_X8 0 rfl rfl 7 (Nat.le_of_ble_eq_true rfl) f_X8_takesNumber_42 rfl rfl dX8_takesNumber_75 ?_
        refine lv_iload_n hx hb dX8_takesNumber_78 rfl (lv_at hl 2 rfl) ?_
        refine lv_icmp_le (tgt := 86) hx hb dX8_takesNumber_79 (by decide) (fun c_4 => ?_) (fun c_4 => ?_)
        · have c_4 : nI si ≤ (nI sa) := c_4
          rw [if_pos c_4] at hu
          refine lv_iconst (v := 0) hx hb dX8_takesNumber_86 (by decide) ?_
          have h9 := (Prod.mk.inj hu).1; replace hu := (Prod.mk.inj hu).2; subst h9
          have h9 := (Prod.mk.inj hu).1; replace hu := (Prod.mk.inj hu).2; subst h9
          subst hu
          exact bEndZ X Y hr hlk dX8_takesNumber_87 rfl rfl rfl
        · have c_4 : ¬ (nI si ≤ (nI sa)) := c_4
          rw [if_neg c_4] at hu
          refine lv_iconst (v := 1) hx hb dX8_takesNumber_82 (by decide) ?_
          refine lv_goto (tgt := 87) hx hb dX8_takesNumber_83 (by decide) ?_
          have h9 := (Prod.mk.inj hu).1; replace hu := (Prod.mk.inj hu).2; subst h9
          have h9 := (Prod.mk.inj hu).1; replace hu := (Prod.mk.inj hu).2; subst h9
          subst hu
          exact bEndZ X Y hr hlk dX8_takesNumber_87 rfl rfl rfl
      · have c_3 := bB_t c_3
        rw [if_pos c_3] at hu
        refine lv_aload_n hx hb dX8_takesNumber_33 rfl (lv_at hl 0 rfl) ?_
        refine bGet (v := .ref mD) (T := TX8) (N := 9) (ci := 8) X Y i_X8_takesNumber_X8 0 rfl rfl 8 (Nat.le_of_ble_eq_true rfl) f_X8_takesNumber_25 rfl rfl dX8_takesNumber_34 ?_
        refine lv_iload_n hx hb dX8_takesNumber_37 rfl (lv_at hl 1 rfl) ?_
        refine lv_bipush (v := 10) hx hb dX8_takesNumber_38 (by decide) ?_
        refine lv_aload_n hx hb dX8_takesNumber_40 rfl (lv_at hl 0 rfl) ?_
        refine bGet (v := .ref mD) (T := TX8) (N := 9) (ci := 8) X Y i_X8_takesNumber_X8 0 rfl rfl 8 (Nat.le_of_ble_eq_true rfl) f_X8_takesNumber_25 rfl rfl dX8_takesNumber_41 ?_
        refine lv_iload_n hx hb dX8_takesNumber_44 rfl (lv_at hl 1 rfl) ?_
        refine bIald (v := tg 2) X Y 2 rfl (bInD (by decide)) dX8_takesNumber_45 rfl ?_
        refine bMul (v := 10 * (tg 2)) X dX8_takesNumber_46 rfl ?_
        refine lv_aload_n hx hb dX8_takesNumber_47 rfl (lv_at hl 0 rfl) ?_
        refine bGet (v := .ref mT) (T := TX8) (N := 9) (ci := 8) X Y i_X8_takesNumber_X8 0 rfl rfl 5 (Nat.le_of_ble_eq_true rfl) f_X8_takesNumber_22 rfl rfl dX8_takesNumber_48 ?_
        refine lv_aload_n hx hb dX8_takesNumber_51 rfl (lv_at hl 0 rfl) ?_
        refine bGet (v := .int (nI si)) (T := TX8) (N := 9) (ci := 8) X Y i_X8_takesNumber_X8 0 rfl rfl 7 (Nat.le_of_ble_eq_true rfl) f_X8_takesNumber_42 rfl rfl dX8_takesNumber_52 ?_
        refine bIald (v := tx si) X Y 1 rfl (bInT (by omega) hle (isAt8_lt c_3)) dX8_takesNumber_55 (bIdx (by omega)) ?_
        refine bAdd (v := (10 * (tg 2)) + (tx si)) X dX8_takesNumber_56 rfl ?_
        refine lv_bipush (v := 48) hx hb dX8_takesNumber_57 (by decide) ?_
        refine bSub (v := ((10 * (tg 2)) + (tx si)) - 48) X dX8_takesNumber_59 rfl ?_
        refine bIast (f' := upd tg 2 (((10 * (tg 2)) + (tx si)) - 48)) (ws' := [(mM, .inr (8, [.ref mN, .ref mR, .ref mA, .ref mP, .int ch, .ref mT, .int le, .int (nI si), .ref mD])), (mT, .inl (cyI, 200, .inl tx)), (mD, .inl (cyI, 4, .inl (upd tg 2 (((10 * (tg 2)) + (tx si)) - 48))))]) X Y 2 rfl (bInD (by decide)) rfl rfl dX8_takesNumber_60 (fun H locs Y => ?_)
        refine lv_aload_n hx hb dX8_takesNumber_61 rfl (lv_at hl 0 rfl) ?_
        refine lv_dup hx hb dX8_takesNumber_62 rfl ?_
        refine bGet (v := .int (nI si)) (T := TX8) (N := 9) (ci := 8) X Y i_X8_takesNumber_X8 0 rfl rfl 7 (Nat.le_of_ble_eq_true rfl) f_X8_takesNumber_42 rfl rfl dX8_takesNumber_63 ?_
        refine lv_iconst (v := 1) hx hb dX8_takesNumber_66 (by decide) ?_
        refine bAdd (v := nI (si + 1)) X dX8_takesNumber_67 (nI_sum (a := si) (b := 1) rfl rfl (by omega)) ?_
        refine bPut (T := TX8) (N := 9) (ci := 8) (ws' := [(mM, .inr (8, [.ref mN, .ref mR, .ref mA, .ref mP, .int ch, .ref mT, .int le, .int (nI (si + 1)), .ref mD])), (mT, .inl (cyI, 200, .inl tx)), (mD, .inl (cyI, 4, .inl (upd tg 2 (((10 * (tg 2)) + (tx si)) - 48))))]) X Y i_X8_takesNumber_X8 tyX8 tyX8_ok nmX8 0 rfl rfl 7 (Nat.le_of_ble_eq_true rfl) f_X8_takesNumber_42 rfl rfl rfl rfl (Nat.le_of_ble_eq_true rfl) rfl dX8_takesNumber_68 (fun H locs Y => ?_)
        refine lv_goto (tgt := 12) hx hb dX8_takesNumber_71 (by decide) ?_
        exact ih (si + 1) (upd tg 2 (((10 * (tg 2)) + (tx si)) - 48)) (by omega) (by have := (bLtN (by omega) (by omega)).mp (bLtN2 c_1); omega) hu _ _ _ (lv_sub hl [0, 1, 2] rfl) Y
set_option maxHeartbeats 4000000 in
set_option maxRecDepth 100000 in
theorem c_takesNumber8_2 (l : Launch) (D : va_G) (cyC cyI : ClassId) (mM : Nat) (mN : Nat) (mR : Nat) (mA : Nat) (mP : Nat) (mT : Nat) (mD : Nat) (ch : Int32) (le : Int32) (sa : Nat ) (tx : Nat → Int32) (td : Nat → Int32) (o0 : Bool) (o1 : Nat) (o2 : Nat → Int32) (hu : s_takesNumber8_2 le sa tx td = (o0, o1, o2)) (hle : le ≤ nI 200) (hsa : sa ≤ 1000) : CI l yX8_takesNumber wsX8_takesNumber { frames := 2, cells := 0, slots := 0, locals := 44 } D cyC cyI [.ref mM, .int 2] [(mM, .inr (8, [.ref mN, .ref mR, .ref mA, .ref mP, .int ch, .ref mT, .int le, .int (nI sa), .ref mD])), (mT, .inl (cyI, 200, .inl tx)), (mD, .inl (cyI, 4, .inl td))] (bB o0) [(mM, .inr (8, [.ref mN, .ref mR, .ref mA, .ref mP, .int ch, .ref mT, .int le, .int (nI o1), .ref mD])), (mT, .inl (cyI, 200, .inl tx)), (mD, .inl (cyI, 4, .inl o2))] := by
  refine CI.of (cc := cX8_takesNumber) (n := 3) (ret := (some .boolean)) (by decide +kernel) rfl (Nat.le_of_ble_eq_true rfl) ?_
  intro p_ e_ s_ m_ bl_ me_ cd_ A_ ls X Y hr hlk hl
  have hx := X.1.1
  have hb := X.1.2.1
  have hl : lv_has ls 3 [(0, .ref mM), (1, .int 2)] := hl
  unfold s_takesNumber8_2 at hu
  refine lv_aload_n hx hb dX8_takesNumber_0 rfl (lv_at hl 0 rfl) ?_
  refine bGet (v := .int (nI sa)) (T := TX8) (N := 9) (ci := 8) X Y i_X8_takesNumber_X8 0 rfl rfl 7 (Nat.le_of_ble_eq_true rfl) f_X8_takesNumber_42 rfl rfl dX8_takesNumber_1 ?_
  refine lv_istore_n (lv' := [(2, .int (nI sa)), (0, .ref mM), (1, .int 2)]) hx hb dX8_takesNumber_4 rfl hl (by decide) rfl (fun ls hl => ?_)
  refine lv_aload_n hx hb dX8_takesNumber_5 rfl (lv_at hl 1 rfl) ?_
  refine bGet (v := .ref mD) (T := TX8) (N := 9) (ci := 8) X Y i_X8_takesNumber_X8 0 rfl rfl 8 (Nat.le_of_ble_eq_true rfl) f_X8_takesNumber_25 rfl rfl dX8_takesNumber_6 ?_
  refine lv_iload_n hx hb dX8_takesNumber_9 rfl (lv_at hl 2 rfl) ?_
  refine lv_iconst (v := 0) hx hb dX8_takesNumber_10 (by decide) ?_
  refine bIast (f' := upd td 2 0) (ws' := [(mM, .inr (8, [.ref mN, .ref mR, .ref mA, .ref mP, .int ch, .ref mT, .int le, .int (nI sa), .ref mD])), (mT, .inl (cyI, 200, .inl tx)), (mD, .inl (cyI, 4, .inl (upd td 2 0)))]) X Y 2 rfl (bInD (by decide)) rfl rfl dX8_takesNumber_11 (fun H locs Y => ?_)
  exact lp_takesNumber8_2 l D cyC cyI mM mN mR mA mP mT mD ch le sa tx td o0 o1 o2 X hr hlk hle hsa (4) sa (upd td 2 0) (by omega) (by omega) hu _ _ _ (lv_sub hl [1, 2, 0] rfl) Y
theorem gtN_2 {le : Int32} {sa : Nat} {tx : Nat → Int32} : ∀ (n si : Nat) (tg : Nat → Int32) (b : Bool) (td : Nat → Int32) (s2 : Nat), sa + 4 ≤ si + n → sa ≤ si → si ≤ sa + 3 → sa ≤ 1000 → g_takesNumber8_2 le sa tx n si tg = (b, s2, td) → sa ≤ s2 ∧ s2 ≤ sa + 3 := by
  intro n
  induction n with
  | zero => intro si tg b td s2 h0 h1 h2 h3 h; omega
  | succ n ih =>
    intro si tg b td s2 h0 h1 h2 h3 h
    rw [g_takesNumber8_2] at h
    by_cases c1 : nI (sa + 3) ≤ nI si
    · rw [if_pos c1] at h
      split at h <;> (simp only [Prod.mk.injEq] at h; omega)
    · rw [if_neg c1] at h
      have c2 := (bLtN (by omega) (by omega)).mp (bLtN2 c1)
      split at h
      · exact ih (si + 1) _ b td s2 (by omega) (by omega) (by omega) h3 h
      · split at h <;> (simp only [Prod.mk.injEq] at h; omega)
theorem tnK_2 {le : Int32} {sa : Nat} {tx td td2 : Nat → Int32} {b : Bool} {s2 : Nat} (h : s_takesNumber8_2 le sa tx td = (b, s2, td2)) (h3 : sa ≤ 1000) : sa ≤ s2 ∧ s2 ≤ sa + 3 := gtN_2 4 sa _ b td2 s2 (by omega) (by omega) (by omega) h3 h
def g_takesNumber8_3 (le : Int32) (sa : Nat ) (tx : Nat → Int32) : Nat → Nat → (Nat → Int32) → Bool × Nat × (Nat → Int32)
  | 0, _, _ => (false, 0, fun _ => 0)
  | n_ + 1, si, tg =>
    if (nI (sa + 3)) ≤ nI si then
      if nI si ≤ (nI sa) then
        (false, si, tg)
      else
        (true, si, tg)
    else
      if (s_isAt8 le si tx 48 57) = true then
        g_takesNumber8_3 le sa tx n_ (si + 1) (upd tg 3 (((10 * (tg 3)) + (tx si)) - 48))
      else
        if nI si ≤ (nI sa) then
          (false, si, tg)
        else
          (true, si, tg)
def s_takesNumber8_3 (le : Int32) (sa : Nat ) (tx : Nat → Int32) (td : Nat → Int32) : Bool × Nat × (Nat → Int32) :=
  g_takesNumber8_3 le sa tx (4) sa (upd td 3 0)
set_option maxHeartbeats 4000000 in
set_option maxRecDepth 100000 in
theorem lp_takesNumber8_3 {p_ : Program} {e_ : Env} {s_ : State} {m_ : MethodId} {bl_ : List Frame} {me_ : Method} {cd_ : Code} {A_ : Nat → Prop} (l : Launch) (D : va_G) (cyC cyI : ClassId) (mM : Nat) (mN : Nat) (mR : Nat) (mA : Nat) (mP : Nat) (mT : Nat) (mD : Nat) (ch : Int32) (le : Int32) (sa : Nat ) (tx : Nat → Int32) (td : Nat → Int32) (o0 : Bool) (o1 : Nat) (o2 : Nat → Int32) (X : bX p_ s_ m_ ([.ref mM, .int 3] : List Value).toArray cd_ cX8_takesNumber 3 wsX8_takesNumber yX8_takesNumber.cls D cyC cyI) (hr : me_.sig.returnType = (some .boolean)) (hlk : me_.locks = false) (hle : le ≤ nI 200) (hsa : sa ≤ 1000) : ∀ (n_ : Nat) (si : Nat) (tg : Nat → Int32) (hN : sa + 4 ≤ si + n_) (hS : sa ≤ si ∧ si ≤ sa + 3) (hu : g_takesNumber8_3 le sa tx n_ si tg = (o0, o1, o2)) (ls : Array Slot) (H : Heap) (locs : List Loc), lv_has ls 3 [(0, .ref mM), (1, .int 3), (2, .int (nI sa))] → bY D A_ s_.heap [(mM, .inr (8, [.ref mN, .ref mR, .ref mA, .ref mP, .int ch, .ref mT, .int le, .int (nI si), .ref mD])), (mT, .inl (cyI, 200, .inl tx)), (mD, .inl (cyI, 4, .inl tg))] H locs → W p_ l e_ ({ frames := 2, cells := 0, slots := 0, locals := 44 } : Room) s_ m_ ([.ref mM, .int 3] : List Value).toArray bl_ me_ cd_ H locs 0 0 (bQI bl_ ([.ref mM, .int 3] : List Value).toArray s_ D [(mM, .inr (8, [.ref mN, .ref mR, .ref mA, .ref mP, .int ch, .ref mT, .int le, .int (nI o1), .ref mD])), (mT, .inl (cyI, 200, .inl tx)), (mD, .inl (cyI, 4, .inl o2))] (bB o0) A_) (F0 m_ 12 ls []) := by
  intro n_
  induction n_ with
  | zero =>
    intro si tg hN hS hu ls H locs hl Y
    exfalso; omega
  | succ n_ ih =>
    intro si tg hN hS hu ls H locs hl Y
    have hx := X.1.1
    have hb := X.1.2.1
    rw [g_takesNumber8_3] at hu
    refine lv_aload_n hx hb dX8_takesNumber_12 rfl (lv_at hl 0 rfl) ?_
    refine bGet (v := .int (nI si)) (T := TX8) (N := 9) (ci := 8) X Y i_X8_takesNumber_X8 0 rfl rfl 7 (Nat.le_of_ble_eq_true rfl) f_X8_takesNumber_42 rfl rfl dX8_takesNumber_13 ?_
    refine lv_iload_n hx hb dX8_takesNumber_16 rfl (lv_at hl 2 rfl) ?_
    refine lv_iconst (v := 3) hx hb dX8_takesNumber_17 (by decide) ?_
    refine bAdd (v := nI (sa + 3)) X dX8_takesNumber_18 (nI_sum (a := sa) (b := 3) rfl rfl (by omega)) ?_
    refine lv_icmp_ge (tgt := 74) hx hb dX8_takesNumber_19 (by decide) (fun c_1 => ?_) (fun c_1 => ?_)
    · have c_1 : (nI (sa + 3)) ≤ nI si := c_1
      rw [if_pos c_1] at hu
      refine lv_aload_n hx hb dX8_takesNumber_74 rfl (lv_at hl 0 rfl) ?_
      refine bGet (v := .int (nI si)) (T := TX8) (N := 9) (ci := 8) X Y i_X8_takesNumber_X8 0 rfl rfl 7 (Nat.le_of_ble_eq_true rfl) f_X8_takesNumber_42 rfl rfl dX8_takesNumber_75 ?_
      refine lv_iload_n hx hb dX8_takesNumber_78 rfl (lv_at hl 2 rfl) ?_
      refine lv_icmp_le (tgt := 86) hx hb dX8_takesNumber_79 (by decide) (fun c_2 => ?_) (fun c_2 => ?_)
      · have c_2 : nI si ≤ (nI sa) := c_2
        rw [if_pos c_2] at hu
        refine lv_iconst (v := 0) hx hb dX8_takesNumber_86 (by decide) ?_
        have h9 := (Prod.mk.inj hu).1; replace hu := (Prod.mk.inj hu).2; subst h9
        have h9 := (Prod.mk.inj hu).1; replace hu := (Prod.mk.inj hu).2; subst h9
        subst hu
        exact bEndZ X Y hr hlk dX8_takesNumber_87 rfl rfl rfl
      · have c_2 : ¬ (nI si ≤ (nI sa)) := c_2
        rw [if_neg c_2] at hu
        refine lv_iconst (v := 1) hx hb dX8_takesNumber_82 (by decide) ?_
        refine lv_goto (tgt := 87) hx hb dX8_takesNumber_83 (by decide) ?_
        have h9 := (Prod.mk.inj hu).1; replace hu := (Prod.mk.inj hu).2; subst h9
        have h9 := (Prod.mk.inj hu).1; replace hu := (Prod.mk.inj hu).2; subst h9
        subst hu
        exact bEndZ X Y hr hlk dX8_takesNumber_87 rfl rfl rfl
    · have c_1 : ¬ ((nI (sa + 3)) ≤ nI si) := c_1
      rw [if_neg c_1] at hu
      refine lv_aload_n hx hb dX8_takesNumber_22 rfl (lv_at hl 0 rfl) ?_
      refine lv_bipush (v := 48) hx hb dX8_takesNumber_23 (by decide) ?_
      refine lv_bipush (v := 57) hx hb dX8_takesNumber_25 (by decide) ?_
      refine bVI0 (As := [.int 48, .int 57]) (rest := []) (wc := [(mM, .inr (8, [.ref mN, .ref mR, .ref mA, .ref mP, .int ch, .ref mT, .int le, .int (nI si), .ref mD])), (mT, .inl (cyI, 200, .inl tx))]) (ci := 8) (q0 := 0) X Y (c_isAt8 l D cyC cyI mM mN mR mA mP mT mD ch le si tx 48 57 (s_isAt8 le si tx 48 57) rfl (by first | assumption | omega | decide) (by first | assumption | omega | decide)) gX8_takesNumber_X8_isAt rfl ⟨rfl, rfl⟩ hd_X8_isAt ⟨(Nat.le_of_ble_eq_true rfl), (Nat.le_of_ble_eq_true rfl)⟩ rfl rfl rfl [0, 1] rfl rfl rfl rfl hl.1 (Nat.le_of_ble_eq_true rfl) ⟨Nat.zero_le _, Nat.zero_le _⟩ dX8_takesNumber_27 (fun H locs Y => ?_)
      refine lv_if_eq (tgt := 74) hx hb dX8_takesNumber_30 (by decide) (fun c_3 => ?_) (fun c_3 => ?_)
      · have c_3 := bB_f c_3
        rw [if_neg c_3] at hu
        refine lv_aload_n hx hb dX8_takesNumber_74 rfl (lv_at hl 0 rfl) ?_
        refine bGet (v := .int (nI si)) (T := TX8) (N := 9) (ci := 8) X Y i_X8_takesNumber_X8 0 rfl rfl 7 (Nat.le_of_ble_eq_true rfl) f_X8_takesNumber_42 rfl rfl dX8_takesNumber_75 ?_
        refine lv_iload_n hx hb dX8_takesNumber_78 rfl (lv_at hl 2 rfl) ?_
        refine lv_icmp_le (tgt := 86) hx hb dX8_takesNumber_79 (by decide) (fun c_4 => ?_) (fun c_4 => ?_)
        · have c_4 : nI si ≤ (nI sa) := c_4
          rw [if_pos c_4] at hu
          refine lv_iconst (v := 0) hx hb dX8_takesNumber_86 (by decide) ?_
          have h9 := (Prod.mk.inj hu).1; replace hu := (Prod.mk.inj hu).2; subst h9
          have h9 := (Prod.mk.inj hu).1; replace hu := (Prod.mk.inj hu).2; subst h9
          subst hu
          exact bEndZ X Y hr hlk dX8_takesNumber_87 rfl rfl rfl
        · have c_4 : ¬ (nI si ≤ (nI sa)) := c_4
          rw [if_neg c_4] at hu
          refine lv_iconst (v := 1) hx hb dX8_takesNumber_82 (by decide) ?_
          refine lv_goto (tgt := 87) hx hb dX8_takesNumber_83 (by decide) ?_
          have h9 := (Prod.mk.inj hu).1; replace hu := (Prod.mk.inj hu).2; subst h9
          have h9 := (Prod.mk.inj hu).1; replace hu := (Prod.mk.inj hu).2; subst h9
          subst hu
          exact bEndZ X Y hr hlk dX8_takesNumber_87 rfl rfl rfl
      · have c_3 := bB_t c_3
        rw [if_pos c_3] at hu
        refine lv_aload_n hx hb dX8_takesNumber_33 rfl (lv_at hl 0 rfl) ?_
        refine bGet (v := .ref mD) (T := TX8) (N := 9) (ci := 8) X Y i_X8_takesNumber_X8 0 rfl rfl 8 (Nat.le_of_ble_eq_true rfl) f_X8_takesNumber_25 rfl rfl dX8_takesNumber_34 ?_
        refine lv_iload_n hx hb dX8_takesNumber_37 rfl (lv_at hl 1 rfl) ?_
        refine lv_bipush (v := 10) hx hb dX8_takesNumber_38 (by decide) ?_
        refine lv_aload_n hx hb dX8_takesNumber_40 rfl (lv_at hl 0 rfl) ?_
        refine bGet (v := .ref mD) (T := TX8) (N := 9) (ci := 8) X Y i_X8_takesNumber_X8 0 rfl rfl 8 (Nat.le_of_ble_eq_true rfl) f_X8_takesNumber_25 rfl rfl dX8_takesNumber_41 ?_
        refine lv_iload_n hx hb dX8_takesNumber_44 rfl (lv_at hl 1 rfl) ?_
        refine bIald (v := tg 3) X Y 2 rfl (bInD (by decide)) dX8_takesNumber_45 rfl ?_
        refine bMul (v := 10 * (tg 3)) X dX8_takesNumber_46 rfl ?_
        refine lv_aload_n hx hb dX8_takesNumber_47 rfl (lv_at hl 0 rfl) ?_
        refine bGet (v := .ref mT) (T := TX8) (N := 9) (ci := 8) X Y i_X8_takesNumber_X8 0 rfl rfl 5 (Nat.le_of_ble_eq_true rfl) f_X8_takesNumber_22 rfl rfl dX8_takesNumber_48 ?_
        refine lv_aload_n hx hb dX8_takesNumber_51 rfl (lv_at hl 0 rfl) ?_
        refine bGet (v := .int (nI si)) (T := TX8) (N := 9) (ci := 8) X Y i_X8_takesNumber_X8 0 rfl rfl 7 (Nat.le_of_ble_eq_true rfl) f_X8_takesNumber_42 rfl rfl dX8_takesNumber_52 ?_
        refine bIald (v := tx si) X Y 1 rfl (bInT (by omega) hle (isAt8_lt c_3)) dX8_takesNumber_55 (bIdx (by omega)) ?_
        refine bAdd (v := (10 * (tg 3)) + (tx si)) X dX8_takesNumber_56 rfl ?_
        refine lv_bipush (v := 48) hx hb dX8_takesNumber_57 (by decide) ?_
        refine bSub (v := ((10 * (tg 3)) + (tx si)) - 48) X dX8_takesNumber_59 rfl ?_
        refine bIast (f' := upd tg 3 (((10 * (tg 3)) + (tx si)) - 48)) (ws' := [(mM, .inr (8, [.ref mN, .ref mR, .ref mA, .ref mP, .int ch, .ref mT, .int le, .int (nI si), .ref mD])), (mT, .inl (cyI, 200, .inl tx)), (mD, .inl (cyI, 4, .inl (upd tg 3 (((10 * (tg 3)) + (tx si)) - 48))))]) X Y 2 rfl (bInD (by decide)) rfl rfl dX8_takesNumber_60 (fun H locs Y => ?_)
        refine lv_aload_n hx hb dX8_takesNumber_61 rfl (lv_at hl 0 rfl) ?_
        refine lv_dup hx hb dX8_takesNumber_62 rfl ?_
        refine bGet (v := .int (nI si)) (T := TX8) (N := 9) (ci := 8) X Y i_X8_takesNumber_X8 0 rfl rfl 7 (Nat.le_of_ble_eq_true rfl) f_X8_takesNumber_42 rfl rfl dX8_takesNumber_63 ?_
        refine lv_iconst (v := 1) hx hb dX8_takesNumber_66 (by decide) ?_
        refine bAdd (v := nI (si + 1)) X dX8_takesNumber_67 (nI_sum (a := si) (b := 1) rfl rfl (by omega)) ?_
        refine bPut (T := TX8) (N := 9) (ci := 8) (ws' := [(mM, .inr (8, [.ref mN, .ref mR, .ref mA, .ref mP, .int ch, .ref mT, .int le, .int (nI (si + 1)), .ref mD])), (mT, .inl (cyI, 200, .inl tx)), (mD, .inl (cyI, 4, .inl (upd tg 3 (((10 * (tg 3)) + (tx si)) - 48))))]) X Y i_X8_takesNumber_X8 tyX8 tyX8_ok nmX8 0 rfl rfl 7 (Nat.le_of_ble_eq_true rfl) f_X8_takesNumber_42 rfl rfl rfl rfl (Nat.le_of_ble_eq_true rfl) rfl dX8_takesNumber_68 (fun H locs Y => ?_)
        refine lv_goto (tgt := 12) hx hb dX8_takesNumber_71 (by decide) ?_
        exact ih (si + 1) (upd tg 3 (((10 * (tg 3)) + (tx si)) - 48)) (by omega) (by have := (bLtN (by omega) (by omega)).mp (bLtN2 c_1); omega) hu _ _ _ (lv_sub hl [0, 1, 2] rfl) Y
set_option maxHeartbeats 4000000 in
set_option maxRecDepth 100000 in
theorem c_takesNumber8_3 (l : Launch) (D : va_G) (cyC cyI : ClassId) (mM : Nat) (mN : Nat) (mR : Nat) (mA : Nat) (mP : Nat) (mT : Nat) (mD : Nat) (ch : Int32) (le : Int32) (sa : Nat ) (tx : Nat → Int32) (td : Nat → Int32) (o0 : Bool) (o1 : Nat) (o2 : Nat → Int32) (hu : s_takesNumber8_3 le sa tx td = (o0, o1, o2)) (hle : le ≤ nI 200) (hsa : sa ≤ 1000) : CI l yX8_takesNumber wsX8_takesNumber { frames := 2, cells := 0, slots := 0, locals := 44 } D cyC cyI [.ref mM, .int 3] [(mM, .inr (8, [.ref mN, .ref mR, .ref mA, .ref mP, .int ch, .ref mT, .int le, .int (nI sa), .ref mD])), (mT, .inl (cyI, 200, .inl tx)), (mD, .inl (cyI, 4, .inl td))] (bB o0) [(mM, .inr (8, [.ref mN, .ref mR, .ref mA, .ref mP, .int ch, .ref mT, .int le, .int (nI o1), .ref mD])), (mT, .inl (cyI, 200, .inl tx)), (mD, .inl (cyI, 4, .inl o2))] := by
  refine CI.of (cc := cX8_takesNumber) (n := 3) (ret := (some .boolean)) (by decide +kernel) rfl (Nat.le_of_ble_eq_true rfl) ?_
  intro p_ e_ s_ m_ bl_ me_ cd_ A_ ls X Y hr hlk hl
  have hx := X.1.1
  have hb := X.1.2.1
  have hl : lv_has ls 3 [(0, .ref mM), (1, .int 3)] := hl
  unfold s_takesNumber8_3 at hu
  refine lv_aload_n hx hb dX8_takesNumber_0 rfl (lv_at hl 0 rfl) ?_
  refine bGet (v := .int (nI sa)) (T := TX8) (N := 9) (ci := 8) X Y i_X8_takesNumber_X8 0 rfl rfl 7 (Nat.le_of_ble_eq_true rfl) f_X8_takesNumber_42 rfl rfl dX8_takesNumber_1 ?_
  refine lv_istore_n (lv' := [(2, .int (nI sa)), (0, .ref mM), (1, .int 3)]) hx hb dX8_takesNumber_4 rfl hl (by decide) rfl (fun ls hl => ?_)
  refine lv_aload_n hx hb dX8_takesNumber_5 rfl (lv_at hl 1 rfl) ?_
  refine bGet (v := .ref mD) (T := TX8) (N := 9) (ci := 8) X Y i_X8_takesNumber_X8 0 rfl rfl 8 (Nat.le_of_ble_eq_true rfl) f_X8_takesNumber_25 rfl rfl dX8_takesNumber_6 ?_
  refine lv_iload_n hx hb dX8_takesNumber_9 rfl (lv_at hl 2 rfl) ?_
  refine lv_iconst (v := 0) hx hb dX8_takesNumber_10 (by decide) ?_
  refine bIast (f' := upd td 3 0) (ws' := [(mM, .inr (8, [.ref mN, .ref mR, .ref mA, .ref mP, .int ch, .ref mT, .int le, .int (nI sa), .ref mD])), (mT, .inl (cyI, 200, .inl tx)), (mD, .inl (cyI, 4, .inl (upd td 3 0)))]) X Y 2 rfl (bInD (by decide)) rfl rfl dX8_takesNumber_11 (fun H locs Y => ?_)
  exact lp_takesNumber8_3 l D cyC cyI mM mN mR mA mP mT mD ch le sa tx td o0 o1 o2 X hr hlk hle hsa (4) sa (upd td 3 0) (by omega) (by omega) hu _ _ _ (lv_sub hl [1, 2, 0] rfl) Y
theorem gtN_3 {le : Int32} {sa : Nat} {tx : Nat → Int32} : ∀ (n si : Nat) (tg : Nat → Int32) (b : Bool) (td : Nat → Int32) (s2 : Nat), sa + 4 ≤ si + n → sa ≤ si → si ≤ sa + 3 → sa ≤ 1000 → g_takesNumber8_3 le sa tx n si tg = (b, s2, td) → sa ≤ s2 ∧ s2 ≤ sa + 3 := by
  intro n
  induction n with
  | zero => intro si tg b td s2 h0 h1 h2 h3 h; omega
  | succ n ih =>
    intro si tg b td s2 h0 h1 h2 h3 h
    rw [g_takesNumber8_3] at h
    by_cases c1 : nI (sa + 3) ≤ nI si
    · rw [if_pos c1] at h
      split at h <;> (simp only [Prod.mk.injEq] at h; omega)
    · rw [if_neg c1] at h
      have c2 := (bLtN (by omega) (by omega)).mp (bLtN2 c1)
      split at h
      · exact ih (si + 1) _ b td s2 (by omega) (by omega) (by omega) h3 h
      · split at h <;> (simp only [Prod.mk.injEq] at h; omega)
theorem tnK_3 {le : Int32} {sa : Nat} {tx td td2 : Nat → Int32} {b : Bool} {s2 : Nat} (h : s_takesNumber8_3 le sa tx td = (b, s2, td2)) (h3 : sa ≤ 1000) : sa ≤ s2 ∧ s2 ≤ sa + 3 := gtN_3 4 sa _ b td2 s2 (by omega) (by omega) (by omega) h3 h
theorem hd_X8_takesNumber : bD1 yX8_takesNumber RX8 1 := by decide +kernel
theorem i_X8_takesNumbers_X8 : ∀ w ∈ wsX80, w ∈ wsX8_takesNumbers := by decide +kernel
theorem f_X8_takesNumbers_42 : Cond.fieldLink RX8 42 "SwingCranesModel" "spot0" "I" ∈ wsX8_takesNumbers := by decide +kernel
def s_takesNumbers8_1 (le : Int32) (sa : Nat ) (tx : Nat → Int32) (td : Nat → Int32) : Bool × Nat × (Nat → Int32) :=
  match s_takesNumber8_0 le sa tx td with
  | (u_1_0, u_1_1, u_1_2) =>
    if u_1_0 = true then
      if (s_isAt8 le u_1_1 tx 59 59) = true then
        (true, (u_1_1 + 1), u_1_2)
      else
        (false, u_1_1, u_1_2)
    else
      (false, u_1_1, u_1_2)
set_option maxHeartbeats 4000000 in
set_option maxRecDepth 100000 in
theorem c_takesNumbers8_1 (l : Launch) (D : va_G) (cyC cyI : ClassId) (mM : Nat) (mN : Nat) (mR : Nat) (mA : Nat) (mP : Nat) (mT : Nat) (mD : Nat) (ch : Int32) (le : Int32) (sa : Nat ) (tx : Nat → Int32) (td : Nat → Int32) (o0 : Bool) (o1 : Nat) (o2 : Nat → Int32) (hu : s_takesNumbers8_1 le sa tx td = (o0, o1, o2)) (hle : le ≤ nI 200) (hsa : sa ≤ 500) : CI l yX8_takesNumbers wsX8_takesNumbers { frames := 3, cells := 0, slots := 0, locals := 66 } D cyC cyI [.ref mM, .int 1] [(mM, .inr (8, [.ref mN, .ref mR, .ref mA, .ref mP, .int ch, .ref mT, .int le, .int (nI sa), .ref mD])), (mT, .inl (cyI, 200, .inl tx)), (mD, .inl (cyI, 4, .inl td))] (bB o0) [(mM, .inr (8, [.ref mN, .ref mR, .ref mA, .ref mP, .int ch, .ref mT, .int le, .int (nI o1), .ref mD])), (mT, .inl (cyI, 200, .inl tx)), (mD, .inl (cyI, 4, .inl o2))] := by
  refine CI.of (cc := cX8_takesNumbers) (n := 4) (ret := (some .boolean)) (by decide +kernel) rfl (Nat.le_of_ble_eq_true rfl) ?_
  intro p_ e_ s_ m_ bl_ me_ cd_ A_ ls X Y hr hlk hl
  have hx := X.1.1
  have hb := X.1.2.1
  have hl : lv_has ls 4 [(0, .ref mM), (1, .int 1)] := hl
  unfold s_takesNumbers8_1 at hu
  refine lv_iconst (v := 0) hx hb dX8_takesNumbers_0 (by decide) ?_
  refine lv_istore_n (lv' := [(2, .int 0), (0, .ref mM), (1, .int 1)]) hx hb dX8_takesNumbers_1 rfl hl (by decide) rfl (fun ls hl => ?_)
  refine lv_iload_n hx hb dX8_takesNumbers_2 rfl (lv_at hl 0 rfl) ?_
  refine lv_iload_n hx hb dX8_takesNumbers_3 rfl (lv_at hl 2 rfl) ?_
  refine lv_icmp_ge (tgt := 57) hx hb dX8_takesNumbers_4 (by decide) (fun c_ => absurd c_ (by decide)) (fun _ => ?_)
  refine lv_iload_n hx hb dX8_takesNumbers_7 rfl (lv_at hl 0 rfl) ?_
  refine lv_iload_n hx hb dX8_takesNumbers_8 rfl (lv_at hl 2 rfl) ?_
  refine lv_iconst (v := 1) hx hb dX8_takesNumbers_9 (by decide) ?_
  refine bSub (v := 0) X dX8_takesNumbers_10 (by decide) ?_
  refine lv_icmp_ne (tgt := 19) hx hb dX8_takesNumbers_11 (by decide) (fun c_ => absurd (by decide) c_) (fun _ => ?_)
  refine lv_bipush (v := 59) hx hb dX8_takesNumbers_14 (by decide) ?_
  refine lv_goto (tgt := 21) hx hb dX8_takesNumbers_16 (by decide) ?_
  refine lv_istore_n (lv' := [(3, .int 59), (2, .int 0), (0, .ref mM), (1, .int 1)]) hx hb dX8_takesNumbers_21 rfl hl (by decide) rfl (fun ls hl => ?_)
  refine lv_aload_n hx hb dX8_takesNumbers_22 rfl (lv_at hl 2 rfl) ?_
  refine lv_iload_n hx hb dX8_takesNumbers_23 rfl (lv_at hl 1 rfl) ?_
  obtain ⟨u_1_0, u_1_1, u_1_2, hr_1⟩ := bEx3 (s_takesNumber8_0 le sa tx td)
  rw [hr_1] at hu
  dsimp only at hu
  have tnK_0_1 := tnK_0 hr_1
  refine bVI (As := [.int 0]) (rest := []) (wc := [(mM, .inr (8, [.ref mN, .ref mR, .ref mA, .ref mP, .int ch, .ref mT, .int le, .int (nI sa), .ref mD])), (mT, .inl (cyI, 200, .inl tx)), (mD, .inl (cyI, 4, .inl td))]) (w1 := [(mM, .inr (8, [.ref mN, .ref mR, .ref mA, .ref mP, .int ch, .ref mT, .int le, .int (nI u_1_1), .ref mD])), (mT, .inl (cyI, 200, .inl tx)), (mD, .inl (cyI, 4, .inl u_1_2))]) (ws' := [(mM, .inr (8, [.ref mN, .ref mR, .ref mA, .ref mP, .int ch, .ref mT, .int le, .int (nI u_1_1), .ref mD])), (mT, .inl (cyI, 200, .inl tx)), (mD, .inl (cyI, 4, .inl u_1_2))]) (ad := [mM, mT, mD]) (wr := []) (nn := 3) (ci := 8) (q0 := 0) X Y (c_takesNumber8_0 l D cyC cyI mM mN mR mA mP mT mD ch le sa tx td u_1_0 u_1_1 u_1_2 hr_1 (by first | assumption | omega | decide) (by (try have q0_1 := tnK_0_1 (by omega)); (try have q1_1 := tnK_1_1 (by omega)); (try have q2_1 := tnK_2_1 (by omega)); (try have q3_1 := tnK_3_1 (by omega)); (try have q0_2 := tnK_0_2 (by omega)); (try have q1_2 := tnK_1_2 (by omega)); (try have q2_2 := tnK_2_2 (by omega)); (try have q3_2 := tnK_3_2 (by omega)); (try have q0_3 := tnK_0_3 (by omega)); (try have q1_3 := tnK_1_3 (by omega)); (try have q2_3 := tnK_2_3 (by omega)); (try have q3_3 := tnK_3_3 (by omega)); (try have q0_4 := tnK_0_4 (by omega)); (try have q1_4 := tnK_1_4 (by omega)); (try have q2_4 := tnK_2_4 (by omega)); (try have q3_4 := tnK_3_4 (by omega)); (try have q0_5 := tnK_0_5 (by omega)); (try have q1_5 := tnK_1_5 (by omega)); (try have q2_5 := tnK_2_5 (by omega)); (try have q3_5 := tnK_3_5 (by omega)); (try have q0_6 := tnK_0_6 (by omega)); (try have q1_6 := tnK_1_6 (by omega)); (try have q2_6 := tnK_2_6 (by omega)); (try have q3_6 := tnK_3_6 (by omega)); (try have q0_7 := tnK_0_7 (by omega)); (try have q1_7 := tnK_1_7 (by omega)); (try have q2_7 := tnK_2_7 (by omega)); (try have q3_7 := tnK_3_7 (by omega)); (try have q0_8 := tnK_0_8 (by omega)); (try have q1_8 := tnK_1_8 (by omega)); (try have q2_8 := tnK_2_8 (by omega)); (try have q3_8 := tnK_3_8 (by omega)); (try have q0_9 := tnK_0_9 (by omega)); (try have q1_9 := tnK_1_9 (by omega)); (try have q2_9 := tnK_2_9 (by omega)); (try have q3_9 := tnK_3_9 (by omega)); (try have q0_10 := tnK_0_10 (by omega)); (try have q1_10 := tnK_1_10 (by omega)); (try have q2_10 := tnK_2_10 (by omega)); (try have q3_10 := tnK_3_10 (by omega)); (try have q0_11 := tnK_0_11 (by omega)); (try have q1_11 := tnK_1_11 (by omega)); (try have q2_11 := tnK_2_11 (by omega)); (try have q3_11 := tnK_3_11 (by omega)); (try have q0_12 := tnK_0_12 (by omega)); (try have q1_12 := tnK_1_12 (by omega)); (try have q2_12 := tnK_2_12 (by omega)); (try have q3_12 := tnK_3_12 (by omega)); (try have q0_13 := tnK_0_13 (by omega)); (try have q1_13 := tnK_1_13 (by omega)); (try have q2_13 := tnK_2_13 (by omega)); (try have q3_13 := tnK_3_13 (by omega)); omega)) gX8_takesNumbers_X8_takesNumber rfl ⟨rfl, rfl⟩ hd_X8_takesNumber ⟨(Nat.le_of_ble_eq_true rfl), (Nat.le_of_ble_eq_true rfl)⟩ rfl rfl rfl [0, 1, 2] [] rfl rfl rfl rfl rfl rfl rfl rfl (by decide) rfl rfl hl.1 (Nat.le_of_ble_eq_true rfl) ⟨Nat.zero_le _, Nat.zero_le _⟩ dX8_takesNumbers_24 (fun H locs Y => ?_)
  refine lv_if_eq (tgt := 39) hx hb dX8_takesNumbers_27 (by decide) (fun c_2 => ?_) (fun c_2 => ?_)
  · have c_2 := bB_f c_2
    rw [if_neg c_2] at hu
    refine lv_iconst (v := 0) hx hb dX8_takesNumbers_39 (by decide) ?_
    have h9 := (Prod.mk.inj hu).1; replace hu := (Prod.mk.inj hu).2; subst h9
    have h9 := (Prod.mk.inj hu).1; replace hu := (Prod.mk.inj hu).2; subst h9
    subst hu
    exact bEndZ X Y hr hlk dX8_takesNumbers_40 rfl rfl rfl
  · have c_2 := bB_t c_2
    rw [if_pos c_2] at hu
    refine lv_aload_n hx hb dX8_takesNumbers_30 rfl (lv_at hl 2 rfl) ?_
    refine lv_iload_n hx hb dX8_takesNumbers_31 rfl (lv_at hl 0 rfl) ?_
    refine lv_iload_n hx hb dX8_takesNumbers_32 rfl (lv_at hl 0 rfl) ?_
    refine bVI0 (As := [.int 59, .int 59]) (rest := []) (wc := [(mM, .inr (8, [.ref mN, .ref mR, .ref mA, .ref mP, .int ch, .ref mT, .int le, .int (nI u_1_1), .ref mD])), (mT, .inl (cyI, 200, .inl tx))]) (ci := 8) (q0 := 0) X Y (c_isAt8 l D cyC cyI mM mN mR mA mP mT mD ch le u_1_1 tx 59 59 (s_isAt8 le u_1_1 tx 59 59) rfl (by first | assumption | omega | decide) (by (try have q0_1 := tnK_0_1 (by omega)); (try have q1_1 := tnK_1_1 (by omega)); (try have q2_1 := tnK_2_1 (by omega)); (try have q3_1 := tnK_3_1 (by omega)); (try have q0_2 := tnK_0_2 (by omega)); (try have q1_2 := tnK_1_2 (by omega)); (try have q2_2 := tnK_2_2 (by omega)); (try have q3_2 := tnK_3_2 (by omega)); (try have q0_3 := tnK_0_3 (by omega)); (try have q1_3 := tnK_1_3 (by omega)); (try have q2_3 := tnK_2_3 (by omega)); (try have q3_3 := tnK_3_3 (by omega)); (try have q0_4 := tnK_0_4 (by omega)); (try have q1_4 := tnK_1_4 (by omega)); (try have q2_4 := tnK_2_4 (by omega)); (try have q3_4 := tnK_3_4 (by omega)); (try have q0_5 := tnK_0_5 (by omega)); (try have q1_5 := tnK_1_5 (by omega)); (try have q2_5 := tnK_2_5 (by omega)); (try have q3_5 := tnK_3_5 (by omega)); (try have q0_6 := tnK_0_6 (by omega)); (try have q1_6 := tnK_1_6 (by omega)); (try have q2_6 := tnK_2_6 (by omega)); (try have q3_6 := tnK_3_6 (by omega)); (try have q0_7 := tnK_0_7 (by omega)); (try have q1_7 := tnK_1_7 (by omega)); (try have q2_7 := tnK_2_7 (by omega)); (try have q3_7 := tnK_3_7 (by omega)); (try have q0_8 := tnK_0_8 (by omega)); (try have q1_8 := tnK_1_8 (by omega)); (try have q2_8 := tnK_2_8 (by omega)); (try have q3_8 := tnK_3_8 (by omega)); (try have q0_9 := tnK_0_9 (by omega)); (try have q1_9 := tnK_1_9 (by omega)); (try have q2_9 := tnK_2_9 (by omega)); (try have q3_9 := tnK_3_9 (by omega)); (try have q0_10 := tnK_0_10 (by omega)); (try have q1_10 := tnK_1_10 (by omega)); (try have q2_10 := tnK_2_10 (by omega)); (try have q3_10 := tnK_3_10 (by omega)); (try have q0_11 := tnK_0_11 (by omega)); (try have q1_11 := tnK_1_11 (by omega)); (try have q2_11 := tnK_2_11 (by omega)); (try have q3_11 := tnK_3_11 (by omega)); (try have q0_12 := tnK_0_12 (by omega)); (try have q1_12 := tnK_1_12 (by omega)); (try have q2_12 := tnK_2_12 (by omega)); (try have q3_12 := tnK_3_12 (by omega)); (try have q0_13 := tnK_0_13 (by omega)); (try have q1_13 := tnK_1_13 (by omega)); (try have q2_13 := tnK_2_13 (by omega)); (try have q3_13 := tnK_3_13 (by omega)); omega)) gX8_takesNumbers_X8_isAt rfl ⟨rfl, rfl⟩ hd_X8_isAt ⟨(Nat.le_of_ble_eq_true rfl), (Nat.le_of_ble_eq_true rfl)⟩ rfl rfl rfl [0, 1] rfl rfl rfl rfl hl.1 (Nat.le_of_ble_eq_true rfl) ⟨Nat.zero_le _, Nat.zero_le _⟩ dX8_takesNumbers_33 (fun H locs Y => ?_)
    refine lv_if_ne (tgt := 41) hx hb dX8_takesNumbers_36 (by decide) (fun c_3 => ?_) (fun c_3 => ?_)
    · have c_3 := bB_t c_3
      rw [if_pos c_3] at hu
      refine lv_aload_n hx hb dX8_takesNumbers_41 rfl (lv_at hl 2 rfl) ?_
      refine lv_dup hx hb dX8_takesNumbers_42 rfl ?_
      refine bGet (v := .int (nI u_1_1)) (T := TX8) (N := 9) (ci := 8) X Y i_X8_takesNumbers_X8 0 rfl rfl 7 (Nat.le_of_ble_eq_true rfl) f_X8_takesNumbers_42 rfl rfl dX8_takesNumbers_43 ?_
      refine lv_iconst (v := 1) hx hb dX8_takesNumbers_46 (by decide) ?_
      refine bAdd (v := nI (u_1_1 + 1)) X dX8_takesNumbers_47 (nI_sum (a := u_1_1) (b := 1) rfl rfl (by omega)) ?_
      refine bPut (T := TX8) (N := 9) (ci := 8) (ws' := [(mM, .inr (8, [.ref mN, .ref mR, .ref mA, .ref mP, .int ch, .ref mT, .int le, .int (nI (u_1_1 + 1)), .ref mD])), (mT, .inl (cyI, 200, .inl tx)), (mD, .inl (cyI, 4, .inl u_1_2))]) X Y i_X8_takesNumbers_X8 tyX8 tyX8_ok nmX8 0 rfl rfl 7 (Nat.le_of_ble_eq_true rfl) f_X8_takesNumbers_42 rfl rfl rfl rfl (Nat.le_of_ble_eq_true rfl) rfl dX8_takesNumbers_48 (fun H locs Y => ?_)
      refine lv_iinc (v := 1) (lv' := [(2, .int 1), (3, .int 59), (0, .ref mM), (1, .int 1)]) hx hb dX8_takesNumbers_51 hl (k := 1) rfl (by decide) (by decide) rfl (fun ls hl => ?_)
      refine lv_goto (tgt := 2) hx hb dX8_takesNumbers_54 (by decide) ?_
      refine lv_iload_n hx hb dX8_takesNumbers_2 rfl (lv_at hl 0 rfl) ?_
      refine lv_iload_n hx hb dX8_takesNumbers_3 rfl (lv_at hl 3 rfl) ?_
      refine lv_icmp_ge (tgt := 57) hx hb dX8_takesNumbers_4 (by decide) (fun _ => ?_) (fun c_ => absurd (by decide) c_)
      refine lv_iconst (v := 1) hx hb dX8_takesNumbers_57 (by decide) ?_
      have h9 := (Prod.mk.inj hu).1; replace hu := (Prod.mk.inj hu).2; subst h9
      have h9 := (Prod.mk.inj hu).1; replace hu := (Prod.mk.inj hu).2; subst h9
      subst hu
      exact bEndZ X Y hr hlk dX8_takesNumbers_58 rfl rfl rfl
    · have c_3 := bB_f c_3
      rw [if_neg c_3] at hu
      refine lv_iconst (v := 0) hx hb dX8_takesNumbers_39 (by decide) ?_
      have h9 := (Prod.mk.inj hu).1; replace hu := (Prod.mk.inj hu).2; subst h9
      have h9 := (Prod.mk.inj hu).1; replace hu := (Prod.mk.inj hu).2; subst h9
      subst hu
      exact bEndZ X Y hr hlk dX8_takesNumbers_40 rfl rfl rfl
def s_takesNumbers8_3 (le : Int32) (sa : Nat ) (tx : Nat → Int32) (td : Nat → Int32) : Bool × Nat × (Nat → Int32) :=
  match s_takesNumber8_0 le sa tx td with
  | (u_1_0, u_1_1, u_1_2) =>
    if u_1_0 = true then
      if (s_isAt8 le u_1_1 tx 44 44) = true then
        match s_takesNumber8_1 le (u_1_1 + 1) tx u_1_2 with
        | (u_4_0, u_4_1, u_4_2) =>
          if u_4_0 = true then
            if (s_isAt8 le u_4_1 tx 44 44) = true then
              match s_takesNumber8_2 le (u_4_1 + 1) tx u_4_2 with
              | (u_7_0, u_7_1, u_7_2) =>
                if u_7_0 = true then
                  if (s_isAt8 le u_7_1 tx 59 59) = true then
                    (true, (u_7_1 + 1), u_7_2)
                  else
                    (false, u_7_1, u_7_2)
                else
                  (false, u_7_1, u_7_2)
            else
              (false, u_4_1, u_4_2)
          else
            (false, u_4_1, u_4_2)
      else
        (false, u_1_1, u_1_2)
    else
      (false, u_1_1, u_1_2)
set_option maxHeartbeats 4000000 in
set_option maxRecDepth 100000 in
theorem c_takesNumbers8_3 (l : Launch) (D : va_G) (cyC cyI : ClassId) (mM : Nat) (mN : Nat) (mR : Nat) (mA : Nat) (mP : Nat) (mT : Nat) (mD : Nat) (ch : Int32) (le : Int32) (sa : Nat ) (tx : Nat → Int32) (td : Nat → Int32) (o0 : Bool) (o1 : Nat) (o2 : Nat → Int32) (hu : s_takesNumbers8_3 le sa tx td = (o0, o1, o2)) (hle : le ≤ nI 200) (hsa : sa ≤ 500) : CI l yX8_takesNumbers wsX8_takesNumbers { frames := 3, cells := 0, slots := 0, locals := 66 } D cyC cyI [.ref mM, .int 3] [(mM, .inr (8, [.ref mN, .ref mR, .ref mA, .ref mP, .int ch, .ref mT, .int le, .int (nI sa), .ref mD])), (mT, .inl (cyI, 200, .inl tx)), (mD, .inl (cyI, 4, .inl td))] (bB o0) [(mM, .inr (8, [.ref mN, .ref mR, .ref mA, .ref mP, .int ch, .ref mT, .int le, .int (nI o1), .ref mD])), (mT, .inl (cyI, 200, .inl tx)), (mD, .inl (cyI, 4, .inl o2))] := by
  refine CI.of (cc := cX8_takesNumbers) (n := 4) (ret := (some .boolean)) (by decide +kernel) rfl (Nat.le_of_ble_eq_true rfl) ?_
  intro p_ e_ s_ m_ bl_ me_ cd_ A_ ls X Y hr hlk hl
  have hx := X.1.1
  have hb := X.1.2.1
  have hl : lv_has ls 4 [(0, .ref mM), (1, .int 3)] := hl
  unfold s_takesNumbers8_3 at hu
  refine lv_iconst (v := 0) hx hb dX8_takesNumbers_0 (by decide) ?_
  refine lv_istore_n (lv' := [(2, .int 0), (0, .ref mM), (1, .int 3)]) hx hb dX8_takesNumbers_1 rfl hl (by decide) rfl (fun ls hl => ?_)
  refine lv_iload_n hx hb dX8_takesNumbers_2 rfl (lv_at hl 0 rfl) ?_
  refine lv_iload_n hx hb dX8_takesNumbers_3 rfl (lv_at hl 2 rfl) ?_
  refine lv_icmp_ge (tgt := 57) hx hb dX8_takesNumbers_4 (by decide) (fun c_ => absurd c_ (by decide)) (fun _ => ?_)
  refine lv_iload_n hx hb dX8_takesNumbers_7 rfl (lv_at hl 0 rfl) ?_
  refine lv_iload_n hx hb dX8_takesNumbers_8 rfl (lv_at hl 2 rfl) ?_
  refine lv_iconst (v := 1) hx hb dX8_takesNumbers_9 (by decide) ?_
  refine bSub (v := 2) X dX8_takesNumbers_10 (by decide) ?_
  refine lv_icmp_ne (tgt := 19) hx hb dX8_takesNumbers_11 (by decide) (fun _ => ?_) (fun c_ => absurd c_ (by decide))
  refine lv_bipush (v := 44) hx hb dX8_takesNumbers_19 (by decide) ?_
  refine lv_istore_n (lv' := [(3, .int 44), (2, .int 0), (0, .ref mM), (1, .int 3)]) hx hb dX8_takesNumbers_21 rfl hl (by decide) rfl (fun ls hl => ?_)
  refine lv_aload_n hx hb dX8_takesNumbers_22 rfl (lv_at hl 2 rfl) ?_
  refine lv_iload_n hx hb dX8_takesNumbers_23 rfl (lv_at hl 1 rfl) ?_
  obtain ⟨u_1_0, u_1_1, u_1_2, hr_1⟩ := bEx3 (s_takesNumber8_0 le sa tx td)
  rw [hr_1] at hu
  dsimp only at hu
  have tnK_0_1 := tnK_0 hr_1
  refine bVI (As := [.int 0]) (rest := []) (wc := [(mM, .inr (8, [.ref mN, .ref mR, .ref mA, .ref mP, .int ch, .ref mT, .int le, .int (nI sa), .ref mD])), (mT, .inl (cyI, 200, .inl tx)), (mD, .inl (cyI, 4, .inl td))]) (w1 := [(mM, .inr (8, [.ref mN, .ref mR, .ref mA, .ref mP, .int ch, .ref mT, .int le, .int (nI u_1_1), .ref mD])), (mT, .inl (cyI, 200, .inl tx)), (mD, .inl (cyI, 4, .inl u_1_2))]) (ws' := [(mM, .inr (8, [.ref mN, .ref mR, .ref mA, .ref mP, .int ch, .ref mT, .int le, .int (nI u_1_1), .ref mD])), (mT, .inl (cyI, 200, .inl tx)), (mD, .inl (cyI, 4, .inl u_1_2))]) (ad := [mM, mT, mD]) (wr := []) (nn := 3) (ci := 8) (q0 := 0) X Y (c_takesNumber8_0 l D cyC cyI mM mN mR mA mP mT mD ch le sa tx td u_1_0 u_1_1 u_1_2 hr_1 (by first | assumption | omega | decide) (by (try have q0_1 := tnK_0_1 (by omega)); (try have q1_1 := tnK_1_1 (by omega)); (try have q2_1 := tnK_2_1 (by omega)); (try have q3_1 := tnK_3_1 (by omega)); (try have q0_2 := tnK_0_2 (by omega)); (try have q1_2 := tnK_1_2 (by omega)); (try have q2_2 := tnK_2_2 (by omega)); (try have q3_2 := tnK_3_2 (by omega)); (try have q0_3 := tnK_0_3 (by omega)); (try have q1_3 := tnK_1_3 (by omega)); (try have q2_3 := tnK_2_3 (by omega)); (try have q3_3 := tnK_3_3 (by omega)); (try have q0_4 := tnK_0_4 (by omega)); (try have q1_4 := tnK_1_4 (by omega)); (try have q2_4 := tnK_2_4 (by omega)); (try have q3_4 := tnK_3_4 (by omega)); (try have q0_5 := tnK_0_5 (by omega)); (try have q1_5 := tnK_1_5 (by omega)); (try have q2_5 := tnK_2_5 (by omega)); (try have q3_5 := tnK_3_5 (by omega)); (try have q0_6 := tnK_0_6 (by omega)); (try have q1_6 := tnK_1_6 (by omega)); (try have q2_6 := tnK_2_6 (by omega)); (try have q3_6 := tnK_3_6 (by omega)); (try have q0_7 := tnK_0_7 (by omega)); (try have q1_7 := tnK_1_7 (by omega)); (try have q2_7 := tnK_2_7 (by omega)); (try have q3_7 := tnK_3_7 (by omega)); (try have q0_8 := tnK_0_8 (by omega)); (try have q1_8 := tnK_1_8 (by omega)); (try have q2_8 := tnK_2_8 (by omega)); (try have q3_8 := tnK_3_8 (by omega)); (try have q0_9 := tnK_0_9 (by omega)); (try have q1_9 := tnK_1_9 (by omega)); (try have q2_9 := tnK_2_9 (by omega)); (try have q3_9 := tnK_3_9 (by omega)); (try have q0_10 := tnK_0_10 (by omega)); (try have q1_10 := tnK_1_10 (by omega)); (try have q2_10 := tnK_2_10 (by omega)); (try have q3_10 := tnK_3_10 (by omega)); (try have q0_11 := tnK_0_11 (by omega)); (try have q1_11 := tnK_1_11 (by omega)); (try have q2_11 := tnK_2_11 (by omega)); (try have q3_11 := tnK_3_11 (by omega)); (try have q0_12 := tnK_0_12 (by omega)); (try have q1_12 := tnK_1_12 (by omega)); (try have q2_12 := tnK_2_12 (by omega)); (try have q3_12 := tnK_3_12 (by omega)); (try have q0_13 := tnK_0_13 (by omega)); (try have q1_13 := tnK_1_13 (by omega)); (try have q2_13 := tnK_2_13 (by omega)); (try have q3_13 := tnK_3_13 (by omega)); omega)) gX8_takesNumbers_X8_takesNumber rfl ⟨rfl, rfl⟩ hd_X8_takesNumber ⟨(Nat.le_of_ble_eq_true rfl), (Nat.le_of_ble_eq_true rfl)⟩ rfl rfl rfl [0, 1, 2] [] rfl rfl rfl rfl rfl rfl rfl rfl (by decide) rfl rfl hl.1 (Nat.le_of_ble_eq_true rfl) ⟨Nat.zero_le _, Nat.zero_le _⟩ dX8_takesNumbers_24 (fun H locs Y => ?_)
  refine lv_if_eq (tgt := 39) hx hb dX8_takesNumbers_27 (by decide) (fun c_2 => ?_) (fun c_2 => ?_)
  · have c_2 := bB_f c_2
    rw [if_neg c_2] at hu
    refine lv_iconst (v := 0) hx hb dX8_takesNumbers_39 (by decide) ?_
    have h9 := (Prod.mk.inj hu).1; replace hu := (Prod.mk.inj hu).2; subst h9
    have h9 := (Prod.mk.inj hu).1; replace hu := (Prod.mk.inj hu).2; subst h9
    subst hu
    exact bEndZ X Y hr hlk dX8_takesNumbers_40 rfl rfl rfl
  · have c_2 := bB_t c_2
    rw [if_pos c_2] at hu
    refine lv_aload_n hx hb dX8_takesNumbers_30 rfl (lv_at hl 2 rfl) ?_
    refine lv_iload_n hx hb dX8_takesNumbers_31 rfl (lv_at hl 0 rfl) ?_
    refine lv_iload_n hx hb dX8_takesNumbers_32 rfl (lv_at hl 0 rfl) ?_
    refine bVI0 (As := [.int 44, .int 44]) (rest := []) (wc := [(mM, .inr (8, [.ref mN, .ref mR, .ref mA, .ref mP, .int ch, .ref mT, .int le, .int (nI u_1_1), .ref mD])), (mT, .inl (cyI, 200, .inl tx))]) (ci := 8) (q0 := 0) X Y (c_isAt8 l D cyC cyI mM mN mR mA mP mT mD ch le u_1_1 tx 44 44 (s_isAt8 le u_1_1 tx 44 44) rfl (by first | assumption | omega | decide) (by (try have q0_1 := tnK_0_1 (by omega)); (try have q1_1 := tnK_1_1 (by omega)); (try have q2_1 := tnK_2_1 (by omega)); (try have q3_1 := tnK_3_1 (by omega)); (try have q0_2 := tnK_0_2 (by omega)); (try have q1_2 := tnK_1_2 (by omega)); (try have q2_2 := tnK_2_2 (by omega)); (try have q3_2 := tnK_3_2 (by omega)); (try have q0_3 := tnK_0_3 (by omega)); (try have q1_3 := tnK_1_3 (by omega)); (try have q2_3 := tnK_2_3 (by omega)); (try have q3_3 := tnK_3_3 (by omega)); (try have q0_4 := tnK_0_4 (by omega)); (try have q1_4 := tnK_1_4 (by omega)); (try have q2_4 := tnK_2_4 (by omega)); (try have q3_4 := tnK_3_4 (by omega)); (try have q0_5 := tnK_0_5 (by omega)); (try have q1_5 := tnK_1_5 (by omega)); (try have q2_5 := tnK_2_5 (by omega)); (try have q3_5 := tnK_3_5 (by omega)); (try have q0_6 := tnK_0_6 (by omega)); (try have q1_6 := tnK_1_6 (by omega)); (try have q2_6 := tnK_2_6 (by omega)); (try have q3_6 := tnK_3_6 (by omega)); (try have q0_7 := tnK_0_7 (by omega)); (try have q1_7 := tnK_1_7 (by omega)); (try have q2_7 := tnK_2_7 (by omega)); (try have q3_7 := tnK_3_7 (by omega)); (try have q0_8 := tnK_0_8 (by omega)); (try have q1_8 := tnK_1_8 (by omega)); (try have q2_8 := tnK_2_8 (by omega)); (try have q3_8 := tnK_3_8 (by omega)); (try have q0_9 := tnK_0_9 (by omega)); (try have q1_9 := tnK_1_9 (by omega)); (try have q2_9 := tnK_2_9 (by omega)); (try have q3_9 := tnK_3_9 (by omega)); (try have q0_10 := tnK_0_10 (by omega)); (try have q1_10 := tnK_1_10 (by omega)); (try have q2_10 := tnK_2_10 (by omega)); (try have q3_10 := tnK_3_10 (by omega)); (try have q0_11 := tnK_0_11 (by omega)); (try have q1_11 := tnK_1_11 (by omega)); (try have q2_11 := tnK_2_11 (by omega)); (try have q3_11 := tnK_3_11 (by omega)); (try have q0_12 := tnK_0_12 (by omega)); (try have q1_12 := tnK_1_12 (by omega)); (try have q2_12 := tnK_2_12 (by omega)); (try have q3_12 := tnK_3_12 (by omega)); (try have q0_13 := tnK_0_13 (by omega)); (try have q1_13 := tnK_1_13 (by omega)); (try have q2_13 := tnK_2_13 (by omega)); (try have q3_13 := tnK_3_13 (by omega)); omega)) gX8_takesNumbers_X8_isAt rfl ⟨rfl, rfl⟩ hd_X8_isAt ⟨(Nat.le_of_ble_eq_true rfl), (Nat.le_of_ble_eq_true rfl)⟩ rfl rfl rfl [0, 1] rfl rfl rfl rfl hl.1 (Nat.le_of_ble_eq_true rfl) ⟨Nat.zero_le _, Nat.zero_le _⟩ dX8_takesNumbers_33 (fun H locs Y => ?_)
    refine lv_if_ne (tgt := 41) hx hb dX8_takesNumbers_36 (by decide) (fun c_3 => ?_) (fun c_3 => ?_)
    · have c_3 := bB_t c_3
      rw [if_pos c_3] at hu
      refine lv_aload_n hx hb dX8_takesNumbers_41 rfl (lv_at hl 2 rfl) ?_
      refine lv_dup hx hb dX8_takesNumbers_42 rfl ?_
      refine bGet (v := .int (nI u_1_1)) (T := TX8) (N := 9) (ci := 8) X Y i_X8_takesNumbers_X8 0 rfl rfl 7 (Nat.le_of_ble_eq_true rfl) f_X8_takesNumbers_42 rfl rfl dX8_takesNumbers_43 ?_
      refine lv_iconst (v := 1) hx hb dX8_takesNumbers_46 (by decide) ?_
      refine bAdd (v := nI (u_1_1 + 1)) X dX8_takesNumbers_47 (nI_sum (a := u_1_1) (b := 1) rfl rfl (by omega)) ?_
      refine bPut (T := TX8) (N := 9) (ci := 8) (ws' := [(mM, .inr (8, [.ref mN, .ref mR, .ref mA, .ref mP, .int ch, .ref mT, .int le, .int (nI (u_1_1 + 1)), .ref mD])), (mT, .inl (cyI, 200, .inl tx)), (mD, .inl (cyI, 4, .inl u_1_2))]) X Y i_X8_takesNumbers_X8 tyX8 tyX8_ok nmX8 0 rfl rfl 7 (Nat.le_of_ble_eq_true rfl) f_X8_takesNumbers_42 rfl rfl rfl rfl (Nat.le_of_ble_eq_true rfl) rfl dX8_takesNumbers_48 (fun H locs Y => ?_)
      refine lv_iinc (v := 1) (lv' := [(2, .int 1), (3, .int 44), (0, .ref mM), (1, .int 3)]) hx hb dX8_takesNumbers_51 hl (k := 1) rfl (by decide) (by decide) rfl (fun ls hl => ?_)
      refine lv_goto (tgt := 2) hx hb dX8_takesNumbers_54 (by decide) ?_
      refine lv_iload_n hx hb dX8_takesNumbers_2 rfl (lv_at hl 0 rfl) ?_
      refine lv_iload_n hx hb dX8_takesNumbers_3 rfl (lv_at hl 3 rfl) ?_
      refine lv_icmp_ge (tgt := 57) hx hb dX8_takesNumbers_4 (by decide) (fun c_ => absurd c_ (by decide)) (fun _ => ?_)
      refine lv_iload_n hx hb dX8_takesNumbers_7 rfl (lv_at hl 0 rfl) ?_
      refine lv_iload_n hx hb dX8_takesNumbers_8 rfl (lv_at hl 3 rfl) ?_
      refine lv_iconst (v := 1) hx hb dX8_takesNumbers_9 (by decide) ?_
      refine bSub (v := 2) X dX8_takesNumbers_10 (by decide) ?_
      refine lv_icmp_ne (tgt := 19) hx hb dX8_takesNumbers_11 (by decide) (fun _ => ?_) (fun c_ => absurd c_ (by decide))
      refine lv_bipush (v := 44) hx hb dX8_takesNumbers_19 (by decide) ?_
      refine lv_istore_n (lv' := [(3, .int 44), (2, .int 1), (0, .ref mM), (1, .int 3)]) hx hb dX8_takesNumbers_21 rfl hl (by decide) rfl (fun ls hl => ?_)
      refine lv_aload_n hx hb dX8_takesNumbers_22 rfl (lv_at hl 2 rfl) ?_
      refine lv_iload_n hx hb dX8_takesNumbers_23 rfl (lv_at hl 1 rfl) ?_
      obtain ⟨u_4_0, u_4_1, u_4_2, hr_4⟩ := bEx3 (s_takesNumber8_1 le (u_1_1 + 1) tx u_1_2)
      rw [hr_4] at hu
      dsimp only at hu
      have tnK_1_4 := tnK_1 hr_4
      refine bVI (As := [.int 1]) (rest := []) (wc := [(mM, .inr (8, [.ref mN, .ref mR, .ref mA, .ref mP, .int ch, .ref mT, .int le, .int (nI (u_1_1 + 1)), .ref mD])), (mT, .inl (cyI, 200, .inl tx)), (mD, .inl (cyI, 4, .inl u_1_2))]) (w1 := [(mM, .inr (8, [.ref mN, .ref mR, .ref mA, .ref mP, .int ch, .ref mT, .int le, .int (nI u_4_1), .ref mD])), (mT, .inl (cyI, 200, .inl tx)), (mD, .inl (cyI, 4, .inl u_4_2))]) (ws' := [(mM, .inr (8, [.ref mN, .ref mR, .ref mA, .ref mP, .int ch, .ref mT, .int le, .int (nI u_4_1), .ref mD])), (mT, .inl (cyI, 200, .inl tx)), (mD, .inl (cyI, 4, .inl u_4_2))]) (ad := [mM, mT, mD]) (wr := []) (nn := 3) (ci := 8) (q0 := 0) X Y (c_takesNumber8_1 l D cyC cyI mM mN mR mA mP mT mD ch le (u_1_1 + 1) tx u_1_2 u_4_0 u_4_1 u_4_2 hr_4 (by first | assumption | omega | decide) (by (try have q0_1 := tnK_0_1 (by omega)); (try have q1_1 := tnK_1_1 (by omega)); (try have q2_1 := tnK_2_1 (by omega)); (try have q3_1 := tnK_3_1 (by omega)); (try have q0_2 := tnK_0_2 (by omega)); (try have q1_2 := tnK_1_2 (by omega)); (try have q2_2 := tnK_2_2 (by omega)); (try have q3_2 := tnK_3_2 (by omega)); (try have q0_3 := tnK_0_3 (by omega)); (try have q1_3 := tnK_1_3 (by omega)); (try have q2_3 := tnK_2_3 (by omega)); (try have q3_3 := tnK_3_3 (by omega)); (try have q0_4 := tnK_0_4 (by omega)); (try have q1_4 := tnK_1_4 (by omega)); (try have q2_4 := tnK_2_4 (by omega)); (try have q3_4 := tnK_3_4 (by omega)); (try have q0_5 := tnK_0_5 (by omega)); (try have q1_5 := tnK_1_5 (by omega)); (try have q2_5 := tnK_2_5 (by omega)); (try have q3_5 := tnK_3_5 (by omega)); (try have q0_6 := tnK_0_6 (by omega)); (try have q1_6 := tnK_1_6 (by omega)); (try have q2_6 := tnK_2_6 (by omega)); (try have q3_6 := tnK_3_6 (by omega)); (try have q0_7 := tnK_0_7 (by omega)); (try have q1_7 := tnK_1_7 (by omega)); (try have q2_7 := tnK_2_7 (by omega)); (try have q3_7 := tnK_3_7 (by omega)); (try have q0_8 := tnK_0_8 (by omega)); (try have q1_8 := tnK_1_8 (by omega)); (try have q2_8 := tnK_2_8 (by omega)); (try have q3_8 := tnK_3_8 (by omega)); (try have q0_9 := tnK_0_9 (by omega)); (try have q1_9 := tnK_1_9 (by omega)); (try have q2_9 := tnK_2_9 (by omega)); (try have q3_9 := tnK_3_9 (by omega)); (try have q0_10 := tnK_0_10 (by omega)); (try have q1_10 := tnK_1_10 (by omega)); (try have q2_10 := tnK_2_10 (by omega)); (try have q3_10 := tnK_3_10 (by omega)); (try have q0_11 := tnK_0_11 (by omega)); (try have q1_11 := tnK_1_11 (by omega)); (try have q2_11 := tnK_2_11 (by omega)); (try have q3_11 := tnK_3_11 (by omega)); (try have q0_12 := tnK_0_12 (by omega)); (try have q1_12 := tnK_1_12 (by omega)); (try have q2_12 := tnK_2_12 (by omega)); (try have q3_12 := tnK_3_12 (by omega)); (try have q0_13 := tnK_0_13 (by omega)); (try have q1_13 := tnK_1_13 (by omega)); (try have q2_13 := tnK_2_13 (by omega)); (try have q3_13 := tnK_3_13 (by omega)); omega)) gX8_takesNumbers_X8_takesNumber rfl ⟨rfl, rfl⟩ hd_X8_takesNumber ⟨(Nat.le_of_ble_eq_true rfl), (Nat.le_of_ble_eq_true rfl)⟩ rfl rfl rfl [0, 1, 2] [] rfl rfl rfl rfl rfl rfl rfl rfl (by decide) rfl rfl hl.1 (Nat.le_of_ble_eq_true rfl) ⟨Nat.zero_le _, Nat.zero_le _⟩ dX8_takesNumbers_24 (fun H locs Y => ?_)
      refine lv_if_eq (tgt := 39) hx hb dX8_takesNumbers_27 (by decide) (fun c_5 => ?_) (fun c_5 => ?_)
      · have c_5 := bB_f c_5
        rw [if_neg c_5] at hu
        refine lv_iconst (v := 0) hx hb dX8_takesNumbers_39 (by decide) ?_
        have h9 := (Prod.mk.inj hu).1; replace hu := (Prod.mk.inj hu).2; subst h9
        have h9 := (Prod.mk.inj hu).1; replace hu := (Prod.mk.inj hu).2; subst h9
        subst hu
        exact bEndZ X Y hr hlk dX8_takesNumbers_40 rfl rfl rfl
      · have c_5 := bB_t c_5
        rw [if_pos c_5] at hu
        refine lv_aload_n hx hb dX8_takesNumbers_30 rfl (lv_at hl 2 rfl) ?_
        refine lv_iload_n hx hb dX8_takesNumbers_31 rfl (lv_at hl 0 rfl) ?_
        refine lv_iload_n hx hb dX8_takesNumbers_32 rfl (lv_at hl 0 rfl) ?_
        refine bVI0 (As := [.int 44, .int 44]) (rest := []) (wc := [(mM, .inr (8, [.ref mN, .ref mR, .ref mA, .ref mP, .int ch, .ref mT, .int le, .int (nI u_4_1), .ref mD])), (mT, .inl (cyI, 200, .inl tx))]) (ci := 8) (q0 := 0) X Y (c_isAt8 l D cyC cyI mM mN mR mA mP mT mD ch le u_4_1 tx 44 44 (s_isAt8 le u_4_1 tx 44 44) rfl (by first | assumption | omega | decide) (by (try have q0_1 := tnK_0_1 (by omega)); (try have q1_1 := tnK_1_1 (by omega)); (try have q2_1 := tnK_2_1 (by omega)); (try have q3_1 := tnK_3_1 (by omega)); (try have q0_2 := tnK_0_2 (by omega)); (try have q1_2 := tnK_1_2 (by omega)); (try have q2_2 := tnK_2_2 (by omega)); (try have q3_2 := tnK_3_2 (by omega)); (try have q0_3 := tnK_0_3 (by omega)); (try have q1_3 := tnK_1_3 (by omega)); (try have q2_3 := tnK_2_3 (by omega)); (try have q3_3 := tnK_3_3 (by omega)); (try have q0_4 := tnK_0_4 (by omega)); (try have q1_4 := tnK_1_4 (by omega)); (try have q2_4 := tnK_2_4 (by omega)); (try have q3_4 := tnK_3_4 (by omega)); (try have q0_5 := tnK_0_5 (by omega)); (try have q1_5 := tnK_1_5 (by omega)); (try have q2_5 := tnK_2_5 (by omega)); (try have q3_5 := tnK_3_5 (by omega)); (try have q0_6 := tnK_0_6 (by omega)); (try have q1_6 := tnK_1_6 (by omega)); (try have q2_6 := tnK_2_6 (by omega)); (try have q3_6 := tnK_3_6 (by omega)); (try have q0_7 := tnK_0_7 (by omega)); (try have q1_7 := tnK_1_7 (by omega)); (try have q2_7 := tnK_2_7 (by omega)); (try have q3_7 := tnK_3_7 (by omega)); (try have q0_8 := tnK_0_8 (by omega)); (try have q1_8 := tnK_1_8 (by omega)); (try have q2_8 := tnK_2_8 (by omega)); (try have q3_8 := tnK_3_8 (by omega)); (try have q0_9 := tnK_0_9 (by omega)); (try have q1_9 := tnK_1_9 (by omega)); (try have q2_9 := tnK_2_9 (by omega)); (try have q3_9 := tnK_3_9 (by omega)); (try have q0_10 := tnK_0_10 (by omega)); (try have q1_10 := tnK_1_10 (by omega)); (try have q2_10 := tnK_2_10 (by omega)); (try have q3_10 := tnK_3_10 (by omega)); (try have q0_11 := tnK_0_11 (by omega)); (try have q1_11 := tnK_1_11 (by omega)); (try have q2_11 := tnK_2_11 (by omega)); (try have q3_11 := tnK_3_11 (by omega)); (try have q0_12 := tnK_0_12 (by omega)); (try have q1_12 := tnK_1_12 (by omega)); (try have q2_12 := tnK_2_12 (by omega)); (try have q3_12 := tnK_3_12 (by omega)); (try have q0_13 := tnK_0_13 (by omega)); (try have q1_13 := tnK_1_13 (by omega)); (try have q2_13 := tnK_2_13 (by omega)); (try have q3_13 := tnK_3_13 (by omega)); omega)) gX8_takesNumbers_X8_isAt rfl ⟨rfl, rfl⟩ hd_X8_isAt ⟨(Nat.le_of_ble_eq_true rfl), (Nat.le_of_ble_eq_true rfl)⟩ rfl rfl rfl [0, 1] rfl rfl rfl rfl hl.1 (Nat.le_of_ble_eq_true rfl) ⟨Nat.zero_le _, Nat.zero_le _⟩ dX8_takesNumbers_33 (fun H locs Y => ?_)
        refine lv_if_ne (tgt := 41) hx hb dX8_takesNumbers_36 (by decide) (fun c_6 => ?_) (fun c_6 => ?_)
        · have c_6 := bB_t c_6
          rw [if_pos c_6] at hu
          refine lv_aload_n hx hb dX8_takesNumbers_41 rfl (lv_at hl 2 rfl) ?_
          refine lv_dup hx hb dX8_takesNumbers_42 rfl ?_
          refine bGet (v := .int (nI u_4_1)) (T := TX8) (N := 9) (ci := 8) X Y i_X8_takesNumbers_X8 0 rfl rfl 7 (Nat.le_of_ble_eq_true rfl) f_X8_takesNumbers_42 rfl rfl dX8_takesNumbers_43 ?_
          refine lv_iconst (v := 1) hx hb dX8_takesNumbers_46 (by decide) ?_
          refine bAdd (v := nI (u_4_1 + 1)) X dX8_takesNumbers_47 (nI_sum (a := u_4_1) (b := 1) rfl rfl (by omega)) ?_
          refine bPut (T := TX8) (N := 9) (ci := 8) (ws' := [(mM, .inr (8, [.ref mN, .ref mR, .ref mA, .ref mP, .int ch, .ref mT, .int le, .int (nI (u_4_1 + 1)), .ref mD])), (mT, .inl (cyI, 200, .inl tx)), (mD, .inl (cyI, 4, .inl u_4_2))]) X Y i_X8_takesNumbers_X8 tyX8 tyX8_ok nmX8 0 rfl rfl 7 (Nat.le_of_ble_eq_true rfl) f_X8_takesNumbers_42 rfl rfl rfl rfl (Nat.le_of_ble_eq_true rfl) rfl dX8_takesNumbers_48 (fun H locs Y => ?_)
          refine lv_iinc (v := 2) (lv' := [(2, .int 2), (3, .int 44), (0, .ref mM), (1, .int 3)]) hx hb dX8_takesNumbers_51 hl (k := 1) rfl (by decide) (by decide) rfl (fun ls hl => ?_)
          refine lv_goto (tgt := 2) hx hb dX8_takesNumbers_54 (by decide) ?_
          refine lv_iload_n hx hb dX8_takesNumbers_2 rfl (lv_at hl 0 rfl) ?_
          refine lv_iload_n hx hb dX8_takesNumbers_3 rfl (lv_at hl 3 rfl) ?_
          refine lv_icmp_ge (tgt := 57) hx hb dX8_takesNumbers_4 (by decide) (fun c_ => absurd c_ (by decide)) (fun _ => ?_)
          refine lv_iload_n hx hb dX8_takesNumbers_7 rfl (lv_at hl 0 rfl) ?_
          refine lv_iload_n hx hb dX8_takesNumbers_8 rfl (lv_at hl 3 rfl) ?_
          refine lv_iconst (v := 1) hx hb dX8_takesNumbers_9 (by decide) ?_
          refine bSub (v := 2) X dX8_takesNumbers_10 (by decide) ?_
          refine lv_icmp_ne (tgt := 19) hx hb dX8_takesNumbers_11 (by decide) (fun c_ => absurd (by decide) c_) (fun _ => ?_)
          refine lv_bipush (v := 59) hx hb dX8_takesNumbers_14 (by decide) ?_
          refine lv_goto (tgt := 21) hx hb dX8_takesNumbers_16 (by decide) ?_
          refine lv_istore_n (lv' := [(3, .int 59), (2, .int 2), (0, .ref mM), (1, .int 3)]) hx hb dX8_takesNumbers_21 rfl hl (by decide) rfl (fun ls hl => ?_)
          refine lv_aload_n hx hb dX8_takesNumbers_22 rfl (lv_at hl 2 rfl) ?_
          refine lv_iload_n hx hb dX8_takesNumbers_23 rfl (lv_at hl 1 rfl) ?_
          obtain ⟨u_7_0, u_7_1, u_7_2, hr_7⟩ := bEx3 (s_takesNumber8_2 le (u_4_1 + 1) tx u_4_2)
          rw [hr_7] at hu
          dsimp only at hu
          have tnK_2_7 := tnK_2 hr_7
          refine bVI (As := [.int 2]) (rest := []) (wc := [(mM, .inr (8, [.ref mN, .ref mR, .ref mA, .ref mP, .int ch, .ref mT, .int le, .int (nI (u_4_1 + 1)), .ref mD])), (mT, .inl (cyI, 200, .inl tx)), (mD, .inl (cyI, 4, .inl u_4_2))]) (w1 := [(mM, .inr (8, [.ref mN, .ref mR, .ref mA, .ref mP, .int ch, .ref mT, .int le, .int (nI u_7_1), .ref mD])), (mT, .inl (cyI, 200, .inl tx)), (mD, .inl (cyI, 4, .inl u_7_2))]) (ws' := [(mM, .inr (8, [.ref mN, .ref mR, .ref mA, .ref mP, .int ch, .ref mT, .int le, .int (nI u_7_1), .ref mD])), (mT, .inl (cyI, 200, .inl tx)), (mD, .inl (cyI, 4, .inl u_7_2))]) (ad := [mM, mT, mD]) (wr := []) (nn := 3) (ci := 8) (q0 := 0) X Y (c_takesNumber8_2 l D cyC cyI mM mN mR mA mP mT mD ch le (u_4_1 + 1) tx u_4_2 u_7_0 u_7_1 u_7_2 hr_7 (by first | assumption | omega | decide) (by (try have q0_1 := tnK_0_1 (by omega)); (try have q1_1 := tnK_1_1 (by omega)); (try have q2_1 := tnK_2_1 (by omega)); (try have q3_1 := tnK_3_1 (by omega)); (try have q0_2 := tnK_0_2 (by omega)); (try have q1_2 := tnK_1_2 (by omega)); (try have q2_2 := tnK_2_2 (by omega)); (try have q3_2 := tnK_3_2 (by omega)); (try have q0_3 := tnK_0_3 (by omega)); (try have q1_3 := tnK_1_3 (by omega)); (try have q2_3 := tnK_2_3 (by omega)); (try have q3_3 := tnK_3_3 (by omega)); (try have q0_4 := tnK_0_4 (by omega)); (try have q1_4 := tnK_1_4 (by omega)); (try have q2_4 := tnK_2_4 (by omega)); (try have q3_4 := tnK_3_4 (by omega)); (try have q0_5 := tnK_0_5 (by omega)); (try have q1_5 := tnK_1_5 (by omega)); (try have q2_5 := tnK_2_5 (by omega)); (try have q3_5 := tnK_3_5 (by omega)); (try have q0_6 := tnK_0_6 (by omega)); (try have q1_6 := tnK_1_6 (by omega)); (try have q2_6 := tnK_2_6 (by omega)); (try have q3_6 := tnK_3_6 (by omega)); (try have q0_7 := tnK_0_7 (by omega)); (try have q1_7 := tnK_1_7 (by omega)); (try have q2_7 := tnK_2_7 (by omega)); (try have q3_7 := tnK_3_7 (by omega)); (try have q0_8 := tnK_0_8 (by omega)); (try have q1_8 := tnK_1_8 (by omega)); (try have q2_8 := tnK_2_8 (by omega)); (try have q3_8 := tnK_3_8 (by omega)); (try have q0_9 := tnK_0_9 (by omega)); (try have q1_9 := tnK_1_9 (by omega)); (try have q2_9 := tnK_2_9 (by omega)); (try have q3_9 := tnK_3_9 (by omega)); (try have q0_10 := tnK_0_10 (by omega)); (try have q1_10 := tnK_1_10 (by omega)); (try have q2_10 := tnK_2_10 (by omega)); (try have q3_10 := tnK_3_10 (by omega)); (try have q0_11 := tnK_0_11 (by omega)); (try have q1_11 := tnK_1_11 (by omega)); (try have q2_11 := tnK_2_11 (by omega)); (try have q3_11 := tnK_3_11 (by omega)); (try have q0_12 := tnK_0_12 (by omega)); (try have q1_12 := tnK_1_12 (by omega)); (try have q2_12 := tnK_2_12 (by omega)); (try have q3_12 := tnK_3_12 (by omega)); (try have q0_13 := tnK_0_13 (by omega)); (try have q1_13 := tnK_1_13 (by omega)); (try have q2_13 := tnK_2_13 (by omega)); (try have q3_13 := tnK_3_13 (by omega)); omega)) gX8_takesNumbers_X8_takesNumber rfl ⟨rfl, rfl⟩ hd_X8_takesNumber ⟨(Nat.le_of_ble_eq_true rfl), (Nat.le_of_ble_eq_true rfl)⟩ rfl rfl rfl [0, 1, 2] [] rfl rfl rfl rfl rfl rfl rfl rfl (by decide) rfl rfl hl.1 (Nat.le_of_ble_eq_true rfl) ⟨Nat.zero_le _, Nat.zero_le _⟩ dX8_takesNumbers_24 (fun H locs Y => ?_)
          refine lv_if_eq (tgt := 39) hx hb dX8_takesNumbers_27 (by decide) (fun c_8 => ?_) (fun c_8 => ?_)
          · have c_8 := bB_f c_8
            rw [if_neg c_8] at hu
            refine lv_iconst (v := 0) hx hb dX8_takesNumbers_39 (by decide) ?_
            have h9 := (Prod.mk.inj hu).1; replace hu := (Prod.mk.inj hu).2; subst h9
            have h9 := (Prod.mk.inj hu).1; replace hu := (Prod.mk.inj hu).2; subst h9
            subst hu
            exact bEndZ X Y hr hlk dX8_takesNumbers_40 rfl rfl rfl
          · have c_8 := bB_t c_8
            rw [if_pos c_8] at hu
            refine lv_aload_n hx hb dX8_takesNumbers_30 rfl (lv_at hl 2 rfl) ?_
            refine lv_iload_n hx hb dX8_takesNumbers_31 rfl (lv_at hl 0 rfl) ?_
            refine lv_iload_n hx hb dX8_takesNumbers_32 rfl (lv_at hl 0 rfl) ?_
            refine bVI0 (As := [.int 59, .int 59]) (rest := []) (wc := [(mM, .inr (8, [.ref mN, .ref mR, .ref mA, .ref mP, .int ch, .ref mT, .int le, .int (nI u_7_1), .ref mD])), (mT, .inl (cyI, 200, .inl tx))]) (ci := 8) (q0 := 0) X Y (c_isAt8 l D cyC cyI mM mN mR mA mP mT mD ch le u_7_1 tx 59 59 (s_isAt8 le u_7_1 tx 59 59) rfl (by first | assumption | omega | decide) (by (try have q0_1 := tnK_0_1 (by omega)); (try have q1_1 := tnK_1_1 (by omega)); (try have q2_1 := tnK_2_1 (by omega)); (try have q3_1 := tnK_3_1 (by omega)); (try have q0_2 := tnK_0_2 (by omega)); (try have q1_2 := tnK_1_2 (by omega)); (try have q2_2 := tnK_2_2 (by omega)); (try have q3_2 := tnK_3_2 (by omega)); (try have q0_3 := tnK_0_3 (by omega)); (try have q1_3 := tnK_1_3 (by omega)); (try have q2_3 := tnK_2_3 (by omega)); (try have q3_3 := tnK_3_3 (by omega)); (try have q0_4 := tnK_0_4 (by omega)); (try have q1_4 := tnK_1_4 (by omega)); (try have q2_4 := tnK_2_4 (by omega)); (try have q3_4 := tnK_3_4 (by omega)); (try have q0_5 := tnK_0_5 (by omega)); (try have q1_5 := tnK_1_5 (by omega)); (try have q2_5 := tnK_2_5 (by omega)); (try have q3_5 := tnK_3_5 (by omega)); (try have q0_6 := tnK_0_6 (by omega)); (try have q1_6 := tnK_1_6 (by omega)); (try have q2_6 := tnK_2_6 (by omega)); (try have q3_6 := tnK_3_6 (by omega)); (try have q0_7 := tnK_0_7 (by omega)); (try have q1_7 := tnK_1_7 (by omega)); (try have q2_7 := tnK_2_7 (by omega)); (try have q3_7 := tnK_3_7 (by omega)); (try have q0_8 := tnK_0_8 (by omega)); (try have q1_8 := tnK_1_8 (by omega)); (try have q2_8 := tnK_2_8 (by omega)); (try have q3_8 := tnK_3_8 (by omega)); (try have q0_9 := tnK_0_9 (by omega)); (try have q1_9 := tnK_1_9 (by omega)); (try have q2_9 := tnK_2_9 (by omega)); (try have q3_9 := tnK_3_9 (by omega)); (try have q0_10 := tnK_0_10 (by omega)); (try have q1_10 := tnK_1_10 (by omega)); (try have q2_10 := tnK_2_10 (by omega)); (try have q3_10 := tnK_3_10 (by omega)); (try have q0_11 := tnK_0_11 (by omega)); (try have q1_11 := tnK_1_11 (by omega)); (try have q2_11 := tnK_2_11 (by omega)); (try have q3_11 := tnK_3_11 (by omega)); (try have q0_12 := tnK_0_12 (by omega)); (try have q1_12 := tnK_1_12 (by omega)); (try have q2_12 := tnK_2_12 (by omega)); (try have q3_12 := tnK_3_12 (by omega)); (try have q0_13 := tnK_0_13 (by omega)); (try have q1_13 := tnK_1_13 (by omega)); (try have q2_13 := tnK_2_13 (by omega)); (try have q3_13 := tnK_3_13 (by omega)); omega)) gX8_takesNumbers_X8_isAt rfl ⟨rfl, rfl⟩ hd_X8_isAt ⟨(Nat.le_of_ble_eq_true rfl), (Nat.le_of_ble_eq_true rfl)⟩ rfl rfl rfl [0, 1] rfl rfl rfl rfl hl.1 (Nat.le_of_ble_eq_true rfl) ⟨Nat.zero_le _, Nat.zero_le _⟩ dX8_takesNumbers_33 (fun H locs Y => ?_)
            refine lv_if_ne (tgt := 41) hx hb dX8_takesNumbers_36 (by decide) (fun c_9 => ?_) (fun c_9 => ?_)
            · have c_9 := bB_t c_9
              rw [if_pos c_9] at hu
              refine lv_aload_n hx hb dX8_takesNumbers_41 rfl (lv_at hl 2 rfl) ?_
              refine lv_dup hx hb dX8_takesNumbers_42 rfl ?_
              refine bGet (v := .int (nI u_7_1)) (T := TX8) (N := 9) (ci := 8) X Y i_X8_takesNumbers_X8 0 rfl rfl 7 (Nat.le_of_ble_eq_true rfl) f_X8_takesNumbers_42 rfl rfl dX8_takesNumbers_43 ?_
              refine lv_iconst (v := 1) hx hb dX8_takesNumbers_46 (by decide) ?_
              refine bAdd (v := nI (u_7_1 + 1)) X dX8_takesNumbers_47 (nI_sum (a := u_7_1) (b := 1) rfl rfl (by omega)) ?_
              refine bPut (T := TX8) (N := 9) (ci := 8) (ws' := [(mM, .inr (8, [.ref mN, .ref mR, .ref mA, .ref mP, .int ch, .ref mT, .int le, .int (nI (u_7_1 + 1)), .ref mD])), (mT, .inl (cyI, 200, .inl tx)), (mD, .inl (cyI, 4, .inl u_7_2))]) X Y i_X8_takesNumbers_X8 tyX8 tyX8_ok nmX8 0 rfl rfl 7 (Nat.le_of_ble_eq_true rfl) f_X8_takesNumbers_42 rfl rfl rfl rfl (Nat.le_of_ble_eq_true rfl) rfl dX8_takesNumbers_48 (fun H locs Y => ?_)
              refine lv_iinc (v := 3) (lv' := [(2, .int 3), (3, .int 59), (0, .ref mM), (1, .int 3)]) hx hb dX8_takesNumbers_51 hl (k := 1) rfl (by decide) (by decide) rfl (fun ls hl => ?_)
              refine lv_goto (tgt := 2) hx hb dX8_takesNumbers_54 (by decide) ?_
              refine lv_iload_n hx hb dX8_takesNumbers_2 rfl (lv_at hl 0 rfl) ?_
              refine lv_iload_n hx hb dX8_takesNumbers_3 rfl (lv_at hl 3 rfl) ?_
              refine lv_icmp_ge (tgt := 57) hx hb dX8_takesNumbers_4 (by decide) (fun _ => ?_) (fun c_ => absurd (by decide) c_)
              refine lv_iconst (v := 1) hx hb dX8_takesNumbers_57 (by decide) ?_
              have h9 := (Prod.mk.inj hu).1; replace hu := (Prod.mk.inj hu).2; subst h9
              have h9 := (Prod.mk.inj hu).1; replace hu := (Prod.mk.inj hu).2; subst h9
              subst hu
              exact bEndZ X Y hr hlk dX8_takesNumbers_58 rfl rfl rfl
            · have c_9 := bB_f c_9
              rw [if_neg c_9] at hu
              refine lv_iconst (v := 0) hx hb dX8_takesNumbers_39 (by decide) ?_
              have h9 := (Prod.mk.inj hu).1; replace hu := (Prod.mk.inj hu).2; subst h9
              have h9 := (Prod.mk.inj hu).1; replace hu := (Prod.mk.inj hu).2; subst h9
              subst hu
              exact bEndZ X Y hr hlk dX8_takesNumbers_40 rfl rfl rfl
        · have c_6 := bB_f c_6
          rw [if_neg c_6] at hu
          refine lv_iconst (v := 0) hx hb dX8_takesNumbers_39 (by decide) ?_
          have h9 := (Prod.mk.inj hu).1; replace hu := (Prod.mk.inj hu).2; subst h9
          have h9 := (Prod.mk.inj hu).1; replace hu := (Prod.mk.inj hu).2; subst h9
          subst hu
          exact bEndZ X Y hr hlk dX8_takesNumbers_40 rfl rfl rfl
    · have c_3 := bB_f c_3
      rw [if_neg c_3] at hu
      refine lv_iconst (v := 0) hx hb dX8_takesNumbers_39 (by decide) ?_
      have h9 := (Prod.mk.inj hu).1; replace hu := (Prod.mk.inj hu).2; subst h9
      have h9 := (Prod.mk.inj hu).1; replace hu := (Prod.mk.inj hu).2; subst h9
      subst hu
      exact bEndZ X Y hr hlk dX8_takesNumbers_40 rfl rfl rfl
def s_takesNumbers8_4 (le : Int32) (sa : Nat ) (tx : Nat → Int32) (td : Nat → Int32) : Bool × Nat × (Nat → Int32) :=
  match s_takesNumber8_0 le sa tx td with
  | (u_1_0, u_1_1, u_1_2) =>
    if u_1_0 = true then
      if (s_isAt8 le u_1_1 tx 44 44) = true then
        match s_takesNumber8_1 le (u_1_1 + 1) tx u_1_2 with
        | (u_4_0, u_4_1, u_4_2) =>
          if u_4_0 = true then
            if (s_isAt8 le u_4_1 tx 44 44) = true then
              match s_takesNumber8_2 le (u_4_1 + 1) tx u_4_2 with
              | (u_7_0, u_7_1, u_7_2) =>
                if u_7_0 = true then
                  if (s_isAt8 le u_7_1 tx 44 44) = true then
                    match s_takesNumber8_3 le (u_7_1 + 1) tx u_7_2 with
                    | (u_10_0, u_10_1, u_10_2) =>
                      if u_10_0 = true then
                        if (s_isAt8 le u_10_1 tx 59 59) = true then
                          (true, (u_10_1 + 1), u_10_2)
                        else
                          (false, u_10_1, u_10_2)
                      else
                        (false, u_10_1, u_10_2)
                  else
                    (false, u_7_1, u_7_2)
                else
                  (false, u_7_1, u_7_2)
            else
              (false, u_4_1, u_4_2)
          else
            (false, u_4_1, u_4_2)
      else
        (false, u_1_1, u_1_2)
    else
      (false, u_1_1, u_1_2)
set_option maxHeartbeats 4000000 in
set_option maxRecDepth 100000 in
theorem c_takesNumbers8_4 (l : Launch) (D : va_G) (cyC cyI : ClassId) (mM : Nat) (mN : Nat) (mR : Nat) (mA : Nat) (mP : Nat) (mT : Nat) (mD : Nat) (ch : Int32) (le : Int32) (sa : Nat ) (tx : Nat → Int32) (td : Nat → Int32) (o0 : Bool) (o1 : Nat) (o2 : Nat → Int32) (hu : s_takesNumbers8_4 le sa tx td = (o0, o1, o2)) (hle : le ≤ nI 200) (hsa : sa ≤ 500) : CI l yX8_takesNumbers wsX8_takesNumbers { frames := 3, cells := 0, slots := 0, locals := 66 } D cyC cyI [.ref mM, .int 4] [(mM, .inr (8, [.ref mN, .ref mR, .ref mA, .ref mP, .int ch, .ref mT, .int le, .int (nI sa), .ref mD])), (mT, .inl (cyI, 200, .inl tx)), (mD, .inl (cyI, 4, .inl td))] (bB o0) [(mM, .inr (8, [.ref mN, .ref mR, .ref mA, .ref mP, .int ch, .ref mT, .int le, .int (nI o1), .ref mD])), (mT, .inl (cyI, 200, .inl tx)), (mD, .inl (cyI, 4, .inl o2))] := by
  refine CI.of (cc := cX8_takesNumbers) (n := 4) (ret := (some .boolean)) (by decide +kernel) rfl (Nat.le_of_ble_eq_true rfl) ?_
  intro p_ e_ s_ m_ bl_ me_ cd_ A_ ls X Y hr hlk hl
  have hx := X.1.1
  have hb := X.1.2.1
  have hl : lv_has ls 4 [(0, .ref mM), (1, .int 4)] := hl
  unfold s_takesNumbers8_4 at hu
  refine lv_iconst (v := 0) hx hb dX8_takesNumbers_0 (by decide) ?_
  refine lv_istore_n (lv' := [(2, .int 0), (0, .ref mM), (1, .int 4)]) hx hb dX8_takesNumbers_1 rfl hl (by decide) rfl (fun ls hl => ?_)
  refine lv_iload_n hx hb dX8_takesNumbers_2 rfl (lv_at hl 0 rfl) ?_
  refine lv_iload_n hx hb dX8_takesNumbers_3 rfl (lv_at hl 2 rfl) ?_
  refine lv_icmp_ge (tgt := 57) hx hb dX8_takesNumbers_4 (by decide) (fun c_ => absurd c_ (by decide)) (fun _ => ?_)
  refine lv_iload_n hx hb dX8_takesNumbers_7 rfl (lv_at hl 0 rfl) ?_
  refine lv_iload_n hx hb dX8_takesNumbers_8 rfl (lv_at hl 2 rfl) ?_
  refine lv_iconst (v := 1) hx hb dX8_takesNumbers_9 (by decide) ?_
  refine bSub (v := 3) X dX8_takesNumbers_10 (by decide) ?_
  refine lv_icmp_ne (tgt := 19) hx hb dX8_takesNumbers_11 (by decide) (fun _ => ?_) (fun c_ => absurd c_ (by decide))
  refine lv_bipush (v := 44) hx hb dX8_takesNumbers_19 (by decide) ?_
  refine lv_istore_n (lv' := [(3, .int 44), (2, .int 0), (0, .ref mM), (1, .int 4)]) hx hb dX8_takesNumbers_21 rfl hl (by decide) rfl (fun ls hl => ?_)
  refine lv_aload_n hx hb dX8_takesNumbers_22 rfl (lv_at hl 2 rfl) ?_
  refine lv_iload_n hx hb dX8_takesNumbers_23 rfl (lv_at hl 1 rfl) ?_
  obtain ⟨u_1_0, u_1_1, u_1_2, hr_1⟩ := bEx3 (s_takesNumber8_0 le sa tx td)
  rw [hr_1] at hu
  dsimp only at hu
  have tnK_0_1 := tnK_0 hr_1
  refine bVI (As := [.int 0]) (rest := []) (wc := [(mM, .inr (8, [.ref mN, .ref mR, .ref mA, .ref mP, .int ch, .ref mT, .int le, .int (nI sa), .ref mD])), (mT, .inl (cyI, 200, .inl tx)), (mD, .inl (cyI, 4, .inl td))]) (w1 := [(mM, .inr (8, [.ref mN, .ref mR, .ref mA, .ref mP, .int ch, .ref mT, .int le, .int (nI u_1_1), .ref mD])), (mT, .inl (cyI, 200, .inl tx)), (mD, .inl (cyI, 4, .inl u_1_2))]) (ws' := [(mM, .inr (8, [.ref mN, .ref mR, .ref mA, .ref mP, .int ch, .ref mT, .int le, .int (nI u_1_1), .ref mD])), (mT, .inl (cyI, 200, .inl tx)), (mD, .inl (cyI, 4, .inl u_1_2))]) (ad := [mM, mT, mD]) (wr := []) (nn := 3) (ci := 8) (q0 := 0) X Y (c_takesNumber8_0 l D cyC cyI mM mN mR mA mP mT mD ch le sa tx td u_1_0 u_1_1 u_1_2 hr_1 (by first | assumption | omega | decide) (by (try have q0_1 := tnK_0_1 (by omega)); (try have q1_1 := tnK_1_1 (by omega)); (try have q2_1 := tnK_2_1 (by omega)); (try have q3_1 := tnK_3_1 (by omega)); (try have q0_2 := tnK_0_2 (by omega)); (try have q1_2 := tnK_1_2 (by omega)); (try have q2_2 := tnK_2_2 (by omega)); (try have q3_2 := tnK_3_2 (by omega)); (try have q0_3 := tnK_0_3 (by omega)); (try have q1_3 := tnK_1_3 (by omega)); (try have q2_3 := tnK_2_3 (by omega)); (try have q3_3 := tnK_3_3 (by omega)); (try have q0_4 := tnK_0_4 (by omega)); (try have q1_4 := tnK_1_4 (by omega)); (try have q2_4 := tnK_2_4 (by omega)); (try have q3_4 := tnK_3_4 (by omega)); (try have q0_5 := tnK_0_5 (by omega)); (try have q1_5 := tnK_1_5 (by omega)); (try have q2_5 := tnK_2_5 (by omega)); (try have q3_5 := tnK_3_5 (by omega)); (try have q0_6 := tnK_0_6 (by omega)); (try have q1_6 := tnK_1_6 (by omega)); (try have q2_6 := tnK_2_6 (by omega)); (try have q3_6 := tnK_3_6 (by omega)); (try have q0_7 := tnK_0_7 (by omega)); (try have q1_7 := tnK_1_7 (by omega)); (try have q2_7 := tnK_2_7 (by omega)); (try have q3_7 := tnK_3_7 (by omega)); (try have q0_8 := tnK_0_8 (by omega)); (try have q1_8 := tnK_1_8 (by omega)); (try have q2_8 := tnK_2_8 (by omega)); (try have q3_8 := tnK_3_8 (by omega)); (try have q0_9 := tnK_0_9 (by omega)); (try have q1_9 := tnK_1_9 (by omega)); (try have q2_9 := tnK_2_9 (by omega)); (try have q3_9 := tnK_3_9 (by omega)); (try have q0_10 := tnK_0_10 (by omega)); (try have q1_10 := tnK_1_10 (by omega)); (try have q2_10 := tnK_2_10 (by omega)); (try have q3_10 := tnK_3_10 (by omega)); (try have q0_11 := tnK_0_11 (by omega)); (try have q1_11 := tnK_1_11 (by omega)); (try have q2_11 := tnK_2_11 (by omega)); (try have q3_11 := tnK_3_11 (by omega)); (try have q0_12 := tnK_0_12 (by omega)); (try have q1_12 := tnK_1_12 (by omega)); (try have q2_12 := tnK_2_12 (by omega)); (try have q3_12 := tnK_3_12 (by omega)); (try have q0_13 := tnK_0_13 (by omega)); (try have q1_13 := tnK_1_13 (by omega)); (try have q2_13 := tnK_2_13 (by omega)); (try have q3_13 := tnK_3_13 (by omega)); omega)) gX8_takesNumbers_X8_takesNumber rfl ⟨rfl, rfl⟩ hd_X8_takesNumber ⟨(Nat.le_of_ble_eq_true rfl), (Nat.le_of_ble_eq_true rfl)⟩ rfl rfl rfl [0, 1, 2] [] rfl rfl rfl rfl rfl rfl rfl rfl (by decide) rfl rfl hl.1 (Nat.le_of_ble_eq_true rfl) ⟨Nat.zero_le _, Nat.zero_le _⟩ dX8_takesNumbers_24 (fun H locs Y => ?_)
  refine lv_if_eq (tgt := 39) hx hb dX8_takesNumbers_27 (by decide) (fun c_2 => ?_) (fun c_2 => ?_)
  · have c_2 := bB_f c_2
    rw [if_neg c_2] at hu
    refine lv_iconst (v := 0) hx hb dX8_takesNumbers_39 (by decide) ?_
    have h9 := (Prod.mk.inj hu).1; replace hu := (Prod.mk.inj hu).2; subst h9
    have h9 := (Prod.mk.inj hu).1; replace hu := (Prod.mk.inj hu).2; subst h9
    subst hu
    exact bEndZ X Y hr hlk dX8_takesNumbers_40 rfl rfl rfl
  · have c_2 := bB_t c_2
    rw [if_pos c_2] at hu
    refine lv_aload_n hx hb dX8_takesNumbers_30 rfl (lv_at hl 2 rfl) ?_
    refine lv_iload_n hx hb dX8_takesNumbers_31 rfl (lv_at hl 0 rfl) ?_
    refine lv_iload_n hx hb dX8_takesNumbers_32 rfl (lv_at hl 0 rfl) ?_
    refine bVI0 (As := [.int 44, .int 44]) (rest := []) (wc := [(mM, .inr (8, [.ref mN, .ref mR, .ref mA, .ref mP, .int ch, .ref mT, .int le, .int (nI u_1_1), .ref mD])), (mT, .inl (cyI, 200, .inl tx))]) (ci := 8) (q0 := 0) X Y (c_isAt8 l D cyC cyI mM mN mR mA mP mT mD ch le u_1_1 tx 44 44 (s_isAt8 le u_1_1 tx 44 44) rfl (by first | assumption | omega | decide) (by (try have q0_1 := tnK_0_1 (by omega)); (try have q1_1 := tnK_1_1 (by omega)); (try have q2_1 := tnK_2_1 (by omega)); (try have q3_1 := tnK_3_1 (by omega)); (try have q0_2 := tnK_0_2 (by omega)); (try have q1_2 := tnK_1_2 (by omega)); (try have q2_2 := tnK_2_2 (by omega)); (try have q3_2 := tnK_3_2 (by omega)); (try have q0_3 := tnK_0_3 (by omega)); (try have q1_3 := tnK_1_3 (by omega)); (try have q2_3 := tnK_2_3 (by omega)); (try have q3_3 := tnK_3_3 (by omega)); (try have q0_4 := tnK_0_4 (by omega)); (try have q1_4 := tnK_1_4 (by omega)); (try have q2_4 := tnK_2_4 (by omega)); (try have q3_4 := tnK_3_4 (by omega)); (try have q0_5 := tnK_0_5 (by omega)); (try have q1_5 := tnK_1_5 (by omega)); (try have q2_5 := tnK_2_5 (by omega)); (try have q3_5 := tnK_3_5 (by omega)); (try have q0_6 := tnK_0_6 (by omega)); (try have q1_6 := tnK_1_6 (by omega)); (try have q2_6 := tnK_2_6 (by omega)); (try have q3_6 := tnK_3_6 (by omega)); (try have q0_7 := tnK_0_7 (by omega)); (try have q1_7 := tnK_1_7 (by omega)); (try have q2_7 := tnK_2_7 (by omega)); (try have q3_7 := tnK_3_7 (by omega)); (try have q0_8 := tnK_0_8 (by omega)); (try have q1_8 := tnK_1_8 (by omega)); (try have q2_8 := tnK_2_8 (by omega)); (try have q3_8 := tnK_3_8 (by omega)); (try have q0_9 := tnK_0_9 (by omega)); (try have q1_9 := tnK_1_9 (by omega)); (try have q2_9 := tnK_2_9 (by omega)); (try have q3_9 := tnK_3_9 (by omega)); (try have q0_10 := tnK_0_10 (by omega)); (try have q1_10 := tnK_1_10 (by omega)); (try have q2_10 := tnK_2_10 (by omega)); (try have q3_10 := tnK_3_10 (by omega)); (try have q0_11 := tnK_0_11 (by omega)); (try have q1_11 := tnK_1_11 (by omega)); (try have q2_11 := tnK_2_11 (by omega)); (try have q3_11 := tnK_3_11 (by omega)); (try have q0_12 := tnK_0_12 (by omega)); (try have q1_12 := tnK_1_12 (by omega)); (try have q2_12 := tnK_2_12 (by omega)); (try have q3_12 := tnK_3_12 (by omega)); (try have q0_13 := tnK_0_13 (by omega)); (try have q1_13 := tnK_1_13 (by omega)); (try have q2_13 := tnK_2_13 (by omega)); (try have q3_13 := tnK_3_13 (by omega)); omega)) gX8_takesNumbers_X8_isAt rfl ⟨rfl, rfl⟩ hd_X8_isAt ⟨(Nat.le_of_ble_eq_true rfl), (Nat.le_of_ble_eq_true rfl)⟩ rfl rfl rfl [0, 1] rfl rfl rfl rfl hl.1 (Nat.le_of_ble_eq_true rfl) ⟨Nat.zero_le _, Nat.zero_le _⟩ dX8_takesNumbers_33 (fun H locs Y => ?_)
    refine lv_if_ne (tgt := 41) hx hb dX8_takesNumbers_36 (by decide) (fun c_3 => ?_) (fun c_3 => ?_)
    · have c_3 := bB_t c_3
      rw [if_pos c_3] at hu
      refine lv_aload_n hx hb dX8_takesNumbers_41 rfl (lv_at hl 2 rfl) ?_
      refine lv_dup hx hb dX8_takesNumbers_42 rfl ?_
      refine bGet (v := .int (nI u_1_1)) (T := TX8) (N := 9) (ci := 8) X Y i_X8_takesNumbers_X8 0 rfl rfl 7 (Nat.le_of_ble_eq_true rfl) f_X8_takesNumbers_42 rfl rfl dX8_takesNumbers_43 ?_
      refine lv_iconst (v := 1) hx hb dX8_takesNumbers_46 (by decide) ?_
      refine bAdd (v := nI (u_1_1 + 1)) X dX8_takesNumbers_47 (nI_sum (a := u_1_1) (b := 1) rfl rfl (by omega)) ?_
      refine bPut (T := TX8) (N := 9) (ci := 8) (ws' := [(mM, .inr (8, [.ref mN, .ref mR, .ref mA, .ref mP, .int ch, .ref mT, .int le, .int (nI (u_1_1 + 1)), .ref mD])), (mT, .inl (cyI, 200, .inl tx)), (mD, .inl (cyI, 4, .inl u_1_2))]) X Y i_X8_takesNumbers_X8 tyX8 tyX8_ok nmX8 0 rfl rfl 7 (Nat.le_of_ble_eq_true rfl) f_X8_takesNumbers_42 rfl rfl rfl rfl (Nat.le_of_ble_eq_true rfl) rfl dX8_takesNumbers_48 (fun H locs Y => ?_)
      refine lv_iinc (v := 1) (lv' := [(2, .int 1), (3, .int 44), (0, .ref mM), (1, .int 4)]) hx hb dX8_takesNumbers_51 hl (k := 1) rfl (by decide) (by decide) rfl (fun ls hl => ?_)
      refine lv_goto (tgt := 2) hx hb dX8_takesNumbers_54 (by decide) ?_
      refine lv_iload_n hx hb dX8_takesNumbers_2 rfl (lv_at hl 0 rfl) ?_
      refine lv_iload_n hx hb dX8_takesNumbers_3 rfl (lv_at hl 3 rfl) ?_
      refine lv_icmp_ge (tgt := 57) hx hb dX8_takesNumbers_4 (by decide) (fun c_ => absurd c_ (by decide)) (fun _ => ?_)
      refine lv_iload_n hx hb dX8_takesNumbers_7 rfl (lv_at hl 0 rfl) ?_
      refine lv_iload_n hx hb dX8_takesNumbers_8 rfl (lv_at hl 3 rfl) ?_
      refine lv_iconst (v := 1) hx hb dX8_takesNumbers_9 (by decide) ?_
      refine bSub (v := 3) X dX8_takesNumbers_10 (by decide) ?_
      refine lv_icmp_ne (tgt := 19) hx hb dX8_takesNumbers_11 (by decide) (fun _ => ?_) (fun c_ => absurd c_ (by decide))
      refine lv_bipush (v := 44) hx hb dX8_takesNumbers_19 (by decide) ?_
      refine lv_istore_n (lv' := [(3, .int 44), (2, .int 1), (0, .ref mM), (1, .int 4)]) hx hb dX8_takesNumbers_21 rfl hl (by decide) rfl (fun ls hl => ?_)
      refine lv_aload_n hx hb dX8_takesNumbers_22 rfl (lv_at hl 2 rfl) ?_
      refine lv_iload_n hx hb dX8_takesNumbers_23 rfl (lv_at hl 1 rfl) ?_
      obtain ⟨u_4_0, u_4_1, u_4_2, hr_4⟩ := bEx3 (s_takesNumber8_1 le (u_1_1 + 1) tx u_1_2)
      rw [hr_4] at hu
      dsimp only at hu
      have tnK_1_4 := tnK_1 hr_4
      refine bVI (As := [.int 1]) (rest := []) (wc := [(mM, .inr (8, [.ref mN, .ref mR, .ref mA, .ref mP, .int ch, .ref mT, .int le, .int (nI (u_1_1 + 1)), .ref mD])), (mT, .inl (cyI, 200, .inl tx)), (mD, .inl (cyI, 4, .inl u_1_2))]) (w1 := [(mM, .inr (8, [.ref mN, .ref mR, .ref mA, .ref mP, .int ch, .ref mT, .int le, .int (nI u_4_1), .ref mD])), (mT, .inl (cyI, 200, .inl tx)), (mD, .inl (cyI, 4, .inl u_4_2))]) (ws' := [(mM, .inr (8, [.ref mN, .ref mR, .ref mA, .ref mP, .int ch, .ref mT, .int le, .int (nI u_4_1), .ref mD])), (mT, .inl (cyI, 200, .inl tx)), (mD, .inl (cyI, 4, .inl u_4_2))]) (ad := [mM, mT, mD]) (wr := []) (nn := 3) (ci := 8) (q0 := 0) X Y (c_takesNumber8_1 l D cyC cyI mM mN mR mA mP mT mD ch le (u_1_1 + 1) tx u_1_2 u_4_0 u_4_1 u_4_2 hr_4 (by first | assumption | omega | decide) (by (try have q0_1 := tnK_0_1 (by omega)); (try have q1_1 := tnK_1_1 (by omega)); (try have q2_1 := tnK_2_1 (by omega)); (try have q3_1 := tnK_3_1 (by omega)); (try have q0_2 := tnK_0_2 (by omega)); (try have q1_2 := tnK_1_2 (by omega)); (try have q2_2 := tnK_2_2 (by omega)); (try have q3_2 := tnK_3_2 (by omega)); (try have q0_3 := tnK_0_3 (by omega)); (try have q1_3 := tnK_1_3 (by omega)); (try have q2_3 := tnK_2_3 (by omega)); (try have q3_3 := tnK_3_3 (by omega)); (try have q0_4 := tnK_0_4 (by omega)); (try have q1_4 := tnK_1_4 (by omega)); (try have q2_4 := tnK_2_4 (by omega)); (try have q3_4 := tnK_3_4 (by omega)); (try have q0_5 := tnK_0_5 (by omega)); (try have q1_5 := tnK_1_5 (by omega)); (try have q2_5 := tnK_2_5 (by omega)); (try have q3_5 := tnK_3_5 (by omega)); (try have q0_6 := tnK_0_6 (by omega)); (try have q1_6 := tnK_1_6 (by omega)); (try have q2_6 := tnK_2_6 (by omega)); (try have q3_6 := tnK_3_6 (by omega)); (try have q0_7 := tnK_0_7 (by omega)); (try have q1_7 := tnK_1_7 (by omega)); (try have q2_7 := tnK_2_7 (by omega)); (try have q3_7 := tnK_3_7 (by omega)); (try have q0_8 := tnK_0_8 (by omega)); (try have q1_8 := tnK_1_8 (by omega)); (try have q2_8 := tnK_2_8 (by omega)); (try have q3_8 := tnK_3_8 (by omega)); (try have q0_9 := tnK_0_9 (by omega)); (try have q1_9 := tnK_1_9 (by omega)); (try have q2_9 := tnK_2_9 (by omega)); (try have q3_9 := tnK_3_9 (by omega)); (try have q0_10 := tnK_0_10 (by omega)); (try have q1_10 := tnK_1_10 (by omega)); (try have q2_10 := tnK_2_10 (by omega)); (try have q3_10 := tnK_3_10 (by omega)); (try have q0_11 := tnK_0_11 (by omega)); (try have q1_11 := tnK_1_11 (by omega)); (try have q2_11 := tnK_2_11 (by omega)); (try have q3_11 := tnK_3_11 (by omega)); (try have q0_12 := tnK_0_12 (by omega)); (try have q1_12 := tnK_1_12 (by omega)); (try have q2_12 := tnK_2_12 (by omega)); (try have q3_12 := tnK_3_12 (by omega)); (try have q0_13 := tnK_0_13 (by omega)); (try have q1_13 := tnK_1_13 (by omega)); (try have q2_13 := tnK_2_13 (by omega)); (try have q3_13 := tnK_3_13 (by omega)); omega)) gX8_takesNumbers_X8_takesNumber rfl ⟨rfl, rfl⟩ hd_X8_takesNumber ⟨(Nat.le_of_ble_eq_true rfl), (Nat.le_of_ble_eq_true rfl)⟩ rfl rfl rfl [0, 1, 2] [] rfl rfl rfl rfl rfl rfl rfl rfl (by decide) rfl rfl hl.1 (Nat.le_of_ble_eq_true rfl) ⟨Nat.zero_le _, Nat.zero_le _⟩ dX8_takesNumbers_24 (fun H locs Y => ?_)
      refine lv_if_eq (tgt := 39) hx hb dX8_takesNumbers_27 (by decide) (fun c_5 => ?_) (fun c_5 => ?_)
      · have c_5 := bB_f c_5
        rw [if_neg c_5] at hu
        refine lv_iconst (v := 0) hx hb dX8_takesNumbers_39 (by decide) ?_
        have h9 := (Prod.mk.inj hu).1; replace hu := (Prod.mk.inj hu).2; subst h9
        have h9 := (Prod.mk.inj hu).1; replace hu := (Prod.mk.inj hu).2; subst h9
        subst hu
        exact bEndZ X Y hr hlk dX8_takesNumbers_40 rfl rfl rfl
      · have c_5 := bB_t c_5
        rw [if_pos c_5] at hu
        refine lv_aload_n hx hb dX8_takesNumbers_30 rfl (lv_at hl 2 rfl) ?_
        refine lv_iload_n hx hb dX8_takesNumbers_31 rfl (lv_at hl 0 rfl) ?_
        refine lv_iload_n hx hb dX8_takesNumbers_32 rfl (lv_at hl 0 rfl) ?_
        refine bVI0 (As := [.int 44, .int 44]) (rest := []) (wc := [(mM, .inr (8, [.ref mN, .ref mR, .ref mA, .ref mP, .int ch, .ref mT, .int le, .int (nI u_4_1), .ref mD])), (mT, .inl (cyI, 200, .inl tx))]) (ci := 8) (q0 := 0) X Y (c_isAt8 l D cyC cyI mM mN mR mA mP mT mD ch le u_4_1 tx 44 44 (s_isAt8 le u_4_1 tx 44 44) rfl (by first | assumption | omega | decide) (by (try have q0_1 := tnK_0_1 (by omega)); (try have q1_1 := tnK_1_1 (by omega)); (try have q2_1 := tnK_2_1 (by omega)); (try have q3_1 := tnK_3_1 (by omega)); (try have q0_2 := tnK_0_2 (by omega)); (try have q1_2 := tnK_1_2 (by omega)); (try have q2_2 := tnK_2_2 (by omega)); (try have q3_2 := tnK_3_2 (by omega)); (try have q0_3 := tnK_0_3 (by omega)); (try have q1_3 := tnK_1_3 (by omega)); (try have q2_3 := tnK_2_3 (by omega)); (try have q3_3 := tnK_3_3 (by omega)); (try have q0_4 := tnK_0_4 (by omega)); (try have q1_4 := tnK_1_4 (by omega)); (try have q2_4 := tnK_2_4 (by omega)); (try have q3_4 := tnK_3_4 (by omega)); (try have q0_5 := tnK_0_5 (by omega)); (try have q1_5 := tnK_1_5 (by omega)); (try have q2_5 := tnK_2_5 (by omega)); (try have q3_5 := tnK_3_5 (by omega)); (try have q0_6 := tnK_0_6 (by omega)); (try have q1_6 := tnK_1_6 (by omega)); (try have q2_6 := tnK_2_6 (by omega)); (try have q3_6 := tnK_3_6 (by omega)); (try have q0_7 := tnK_0_7 (by omega)); (try have q1_7 := tnK_1_7 (by omega)); (try have q2_7 := tnK_2_7 (by omega)); (try have q3_7 := tnK_3_7 (by omega)); (try have q0_8 := tnK_0_8 (by omega)); (try have q1_8 := tnK_1_8 (by omega)); (try have q2_8 := tnK_2_8 (by omega)); (try have q3_8 := tnK_3_8 (by omega)); (try have q0_9 := tnK_0_9 (by omega)); (try have q1_9 := tnK_1_9 (by omega)); (try have q2_9 := tnK_2_9 (by omega)); (try have q3_9 := tnK_3_9 (by omega)); (try have q0_10 := tnK_0_10 (by omega)); (try have q1_10 := tnK_1_10 (by omega)); (try have q2_10 := tnK_2_10 (by omega)); (try have q3_10 := tnK_3_10 (by omega)); (try have q0_11 := tnK_0_11 (by omega)); (try have q1_11 := tnK_1_11 (by omega)); (try have q2_11 := tnK_2_11 (by omega)); (try have q3_11 := tnK_3_11 (by omega)); (try have q0_12 := tnK_0_12 (by omega)); (try have q1_12 := tnK_1_12 (by omega)); (try have q2_12 := tnK_2_12 (by omega)); (try have q3_12 := tnK_3_12 (by omega)); (try have q0_13 := tnK_0_13 (by omega)); (try have q1_13 := tnK_1_13 (by omega)); (try have q2_13 := tnK_2_13 (by omega)); (try have q3_13 := tnK_3_13 (by omega)); omega)) gX8_takesNumbers_X8_isAt rfl ⟨rfl, rfl⟩ hd_X8_isAt ⟨(Nat.le_of_ble_eq_true rfl), (Nat.le_of_ble_eq_true rfl)⟩ rfl rfl rfl [0, 1] rfl rfl rfl rfl hl.1 (Nat.le_of_ble_eq_true rfl) ⟨Nat.zero_le _, Nat.zero_le _⟩ dX8_takesNumbers_33 (fun H locs Y => ?_)
        refine lv_if_ne (tgt := 41) hx hb dX8_takesNumbers_36 (by decide) (fun c_6 => ?_) (fun c_6 => ?_)
        · have c_6 := bB_t c_6
          rw [if_pos c_6] at hu
          refine lv_aload_n hx hb dX8_takesNumbers_41 rfl (lv_at hl 2 rfl) ?_
          refine lv_dup hx hb dX8_takesNumbers_42 rfl ?_
          refine bGet (v := .int (nI u_4_1)) (T := TX8) (N := 9) (ci := 8) X Y i_X8_takesNumbers_X8 0 rfl rfl 7 (Nat.le_of_ble_eq_true rfl) f_X8_takesNumbers_42 rfl rfl dX8_takesNumbers_43 ?_
          refine lv_iconst (v := 1) hx hb dX8_takesNumbers_46 (by decide) ?_
          refine bAdd (v := nI (u_4_1 + 1)) X dX8_takesNumbers_47 (nI_sum (a := u_4_1) (b := 1) rfl rfl (by omega)) ?_
          refine bPut (T := TX8) (N := 9) (ci := 8) (ws' := [(mM, .inr (8, [.ref mN, .ref mR, .ref mA, .ref mP, .int ch, .ref mT, .int le, .int (nI (u_4_1 + 1)), .ref mD])), (mT, .inl (cyI, 200, .inl tx)), (mD, .inl (cyI, 4, .inl u_4_2))]) X Y i_X8_takesNumbers_X8 tyX8 tyX8_ok nmX8 0 rfl rfl 7 (Nat.le_of_ble_eq_true rfl) f_X8_takesNumbers_42 rfl rfl rfl rfl (Nat.le_of_ble_eq_true rfl) rfl dX8_takesNumbers_48 (fun H locs Y => ?_)
          refine lv_iinc (v := 2) (lv' := [(2, .int 2), (3, .int 44), (0, .ref mM), (1, .int 4)]) hx hb dX8_takesNumbers_51 hl (k := 1) rfl (by decide) (by decide) rfl (fun ls hl => ?_)
          refine lv_goto (tgt := 2) hx hb dX8_takesNumbers_54 (by decide) ?_
          refine lv_iload_n hx hb dX8_takesNumbers_2 rfl (lv_at hl 0 rfl) ?_
          refine lv_iload_n hx hb dX8_takesNumbers_3 rfl (lv_at hl 3 rfl) ?_
          refine lv_icmp_ge (tgt := 57) hx hb dX8_takesNumbers_4 (by decide) (fun c_ => absurd c_ (by decide)) (fun _ => ?_)
          refine lv_iload_n hx hb dX8_takesNumbers_7 rfl (lv_at hl 0 rfl) ?_
          refine lv_iload_n hx hb dX8_takesNumbers_8 rfl (lv_at hl 3 rfl) ?_
          refine lv_iconst (v := 1) hx hb dX8_takesNumbers_9 (by decide) ?_
          refine bSub (v := 3) X dX8_takesNumbers_10 (by decide) ?_
          refine lv_icmp_ne (tgt := 19) hx hb dX8_takesNumbers_11 (by decide) (fun _ => ?_) (fun c_ => absurd c_ (by decide))
          refine lv_bipush (v := 44) hx hb dX8_takesNumbers_19 (by decide) ?_
          refine lv_istore_n (lv' := [(3, .int 44), (2, .int 2), (0, .ref mM), (1, .int 4)]) hx hb dX8_takesNumbers_21 rfl hl (by decide) rfl (fun ls hl => ?_)
          refine lv_aload_n hx hb dX8_takesNumbers_22 rfl (lv_at hl 2 rfl) ?_
          refine lv_iload_n hx hb dX8_takesNumbers_23 rfl (lv_at hl 1 rfl) ?_
          obtain ⟨u_7_0, u_7_1, u_7_2, hr_7⟩ := bEx3 (s_takesNumber8_2 le (u_4_1 + 1) tx u_4_2)
          rw [hr_7] at hu
          dsimp only at hu
          have tnK_2_7 := tnK_2 hr_7
          refine bVI (As := [.int 2]) (rest := []) (wc := [(mM, .inr (8, [.ref mN, .ref mR, .ref mA, .ref mP, .int ch, .ref mT, .int le, .int (nI (u_4_1 + 1)), .ref mD])), (mT, .inl (cyI, 200, .inl tx)), (mD, .inl (cyI, 4, .inl u_4_2))]) (w1 := [(mM, .inr (8, [.ref mN, .ref mR, .ref mA, .ref mP, .int ch, .ref mT, .int le, .int (nI u_7_1), .ref mD])), (mT, .inl (cyI, 200, .inl tx)), (mD, .inl (cyI, 4, .inl u_7_2))]) (ws' := [(mM, .inr (8, [.ref mN, .ref mR, .ref mA, .ref mP, .int ch, .ref mT, .int le, .int (nI u_7_1), .ref mD])), (mT, .inl (cyI, 200, .inl tx)), (mD, .inl (cyI, 4, .inl u_7_2))]) (ad := [mM, mT, mD]) (wr := []) (nn := 3) (ci := 8) (q0 := 0) X Y (c_takesNumber8_2 l D cyC cyI mM mN mR mA mP mT mD ch le (u_4_1 + 1) tx u_4_2 u_7_0 u_7_1 u_7_2 hr_7 (by first | assumption | omega | decide) (by (try have q0_1 := tnK_0_1 (by omega)); (try have q1_1 := tnK_1_1 (by omega)); (try have q2_1 := tnK_2_1 (by omega)); (try have q3_1 := tnK_3_1 (by omega)); (try have q0_2 := tnK_0_2 (by omega)); (try have q1_2 := tnK_1_2 (by omega)); (try have q2_2 := tnK_2_2 (by omega)); (try have q3_2 := tnK_3_2 (by omega)); (try have q0_3 := tnK_0_3 (by omega)); (try have q1_3 := tnK_1_3 (by omega)); (try have q2_3 := tnK_2_3 (by omega)); (try have q3_3 := tnK_3_3 (by omega)); (try have q0_4 := tnK_0_4 (by omega)); (try have q1_4 := tnK_1_4 (by omega)); (try have q2_4 := tnK_2_4 (by omega)); (try have q3_4 := tnK_3_4 (by omega)); (try have q0_5 := tnK_0_5 (by omega)); (try have q1_5 := tnK_1_5 (by omega)); (try have q2_5 := tnK_2_5 (by omega)); (try have q3_5 := tnK_3_5 (by omega)); (try have q0_6 := tnK_0_6 (by omega)); (try have q1_6 := tnK_1_6 (by omega)); (try have q2_6 := tnK_2_6 (by omega)); (try have q3_6 := tnK_3_6 (by omega)); (try have q0_7 := tnK_0_7 (by omega)); (try have q1_7 := tnK_1_7 (by omega)); (try have q2_7 := tnK_2_7 (by omega)); (try have q3_7 := tnK_3_7 (by omega)); (try have q0_8 := tnK_0_8 (by omega)); (try have q1_8 := tnK_1_8 (by omega)); (try have q2_8 := tnK_2_8 (by omega)); (try have q3_8 := tnK_3_8 (by omega)); (try have q0_9 := tnK_0_9 (by omega)); (try have q1_9 := tnK_1_9 (by omega)); (try have q2_9 := tnK_2_9 (by omega)); (try have q3_9 := tnK_3_9 (by omega)); (try have q0_10 := tnK_0_10 (by omega)); (try have q1_10 := tnK_1_10 (by omega)); (try have q2_10 := tnK_2_10 (by omega)); (try have q3_10 := tnK_3_10 (by omega)); (try have q0_11 := tnK_0_11 (by omega)); (try have q1_11 := tnK_1_11 (by omega)); (try have q2_11 := tnK_2_11 (by omega)); (try have q3_11 := tnK_3_11 (by omega)); (try have q0_12 := tnK_0_12 (by omega)); (try have q1_12 := tnK_1_12 (by omega)); (try have q2_12 := tnK_2_12 (by omega)); (try have q3_12 := tnK_3_12 (by omega)); (try have q0_13 := tnK_0_13 (by omega)); (try have q1_13 := tnK_1_13 (by omega)); (try have q2_13 := tnK_2_13 (by omega)); (try have q3_13 := tnK_3_13 (by omega)); omega)) gX8_takesNumbers_X8_takesNumber rfl ⟨rfl, rfl⟩ hd_X8_takesNumber ⟨(Nat.le_of_ble_eq_true rfl), (Nat.le_of_ble_eq_true rfl)⟩ rfl rfl rfl [0, 1, 2] [] rfl rfl rfl rfl rfl rfl rfl rfl (by decide) rfl rfl hl.1 (Nat.le_of_ble_eq_true rfl) ⟨Nat.zero_le _, Nat.zero_le _⟩ dX8_takesNumbers_24 (fun H locs Y => ?_)
          refine lv_if_eq (tgt := 39) hx hb dX8_takesNumbers_27 (by decide) (fun c_8 => ?_) (fun c_8 => ?_)
          · have c_8 := bB_f c_8
            rw [if_neg c_8] at hu
            refine lv_iconst (v := 0) hx hb dX8_takesNumbers_39 (by decide) ?_
            have h9 := (Prod.mk.inj hu).1; replace hu := (Prod.mk.inj hu).2; subst h9
            have h9 := (Prod.mk.inj hu).1; replace hu := (Prod.mk.inj hu).2; subst h9
            subst hu
            exact bEndZ X Y hr hlk dX8_takesNumbers_40 rfl rfl rfl
          · have c_8 := bB_t c_8
            rw [if_pos c_8] at hu
            refine lv_aload_n hx hb dX8_takesNumbers_30 rfl (lv_at hl 2 rfl) ?_
            refine lv_iload_n hx hb dX8_takesNumbers_31 rfl (lv_at hl 0 rfl) ?_
            refine lv_iload_n hx hb dX8_takesNumbers_32 rfl (lv_at hl 0 rfl) ?_
            refine bVI0 (As := [.int 44, .int 44]) (rest := []) (wc := [(mM, .inr (8, [.ref mN, .ref mR, .ref mA, .ref mP, .int ch, .ref mT, .int le, .int (nI u_7_1), .ref mD])), (mT, .inl (cyI, 200, .inl tx))]) (ci := 8) (q0 := 0) X Y (c_isAt8 l D cyC cyI mM mN mR mA mP mT mD ch le u_7_1 tx 44 44 (s_isAt8 le u_7_1 tx 44 44) rfl (by first | assumption | omega | decide) (by (try have q0_1 := tnK_0_1 (by omega)); (try have q1_1 := tnK_1_1 (by omega)); (try have q2_1 := tnK_2_1 (by omega)); (try have q3_1 := tnK_3_1 (by omega)); (try have q0_2 := tnK_0_2 (by omega)); (try have q1_2 := tnK_1_2 (by omega)); (try have q2_2 := tnK_2_2 (by omega)); (try have q3_2 := tnK_3_2 (by omega)); (try have q0_3 := tnK_0_3 (by omega)); (try have q1_3 := tnK_1_3 (by omega)); (try have q2_3 := tnK_2_3 (by omega)); (try have q3_3 := tnK_3_3 (by omega)); (try have q0_4 := tnK_0_4 (by omega)); (try have q1_4 := tnK_1_4 (by omega)); (try have q2_4 := tnK_2_4 (by omega)); (try have q3_4 := tnK_3_4 (by omega)); (try have q0_5 := tnK_0_5 (by omega)); (try have q1_5 := tnK_1_5 (by omega)); (try have q2_5 := tnK_2_5 (by omega)); (try have q3_5 := tnK_3_5 (by omega)); (try have q0_6 := tnK_0_6 (by omega)); (try have q1_6 := tnK_1_6 (by omega)); (try have q2_6 := tnK_2_6 (by omega)); (try have q3_6 := tnK_3_6 (by omega)); (try have q0_7 := tnK_0_7 (by omega)); (try have q1_7 := tnK_1_7 (by omega)); (try have q2_7 := tnK_2_7 (by omega)); (try have q3_7 := tnK_3_7 (by omega)); (try have q0_8 := tnK_0_8 (by omega)); (try have q1_8 := tnK_1_8 (by omega)); (try have q2_8 := tnK_2_8 (by omega)); (try have q3_8 := tnK_3_8 (by omega)); (try have q0_9 := tnK_0_9 (by omega)); (try have q1_9 := tnK_1_9 (by omega)); (try have q2_9 := tnK_2_9 (by omega)); (try have q3_9 := tnK_3_9 (by omega)); (try have q0_10 := tnK_0_10 (by omega)); (try have q1_10 := tnK_1_10 (by omega)); (try have q2_10 := tnK_2_10 (by omega)); (try have q3_10 := tnK_3_10 (by omega)); (try have q0_11 := tnK_0_11 (by omega)); (try have q1_11 := tnK_1_11 (by omega)); (try have q2_11 := tnK_2_11 (by omega)); (try have q3_11 := tnK_3_11 (by omega)); (try have q0_12 := tnK_0_12 (by omega)); (try have q1_12 := tnK_1_12 (by omega)); (try have q2_12 := tnK_2_12 (by omega)); (try have q3_12 := tnK_3_12 (by omega)); (try have q0_13 := tnK_0_13 (by omega)); (try have q1_13 := tnK_1_13 (by omega)); (try have q2_13 := tnK_2_13 (by omega)); (try have q3_13 := tnK_3_13 (by omega)); omega)) gX8_takesNumbers_X8_isAt rfl ⟨rfl, rfl⟩ hd_X8_isAt ⟨(Nat.le_of_ble_eq_true rfl), (Nat.le_of_ble_eq_true rfl)⟩ rfl rfl rfl [0, 1] rfl rfl rfl rfl hl.1 (Nat.le_of_ble_eq_true rfl) ⟨Nat.zero_le _, Nat.zero_le _⟩ dX8_takesNumbers_33 (fun H locs Y => ?_)
            refine lv_if_ne (tgt := 41) hx hb dX8_takesNumbers_36 (by decide) (fun c_9 => ?_) (fun c_9 => ?_)
            · have c_9 := bB_t c_9
              rw [if_pos c_9] at hu
              refine lv_aload_n hx hb dX8_takesNumbers_41 rfl (lv_at hl 2 rfl) ?_
              refine lv_dup hx hb dX8_takesNumbers_42 rfl ?_
              refine bGet (v := .int (nI u_7_1)) (T := TX8) (N := 9) (ci := 8) X Y i_X8_takesNumbers_X8 0 rfl rfl 7 (Nat.le_of_ble_eq_true rfl) f_X8_takesNumbers_42 rfl rfl dX8_takesNumbers_43 ?_
              refine lv_iconst (v := 1) hx hb dX8_takesNumbers_46 (by decide) ?_
              refine bAdd (v := nI (u_7_1 + 1)) X dX8_takesNumbers_47 (nI_sum (a := u_7_1) (b := 1) rfl rfl (by omega)) ?_
              refine bPut (T := TX8) (N := 9) (ci := 8) (ws' := [(mM, .inr (8, [.ref mN, .ref mR, .ref mA, .ref mP, .int ch, .ref mT, .int le, .int (nI (u_7_1 + 1)), .ref mD])), (mT, .inl (cyI, 200, .inl tx)), (mD, .inl (cyI, 4, .inl u_7_2))]) X Y i_X8_takesNumbers_X8 tyX8 tyX8_ok nmX8 0 rfl rfl 7 (Nat.le_of_ble_eq_true rfl) f_X8_takesNumbers_42 rfl rfl rfl rfl (Nat.le_of_ble_eq_true rfl) rfl dX8_takesNumbers_48 (fun H locs Y => ?_)
              refine lv_iinc (v := 3) (lv' := [(2, .int 3), (3, .int 44), (0, .ref mM), (1, .int 4)]) hx hb dX8_takesNumbers_51 hl (k := 1) rfl (by decide) (by decide) rfl (fun ls hl => ?_)
              refine lv_goto (tgt := 2) hx hb dX8_takesNumbers_54 (by decide) ?_
              refine lv_iload_n hx hb dX8_takesNumbers_2 rfl (lv_at hl 0 rfl) ?_
              refine lv_iload_n hx hb dX8_takesNumbers_3 rfl (lv_at hl 3 rfl) ?_
              refine lv_icmp_ge (tgt := 57) hx hb dX8_takesNumbers_4 (by decide) (fun c_ => absurd c_ (by decide)) (fun _ => ?_)
              refine lv_iload_n hx hb dX8_takesNumbers_7 rfl (lv_at hl 0 rfl) ?_
              refine lv_iload_n hx hb dX8_takesNumbers_8 rfl (lv_at hl 3 rfl) ?_
              refine lv_iconst (v := 1) hx hb dX8_takesNumbers_9 (by decide) ?_
              refine bSub (v := 3) X dX8_takesNumbers_10 (by decide) ?_
              refine lv_icmp_ne (tgt := 19) hx hb dX8_takesNumbers_11 (by decide) (fun c_ => absurd (by decide) c_) (fun _ => ?_)
              refine lv_bipush (v := 59) hx hb dX8_takesNumbers_14 (by decide) ?_
              refine lv_goto (tgt := 21) hx hb dX8_takesNumbers_16 (by decide) ?_
              refine lv_istore_n (lv' := [(3, .int 59), (2, .int 3), (0, .ref mM), (1, .int 4)]) hx hb dX8_takesNumbers_21 rfl hl (by decide) rfl (fun ls hl => ?_)
              refine lv_aload_n hx hb dX8_takesNumbers_22 rfl (lv_at hl 2 rfl) ?_
              refine lv_iload_n hx hb dX8_takesNumbers_23 rfl (lv_at hl 1 rfl) ?_
              obtain ⟨u_10_0, u_10_1, u_10_2, hr_10⟩ := bEx3 (s_takesNumber8_3 le (u_7_1 + 1) tx u_7_2)
              rw [hr_10] at hu
              dsimp only at hu
              have tnK_3_10 := tnK_3 hr_10
              refine bVI (As := [.int 3]) (rest := []) (wc := [(mM, .inr (8, [.ref mN, .ref mR, .ref mA, .ref mP, .int ch, .ref mT, .int le, .int (nI (u_7_1 + 1)), .ref mD])), (mT, .inl (cyI, 200, .inl tx)), (mD, .inl (cyI, 4, .inl u_7_2))]) (w1 := [(mM, .inr (8, [.ref mN, .ref mR, .ref mA, .ref mP, .int ch, .ref mT, .int le, .int (nI u_10_1), .ref mD])), (mT, .inl (cyI, 200, .inl tx)), (mD, .inl (cyI, 4, .inl u_10_2))]) (ws' := [(mM, .inr (8, [.ref mN, .ref mR, .ref mA, .ref mP, .int ch, .ref mT, .int le, .int (nI u_10_1), .ref mD])), (mT, .inl (cyI, 200, .inl tx)), (mD, .inl (cyI, 4, .inl u_10_2))]) (ad := [mM, mT, mD]) (wr := []) (nn := 3) (ci := 8) (q0 := 0) X Y (c_takesNumber8_3 l D cyC cyI mM mN mR mA mP mT mD ch le (u_7_1 + 1) tx u_7_2 u_10_0 u_10_1 u_10_2 hr_10 (by first | assumption | omega | decide) (by (try have q0_1 := tnK_0_1 (by omega)); (try have q1_1 := tnK_1_1 (by omega)); (try have q2_1 := tnK_2_1 (by omega)); (try have q3_1 := tnK_3_1 (by omega)); (try have q0_2 := tnK_0_2 (by omega)); (try have q1_2 := tnK_1_2 (by omega)); (try have q2_2 := tnK_2_2 (by omega)); (try have q3_2 := tnK_3_2 (by omega)); (try have q0_3 := tnK_0_3 (by omega)); (try have q1_3 := tnK_1_3 (by omega)); (try have q2_3 := tnK_2_3 (by omega)); (try have q3_3 := tnK_3_3 (by omega)); (try have q0_4 := tnK_0_4 (by omega)); (try have q1_4 := tnK_1_4 (by omega)); (try have q2_4 := tnK_2_4 (by omega)); (try have q3_4 := tnK_3_4 (by omega)); (try have q0_5 := tnK_0_5 (by omega)); (try have q1_5 := tnK_1_5 (by omega)); (try have q2_5 := tnK_2_5 (by omega)); (try have q3_5 := tnK_3_5 (by omega)); (try have q0_6 := tnK_0_6 (by omega)); (try have q1_6 := tnK_1_6 (by omega)); (try have q2_6 := tnK_2_6 (by omega)); (try have q3_6 := tnK_3_6 (by omega)); (try have q0_7 := tnK_0_7 (by omega)); (try have q1_7 := tnK_1_7 (by omega)); (try have q2_7 := tnK_2_7 (by omega)); (try have q3_7 := tnK_3_7 (by omega)); (try have q0_8 := tnK_0_8 (by omega)); (try have q1_8 := tnK_1_8 (by omega)); (try have q2_8 := tnK_2_8 (by omega)); (try have q3_8 := tnK_3_8 (by omega)); (try have q0_9 := tnK_0_9 (by omega)); (try have q1_9 := tnK_1_9 (by omega)); (try have q2_9 := tnK_2_9 (by omega)); (try have q3_9 := tnK_3_9 (by omega)); (try have q0_10 := tnK_0_10 (by omega)); (try have q1_10 := tnK_1_10 (by omega)); (try have q2_10 := tnK_2_10 (by omega)); (try have q3_10 := tnK_3_10 (by omega)); (try have q0_11 := tnK_0_11 (by omega)); (try have q1_11 := tnK_1_11 (by omega)); (try have q2_11 := tnK_2_11 (by omega)); (try have q3_11 := tnK_3_11 (by omega)); (try have q0_12 := tnK_0_12 (by omega)); (try have q1_12 := tnK_1_12 (by omega)); (try have q2_12 := tnK_2_12 (by omega)); (try have q3_12 := tnK_3_12 (by omega)); (try have q0_13 := tnK_0_13 (by omega)); (try have q1_13 := tnK_1_13 (by omega)); (try have q2_13 := tnK_2_13 (by omega)); (try have q3_13 := tnK_3_13 (by omega)); omega)) gX8_takesNumbers_X8_takesNumber rfl ⟨rfl, rfl⟩ hd_X8_takesNumber ⟨(Nat.le_of_ble_eq_true rfl), (Nat.le_of_ble_eq_true rfl)⟩ rfl rfl rfl [0, 1, 2] [] rfl rfl rfl rfl rfl rfl rfl rfl (by decide) rfl rfl hl.1 (Nat.le_of_ble_eq_true rfl) ⟨Nat.zero_le _, Nat.zero_le _⟩ dX8_takesNumbers_24 (fun H locs Y => ?_)
              refine lv_if_eq (tgt := 39) hx hb dX8_takesNumbers_27 (by decide) (fun c_11 => ?_) (fun c_11 => ?_)
              · have c_11 := bB_f c_11
                rw [if_neg c_11] at hu
                refine lv_iconst (v := 0) hx hb dX8_takesNumbers_39 (by decide) ?_
                have h9 := (Prod.mk.inj hu).1; replace hu := (Prod.mk.inj hu).2; subst h9
                have h9 := (Prod.mk.inj hu).1; replace hu := (Prod.mk.inj hu).2; subst h9
                subst hu
                exact bEndZ X Y hr hlk dX8_takesNumbers_40 rfl rfl rfl
              · have c_11 := bB_t c_11
                rw [if_pos c_11] at hu
                refine lv_aload_n hx hb dX8_takesNumbers_30 rfl (lv_at hl 2 rfl) ?_
                refine lv_iload_n hx hb dX8_takesNumbers_31 rfl (lv_at hl 0 rfl) ?_
                refine lv_iload_n hx hb dX8_takesNumbers_32 rfl (lv_at hl 0 rfl) ?_
                refine bVI0 (As := [.int 59, .int 59]) (rest := []) (wc := [(mM, .inr (8, [.ref mN, .ref mR, .ref mA, .ref mP, .int ch, .ref mT, .int le, .int (nI u_10_1), .ref mD])), (mT, .inl (cyI, 200, .inl tx))]) (ci := 8) (q0 := 0) X Y (c_isAt8 l D cyC cyI mM mN mR mA mP mT mD ch le u_10_1 tx 59 59 (s_isAt8 le u_10_1 tx 59 59) rfl (by first | assumption | omega | decide) (by (try have q0_1 := tnK_0_1 (by omega)); (try have q1_1 := tnK_1_1 (by omega)); (try have q2_1 := tnK_2_1 (by omega)); (try have q3_1 := tnK_3_1 (by omega)); (try have q0_2 := tnK_0_2 (by omega)); (try have q1_2 := tnK_1_2 (by omega)); (try have q2_2 := tnK_2_2 (by omega)); (try have q3_2 := tnK_3_2 (by omega)); (try have q0_3 := tnK_0_3 (by omega)); (try have q1_3 := tnK_1_3 (by omega)); (try have q2_3 := tnK_2_3 (by omega)); (try have q3_3 := tnK_3_3 (by omega)); (try have q0_4 := tnK_0_4 (by omega)); (try have q1_4 := tnK_1_4 (by omega)); (try have q2_4 := tnK_2_4 (by omega)); (try have q3_4 := tnK_3_4 (by omega)); (try have q0_5 := tnK_0_5 (by omega)); (try have q1_5 := tnK_1_5 (by omega)); (try have q2_5 := tnK_2_5 (by omega)); (try have q3_5 := tnK_3_5 (by omega)); (try have q0_6 := tnK_0_6 (by omega)); (try have q1_6 := tnK_1_6 (by omega)); (try have q2_6 := tnK_2_6 (by omega)); (try have q3_6 := tnK_3_6 (by omega)); (try have q0_7 := tnK_0_7 (by omega)); (try have q1_7 := tnK_1_7 (by omega)); (try have q2_7 := tnK_2_7 (by omega)); (try have q3_7 := tnK_3_7 (by omega)); (try have q0_8 := tnK_0_8 (by omega)); (try have q1_8 := tnK_1_8 (by omega)); (try have q2_8 := tnK_2_8 (by omega)); (try have q3_8 := tnK_3_8 (by omega)); (try have q0_9 := tnK_0_9 (by omega)); (try have q1_9 := tnK_1_9 (by omega)); (try have q2_9 := tnK_2_9 (by omega)); (try have q3_9 := tnK_3_9 (by omega)); (try have q0_10 := tnK_0_10 (by omega)); (try have q1_10 := tnK_1_10 (by omega)); (try have q2_10 := tnK_2_10 (by omega)); (try have q3_10 := tnK_3_10 (by omega)); (try have q0_11 := tnK_0_11 (by omega)); (try have q1_11 := tnK_1_11 (by omega)); (try have q2_11 := tnK_2_11 (by omega)); (try have q3_11 := tnK_3_11 (by omega)); (try have q0_12 := tnK_0_12 (by omega)); (try have q1_12 := tnK_1_12 (by omega)); (try have q2_12 := tnK_2_12 (by omega)); (try have q3_12 := tnK_3_12 (by omega)); (try have q0_13 := tnK_0_13 (by omega)); (try have q1_13 := tnK_1_13 (by omega)); (try have q2_13 := tnK_2_13 (by omega)); (try have q3_13 := tnK_3_13 (by omega)); omega)) gX8_takesNumbers_X8_isAt rfl ⟨rfl, rfl⟩ hd_X8_isAt ⟨(Nat.le_of_ble_eq_true rfl), (Nat.le_of_ble_eq_true rfl)⟩ rfl rfl rfl [0, 1] rfl rfl rfl rfl hl.1 (Nat.le_of_ble_eq_true rfl) ⟨Nat.zero_le _, Nat.zero_le _⟩ dX8_takesNumbers_33 (fun H locs Y => ?_)
                refine lv_if_ne (tgt := 41) hx hb dX8_takesNumbers_36 (by decide) (fun c_12 => ?_) (fun c_12 => ?_)
                · have c_12 := bB_t c_12
                  rw [if_pos c_12] at hu
                  refine lv_aload_n hx hb dX8_takesNumbers_41 rfl (lv_at hl 2 rfl) ?_
                  refine lv_dup hx hb dX8_takesNumbers_42 rfl ?_
                  refine bGet (v := .int (nI u_10_1)) (T := TX8) (N := 9) (ci := 8) X Y i_X8_takesNumbers_X8 0 rfl rfl 7 (Nat.le_of_ble_eq_true rfl) f_X8_takesNumbers_42 rfl rfl dX8_takesNumbers_43 ?_
                  refine lv_iconst (v := 1) hx hb dX8_takesNumbers_46 (by decide) ?_
                  refine bAdd (v := nI (u_10_1 + 1)) X dX8_takesNumbers_47 (nI_sum (a := u_10_1) (b := 1) rfl rfl (by omega)) ?_
                  refine bPut (T := TX8) (N := 9) (ci := 8) (ws' := [(mM, .inr (8, [.ref mN, .ref mR, .ref mA, .ref mP, .int ch, .ref mT, .int le, .int (nI (u_10_1 + 1)), .ref mD])), (mT, .inl (cyI, 200, .inl tx)), (mD, .inl (cyI, 4, .inl u_10_2))]) X Y i_X8_takesNumbers_X8 tyX8 tyX8_ok nmX8 0 rfl rfl 7 (Nat.le_of_ble_eq_true rfl) f_X8_takesNumbers_42 rfl rfl rfl rfl (Nat.le_of_ble_eq_true rfl) rfl dX8_takesNumbers_48 (fun H locs Y => ?_)
                  refine lv_iinc (v := 4) (lv' := [(2, .int 4), (3, .int 59), (0, .ref mM), (1, .int 4)]) hx hb dX8_takesNumbers_51 hl (k := 1) rfl (by decide) (by decide) rfl (fun ls hl => ?_)
                  refine lv_goto (tgt := 2) hx hb dX8_takesNumbers_54 (by decide) ?_
                  refine lv_iload_n hx hb dX8_takesNumbers_2 rfl (lv_at hl 0 rfl) ?_
                  refine lv_iload_n hx hb dX8_takesNumbers_3 rfl (lv_at hl 3 rfl) ?_
                  refine lv_icmp_ge (tgt := 57) hx hb dX8_takesNumbers_4 (by decide) (fun _ => ?_) (fun c_ => absurd (by decide) c_)
                  refine lv_iconst (v := 1) hx hb dX8_takesNumbers_57 (by decide) ?_
                  have h9 := (Prod.mk.inj hu).1; replace hu := (Prod.mk.inj hu).2; subst h9
                  have h9 := (Prod.mk.inj hu).1; replace hu := (Prod.mk.inj hu).2; subst h9
                  subst hu
                  exact bEndZ X Y hr hlk dX8_takesNumbers_58 rfl rfl rfl
                · have c_12 := bB_f c_12
                  rw [if_neg c_12] at hu
                  refine lv_iconst (v := 0) hx hb dX8_takesNumbers_39 (by decide) ?_
                  have h9 := (Prod.mk.inj hu).1; replace hu := (Prod.mk.inj hu).2; subst h9
                  have h9 := (Prod.mk.inj hu).1; replace hu := (Prod.mk.inj hu).2; subst h9
                  subst hu
                  exact bEndZ X Y hr hlk dX8_takesNumbers_40 rfl rfl rfl
            · have c_9 := bB_f c_9
              rw [if_neg c_9] at hu
              refine lv_iconst (v := 0) hx hb dX8_takesNumbers_39 (by decide) ?_
              have h9 := (Prod.mk.inj hu).1; replace hu := (Prod.mk.inj hu).2; subst h9
              have h9 := (Prod.mk.inj hu).1; replace hu := (Prod.mk.inj hu).2; subst h9
              subst hu
              exact bEndZ X Y hr hlk dX8_takesNumbers_40 rfl rfl rfl
        · have c_6 := bB_f c_6
          rw [if_neg c_6] at hu
          refine lv_iconst (v := 0) hx hb dX8_takesNumbers_39 (by decide) ?_
          have h9 := (Prod.mk.inj hu).1; replace hu := (Prod.mk.inj hu).2; subst h9
          have h9 := (Prod.mk.inj hu).1; replace hu := (Prod.mk.inj hu).2; subst h9
          subst hu
          exact bEndZ X Y hr hlk dX8_takesNumbers_40 rfl rfl rfl
    · have c_3 := bB_f c_3
      rw [if_neg c_3] at hu
      refine lv_iconst (v := 0) hx hb dX8_takesNumbers_39 (by decide) ?_
      have h9 := (Prod.mk.inj hu).1; replace hu := (Prod.mk.inj hu).2; subst h9
      have h9 := (Prod.mk.inj hu).1; replace hu := (Prod.mk.inj hu).2; subst h9
      subst hu
      exact bEndZ X Y hr hlk dX8_takesNumbers_40 rfl rfl rfl
theorem dig {t d : Int32} {m : Int} (h0 : 0 ≤ t.toInt) (h1 : t.toInt < m) (hm : m ≤ 100) (hd : s_in8 d 48 57 = true) : 0 ≤ (((10 * t) + d) - 48).toInt ∧ (((10 * t) + d) - 48).toInt < 10 * m := by
  have hd0 : 48 ≤ d.toInt ∧ d.toInt ≤ 57 := by
    unfold s_in8 at hd
    by_cases c1 : d < 48
    · rw [if_pos c1] at hd; cases hd
    · rw [if_neg c1] at hd
      by_cases c2 : 57 < d
      · rw [if_pos c2] at hd; cases hd
      · rw [Int32.lt_iff_toInt_lt, show (48 : Int32).toInt = 48 from by decide] at c1
        rw [Int32.lt_iff_toInt_lt, show (57 : Int32).toInt = 57 from by decide] at c2
        omega
  have e1 : (10 * t).toInt = 10 * t.toInt := by
    rw [Int32.toInt_mul, show (10 : Int32).toInt = 10 from by decide]
    have hy : 0 ≤ 10 * t.toInt ∧ 10 * t.toInt ≤ 1000 := by omega
    generalize 10 * t.toInt = y at *
    rw [Int.bmod_def]; omega
  have e2 : ((10 * t) + d).toInt = 10 * t.toInt + d.toInt := by
    rw [Int32.toInt_add, e1]
    have hy : 0 ≤ 10 * t.toInt + d.toInt ∧ 10 * t.toInt + d.toInt ≤ 2000 := by omega
    generalize 10 * t.toInt + d.toInt = y at *
    rw [Int.bmod_def]; omega
  have e3 : (((10 * t) + d) - 48).toInt = 10 * t.toInt + d.toInt - 48 := by
    rw [Int32.toInt_sub, e2, show (48 : Int32).toInt = 48 from by decide]
    have hy : 0 ≤ 10 * t.toInt + d.toInt - 48 ∧ 10 * t.toInt + d.toInt - 48 ≤ 2000 := by omega
    generalize 10 * t.toInt + d.toInt - 48 = y at *
    rw [Int.bmod_def]; omega
  omega
theorem isAt8_in {le lo hi : Int32} {sa : Nat} {tx : Nat → Int32} (h : s_isAt8 le sa tx lo hi = true) : s_in8 (tx sa) lo hi = true := by
  unfold s_isAt8 at h
  split at h
  · cases h
  · split at h
    · assumption
    · cases h
theorem gtD_0 {le : Int32} {sa : Nat} {tx : Nat → Int32} : ∀ (n si : Nat) (tg : Nat → Int32) (b : Bool) (td : Nat → Int32) (s2 : Nat), sa + 4 ≤ si + n → sa ≤ si → si ≤ sa + 3 → sa ≤ 1000 → 0 ≤ (tg 0).toInt → (tg 0).toInt < (if si = sa then 1 else if si = sa + 1 then 10 else if si = sa + 2 then 100 else 1000) → g_takesNumber8_0 le sa tx n si tg = (b, s2, td) → (0 ≤ (td 0).toInt ∧ (td 0).toInt < 1000) ∧ ∀ i, i ≠ 0 → td i = tg i := by
  intro n
  induction n with
  | zero => intro si tg b td s2 h0 h1 h2 h3 h4 h5 h; omega
  | succ n ih =>
    intro si tg b td s2 h0 h1 h2 h3 h4 h5 h
    have h6 : (tg 0).toInt < 1000 := by repeat' split at h5 <;> omega
    rw [g_takesNumber8_0] at h
    by_cases c1 : nI (sa + 3) ≤ nI si
    · rw [if_pos c1] at h
      split at h <;> (simp only [Prod.mk.injEq] at h; obtain ⟨-, -, rfl⟩ := h; exact ⟨⟨h4, h6⟩, fun _ _ => rfl⟩)
    · rw [if_neg c1] at h
      have c2 := (bLtN (by omega) (by omega)).mp (bLtN2 c1)
      by_cases c3 : s_isAt8 le si tx 48 57 = true
      · rw [if_pos c3] at h
        have hd := isAt8_in c3
        have hk : (upd tg 0 (((10 * (tg 0)) + (tx si)) - 48)) 0 = ((10 * (tg 0)) + (tx si)) - 48 := upd_eq
        have hq : 0 ≤ (((10 * (tg 0)) + (tx si)) - 48).toInt ∧ (((10 * (tg 0)) + (tx si)) - 48).toInt < (if si + 1 = sa then 1 else if si + 1 = sa + 1 then 10 else if si + 1 = sa + 2 then 100 else 1000) := by
          rcases (show si = sa ∨ si = sa + 1 ∨ si = sa + 2 by omega) with e | e | e
          · subst e; have := dig h4 (m := 1) (by simpa using h5) (by omega) hd; refine ⟨this.1, ?_⟩; rw [if_neg (by omega), if_pos (by omega)]; omega
          · subst e; have := dig h4 (m := 10) (by simpa using h5) (by omega) hd; refine ⟨this.1, ?_⟩; rw [if_neg (by omega), if_neg (by omega), if_pos (by omega)]; omega
          · subst e; have := dig h4 (m := 100) (by simpa using h5) (by omega) hd; refine ⟨this.1, ?_⟩; rw [if_neg (by omega), if_neg (by omega), if_neg (by omega)]; omega
        obtain ⟨a1, a2⟩ := ih (si + 1) _ b td s2 (by omega) (by omega) (by omega) h3 (by rw [hk]; exact hq.1) (by rw [hk]; exact hq.2) h
        exact ⟨a1, fun i hi => by rw [a2 i hi, upd_ne hi]⟩
      · rw [if_neg c3] at h
        split at h <;> (simp only [Prod.mk.injEq] at h; obtain ⟨-, -, rfl⟩ := h; exact ⟨⟨h4, h6⟩, fun _ _ => rfl⟩)
theorem tnD_0 {le : Int32} {sa : Nat} {tx td td2 : Nat → Int32} {b : Bool} {s2 : Nat} (h : s_takesNumber8_0 le sa tx td = (b, s2, td2)) (h3 : sa ≤ 1000) : (0 ≤ (td2 0).toInt ∧ (td2 0).toInt < 1000) ∧ ∀ i, i ≠ 0 → td2 i = td i := by
  obtain ⟨a1, a2⟩ := gtD_0 4 sa _ b td2 s2 (by omega) (by omega) (by omega) h3 (by rw [upd_eq]; decide) (by rw [upd_eq, if_pos rfl]; decide) h
  exact ⟨a1, fun i hi => by rw [a2 i hi, upd_ne hi]⟩
theorem gtD_1 {le : Int32} {sa : Nat} {tx : Nat → Int32} : ∀ (n si : Nat) (tg : Nat → Int32) (b : Bool) (td : Nat → Int32) (s2 : Nat), sa + 4 ≤ si + n → sa ≤ si → si ≤ sa + 3 → sa ≤ 1000 → 0 ≤ (tg 1).toInt → (tg 1).toInt < (if si = sa then 1 else if si = sa + 1 then 10 else if si = sa + 2 then 100 else 1000) → g_takesNumber8_1 le sa tx n si tg = (b, s2, td) → (0 ≤ (td 1).toInt ∧ (td 1).toInt < 1000) ∧ ∀ i, i ≠ 1 → td i = tg i := by
  intro n
  induction n with
  | zero => intro si tg b td s2 h0 h1 h2 h3 h4 h5 h; omega
  | succ n ih =>
    intro si tg b td s2 h0 h1 h2 h3 h4 h5 h
    have h6 : (tg 1).toInt < 1000 := by repeat' split at h5 <;> omega
    rw [g_takesNumber8_1] at h
    by_cases c1 : nI (sa + 3) ≤ nI si
    · rw [if_pos c1] at h
      split at h <;> (simp only [Prod.mk.injEq] at h; obtain ⟨-, -, rfl⟩ := h; exact ⟨⟨h4, h6⟩, fun _ _ => rfl⟩)
    · rw [if_neg c1] at h
      have c2 := (bLtN (by omega) (by omega)).mp (bLtN2 c1)
      by_cases c3 : s_isAt8 le si tx 48 57 = true
      · rw [if_pos c3] at h
        have hd := isAt8_in c3
        have hk : (upd tg 1 (((10 * (tg 1)) + (tx si)) - 48)) 1 = ((10 * (tg 1)) + (tx si)) - 48 := upd_eq
        have hq : 0 ≤ (((10 * (tg 1)) + (tx si)) - 48).toInt ∧ (((10 * (tg 1)) + (tx si)) - 48).toInt < (if si + 1 = sa then 1 else if si + 1 = sa + 1 then 10 else if si + 1 = sa + 2 then 100 else 1000) := by
          rcases (show si = sa ∨ si = sa + 1 ∨ si = sa + 2 by omega) with e | e | e
          · subst e; have := dig h4 (m := 1) (by simpa using h5) (by omega) hd; refine ⟨this.1, ?_⟩; rw [if_neg (by omega), if_pos (by omega)]; omega
          · subst e; have := dig h4 (m := 10) (by simpa using h5) (by omega) hd; refine ⟨this.1, ?_⟩; rw [if_neg (by omega), if_neg (by omega), if_pos (by omega)]; omega
          · subst e; have := dig h4 (m := 100) (by simpa using h5) (by omega) hd; refine ⟨this.1, ?_⟩; rw [if_neg (by omega), if_neg (by omega), if_neg (by omega)]; omega
        obtain ⟨a1, a2⟩ := ih (si + 1) _ b td s2 (by omega) (by omega) (by omega) h3 (by rw [hk]; exact hq.1) (by rw [hk]; exact hq.2) h
        exact ⟨a1, fun i hi => by rw [a2 i hi, upd_ne hi]⟩
      · rw [if_neg c3] at h
        split at h <;> (simp only [Prod.mk.injEq] at h; obtain ⟨-, -, rfl⟩ := h; exact ⟨⟨h4, h6⟩, fun _ _ => rfl⟩)
theorem tnD_1 {le : Int32} {sa : Nat} {tx td td2 : Nat → Int32} {b : Bool} {s2 : Nat} (h : s_takesNumber8_1 le sa tx td = (b, s2, td2)) (h3 : sa ≤ 1000) : (0 ≤ (td2 1).toInt ∧ (td2 1).toInt < 1000) ∧ ∀ i, i ≠ 1 → td2 i = td i := by
  obtain ⟨a1, a2⟩ := gtD_1 4 sa _ b td2 s2 (by omega) (by omega) (by omega) h3 (by rw [upd_eq]; decide) (by rw [upd_eq, if_pos rfl]; decide) h
  exact ⟨a1, fun i hi => by rw [a2 i hi, upd_ne hi]⟩
theorem gtD_2 {le : Int32} {sa : Nat} {tx : Nat → Int32} : ∀ (n si : Nat) (tg : Nat → Int32) (b : Bool) (td : Nat → Int32) (s2 : Nat), sa + 4 ≤ si + n → sa ≤ si → si ≤ sa + 3 → sa ≤ 1000 → 0 ≤ (tg 2).toInt → (tg 2).toInt < (if si = sa then 1 else if si = sa + 1 then 10 else if si = sa + 2 then 100 else 1000) → g_takesNumber8_2 le sa tx n si tg = (b, s2, td) → (0 ≤ (td 2).toInt ∧ (td 2).toInt < 1000) ∧ ∀ i, i ≠ 2 → td i = tg i := by
  intro n
  induction n with
  | zero => intro si tg b td s2 h0 h1 h2 h3 h4 h5 h; omega
  | succ n ih =>
    intro si tg b td s2 h0 h1 h2 h3 h4 h5 h
    have h6 : (tg 2).toInt < 1000 := by repeat' split at h5 <;> omega
    rw [g_takesNumber8_2] at h
    by_cases c1 : nI (sa + 3) ≤ nI si
    · rw [if_pos c1] at h
      split at h <;> (simp only [Prod.mk.injEq] at h; obtain ⟨-, -, rfl⟩ := h; exact ⟨⟨h4, h6⟩, fun _ _ => rfl⟩)
    · rw [if_neg c1] at h
      have c2 := (bLtN (by omega) (by omega)).mp (bLtN2 c1)
      by_cases c3 : s_isAt8 le si tx 48 57 = true
      · rw [if_pos c3] at h
        have hd := isAt8_in c3
        have hk : (upd tg 2 (((10 * (tg 2)) + (tx si)) - 48)) 2 = ((10 * (tg 2)) + (tx si)) - 48 := upd_eq
        have hq : 0 ≤ (((10 * (tg 2)) + (tx si)) - 48).toInt ∧ (((10 * (tg 2)) + (tx si)) - 48).toInt < (if si + 1 = sa then 1 else if si + 1 = sa + 1 then 10 else if si + 1 = sa + 2 then 100 else 1000) := by
          rcases (show si = sa ∨ si = sa + 1 ∨ si = sa + 2 by omega) with e | e | e
          · subst e; have := dig h4 (m := 1) (by simpa using h5) (by omega) hd; refine ⟨this.1, ?_⟩; rw [if_neg (by omega), if_pos (by omega)]; omega
          · subst e; have := dig h4 (m := 10) (by simpa using h5) (by omega) hd; refine ⟨this.1, ?_⟩; rw [if_neg (by omega), if_neg (by omega), if_pos (by omega)]; omega
          · subst e; have := dig h4 (m := 100) (by simpa using h5) (by omega) hd; refine ⟨this.1, ?_⟩; rw [if_neg (by omega), if_neg (by omega), if_neg (by omega)]; omega
        obtain ⟨a1, a2⟩ := ih (si + 1) _ b td s2 (by omega) (by omega) (by omega) h3 (by rw [hk]; exact hq.1) (by rw [hk]; exact hq.2) h
        exact ⟨a1, fun i hi => by rw [a2 i hi, upd_ne hi]⟩
      · rw [if_neg c3] at h
        split at h <;> (simp only [Prod.mk.injEq] at h; obtain ⟨-, -, rfl⟩ := h; exact ⟨⟨h4, h6⟩, fun _ _ => rfl⟩)
theorem tnD_2 {le : Int32} {sa : Nat} {tx td td2 : Nat → Int32} {b : Bool} {s2 : Nat} (h : s_takesNumber8_2 le sa tx td = (b, s2, td2)) (h3 : sa ≤ 1000) : (0 ≤ (td2 2).toInt ∧ (td2 2).toInt < 1000) ∧ ∀ i, i ≠ 2 → td2 i = td i := by
  obtain ⟨a1, a2⟩ := gtD_2 4 sa _ b td2 s2 (by omega) (by omega) (by omega) h3 (by rw [upd_eq]; decide) (by rw [upd_eq, if_pos rfl]; decide) h
  exact ⟨a1, fun i hi => by rw [a2 i hi, upd_ne hi]⟩
theorem gtD_3 {le : Int32} {sa : Nat} {tx : Nat → Int32} : ∀ (n si : Nat) (tg : Nat → Int32) (b : Bool) (td : Nat → Int32) (s2 : Nat), sa + 4 ≤ si + n → sa ≤ si → si ≤ sa + 3 → sa ≤ 1000 → 0 ≤ (tg 3).toInt → (tg 3).toInt < (if si = sa then 1 else if si = sa + 1 then 10 else if si = sa + 2 then 100 else 1000) → g_takesNumber8_3 le sa tx n si tg = (b, s2, td) → (0 ≤ (td 3).toInt ∧ (td 3).toInt < 1000) ∧ ∀ i, i ≠ 3 → td i = tg i := by
  intro n
  induction n with
  | zero => intro si tg b td s2 h0 h1 h2 h3 h4 h5 h; omega
  | succ n ih =>
    intro si tg b td s2 h0 h1 h2 h3 h4 h5 h
    have h6 : (tg 3).toInt < 1000 := by repeat' split at h5 <;> omega
    rw [g_takesNumber8_3] at h
    by_cases c1 : nI (sa + 3) ≤ nI si
    · rw [if_pos c1] at h
      split at h <;> (simp only [Prod.mk.injEq] at h; obtain ⟨-, -, rfl⟩ := h; exact ⟨⟨h4, h6⟩, fun _ _ => rfl⟩)
    · rw [if_neg c1] at h
      have c2 := (bLtN (by omega) (by omega)).mp (bLtN2 c1)
      by_cases c3 : s_isAt8 le si tx 48 57 = true
      · rw [if_pos c3] at h
        have hd := isAt8_in c3
        have hk : (upd tg 3 (((10 * (tg 3)) + (tx si)) - 48)) 3 = ((10 * (tg 3)) + (tx si)) - 48 := upd_eq
        have hq : 0 ≤ (((10 * (tg 3)) + (tx si)) - 48).toInt ∧ (((10 * (tg 3)) + (tx si)) - 48).toInt < (if si + 1 = sa then 1 else if si + 1 = sa + 1 then 10 else if si + 1 = sa + 2 then 100 else 1000) := by
          rcases (show si = sa ∨ si = sa + 1 ∨ si = sa + 2 by omega) with e | e | e
          · subst e; have := dig h4 (m := 1) (by simpa using h5) (by omega) hd; refine ⟨this.1, ?_⟩; rw [if_neg (by omega), if_pos (by omega)]; omega
          · subst e; have := dig h4 (m := 10) (by simpa using h5) (by omega) hd; refine ⟨this.1, ?_⟩; rw [if_neg (by omega), if_neg (by omega), if_pos (by omega)]; omega
          · subst e; have := dig h4 (m := 100) (by simpa using h5) (by omega) hd; refine ⟨this.1, ?_⟩; rw [if_neg (by omega), if_neg (by omega), if_neg (by omega)]; omega
        obtain ⟨a1, a2⟩ := ih (si + 1) _ b td s2 (by omega) (by omega) (by omega) h3 (by rw [hk]; exact hq.1) (by rw [hk]; exact hq.2) h
        exact ⟨a1, fun i hi => by rw [a2 i hi, upd_ne hi]⟩
      · rw [if_neg c3] at h
        split at h <;> (simp only [Prod.mk.injEq] at h; obtain ⟨-, -, rfl⟩ := h; exact ⟨⟨h4, h6⟩, fun _ _ => rfl⟩)
theorem tnD_3 {le : Int32} {sa : Nat} {tx td td2 : Nat → Int32} {b : Bool} {s2 : Nat} (h : s_takesNumber8_3 le sa tx td = (b, s2, td2)) (h3 : sa ≤ 1000) : (0 ≤ (td2 3).toInt ∧ (td2 3).toInt < 1000) ∧ ∀ i, i ≠ 3 → td2 i = td i := by
  obtain ⟨a1, a2⟩ := gtD_3 4 sa _ b td2 s2 (by omega) (by omega) (by omega) h3 (by rw [upd_eq]; decide) (by rw [upd_eq, if_pos rfl]; decide) h
  exact ⟨a1, fun i hi => by rw [a2 i hi, upd_ne hi]⟩
theorem tsK_1 {le : Int32} {sa : Nat} {tx td td2 : Nat → Int32} {b : Bool} {s2 : Nat} (h : s_takesNumbers8_1 le sa tx td = (b, s2, td2)) (h3 : sa ≤ 500) : sa ≤ s2 ∧ s2 ≤ sa + 4 := by
  unfold s_takesNumbers8_1 at h
  obtain ⟨u_1_0, u_1_1, u_1_2, hr_1⟩ := bEx3 (s_takesNumber8_0 le sa tx td)
  rw [hr_1] at h
  dsimp only at h
  have q0 := tnK_0 hr_1 (by omega)
  by_cases k_1 : u_1_0 = true
  · rw [if_pos k_1] at h
    by_cases k_2 : (s_isAt8 le u_1_1 tx 59 59) = true
    · rw [if_pos k_2] at h
      simp only [Prod.mk.injEq] at h
      obtain ⟨-, rfl, -⟩ := h
      omega
    · rw [if_neg k_2] at h
      simp only [Prod.mk.injEq] at h
      obtain ⟨-, rfl, -⟩ := h
      omega
  · rw [if_neg k_1] at h
    simp only [Prod.mk.injEq] at h
    obtain ⟨-, rfl, -⟩ := h
    omega
theorem tsK_3 {le : Int32} {sa : Nat} {tx td td2 : Nat → Int32} {b : Bool} {s2 : Nat} (h : s_takesNumbers8_3 le sa tx td = (b, s2, td2)) (h3 : sa ≤ 500) : sa ≤ s2 ∧ s2 ≤ sa + 12 := by
  unfold s_takesNumbers8_3 at h
  obtain ⟨u_1_0, u_1_1, u_1_2, hr_1⟩ := bEx3 (s_takesNumber8_0 le sa tx td)
  rw [hr_1] at h
  dsimp only at h
  have q0 := tnK_0 hr_1 (by omega)
  by_cases k_1 : u_1_0 = true
  · rw [if_pos k_1] at h
    by_cases k_2 : (s_isAt8 le u_1_1 tx 44 44) = true
    · rw [if_pos k_2] at h
      obtain ⟨u_4_0, u_4_1, u_4_2, hr_4⟩ := bEx3 (s_takesNumber8_1 le (u_1_1 + 1) tx u_1_2)
      rw [hr_4] at h
      dsimp only at h
      have q1 := tnK_1 hr_4 (by omega)
      by_cases k_3 : u_4_0 = true
      · rw [if_pos k_3] at h
        by_cases k_4 : (s_isAt8 le u_4_1 tx 44 44) = true
        · rw [if_pos k_4] at h
          obtain ⟨u_7_0, u_7_1, u_7_2, hr_7⟩ := bEx3 (s_takesNumber8_2 le (u_4_1 + 1) tx u_4_2)
          rw [hr_7] at h
          dsimp only at h
          have q2 := tnK_2 hr_7 (by omega)
          by_cases k_5 : u_7_0 = true
          · rw [if_pos k_5] at h
            by_cases k_6 : (s_isAt8 le u_7_1 tx 59 59) = true
            · rw [if_pos k_6] at h
              simp only [Prod.mk.injEq] at h
              obtain ⟨-, rfl, -⟩ := h
              omega
            · rw [if_neg k_6] at h
              simp only [Prod.mk.injEq] at h
              obtain ⟨-, rfl, -⟩ := h
              omega
          · rw [if_neg k_5] at h
            simp only [Prod.mk.injEq] at h
            obtain ⟨-, rfl, -⟩ := h
            omega
        · rw [if_neg k_4] at h
          simp only [Prod.mk.injEq] at h
          obtain ⟨-, rfl, -⟩ := h
          omega
      · rw [if_neg k_3] at h
        simp only [Prod.mk.injEq] at h
        obtain ⟨-, rfl, -⟩ := h
        omega
    · rw [if_neg k_2] at h
      simp only [Prod.mk.injEq] at h
      obtain ⟨-, rfl, -⟩ := h
      omega
  · rw [if_neg k_1] at h
    simp only [Prod.mk.injEq] at h
    obtain ⟨-, rfl, -⟩ := h
    omega
theorem tsK_4 {le : Int32} {sa : Nat} {tx td td2 : Nat → Int32} {b : Bool} {s2 : Nat} (h : s_takesNumbers8_4 le sa tx td = (b, s2, td2)) (h3 : sa ≤ 500) : sa ≤ s2 ∧ s2 ≤ sa + 16 := by
  unfold s_takesNumbers8_4 at h
  obtain ⟨u_1_0, u_1_1, u_1_2, hr_1⟩ := bEx3 (s_takesNumber8_0 le sa tx td)
  rw [hr_1] at h
  dsimp only at h
  have q0 := tnK_0 hr_1 (by omega)
  by_cases k_1 : u_1_0 = true
  · rw [if_pos k_1] at h
    by_cases k_2 : (s_isAt8 le u_1_1 tx 44 44) = true
    · rw [if_pos k_2] at h
      obtain ⟨u_4_0, u_4_1, u_4_2, hr_4⟩ := bEx3 (s_takesNumber8_1 le (u_1_1 + 1) tx u_1_2)
      rw [hr_4] at h
      dsimp only at h
      have q1 := tnK_1 hr_4 (by omega)
      by_cases k_3 : u_4_0 = true
      · rw [if_pos k_3] at h
        by_cases k_4 : (s_isAt8 le u_4_1 tx 44 44) = true
        · rw [if_pos k_4] at h
          obtain ⟨u_7_0, u_7_1, u_7_2, hr_7⟩ := bEx3 (s_takesNumber8_2 le (u_4_1 + 1) tx u_4_2)
          rw [hr_7] at h
          dsimp only at h
          have q2 := tnK_2 hr_7 (by omega)
          by_cases k_5 : u_7_0 = true
          · rw [if_pos k_5] at h
            by_cases k_6 : (s_isAt8 le u_7_1 tx 44 44) = true
            · rw [if_pos k_6] at h
              obtain ⟨u_10_0, u_10_1, u_10_2, hr_10⟩ := bEx3 (s_takesNumber8_3 le (u_7_1 + 1) tx u_7_2)
              rw [hr_10] at h
              dsimp only at h
              have q3 := tnK_3 hr_10 (by omega)
              by_cases k_7 : u_10_0 = true
              · rw [if_pos k_7] at h
                by_cases k_8 : (s_isAt8 le u_10_1 tx 59 59) = true
                · rw [if_pos k_8] at h
                  simp only [Prod.mk.injEq] at h
                  obtain ⟨-, rfl, -⟩ := h
                  omega
                · rw [if_neg k_8] at h
                  simp only [Prod.mk.injEq] at h
                  obtain ⟨-, rfl, -⟩ := h
                  omega
              · rw [if_neg k_7] at h
                simp only [Prod.mk.injEq] at h
                obtain ⟨-, rfl, -⟩ := h
                omega
            · rw [if_neg k_6] at h
              simp only [Prod.mk.injEq] at h
              obtain ⟨-, rfl, -⟩ := h
              omega
          · rw [if_neg k_5] at h
            simp only [Prod.mk.injEq] at h
            obtain ⟨-, rfl, -⟩ := h
            omega
        · rw [if_neg k_4] at h
          simp only [Prod.mk.injEq] at h
          obtain ⟨-, rfl, -⟩ := h
          omega
      · rw [if_neg k_3] at h
        simp only [Prod.mk.injEq] at h
        obtain ⟨-, rfl, -⟩ := h
        omega
    · rw [if_neg k_2] at h
      simp only [Prod.mk.injEq] at h
      obtain ⟨-, rfl, -⟩ := h
      omega
  · rw [if_neg k_1] at h
    simp only [Prod.mk.injEq] at h
    obtain ⟨-, rfl, -⟩ := h
    omega
theorem tsD_4 {le : Int32} {sa : Nat} {tx td td2 : Nat → Int32} {b : Bool} {s2 : Nat} (h : s_takesNumbers8_4 le sa tx td = (b, s2, td2)) (hb : b = true) (h3 : sa ≤ 500) : 0 ≤ (td2 0).toInt ∧ (td2 0).toInt < 1000 := by
  unfold s_takesNumbers8_4 at h
  obtain ⟨u_1_0, u_1_1, u_1_2, hr_1⟩ := bEx3 (s_takesNumber8_0 le sa tx td)
  rw [hr_1] at h
  dsimp only at h
  have q0 := tnK_0 hr_1 (by omega)
  have r0 := tnD_0 hr_1 (by omega)
  by_cases k_1 : u_1_0 = true
  · rw [if_pos k_1] at h
    by_cases k_2 : (s_isAt8 le u_1_1 tx 44 44) = true
    · rw [if_pos k_2] at h
      obtain ⟨u_4_0, u_4_1, u_4_2, hr_4⟩ := bEx3 (s_takesNumber8_1 le (u_1_1 + 1) tx u_1_2)
      rw [hr_4] at h
      dsimp only at h
      have q1 := tnK_1 hr_4 (by omega)
      have r1 := tnD_1 hr_4 (by omega)
      by_cases k_3 : u_4_0 = true
      · rw [if_pos k_3] at h
        by_cases k_4 : (s_isAt8 le u_4_1 tx 44 44) = true
        · rw [if_pos k_4] at h
          obtain ⟨u_7_0, u_7_1, u_7_2, hr_7⟩ := bEx3 (s_takesNumber8_2 le (u_4_1 + 1) tx u_4_2)
          rw [hr_7] at h
          dsimp only at h
          have q2 := tnK_2 hr_7 (by omega)
          have r2 := tnD_2 hr_7 (by omega)
          by_cases k_5 : u_7_0 = true
          · rw [if_pos k_5] at h
            by_cases k_6 : (s_isAt8 le u_7_1 tx 44 44) = true
            · rw [if_pos k_6] at h
              obtain ⟨u_10_0, u_10_1, u_10_2, hr_10⟩ := bEx3 (s_takesNumber8_3 le (u_7_1 + 1) tx u_7_2)
              rw [hr_10] at h
              dsimp only at h
              have q3 := tnK_3 hr_10 (by omega)
              have r3 := tnD_3 hr_10 (by omega)
              by_cases k_7 : u_10_0 = true
              · rw [if_pos k_7] at h
                by_cases k_8 : (s_isAt8 le u_10_1 tx 59 59) = true
                · rw [if_pos k_8] at h
                  simp only [Prod.mk.injEq] at h
                  obtain ⟨-, -, rfl⟩ := h
                  rw [r3.2 0 (by decide), r2.2 0 (by decide), r1.2 0 (by decide)]
                  exact r0.1
                · rw [if_neg k_8] at h
                  simp only [Prod.mk.injEq] at h
                  exact absurd (h.1.trans hb) (by decide)
              · rw [if_neg k_7] at h
                simp only [Prod.mk.injEq] at h
                exact absurd (h.1.trans hb) (by decide)
            · rw [if_neg k_6] at h
              simp only [Prod.mk.injEq] at h
              exact absurd (h.1.trans hb) (by decide)
          · rw [if_neg k_5] at h
            simp only [Prod.mk.injEq] at h
            exact absurd (h.1.trans hb) (by decide)
        · rw [if_neg k_4] at h
          simp only [Prod.mk.injEq] at h
          exact absurd (h.1.trans hb) (by decide)
      · rw [if_neg k_3] at h
        simp only [Prod.mk.injEq] at h
        exact absurd (h.1.trans hb) (by decide)
    · rw [if_neg k_2] at h
      simp only [Prod.mk.injEq] at h
      exact absurd (h.1.trans hb) (by decide)
  · rw [if_neg k_1] at h
    simp only [Prod.mk.injEq] at h
    exact absurd (h.1.trans hb) (by decide)
