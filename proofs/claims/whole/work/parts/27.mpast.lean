theorem i_X8_keeps_X8 : ∀ w ∈ wsX80, w ∈ wsX8_keeps := by decide +kernel
theorem f_X8_keeps_38 : Cond.fieldLink RX8 38 "SwingCranesModel" "changes" "I" ∈ wsX8_keeps := by decide +kernel
theorem f_X8_keeps_19 : Cond.fieldLink RX8 19 "SwingCranesModel" "past" "[I" ∈ wsX8_keeps := by decide +kernel
theorem f_X8_keeps_7 : Cond.fieldLink RX8 7 "SwingCranesModel" "now" "[I" ∈ wsX8_keeps := by decide +kernel
def g_keeps8_0b (nw : Nat → Int32) : Nat → Nat → (Nat → Int32) → Int32 × (Nat → Int32)
  | 0, _, _ => (0, fun _ => 0)
  | n_ + 1, j, pg =>
    if 515 ≤ nI j then
      (1, pg)
    else
      g_keeps8_0b nw n_ (j + 1) (upd pg (j) (nw j))
def s_keeps8_0 (nw : Nat → Int32) (ps : Nat → Int32) : Int32 × (Nat → Int32) :=
  g_keeps8_0b nw (516) 0 ps
set_option maxHeartbeats 4000000 in
set_option maxRecDepth 100000 in
theorem lp_keeps8_0b {p_ : Program} {e_ : Env} {s_ : State} {m_ : MethodId} {bl_ : List Frame} {me_ : Method} {cd_ : Code} {A_ : Nat → Prop} (l : Launch) (D : va_G) (cyC cyI : ClassId) (mM : Nat) (mN : Nat) (mR : Nat) (mA : Nat) (mP : Nat) (mT : Nat) (mD : Nat) (le : Int32) (sp : Int32) (nw : Nat → Int32) (ps : Nat → Int32) (o0 : Int32) (o1 : Nat → Int32) (X : bX p_ s_ m_ ([.ref mM] : List Value).toArray cd_ cX8_keeps 2 wsX8_keeps yX8_keeps.cls D cyC cyI) (hr : me_.sig.returnType = none) (hlk : me_.locks = false) : ∀ (n_ : Nat) (j : Nat) (pg : Nat → Int32) (hN : 516 ≤ j + n_) (hJ : j ≤ 515) (hu : g_keeps8_0b nw n_ j pg = (o0, o1)) (ls : Array Slot) (H : Heap) (locs : List Loc), lv_has ls 2 [(0, .ref mM), (1, .int (nI j))] → bY D A_ s_.heap [(mM, .inr (8, [.ref mN, .ref mR, .ref mA, .ref mP, .int 0, .ref mT, .int le, .int sp, .ref mD])), (mN, .inl (cyI, 515, .inl nw)), (mP, .inl (cyI, 2060, .inl pg))] H locs → W p_ l e_ ({ frames := 0, cells := 0, slots := 0, locals := 0 } : Room) s_ m_ ([.ref mM] : List Value).toArray bl_ me_ cd_ H locs 0 0 (bQV bl_ ([.ref mM] : List Value).toArray s_ D [(mM, .inr (8, [.ref mN, .ref mR, .ref mA, .ref mP, .int o0, .ref mT, .int le, .int sp, .ref mD])), (mN, .inl (cyI, 515, .inl nw)), (mP, .inl (cyI, 2060, .inl o1))] A_) (F0 m_ 51 ls []) := by
  intro n_
  induction n_ with
  | zero =>
    intro j pg hN hJ hu ls H locs hl Y
    exfalso; omega
  | succ n_ ih =>
    intro j pg hN hJ hu ls H locs hl Y
    have hx := X.1.1
    have hb := X.1.2.1
    rw [g_keeps8_0b] at hu
    refine lv_iload_n hx hb dX8_keeps_51 rfl (lv_at hl 1 rfl) ?_
    refine lv_sipush (v := 515) hx hb dX8_keeps_52 (by decide) ?_
    refine lv_icmp_ge (tgt := 85) hx hb dX8_keeps_55 (by decide) (fun c_1 => ?_) (fun c_1 => ?_)
    · have c_1 : 515 ≤ nI j := c_1
      rw [if_pos c_1] at hu
      refine lv_aload_n hx hb dX8_keeps_85 rfl (lv_at hl 0 rfl) ?_
      refine lv_dup hx hb dX8_keeps_86 rfl ?_
      refine bGet (v := .int 0) (T := TX8) (N := 9) (ci := 8) X Y i_X8_keeps_X8 0 rfl rfl 4 (Nat.le_of_ble_eq_true rfl) f_X8_keeps_38 rfl rfl dX8_keeps_87 ?_
      refine lv_iconst (v := 1) hx hb dX8_keeps_90 (by decide) ?_
      refine bAdd (v := 1) X dX8_keeps_91 (by decide) ?_
      refine bPut (T := TX8) (N := 9) (ci := 8) (ws' := [(mM, .inr (8, [.ref mN, .ref mR, .ref mA, .ref mP, .int 1, .ref mT, .int le, .int sp, .ref mD])), (mN, .inl (cyI, 515, .inl nw)), (mP, .inl (cyI, 2060, .inl pg))]) X Y i_X8_keeps_X8 tyX8 tyX8_ok nmX8 0 rfl rfl 4 (Nat.le_of_ble_eq_true rfl) f_X8_keeps_38 rfl rfl rfl rfl (Nat.le_of_ble_eq_true rfl) rfl dX8_keeps_92 (fun H locs Y => ?_)
      have h9 := (Prod.mk.inj hu).1; replace hu := (Prod.mk.inj hu).2; subst h9
      subst hu
      exact bEndV X Y hr hlk dX8_keeps_95 rfl
    · have c_1 : ¬ (515 ≤ nI j) := c_1
      rw [if_neg c_1] at hu
      refine lv_aload_n hx hb dX8_keeps_58 rfl (lv_at hl 0 rfl) ?_
      refine bGet (v := .ref mP) (T := TX8) (N := 9) (ci := 8) X Y i_X8_keeps_X8 0 rfl rfl 3 (Nat.le_of_ble_eq_true rfl) f_X8_keeps_19 rfl rfl dX8_keeps_59 ?_
      refine lv_sipush (v := 515) hx hb dX8_keeps_62 (by decide) ?_
      refine lv_aload_n hx hb dX8_keeps_65 rfl (lv_at hl 0 rfl) ?_
      refine bGet (v := .int 0) (T := TX8) (N := 9) (ci := 8) X Y i_X8_keeps_X8 0 rfl rfl 4 (Nat.le_of_ble_eq_true rfl) f_X8_keeps_38 rfl rfl dX8_keeps_66 ?_
      refine bMul (v := 0) X dX8_keeps_69 (by decide) ?_
      refine lv_iload_n hx hb dX8_keeps_70 rfl (lv_at hl 1 rfl) ?_
      refine bAdd (v := nI (j)) X dX8_keeps_71 (nI_sum (a := 0) (b := j) rfl rfl (by omega)) ?_
      refine lv_aload_n hx hb dX8_keeps_72 rfl (lv_at hl 0 rfl) ?_
      refine bGet (v := .ref mN) (T := TX8) (N := 9) (ci := 8) X Y i_X8_keeps_X8 0 rfl rfl 0 (Nat.le_of_ble_eq_true rfl) f_X8_keeps_7 rfl rfl dX8_keeps_73 ?_
      refine lv_iload_n hx hb dX8_keeps_76 rfl (lv_at hl 1 rfl) ?_
      refine bIald (v := nw j) X Y 1 rfl (by have h9 := bNle (k := 515) rfl (by omega) (by decide) c_1; exact bIn (by omega) (by decide)) dX8_keeps_77 (bIdx (by omega)) ?_
      refine bIast (f' := upd pg (j) (nw j)) (ws' := [(mM, .inr (8, [.ref mN, .ref mR, .ref mA, .ref mP, .int 0, .ref mT, .int le, .int sp, .ref mD])), (mN, .inl (cyI, 515, .inl nw)), (mP, .inl (cyI, 2060, .inl (upd pg (j) (nw j))))]) X Y 2 rfl (by have h9 := bNle (k := 515) rfl (by omega) (by decide) c_1; exact bIn (by omega) (by decide)) (bIdxs (by omega)) rfl dX8_keeps_78 (fun H locs Y => ?_)
      refine lv_iinc (v := nI (j + 1)) (lv' := [(1, .int (nI (j + 1))), (0, .ref mM)]) hx hb dX8_keeps_79 hl (k := 1) rfl (nI_inc _) (by decide) rfl (fun ls hl => ?_)
      refine lv_goto (tgt := 51) hx hb dX8_keeps_82 (by decide) ?_
      exact ih (j + 1) (upd pg (j) (nw j)) (by omega) (by have := bNle (k := 515) rfl (by omega) (by decide) c_1; omega) hu _ _ _ (lv_sub hl [1, 0] rfl) Y
set_option maxHeartbeats 4000000 in
set_option maxRecDepth 100000 in
theorem c_keeps8_0 (l : Launch) (D : va_G) (cyC cyI : ClassId) (mM : Nat) (mN : Nat) (mR : Nat) (mA : Nat) (mP : Nat) (mT : Nat) (mD : Nat) (le : Int32) (sp : Int32) (nw : Nat → Int32) (ps : Nat → Int32) (o0 : Int32) (o1 : Nat → Int32) (hu : s_keeps8_0 nw ps = (o0, o1)) : CV l yX8_keeps wsX8_keeps { frames := 0, cells := 0, slots := 0, locals := 0 } D cyC cyI [.ref mM] [(mM, .inr (8, [.ref mN, .ref mR, .ref mA, .ref mP, .int 0, .ref mT, .int le, .int sp, .ref mD])), (mN, .inl (cyI, 515, .inl nw)), (mP, .inl (cyI, 2060, .inl ps))] [(mM, .inr (8, [.ref mN, .ref mR, .ref mA, .ref mP, .int o0, .ref mT, .int le, .int sp, .ref mD])), (mN, .inl (cyI, 515, .inl nw)), (mP, .inl (cyI, 2060, .inl o1))] := by
  refine CV.of (cc := cX8_keeps) (n := 2) (ret := none) (by decide +kernel) rfl (Nat.le_of_ble_eq_true rfl) ?_
  intro p_ e_ s_ m_ bl_ me_ cd_ A_ ls X Y hr hlk hl
  have hx := X.1.1
  have hb := X.1.2.1
  have hl : lv_has ls 2 [(0, .ref mM)] := hl
  unfold s_keeps8_0 at hu
  refine lv_aload_n hx hb dX8_keeps_0 rfl (lv_at hl 0 rfl) ?_
  refine bGet (v := .int 0) (T := TX8) (N := 9) (ci := 8) X Y i_X8_keeps_X8 0 rfl rfl 4 (Nat.le_of_ble_eq_true rfl) f_X8_keeps_38 rfl rfl dX8_keeps_1 ?_
  refine lv_iconst (v := 4) hx hb dX8_keeps_4 (by decide) ?_
  refine lv_icmp_ne (tgt := 49) hx hb dX8_keeps_5 (by decide) (fun _ => ?_) (fun c_ => absurd c_ (by decide))
  refine lv_iconst (v := 0) hx hb dX8_keeps_49 (by decide) ?_
  refine lv_istore_n (lv' := [(1, .int 0), (0, .ref mM)]) hx hb dX8_keeps_50 rfl hl (by decide) rfl (fun ls hl => ?_)
  exact lp_keeps8_0b l D cyC cyI mM mN mR mA mP mT mD le sp nw ps o0 o1 X hr hlk (516) 0 ps (by omega) (by omega) hu _ _ _ (lv_sub hl [1, 0] rfl) Y
def g_keeps8_1b (nw : Nat → Int32) : Nat → Nat → (Nat → Int32) → Int32 × (Nat → Int32)
  | 0, _, _ => (0, fun _ => 0)
  | n_ + 1, j, pg =>
    if 515 ≤ nI j then
      (2, pg)
    else
      g_keeps8_1b nw n_ (j + 1) (upd pg (j + 515) (nw j))
def s_keeps8_1 (nw : Nat → Int32) (ps : Nat → Int32) : Int32 × (Nat → Int32) :=
  g_keeps8_1b nw (516) 0 ps
set_option maxHeartbeats 4000000 in
set_option maxRecDepth 100000 in
theorem lp_keeps8_1b {p_ : Program} {e_ : Env} {s_ : State} {m_ : MethodId} {bl_ : List Frame} {me_ : Method} {cd_ : Code} {A_ : Nat → Prop} (l : Launch) (D : va_G) (cyC cyI : ClassId) (mM : Nat) (mN : Nat) (mR : Nat) (mA : Nat) (mP : Nat) (mT : Nat) (mD : Nat) (le : Int32) (sp : Int32) (nw : Nat → Int32) (ps : Nat → Int32) (o0 : Int32) (o1 : Nat → Int32) (X : bX p_ s_ m_ ([.ref mM] : List Value).toArray cd_ cX8_keeps 2 wsX8_keeps yX8_keeps.cls D cyC cyI) (hr : me_.sig.returnType = none) (hlk : me_.locks = false) : ∀ (n_ : Nat) (j : Nat) (pg : Nat → Int32) (hN : 516 ≤ j + n_) (hJ : j ≤ 515) (hu : g_keeps8_1b nw n_ j pg = (o0, o1)) (ls : Array Slot) (H : Heap) (locs : List Loc), lv_has ls 2 [(0, .ref mM), (1, .int (nI j))] → bY D A_ s_.heap [(mM, .inr (8, [.ref mN, .ref mR, .ref mA, .ref mP, .int 1, .ref mT, .int le, .int sp, .ref mD])), (mN, .inl (cyI, 515, .inl nw)), (mP, .inl (cyI, 2060, .inl pg))] H locs → W p_ l e_ ({ frames := 0, cells := 0, slots := 0, locals := 0 } : Room) s_ m_ ([.ref mM] : List Value).toArray bl_ me_ cd_ H locs 0 0 (bQV bl_ ([.ref mM] : List Value).toArray s_ D [(mM, .inr (8, [.ref mN, .ref mR, .ref mA, .ref mP, .int o0, .ref mT, .int le, .int sp, .ref mD])), (mN, .inl (cyI, 515, .inl nw)), (mP, .inl (cyI, 2060, .inl o1))] A_) (F0 m_ 51 ls []) := by
  intro n_
  induction n_ with
  | zero =>
    intro j pg hN hJ hu ls H locs hl Y
    exfalso; omega
  | succ n_ ih =>
    intro j pg hN hJ hu ls H locs hl Y
    have hx := X.1.1
    have hb := X.1.2.1
    rw [g_keeps8_1b] at hu
    refine lv_iload_n hx hb dX8_keeps_51 rfl (lv_at hl 1 rfl) ?_
    refine lv_sipush (v := 515) hx hb dX8_keeps_52 (by decide) ?_
    refine lv_icmp_ge (tgt := 85) hx hb dX8_keeps_55 (by decide) (fun c_1 => ?_) (fun c_1 => ?_)
    · have c_1 : 515 ≤ nI j := c_1
      rw [if_pos c_1] at hu
      refine lv_aload_n hx hb dX8_keeps_85 rfl (lv_at hl 0 rfl) ?_
      refine lv_dup hx hb dX8_keeps_86 rfl ?_
      refine bGet (v := .int 1) (T := TX8) (N := 9) (ci := 8) X Y i_X8_keeps_X8 0 rfl rfl 4 (Nat.le_of_ble_eq_true rfl) f_X8_keeps_38 rfl rfl dX8_keeps_87 ?_
      refine lv_iconst (v := 1) hx hb dX8_keeps_90 (by decide) ?_
      refine bAdd (v := 2) X dX8_keeps_91 (by decide) ?_
      refine bPut (T := TX8) (N := 9) (ci := 8) (ws' := [(mM, .inr (8, [.ref mN, .ref mR, .ref mA, .ref mP, .int 2, .ref mT, .int le, .int sp, .ref mD])), (mN, .inl (cyI, 515, .inl nw)), (mP, .inl (cyI, 2060, .inl pg))]) X Y i_X8_keeps_X8 tyX8 tyX8_ok nmX8 0 rfl rfl 4 (Nat.le_of_ble_eq_true rfl) f_X8_keeps_38 rfl rfl rfl rfl (Nat.le_of_ble_eq_true rfl) rfl dX8_keeps_92 (fun H locs Y => ?_)
      have h9 := (Prod.mk.inj hu).1; replace hu := (Prod.mk.inj hu).2; subst h9
      subst hu
      exact bEndV X Y hr hlk dX8_keeps_95 rfl
    · have c_1 : ¬ (515 ≤ nI j) := c_1
      rw [if_neg c_1] at hu
      refine lv_aload_n hx hb dX8_keeps_58 rfl (lv_at hl 0 rfl) ?_
      refine bGet (v := .ref mP) (T := TX8) (N := 9) (ci := 8) X Y i_X8_keeps_X8 0 rfl rfl 3 (Nat.le_of_ble_eq_true rfl) f_X8_keeps_19 rfl rfl dX8_keeps_59 ?_
      refine lv_sipush (v := 515) hx hb dX8_keeps_62 (by decide) ?_
      refine lv_aload_n hx hb dX8_keeps_65 rfl (lv_at hl 0 rfl) ?_
      refine bGet (v := .int 1) (T := TX8) (N := 9) (ci := 8) X Y i_X8_keeps_X8 0 rfl rfl 4 (Nat.le_of_ble_eq_true rfl) f_X8_keeps_38 rfl rfl dX8_keeps_66 ?_
      refine bMul (v := 515) X dX8_keeps_69 (by decide) ?_
      refine lv_iload_n hx hb dX8_keeps_70 rfl (lv_at hl 1 rfl) ?_
      refine bAdd (v := nI (j + 515)) X dX8_keeps_71 (nI_sum (a := 515) (b := j) rfl rfl (by omega)) ?_
      refine lv_aload_n hx hb dX8_keeps_72 rfl (lv_at hl 0 rfl) ?_
      refine bGet (v := .ref mN) (T := TX8) (N := 9) (ci := 8) X Y i_X8_keeps_X8 0 rfl rfl 0 (Nat.le_of_ble_eq_true rfl) f_X8_keeps_7 rfl rfl dX8_keeps_73 ?_
      refine lv_iload_n hx hb dX8_keeps_76 rfl (lv_at hl 1 rfl) ?_
      refine bIald (v := nw j) X Y 1 rfl (by have h9 := bNle (k := 515) rfl (by omega) (by decide) c_1; exact bIn (by omega) (by decide)) dX8_keeps_77 (bIdx (by omega)) ?_
      refine bIast (f' := upd pg (j + 515) (nw j)) (ws' := [(mM, .inr (8, [.ref mN, .ref mR, .ref mA, .ref mP, .int 1, .ref mT, .int le, .int sp, .ref mD])), (mN, .inl (cyI, 515, .inl nw)), (mP, .inl (cyI, 2060, .inl (upd pg (j + 515) (nw j))))]) X Y 2 rfl (by have h9 := bNle (k := 515) rfl (by omega) (by decide) c_1; exact bIn (by omega) (by decide)) (bIdxs (by omega)) rfl dX8_keeps_78 (fun H locs Y => ?_)
      refine lv_iinc (v := nI (j + 1)) (lv' := [(1, .int (nI (j + 1))), (0, .ref mM)]) hx hb dX8_keeps_79 hl (k := 1) rfl (nI_inc _) (by decide) rfl (fun ls hl => ?_)
      refine lv_goto (tgt := 51) hx hb dX8_keeps_82 (by decide) ?_
      exact ih (j + 1) (upd pg (j + 515) (nw j)) (by omega) (by have := bNle (k := 515) rfl (by omega) (by decide) c_1; omega) hu _ _ _ (lv_sub hl [1, 0] rfl) Y
set_option maxHeartbeats 4000000 in
set_option maxRecDepth 100000 in
theorem c_keeps8_1 (l : Launch) (D : va_G) (cyC cyI : ClassId) (mM : Nat) (mN : Nat) (mR : Nat) (mA : Nat) (mP : Nat) (mT : Nat) (mD : Nat) (le : Int32) (sp : Int32) (nw : Nat → Int32) (ps : Nat → Int32) (o0 : Int32) (o1 : Nat → Int32) (hu : s_keeps8_1 nw ps = (o0, o1)) : CV l yX8_keeps wsX8_keeps { frames := 0, cells := 0, slots := 0, locals := 0 } D cyC cyI [.ref mM] [(mM, .inr (8, [.ref mN, .ref mR, .ref mA, .ref mP, .int 1, .ref mT, .int le, .int sp, .ref mD])), (mN, .inl (cyI, 515, .inl nw)), (mP, .inl (cyI, 2060, .inl ps))] [(mM, .inr (8, [.ref mN, .ref mR, .ref mA, .ref mP, .int o0, .ref mT, .int le, .int sp, .ref mD])), (mN, .inl (cyI, 515, .inl nw)), (mP, .inl (cyI, 2060, .inl o1))] := by
  refine CV.of (cc := cX8_keeps) (n := 2) (ret := none) (by decide +kernel) rfl (Nat.le_of_ble_eq_true rfl) ?_
  intro p_ e_ s_ m_ bl_ me_ cd_ A_ ls X Y hr hlk hl
  have hx := X.1.1
  have hb := X.1.2.1
  have hl : lv_has ls 2 [(0, .ref mM)] := hl
  unfold s_keeps8_1 at hu
  refine lv_aload_n hx hb dX8_keeps_0 rfl (lv_at hl 0 rfl) ?_
  refine bGet (v := .int 1) (T := TX8) (N := 9) (ci := 8) X Y i_X8_keeps_X8 0 rfl rfl 4 (Nat.le_of_ble_eq_true rfl) f_X8_keeps_38 rfl rfl dX8_keeps_1 ?_
  refine lv_iconst (v := 4) hx hb dX8_keeps_4 (by decide) ?_
  refine lv_icmp_ne (tgt := 49) hx hb dX8_keeps_5 (by decide) (fun _ => ?_) (fun c_ => absurd c_ (by decide))
  refine lv_iconst (v := 0) hx hb dX8_keeps_49 (by decide) ?_
  refine lv_istore_n (lv' := [(1, .int 0), (0, .ref mM)]) hx hb dX8_keeps_50 rfl hl (by decide) rfl (fun ls hl => ?_)
  exact lp_keeps8_1b l D cyC cyI mM mN mR mA mP mT mD le sp nw ps o0 o1 X hr hlk (516) 0 ps (by omega) (by omega) hu _ _ _ (lv_sub hl [1, 0] rfl) Y
def g_keeps8_2b (nw : Nat → Int32) : Nat → Nat → (Nat → Int32) → Int32 × (Nat → Int32)
  | 0, _, _ => (0, fun _ => 0)
  | n_ + 1, j, pg =>
    if 515 ≤ nI j then
      (3, pg)
    else
      g_keeps8_2b nw n_ (j + 1) (upd pg (j + 1030) (nw j))
def s_keeps8_2 (nw : Nat → Int32) (ps : Nat → Int32) : Int32 × (Nat → Int32) :=
  g_keeps8_2b nw (516) 0 ps
set_option maxHeartbeats 4000000 in
set_option maxRecDepth 100000 in
theorem lp_keeps8_2b {p_ : Program} {e_ : Env} {s_ : State} {m_ : MethodId} {bl_ : List Frame} {me_ : Method} {cd_ : Code} {A_ : Nat → Prop} (l : Launch) (D : va_G) (cyC cyI : ClassId) (mM : Nat) (mN : Nat) (mR : Nat) (mA : Nat) (mP : Nat) (mT : Nat) (mD : Nat) (le : Int32) (sp : Int32) (nw : Nat → Int32) (ps : Nat → Int32) (o0 : Int32) (o1 : Nat → Int32) (X : bX p_ s_ m_ ([.ref mM] : List Value).toArray cd_ cX8_keeps 2 wsX8_keeps yX8_keeps.cls D cyC cyI) (hr : me_.sig.returnType = none) (hlk : me_.locks = false) : ∀ (n_ : Nat) (j : Nat) (pg : Nat → Int32) (hN : 516 ≤ j + n_) (hJ : j ≤ 515) (hu : g_keeps8_2b nw n_ j pg = (o0, o1)) (ls : Array Slot) (H : Heap) (locs : List Loc), lv_has ls 2 [(0, .ref mM), (1, .int (nI j))] → bY D A_ s_.heap [(mM, .inr (8, [.ref mN, .ref mR, .ref mA, .ref mP, .int 2, .ref mT, .int le, .int sp, .ref mD])), (mN, .inl (cyI, 515, .inl nw)), (mP, .inl (cyI, 2060, .inl pg))] H locs → W p_ l e_ ({ frames := 0, cells := 0, slots := 0, locals := 0 } : Room) s_ m_ ([.ref mM] : List Value).toArray bl_ me_ cd_ H locs 0 0 (bQV bl_ ([.ref mM] : List Value).toArray s_ D [(mM, .inr (8, [.ref mN, .ref mR, .ref mA, .ref mP, .int o0, .ref mT, .int le, .int sp, .ref mD])), (mN, .inl (cyI, 515, .inl nw)), (mP, .inl (cyI, 2060, .inl o1))] A_) (F0 m_ 51 ls []) := by
  intro n_
  induction n_ with
  | zero =>
    intro j pg hN hJ hu ls H locs hl Y
    exfalso; omega
  | succ n_ ih =>
    intro j pg hN hJ hu ls H locs hl Y
    have hx := X.1.1
    have hb := X.1.2.1
    rw [g_keeps8_2b] at hu
    refine lv_iload_n hx hb dX8_keeps_51 rfl (lv_at hl 1 rfl) ?_
    refine lv_sipush (v := 515) hx hb dX8_keeps_52 (by decide) ?_
    refine lv_icmp_ge (tgt := 85) hx hb dX8_keeps_55 (by decide) (fun c_1 => ?_) (fun c_1 => ?_)
    · have c_1 : 515 ≤ nI j := c_1
      rw [if_pos c_1] at hu
      refine lv_aload_n hx hb dX8_keeps_85 rfl (lv_at hl 0 rfl) ?_
      refine lv_dup hx hb dX8_keeps_86 rfl ?_
      refine bGet (v := .int 2) (T := TX8) (N := 9) (ci := 8) X Y i_X8_keeps_X8 0 rfl rfl 4 (Nat.le_of_ble_eq_true rfl) f_X8_keeps_38 rfl rfl dX8_keeps_87 ?_
      refine lv_iconst (v := 1) hx hb dX8_keeps_90 (by decide) ?_
      refine bAdd (v := 3) X dX8_keeps_91 (by decide) ?_
      refine bPut (T := TX8) (N := 9) (ci := 8) (ws' := [(mM, .inr (8, [.ref mN, .ref mR, .ref mA, .ref mP, .int 3, .ref mT, .int le, .int sp, .ref mD])), (mN, .inl (cyI, 515, .inl nw)), (mP, .inl (cyI, 2060, .inl pg))]) X Y i_X8_keeps_X8 tyX8 tyX8_ok nmX8 0 rfl rfl 4 (Nat.le_of_ble_eq_true rfl) f_X8_keeps_38 rfl rfl rfl rfl (Nat.le_of_ble_eq_true rfl) rfl dX8_keeps_92 (fun H locs Y => ?_)
      have h9 := (Prod.mk.inj hu).1; replace hu := (Prod.mk.inj hu).2; subst h9
      subst hu
      exact bEndV X Y hr hlk dX8_keeps_95 rfl
    · have c_1 : ¬ (515 ≤ nI j) := c_1
      rw [if_neg c_1] at hu
      refine lv_aload_n hx hb dX8_keeps_58 rfl (lv_at hl 0 rfl) ?_
      refine bGet (v := .ref mP) (T := TX8) (N := 9) (ci := 8) X Y i_X8_keeps_X8 0 rfl rfl 3 (Nat.le_of_ble_eq_true rfl) f_X8_keeps_19 rfl rfl dX8_keeps_59 ?_
      refine lv_sipush (v := 515) hx hb dX8_keeps_62 (by decide) ?_
      refine lv_aload_n hx hb dX8_keeps_65 rfl (lv_at hl 0 rfl) ?_
      refine bGet (v := .int 2) (T := TX8) (N := 9) (ci := 8) X Y i_X8_keeps_X8 0 rfl rfl 4 (Nat.le_of_ble_eq_true rfl) f_X8_keeps_38 rfl rfl dX8_keeps_66 ?_
      refine bMul (v := 1030) X dX8_keeps_69 (by decide) ?_
      refine lv_iload_n hx hb dX8_keeps_70 rfl (lv_at hl 1 rfl) ?_
      refine bAdd (v := nI (j + 1030)) X dX8_keeps_71 (nI_sum (a := 1030) (b := j) rfl rfl (by omega)) ?_
      refine lv_aload_n hx hb dX8_keeps_72 rfl (lv_at hl 0 rfl) ?_
      refine bGet (v := .ref mN) (T := TX8) (N := 9) (ci := 8) X Y i_X8_keeps_X8 0 rfl rfl 0 (Nat.le_of_ble_eq_true rfl) f_X8_keeps_7 rfl rfl dX8_keeps_73 ?_
      refine lv_iload_n hx hb dX8_keeps_76 rfl (lv_at hl 1 rfl) ?_
      refine bIald (v := nw j) X Y 1 rfl (by have h9 := bNle (k := 515) rfl (by omega) (by decide) c_1; exact bIn (by omega) (by decide)) dX8_keeps_77 (bIdx (by omega)) ?_
      refine bIast (f' := upd pg (j + 1030) (nw j)) (ws' := [(mM, .inr (8, [.ref mN, .ref mR, .ref mA, .ref mP, .int 2, .ref mT, .int le, .int sp, .ref mD])), (mN, .inl (cyI, 515, .inl nw)), (mP, .inl (cyI, 2060, .inl (upd pg (j + 1030) (nw j))))]) X Y 2 rfl (by have h9 := bNle (k := 515) rfl (by omega) (by decide) c_1; exact bIn (by omega) (by decide)) (bIdxs (by omega)) rfl dX8_keeps_78 (fun H locs Y => ?_)
      refine lv_iinc (v := nI (j + 1)) (lv' := [(1, .int (nI (j + 1))), (0, .ref mM)]) hx hb dX8_keeps_79 hl (k := 1) rfl (nI_inc _) (by decide) rfl (fun ls hl => ?_)
      refine lv_goto (tgt := 51) hx hb dX8_keeps_82 (by decide) ?_
      exact ih (j + 1) (upd pg (j + 1030) (nw j)) (by omega) (by have := bNle (k := 515) rfl (by omega) (by decide) c_1; omega) hu _ _ _ (lv_sub hl [1, 0] rfl) Y
set_option maxHeartbeats 4000000 in
set_option maxRecDepth 100000 in
theorem c_keeps8_2 (l : Launch) (D : va_G) (cyC cyI : ClassId) (mM : Nat) (mN : Nat) (mR : Nat) (mA : Nat) (mP : Nat) (mT : Nat) (mD : Nat) (le : Int32) (sp : Int32) (nw : Nat → Int32) (ps : Nat → Int32) (o0 : Int32) (o1 : Nat → Int32) (hu : s_keeps8_2 nw ps = (o0, o1)) : CV l yX8_keeps wsX8_keeps { frames := 0, cells := 0, slots := 0, locals := 0 } D cyC cyI [.ref mM] [(mM, .inr (8, [.ref mN, .ref mR, .ref mA, .ref mP, .int 2, .ref mT, .int le, .int sp, .ref mD])), (mN, .inl (cyI, 515, .inl nw)), (mP, .inl (cyI, 2060, .inl ps))] [(mM, .inr (8, [.ref mN, .ref mR, .ref mA, .ref mP, .int o0, .ref mT, .int le, .int sp, .ref mD])), (mN, .inl (cyI, 515, .inl nw)), (mP, .inl (cyI, 2060, .inl o1))] := by
  refine CV.of (cc := cX8_keeps) (n := 2) (ret := none) (by decide +kernel) rfl (Nat.le_of_ble_eq_true rfl) ?_
  intro p_ e_ s_ m_ bl_ me_ cd_ A_ ls X Y hr hlk hl
  have hx := X.1.1
  have hb := X.1.2.1
  have hl : lv_has ls 2 [(0, .ref mM)] := hl
  unfold s_keeps8_2 at hu
  refine lv_aload_n hx hb dX8_keeps_0 rfl (lv_at hl 0 rfl) ?_
  refine bGet (v := .int 2) (T := TX8) (N := 9) (ci := 8) X Y i_X8_keeps_X8 0 rfl rfl 4 (Nat.le_of_ble_eq_true rfl) f_X8_keeps_38 rfl rfl dX8_keeps_1 ?_
  refine lv_iconst (v := 4) hx hb dX8_keeps_4 (by decide) ?_
  refine lv_icmp_ne (tgt := 49) hx hb dX8_keeps_5 (by decide) (fun _ => ?_) (fun c_ => absurd c_ (by decide))
  refine lv_iconst (v := 0) hx hb dX8_keeps_49 (by decide) ?_
  refine lv_istore_n (lv' := [(1, .int 0), (0, .ref mM)]) hx hb dX8_keeps_50 rfl hl (by decide) rfl (fun ls hl => ?_)
  exact lp_keeps8_2b l D cyC cyI mM mN mR mA mP mT mD le sp nw ps o0 o1 X hr hlk (516) 0 ps (by omega) (by omega) hu _ _ _ (lv_sub hl [1, 0] rfl) Y
def g_keeps8_3b (nw : Nat → Int32) : Nat → Nat → (Nat → Int32) → Int32 × (Nat → Int32)
  | 0, _, _ => (0, fun _ => 0)
  | n_ + 1, j, pg =>
    if 515 ≤ nI j then
      (4, pg)
    else
      g_keeps8_3b nw n_ (j + 1) (upd pg (j + 1545) (nw j))
def s_keeps8_3 (nw : Nat → Int32) (ps : Nat → Int32) : Int32 × (Nat → Int32) :=
  g_keeps8_3b nw (516) 0 ps
set_option maxHeartbeats 4000000 in
set_option maxRecDepth 100000 in
theorem lp_keeps8_3b {p_ : Program} {e_ : Env} {s_ : State} {m_ : MethodId} {bl_ : List Frame} {me_ : Method} {cd_ : Code} {A_ : Nat → Prop} (l : Launch) (D : va_G) (cyC cyI : ClassId) (mM : Nat) (mN : Nat) (mR : Nat) (mA : Nat) (mP : Nat) (mT : Nat) (mD : Nat) (le : Int32) (sp : Int32) (nw : Nat → Int32) (ps : Nat → Int32) (o0 : Int32) (o1 : Nat → Int32) (X : bX p_ s_ m_ ([.ref mM] : List Value).toArray cd_ cX8_keeps 2 wsX8_keeps yX8_keeps.cls D cyC cyI) (hr : me_.sig.returnType = none) (hlk : me_.locks = false) : ∀ (n_ : Nat) (j : Nat) (pg : Nat → Int32) (hN : 516 ≤ j + n_) (hJ : j ≤ 515) (hu : g_keeps8_3b nw n_ j pg = (o0, o1)) (ls : Array Slot) (H : Heap) (locs : List Loc), lv_has ls 2 [(0, .ref mM), (1, .int (nI j))] → bY D A_ s_.heap [(mM, .inr (8, [.ref mN, .ref mR, .ref mA, .ref mP, .int 3, .ref mT, .int le, .int sp, .ref mD])), (mN, .inl (cyI, 515, .inl nw)), (mP, .inl (cyI, 2060, .inl pg))] H locs → W p_ l e_ ({ frames := 0, cells := 0, slots := 0, locals := 0 } : Room) s_ m_ ([.ref mM] : List Value).toArray bl_ me_ cd_ H locs 0 0 (bQV bl_ ([.ref mM] : List Value).toArray s_ D [(mM, .inr (8, [.ref mN, .ref mR, .ref mA, .ref mP, .int o0, .ref mT, .int le, .int sp, .ref mD])), (mN, .inl (cyI, 515, .inl nw)), (mP, .inl (cyI, 2060, .inl o1))] A_) (F0 m_ 51 ls []) := by
  intro n_
  induction n_ with
  | zero =>
    intro j pg hN hJ hu ls H locs hl Y
    exfalso; omega
  | succ n_ ih =>
    intro j pg hN hJ hu ls H locs hl Y
    have hx := X.1.1
    have hb := X.1.2.1
    rw [g_keeps8_3b] at hu
    refine lv_iload_n hx hb dX8_keeps_51 rfl (lv_at hl 1 rfl) ?_
    refine lv_sipush (v := 515) hx hb dX8_keeps_52 (by decide) ?_
    refine lv_icmp_ge (tgt := 85) hx hb dX8_keeps_55 (by decide) (fun c_1 => ?_) (fun c_1 => ?_)
    · have c_1 : 515 ≤ nI j := c_1
      rw [if_pos c_1] at hu
      refine lv_aload_n hx hb dX8_keeps_85 rfl (lv_at hl 0 rfl) ?_
      refine lv_dup hx hb dX8_keeps_86 rfl ?_
      refine bGet (v := .int 3) (T := TX8) (N := 9) (ci := 8) X Y i_X8_keeps_X8 0 rfl rfl 4 (Nat.le_of_ble_eq_true rfl) f_X8_keeps_38 rfl rfl dX8_keeps_87 ?_
      refine lv_iconst (v := 1) hx hb dX8_keeps_90 (by decide) ?_
      refine bAdd (v := 4) X dX8_keeps_91 (by decide) ?_
      refine bPut (T := TX8) (N := 9) (ci := 8) (ws' := [(mM, .inr (8, [.ref mN, .ref mR, .ref mA, .ref mP, .int 4, .ref mT, .int le, .int sp, .ref mD])), (mN, .inl (cyI, 515, .inl nw)), (mP, .inl (cyI, 2060, .inl pg))]) X Y i_X8_keeps_X8 tyX8 tyX8_ok nmX8 0 rfl rfl 4 (Nat.le_of_ble_eq_true rfl) f_X8_keeps_38 rfl rfl rfl rfl (Nat.le_of_ble_eq_true rfl) rfl dX8_keeps_92 (fun H locs Y => ?_)
      have h9 := (Prod.mk.inj hu).1; replace hu := (Prod.mk.inj hu).2; subst h9
      subst hu
      exact bEndV X Y hr hlk dX8_keeps_95 rfl
    · have c_1 : ¬ (515 ≤ nI j) := c_1
      rw [if_neg c_1] at hu
      refine lv_aload_n hx hb dX8_keeps_58 rfl (lv_at hl 0 rfl) ?_
      refine bGet (v := .ref mP) (T := TX8) (N := 9) (ci := 8) X Y i_X8_keeps_X8 0 rfl rfl 3 (Nat.le_of_ble_eq_true rfl) f_X8_keeps_19 rfl rfl dX8_keeps_59 ?_
      refine lv_sipush (v := 515) hx hb dX8_keeps_62 (by decide) ?_
      refine lv_aload_n hx hb dX8_keeps_65 rfl (lv_at hl 0 rfl) ?_
      refine bGet (v := .int 3) (T := TX8) (N := 9) (ci := 8) X Y i_X8_keeps_X8 0 rfl rfl 4 (Nat.le_of_ble_eq_true rfl) f_X8_keeps_38 rfl rfl dX8_keeps_66 ?_
      refine bMul (v := 1545) X dX8_keeps_69 (by decide) ?_
      refine lv_iload_n hx hb dX8_keeps_70 rfl (lv_at hl 1 rfl) ?_
      refine bAdd (v := nI (j + 1545)) X dX8_keeps_71 (nI_sum (a := 1545) (b := j) rfl rfl (by omega)) ?_
      refine lv_aload_n hx hb dX8_keeps_72 rfl (lv_at hl 0 rfl) ?_
      refine bGet (v := .ref mN) (T := TX8) (N := 9) (ci := 8) X Y i_X8_keeps_X8 0 rfl rfl 0 (Nat.le_of_ble_eq_true rfl) f_X8_keeps_7 rfl rfl dX8_keeps_73 ?_
      refine lv_iload_n hx hb dX8_keeps_76 rfl (lv_at hl 1 rfl) ?_
      refine bIald (v := nw j) X Y 1 rfl (by have h9 := bNle (k := 515) rfl (by omega) (by decide) c_1; exact bIn (by omega) (by decide)) dX8_keeps_77 (bIdx (by omega)) ?_
      refine bIast (f' := upd pg (j + 1545) (nw j)) (ws' := [(mM, .inr (8, [.ref mN, .ref mR, .ref mA, .ref mP, .int 3, .ref mT, .int le, .int sp, .ref mD])), (mN, .inl (cyI, 515, .inl nw)), (mP, .inl (cyI, 2060, .inl (upd pg (j + 1545) (nw j))))]) X Y 2 rfl (by have h9 := bNle (k := 515) rfl (by omega) (by decide) c_1; exact bIn (by omega) (by decide)) (bIdxs (by omega)) rfl dX8_keeps_78 (fun H locs Y => ?_)
      refine lv_iinc (v := nI (j + 1)) (lv' := [(1, .int (nI (j + 1))), (0, .ref mM)]) hx hb dX8_keeps_79 hl (k := 1) rfl (nI_inc _) (by decide) rfl (fun ls hl => ?_)
      refine lv_goto (tgt := 51) hx hb dX8_keeps_82 (by decide) ?_
      exact ih (j + 1) (upd pg (j + 1545) (nw j)) (by omega) (by have := bNle (k := 515) rfl (by omega) (by decide) c_1; omega) hu _ _ _ (lv_sub hl [1, 0] rfl) Y
set_option maxHeartbeats 4000000 in
set_option maxRecDepth 100000 in
theorem c_keeps8_3 (l : Launch) (D : va_G) (cyC cyI : ClassId) (mM : Nat) (mN : Nat) (mR : Nat) (mA : Nat) (mP : Nat) (mT : Nat) (mD : Nat) (le : Int32) (sp : Int32) (nw : Nat → Int32) (ps : Nat → Int32) (o0 : Int32) (o1 : Nat → Int32) (hu : s_keeps8_3 nw ps = (o0, o1)) : CV l yX8_keeps wsX8_keeps { frames := 0, cells := 0, slots := 0, locals := 0 } D cyC cyI [.ref mM] [(mM, .inr (8, [.ref mN, .ref mR, .ref mA, .ref mP, .int 3, .ref mT, .int le, .int sp, .ref mD])), (mN, .inl (cyI, 515, .inl nw)), (mP, .inl (cyI, 2060, .inl ps))] [(mM, .inr (8, [.ref mN, .ref mR, .ref mA, .ref mP, .int o0, .ref mT, .int le, .int sp, .ref mD])), (mN, .inl (cyI, 515, .inl nw)), (mP, .inl (cyI, 2060, .inl o1))] := by
  refine CV.of (cc := cX8_keeps) (n := 2) (ret := none) (by decide +kernel) rfl (Nat.le_of_ble_eq_true rfl) ?_
  intro p_ e_ s_ m_ bl_ me_ cd_ A_ ls X Y hr hlk hl
  have hx := X.1.1
  have hb := X.1.2.1
  have hl : lv_has ls 2 [(0, .ref mM)] := hl
  unfold s_keeps8_3 at hu
  refine lv_aload_n hx hb dX8_keeps_0 rfl (lv_at hl 0 rfl) ?_
  refine bGet (v := .int 3) (T := TX8) (N := 9) (ci := 8) X Y i_X8_keeps_X8 0 rfl rfl 4 (Nat.le_of_ble_eq_true rfl) f_X8_keeps_38 rfl rfl dX8_keeps_1 ?_
  refine lv_iconst (v := 4) hx hb dX8_keeps_4 (by decide) ?_
  refine lv_icmp_ne (tgt := 49) hx hb dX8_keeps_5 (by decide) (fun _ => ?_) (fun c_ => absurd c_ (by decide))
  refine lv_iconst (v := 0) hx hb dX8_keeps_49 (by decide) ?_
  refine lv_istore_n (lv' := [(1, .int 0), (0, .ref mM)]) hx hb dX8_keeps_50 rfl hl (by decide) rfl (fun ls hl => ?_)
  exact lp_keeps8_3b l D cyC cyI mM mN mR mA mP mT mD le sp nw ps o0 o1 X hr hlk (516) 0 ps (by omega) (by omega) hu _ _ _ (lv_sub hl [1, 0] rfl) Y
def g_keeps8_4b (nw : Nat → Int32) : Nat → Nat → (Nat → Int32) → Int32 × (Nat → Int32)
  | 0, _, _ => (0, fun _ => 0)
  | n_ + 1, j, pg =>
    if 515 ≤ nI j then
      (4, pg)
    else
      g_keeps8_4b nw n_ (j + 1) (upd pg (j + 1545) (nw j))
def g_keeps8_4a (nw : Nat → Int32) : Nat → Nat → (Nat → Int32) → Int32 × (Nat → Int32)
  | 0, _, _ => (0, fun _ => 0)
  | n_ + 1, j, pg =>
    if 1545 ≤ nI j then
      g_keeps8_4b nw (516) 0 pg
    else
      g_keeps8_4a nw n_ (j + 1) (upd pg j (pg (j + 515)))
def s_keeps8_4 (nw : Nat → Int32) (ps : Nat → Int32) : Int32 × (Nat → Int32) :=
  g_keeps8_4a nw (1546) 0 ps
set_option maxHeartbeats 4000000 in
set_option maxRecDepth 100000 in
theorem lp_keeps8_4b {p_ : Program} {e_ : Env} {s_ : State} {m_ : MethodId} {bl_ : List Frame} {me_ : Method} {cd_ : Code} {A_ : Nat → Prop} (l : Launch) (D : va_G) (cyC cyI : ClassId) (mM : Nat) (mN : Nat) (mR : Nat) (mA : Nat) (mP : Nat) (mT : Nat) (mD : Nat) (le : Int32) (sp : Int32) (nw : Nat → Int32) (ps : Nat → Int32) (o0 : Int32) (o1 : Nat → Int32) (X : bX p_ s_ m_ ([.ref mM] : List Value).toArray cd_ cX8_keeps 2 wsX8_keeps yX8_keeps.cls D cyC cyI) (hr : me_.sig.returnType = none) (hlk : me_.locks = false) : ∀ (n_ : Nat) (j : Nat) (pg : Nat → Int32) (hN : 516 ≤ j + n_) (hJ : j ≤ 515) (hu : g_keeps8_4b nw n_ j pg = (o0, o1)) (ls : Array Slot) (H : Heap) (locs : List Loc), lv_has ls 2 [(0, .ref mM), (1, .int (nI j))] → bY D A_ s_.heap [(mM, .inr (8, [.ref mN, .ref mR, .ref mA, .ref mP, .int 3, .ref mT, .int le, .int sp, .ref mD])), (mN, .inl (cyI, 515, .inl nw)), (mP, .inl (cyI, 2060, .inl pg))] H locs → W p_ l e_ ({ frames := 0, cells := 0, slots := 0, locals := 0 } : Room) s_ m_ ([.ref mM] : List Value).toArray bl_ me_ cd_ H locs 0 0 (bQV bl_ ([.ref mM] : List Value).toArray s_ D [(mM, .inr (8, [.ref mN, .ref mR, .ref mA, .ref mP, .int o0, .ref mT, .int le, .int sp, .ref mD])), (mN, .inl (cyI, 515, .inl nw)), (mP, .inl (cyI, 2060, .inl o1))] A_) (F0 m_ 51 ls []) := by
  intro n_
  induction n_ with
  | zero =>
    intro j pg hN hJ hu ls H locs hl Y
    exfalso; omega
  | succ n_ ih =>
    intro j pg hN hJ hu ls H locs hl Y
    have hx := X.1.1
    have hb := X.1.2.1
    rw [g_keeps8_4b] at hu
    refine lv_iload_n hx hb dX8_keeps_51 rfl (lv_at hl 1 rfl) ?_
    refine lv_sipush (v := 515) hx hb dX8_keeps_52 (by decide) ?_
    refine lv_icmp_ge (tgt := 85) hx hb dX8_keeps_55 (by decide) (fun c_1 => ?_) (fun c_1 => ?_)
    · have c_1 : 515 ≤ nI j := c_1
      rw [if_pos c_1] at hu
      refine lv_aload_n hx hb dX8_keeps_85 rfl (lv_at hl 0 rfl) ?_
      refine lv_dup hx hb dX8_keeps_86 rfl ?_
      refine bGet (v := .int 3) (T := TX8) (N := 9) (ci := 8) X Y i_X8_keeps_X8 0 rfl rfl 4 (Nat.le_of_ble_eq_true rfl) f_X8_keeps_38 rfl rfl dX8_keeps_87 ?_
      refine lv_iconst (v := 1) hx hb dX8_keeps_90 (by decide) ?_
      refine bAdd (v := 4) X dX8_keeps_91 (by decide) ?_
      refine bPut (T := TX8) (N := 9) (ci := 8) (ws' := [(mM, .inr (8, [.ref mN, .ref mR, .ref mA, .ref mP, .int 4, .ref mT, .int le, .int sp, .ref mD])), (mN, .inl (cyI, 515, .inl nw)), (mP, .inl (cyI, 2060, .inl pg))]) X Y i_X8_keeps_X8 tyX8 tyX8_ok nmX8 0 rfl rfl 4 (Nat.le_of_ble_eq_true rfl) f_X8_keeps_38 rfl rfl rfl rfl (Nat.le_of_ble_eq_true rfl) rfl dX8_keeps_92 (fun H locs Y => ?_)
      have h9 := (Prod.mk.inj hu).1; replace hu := (Prod.mk.inj hu).2; subst h9
      subst hu
      exact bEndV X Y hr hlk dX8_keeps_95 rfl
    · have c_1 : ¬ (515 ≤ nI j) := c_1
      rw [if_neg c_1] at hu
      refine lv_aload_n hx hb dX8_keeps_58 rfl (lv_at hl 0 rfl) ?_
      refine bGet (v := .ref mP) (T := TX8) (N := 9) (ci := 8) X Y i_X8_keeps_X8 0 rfl rfl 3 (Nat.le_of_ble_eq_true rfl) f_X8_keeps_19 rfl rfl dX8_keeps_59 ?_
      refine lv_sipush (v := 515) hx hb dX8_keeps_62 (by decide) ?_
      refine lv_aload_n hx hb dX8_keeps_65 rfl (lv_at hl 0 rfl) ?_
      refine bGet (v := .int 3) (T := TX8) (N := 9) (ci := 8) X Y i_X8_keeps_X8 0 rfl rfl 4 (Nat.le_of_ble_eq_true rfl) f_X8_keeps_38 rfl rfl dX8_keeps_66 ?_
      refine bMul (v := 1545) X dX8_keeps_69 (by decide) ?_
      refine lv_iload_n hx hb dX8_keeps_70 rfl (lv_at hl 1 rfl) ?_
      refine bAdd (v := nI (j + 1545)) X dX8_keeps_71 (nI_sum (a := 1545) (b := j) rfl rfl (by omega)) ?_
      refine lv_aload_n hx hb dX8_keeps_72 rfl (lv_at hl 0 rfl) ?_
      refine bGet (v := .ref mN) (T := TX8) (N := 9) (ci := 8) X Y i_X8_keeps_X8 0 rfl rfl 0 (Nat.le_of_ble_eq_true rfl) f_X8_keeps_7 rfl rfl dX8_keeps_73 ?_
      refine lv_iload_n hx hb dX8_keeps_76 rfl (lv_at hl 1 rfl) ?_
      refine bIald (v := nw j) X Y 1 rfl (by have h9 := bNle (k := 515) rfl (by omega) (by decide) c_1; exact bIn (by omega) (by decide)) dX8_keeps_77 (bIdx (by omega)) ?_
      refine bIast (f' := upd pg (j + 1545) (nw j)) (ws' := [(mM, .inr (8, [.ref mN, .ref mR, .ref mA, .ref mP, .int 3, .ref mT, .int le, .int sp, .ref mD])), (mN, .inl (cyI, 515, .inl nw)), (mP, .inl (cyI, 2060, .inl (upd pg (j + 1545) (nw j))))]) X Y 2 rfl (by have h9 := bNle (k := 515) rfl (by omega) (by decide) c_1; exact bIn (by omega) (by decide)) (bIdxs (by omega)) rfl dX8_keeps_78 (fun H locs Y => ?_)
      refine lv_iinc (v := nI (j + 1)) (lv' := [(1, .int (nI (j + 1))), (0, .ref mM)]) hx hb dX8_keeps_79 hl (k := 1) rfl (nI_inc _) (by decide) rfl (fun ls hl => ?_)
      refine lv_goto (tgt := 51) hx hb dX8_keeps_82 (by decide) ?_
      exact ih (j + 1) (upd pg (j + 1545) (nw j)) (by omega) (by have := bNle (k := 515) rfl (by omega) (by decide) c_1; omega) hu _ _ _ (lv_sub hl [1, 0] rfl) Y
set_option maxHeartbeats 4000000 in
set_option maxRecDepth 100000 in
theorem lp_keeps8_4a {p_ : Program} {e_ : Env} {s_ : State} {m_ : MethodId} {bl_ : List Frame} {me_ : Method} {cd_ : Code} {A_ : Nat → Prop} (l : Launch) (D : va_G) (cyC cyI : ClassId) (mM : Nat) (mN : Nat) (mR : Nat) (mA : Nat) (mP : Nat) (mT : Nat) (mD : Nat) (le : Int32) (sp : Int32) (nw : Nat → Int32) (ps : Nat → Int32) (o0 : Int32) (o1 : Nat → Int32) (X : bX p_ s_ m_ ([.ref mM] : List Value).toArray cd_ cX8_keeps 2 wsX8_keeps yX8_keeps.cls D cyC cyI) (hr : me_.sig.returnType = none) (hlk : me_.locks = false) : ∀ (n_ : Nat) (j : Nat) (pg : Nat → Int32) (hN : 1546 ≤ j + n_) (hJ : j ≤ 1545) (hu : g_keeps8_4a nw n_ j pg = (o0, o1)) (ls : Array Slot) (H : Heap) (locs : List Loc), lv_has ls 2 [(0, .ref mM), (1, .int (nI j))] → bY D A_ s_.heap [(mM, .inr (8, [.ref mN, .ref mR, .ref mA, .ref mP, .int 4, .ref mT, .int le, .int sp, .ref mD])), (mN, .inl (cyI, 515, .inl nw)), (mP, .inl (cyI, 2060, .inl pg))] H locs → W p_ l e_ ({ frames := 0, cells := 0, slots := 0, locals := 0 } : Room) s_ m_ ([.ref mM] : List Value).toArray bl_ me_ cd_ H locs 0 0 (bQV bl_ ([.ref mM] : List Value).toArray s_ D [(mM, .inr (8, [.ref mN, .ref mR, .ref mA, .ref mP, .int o0, .ref mT, .int le, .int sp, .ref mD])), (mN, .inl (cyI, 515, .inl nw)), (mP, .inl (cyI, 2060, .inl o1))] A_) (F0 m_ 10 ls []) := by
  intro n_
  induction n_ with
  | zero =>
    intro j pg hN hJ hu ls H locs hl Y
    exfalso; omega
  | succ n_ ih =>
    intro j pg hN hJ hu ls H locs hl Y
    have hx := X.1.1
    have hb := X.1.2.1
    rw [g_keeps8_4a] at hu
    refine lv_iload_n hx hb dX8_keeps_10 rfl (lv_at hl 1 rfl) ?_
    refine lv_sipush (v := 1545) hx hb dX8_keeps_11 (by decide) ?_
    refine lv_icmp_ge (tgt := 39) hx hb dX8_keeps_14 (by decide) (fun c_1 => ?_) (fun c_1 => ?_)
    · have c_1 : 1545 ≤ nI j := c_1
      rw [if_pos c_1] at hu
      refine lv_aload_n hx hb dX8_keeps_39 rfl (lv_at hl 0 rfl) ?_
      refine lv_dup hx hb dX8_keeps_40 rfl ?_
      refine bGet (v := .int 4) (T := TX8) (N := 9) (ci := 8) X Y i_X8_keeps_X8 0 rfl rfl 4 (Nat.le_of_ble_eq_true rfl) f_X8_keeps_38 rfl rfl dX8_keeps_41 ?_
      refine lv_iconst (v := 1) hx hb dX8_keeps_44 (by decide) ?_
      refine bSub (v := 3) X dX8_keeps_45 (by decide) ?_
      refine bPut (T := TX8) (N := 9) (ci := 8) (ws' := [(mM, .inr (8, [.ref mN, .ref mR, .ref mA, .ref mP, .int 3, .ref mT, .int le, .int sp, .ref mD])), (mN, .inl (cyI, 515, .inl nw)), (mP, .inl (cyI, 2060, .inl pg))]) X Y i_X8_keeps_X8 tyX8 tyX8_ok nmX8 0 rfl rfl 4 (Nat.le_of_ble_eq_true rfl) f_X8_keeps_38 rfl rfl rfl rfl (Nat.le_of_ble_eq_true rfl) rfl dX8_keeps_46 (fun H locs Y => ?_)
      refine lv_iconst (v := 0) hx hb dX8_keeps_49 (by decide) ?_
      refine lv_istore_n (lv' := [(1, .int 0), (0, .ref mM)]) hx hb dX8_keeps_50 rfl hl (by decide) rfl (fun ls hl => ?_)
      exact lp_keeps8_4b l D cyC cyI mM mN mR mA mP mT mD le sp nw ps o0 o1 X hr hlk (516) 0 pg (by omega) (by omega) hu _ _ _ (lv_sub hl [1, 0] rfl) Y
    · have c_1 : ¬ (1545 ≤ nI j) := c_1
      rw [if_neg c_1] at hu
      refine lv_aload_n hx hb dX8_keeps_17 rfl (lv_at hl 0 rfl) ?_
      refine bGet (v := .ref mP) (T := TX8) (N := 9) (ci := 8) X Y i_X8_keeps_X8 0 rfl rfl 3 (Nat.le_of_ble_eq_true rfl) f_X8_keeps_19 rfl rfl dX8_keeps_18 ?_
      refine lv_iload_n hx hb dX8_keeps_21 rfl (lv_at hl 1 rfl) ?_
      refine lv_aload_n hx hb dX8_keeps_22 rfl (lv_at hl 0 rfl) ?_
      refine bGet (v := .ref mP) (T := TX8) (N := 9) (ci := 8) X Y i_X8_keeps_X8 0 rfl rfl 3 (Nat.le_of_ble_eq_true rfl) f_X8_keeps_19 rfl rfl dX8_keeps_23 ?_
      refine lv_iload_n hx hb dX8_keeps_26 rfl (lv_at hl 1 rfl) ?_
      refine lv_sipush (v := 515) hx hb dX8_keeps_27 (by decide) ?_
      refine bAdd (v := nI (j + 515)) X dX8_keeps_30 (nI_sum (a := j) (b := 515) rfl rfl (by omega)) ?_
      refine bIald (v := pg (j + 515)) X Y 2 rfl (by have h9 := bNle (k := 1545) rfl (by omega) (by decide) c_1; exact bIn (by omega) (by decide)) dX8_keeps_31 (bIdx (by omega)) ?_
      refine bIast (f' := upd pg j (pg (j + 515))) (ws' := [(mM, .inr (8, [.ref mN, .ref mR, .ref mA, .ref mP, .int 4, .ref mT, .int le, .int sp, .ref mD])), (mN, .inl (cyI, 515, .inl nw)), (mP, .inl (cyI, 2060, .inl (upd pg j (pg (j + 515)))))]) X Y 2 rfl (by have h9 := bNle (k := 1545) rfl (by omega) (by decide) c_1; exact bIn (by omega) (by decide)) (bIdxs (by omega)) rfl dX8_keeps_32 (fun H locs Y => ?_)
      refine lv_iinc (v := nI (j + 1)) (lv' := [(1, .int (nI (j + 1))), (0, .ref mM)]) hx hb dX8_keeps_33 hl (k := 1) rfl (nI_inc _) (by decide) rfl (fun ls hl => ?_)
      refine lv_goto (tgt := 10) hx hb dX8_keeps_36 (by decide) ?_
      exact ih (j + 1) (upd pg j (pg (j + 515))) (by omega) (by have := bNle (k := 1545) rfl (by omega) (by decide) c_1; omega) hu _ _ _ (lv_sub hl [1, 0] rfl) Y
set_option maxHeartbeats 4000000 in
set_option maxRecDepth 100000 in
theorem c_keeps8_4 (l : Launch) (D : va_G) (cyC cyI : ClassId) (mM : Nat) (mN : Nat) (mR : Nat) (mA : Nat) (mP : Nat) (mT : Nat) (mD : Nat) (le : Int32) (sp : Int32) (nw : Nat → Int32) (ps : Nat → Int32) (o0 : Int32) (o1 : Nat → Int32) (hu : s_keeps8_4 nw ps = (o0, o1)) : CV l yX8_keeps wsX8_keeps { frames := 0, cells := 0, slots := 0, locals := 0 } D cyC cyI [.ref mM] [(mM, .inr (8, [.ref mN, .ref mR, .ref mA, .ref mP, .int 4, .ref mT, .int le, .int sp, .ref mD])), (mN, .inl (cyI, 515, .inl nw)), (mP, .inl (cyI, 2060, .inl ps))] [(mM, .inr (8, [.ref mN, .ref mR, .ref mA, .ref mP, .int o0, .ref mT, .int le, .int sp, .ref mD])), (mN, .inl (cyI, 515, .inl nw)), (mP, .inl (cyI, 2060, .inl o1))] := by
  refine CV.of (cc := cX8_keeps) (n := 2) (ret := none) (by decide +kernel) rfl (Nat.le_of_ble_eq_true rfl) ?_
  intro p_ e_ s_ m_ bl_ me_ cd_ A_ ls X Y hr hlk hl
  have hx := X.1.1
  have hb := X.1.2.1
  have hl : lv_has ls 2 [(0, .ref mM)] := hl
  unfold s_keeps8_4 at hu
  refine lv_aload_n hx hb dX8_keeps_0 rfl (lv_at hl 0 rfl) ?_
  refine bGet (v := .int 4) (T := TX8) (N := 9) (ci := 8) X Y i_X8_keeps_X8 0 rfl rfl 4 (Nat.le_of_ble_eq_true rfl) f_X8_keeps_38 rfl rfl dX8_keeps_1 ?_
  refine lv_iconst (v := 4) hx hb dX8_keeps_4 (by decide) ?_
  refine lv_icmp_ne (tgt := 49) hx hb dX8_keeps_5 (by decide) (fun c_ => absurd (by decide) c_) (fun _ => ?_)
  refine lv_iconst (v := 0) hx hb dX8_keeps_8 (by decide) ?_
  refine lv_istore_n (lv' := [(1, .int 0), (0, .ref mM)]) hx hb dX8_keeps_9 rfl hl (by decide) rfl (fun ls hl => ?_)
  exact lp_keeps8_4a l D cyC cyI mM mN mR mA mP mT mD le sp nw ps o0 o1 X hr hlk (1546) 0 ps (by omega) (by omega) hu _ _ _ (lv_sub hl [1, 0] rfl) Y
def s_keeps8 (ch : Int32) (nw : Nat → Int32) (ps : Nat → Int32) : Int32 × (Nat → Int32) := if ch = 0 then s_keeps8_0 nw ps else if ch = 1 then s_keeps8_1 nw ps else if ch = 2 then s_keeps8_2 nw ps else if ch = 3 then s_keeps8_3 nw ps else s_keeps8_4 nw ps
theorem c_keeps8 (l : Launch) (D : va_G) (cyC cyI : ClassId) (mM : Nat) (mN : Nat) (mR : Nat) (mA : Nat) (mP : Nat) (mT : Nat) (mD : Nat) (ch : Int32) (le : Int32) (sp : Int32) (nw : Nat → Int32) (ps : Nat → Int32) (o0 : Int32) (o1 : Nat → Int32) (hu : s_keeps8 ch nw ps = (o0, o1)) (hch : ch = 0 ∨ ch = 1 ∨ ch = 2 ∨ ch = 3 ∨ ch = 4) : CV l yX8_keeps wsX8_keeps { frames := 0, cells := 0, slots := 0, locals := 0 } D cyC cyI [.ref mM] [(mM, .inr (8, [.ref mN, .ref mR, .ref mA, .ref mP, .int ch, .ref mT, .int le, .int sp, .ref mD])), (mN, .inl (cyI, 515, .inl nw)), (mP, .inl (cyI, 2060, .inl ps))] [(mM, .inr (8, [.ref mN, .ref mR, .ref mA, .ref mP, .int o0, .ref mT, .int le, .int sp, .ref mD])), (mN, .inl (cyI, 515, .inl nw)), (mP, .inl (cyI, 2060, .inl o1))] := by
  unfold s_keeps8 at hu
  rcases hch with h9 | h9 | h9 | h9 | h9
  · rw [if_pos h9] at hu
    subst h9; exact c_keeps8_0 l D cyC cyI mM mN mR mA mP mT mD le sp nw ps o0 o1 hu
  · rw [if_neg (by rw [h9]; decide), if_pos h9] at hu
    subst h9; exact c_keeps8_1 l D cyC cyI mM mN mR mA mP mT mD le sp nw ps o0 o1 hu
  · rw [if_neg (by rw [h9]; decide), if_neg (by rw [h9]; decide), if_pos h9] at hu
    subst h9; exact c_keeps8_2 l D cyC cyI mM mN mR mA mP mT mD le sp nw ps o0 o1 hu
  · rw [if_neg (by rw [h9]; decide), if_neg (by rw [h9]; decide), if_neg (by rw [h9]; decide), if_pos h9] at hu
    subst h9; exact c_keeps8_3 l D cyC cyI mM mN mR mA mP mT mD le sp nw ps o0 o1 hu
  · rw [if_neg (by rw [h9]; decide), if_neg (by rw [h9]; decide), if_neg (by rw [h9]; decide), if_neg (by rw [h9]; decide)] at hu
    subst h9; exact c_keeps8_4 l D cyC cyI mM mN mR mA mP mT mD le sp nw ps o0 o1 hu
theorem i_X8_undo_X8 : ∀ w ∈ wsX80, w ∈ wsX8_undo := by decide +kernel
theorem f_X8_undo_38 : Cond.fieldLink RX8 38 "SwingCranesModel" "changes" "I" ∈ wsX8_undo := by decide +kernel
def s_undo8_0 (nw : Nat → Int32) : Int32 × Int32 × (Nat → Int32) :=
  ((-2), 0, nw)
set_option maxHeartbeats 4000000 in
set_option maxRecDepth 100000 in
theorem c_undo8_0 (l : Launch) (D : va_G) (cyC cyI : ClassId) (mM : Nat) (mN : Nat) (mR : Nat) (mA : Nat) (mP : Nat) (mT : Nat) (mD : Nat) (le : Int32) (sp : Int32) (nw : Nat → Int32) (ps : Nat → Int32) (o0 : Int32) (o1 : Int32) (o2 : Nat → Int32) (hu : s_undo8_0 nw = (o0, o1, o2)) : CI l yX8_undo wsX8_undo { frames := 0, cells := 0, slots := 0, locals := 0 } D cyC cyI [.ref mM] [(mM, .inr (8, [.ref mN, .ref mR, .ref mA, .ref mP, .int 0, .ref mT, .int le, .int sp, .ref mD])), (mN, .inl (cyI, 515, .inl nw)), (mP, .inl (cyI, 2060, .inl ps))] o0 [(mM, .inr (8, [.ref mN, .ref mR, .ref mA, .ref mP, .int o1, .ref mT, .int le, .int sp, .ref mD])), (mN, .inl (cyI, 515, .inl o2)), (mP, .inl (cyI, 2060, .inl ps))] := by
  refine CI.of (cc := cX8_undo) (n := 2) (ret := (some .int)) (by decide +kernel) rfl (Nat.le_of_ble_eq_true rfl) ?_
  intro p_ e_ s_ m_ bl_ me_ cd_ A_ ls X Y hr hlk hl
  have hx := X.1.1
  have hb := X.1.2.1
  have hl : lv_has ls 2 [(0, .ref mM)] := hl
  unfold s_undo8_0 at hu
  refine lv_aload_n hx hb dX8_undo_0 rfl (lv_at hl 0 rfl) ?_
  refine bGet (v := .int 0) (T := TX8) (N := 9) (ci := 8) X Y i_X8_undo_X8 0 rfl rfl 4 (Nat.le_of_ble_eq_true rfl) f_X8_undo_38 rfl rfl dX8_undo_1 ?_
  refine lv_if_ne (tgt := 10) hx hb dX8_undo_4 (by decide) (fun c_ => absurd (by decide) c_) (fun _ => ?_)
  refine lv_bipush (v := (-2)) hx hb dX8_undo_7 (by decide) ?_
  have h9 := (Prod.mk.inj hu).1; replace hu := (Prod.mk.inj hu).2; subst h9
  have h9 := (Prod.mk.inj hu).1; replace hu := (Prod.mk.inj hu).2; subst h9
  subst hu
  exact bEndI X Y hr hlk dX8_undo_9 rfl rfl
theorem f_X8_undo_7 : Cond.fieldLink RX8 7 "SwingCranesModel" "now" "[I" ∈ wsX8_undo := by decide +kernel
theorem f_X8_undo_19 : Cond.fieldLink RX8 19 "SwingCranesModel" "past" "[I" ∈ wsX8_undo := by decide +kernel
def g_undo8_1 (ps : Nat → Int32) : Nat → Nat → (Nat → Int32) → Int32 × Int32 × (Nat → Int32)
  | 0, _, _ => (0, 0, fun _ => 0)
  | n_ + 1, j, ng =>
    if 515 ≤ nI j then
      (0, 0, ng)
    else
      g_undo8_1 ps n_ (j + 1) (upd ng j (ps (j)))
def s_undo8_1 (nw : Nat → Int32) (ps : Nat → Int32) : Int32 × Int32 × (Nat → Int32) :=
  g_undo8_1 ps (516) 0 nw
set_option maxHeartbeats 4000000 in
set_option maxRecDepth 100000 in
theorem lp_undo8_1 {p_ : Program} {e_ : Env} {s_ : State} {m_ : MethodId} {bl_ : List Frame} {me_ : Method} {cd_ : Code} {A_ : Nat → Prop} (l : Launch) (D : va_G) (cyC cyI : ClassId) (mM : Nat) (mN : Nat) (mR : Nat) (mA : Nat) (mP : Nat) (mT : Nat) (mD : Nat) (le : Int32) (sp : Int32) (nw : Nat → Int32) (ps : Nat → Int32) (o0 : Int32) (o1 : Int32) (o2 : Nat → Int32) (X : bX p_ s_ m_ ([.ref mM] : List Value).toArray cd_ cX8_undo 2 wsX8_undo yX8_undo.cls D cyC cyI) (hr : me_.sig.returnType = (some .int)) (hlk : me_.locks = false) : ∀ (n_ : Nat) (j : Nat) (ng : Nat → Int32) (hN : 516 ≤ j + n_) (hJ : j ≤ 515) (hu : g_undo8_1 ps n_ j ng = (o0, o1, o2)) (ls : Array Slot) (H : Heap) (locs : List Loc), lv_has ls 2 [(0, .ref mM), (1, .int (nI j))] → bY D A_ s_.heap [(mM, .inr (8, [.ref mN, .ref mR, .ref mA, .ref mP, .int 0, .ref mT, .int le, .int sp, .ref mD])), (mN, .inl (cyI, 515, .inl ng)), (mP, .inl (cyI, 2060, .inl ps))] H locs → W p_ l e_ ({ frames := 0, cells := 0, slots := 0, locals := 0 } : Room) s_ m_ ([.ref mM] : List Value).toArray bl_ me_ cd_ H locs 0 0 (bQI bl_ ([.ref mM] : List Value).toArray s_ D [(mM, .inr (8, [.ref mN, .ref mR, .ref mA, .ref mP, .int o1, .ref mT, .int le, .int sp, .ref mD])), (mN, .inl (cyI, 515, .inl o2)), (mP, .inl (cyI, 2060, .inl ps))] o0 A_) (F0 m_ 22 ls []) := by
  intro n_
  induction n_ with
  | zero =>
    intro j ng hN hJ hu ls H locs hl Y
    exfalso; omega
  | succ n_ ih =>
    intro j ng hN hJ hu ls H locs hl Y
    have hx := X.1.1
    have hb := X.1.2.1
    rw [g_undo8_1] at hu
    refine lv_iload_n hx hb dX8_undo_22 rfl (lv_at hl 1 rfl) ?_
    refine lv_sipush (v := 515) hx hb dX8_undo_23 (by decide) ?_
    refine lv_icmp_ge (tgt := 56) hx hb dX8_undo_26 (by decide) (fun c_1 => ?_) (fun c_1 => ?_)
    · have c_1 : 515 ≤ nI j := c_1
      rw [if_pos c_1] at hu
      refine lv_aload_n hx hb dX8_undo_56 rfl (lv_at hl 0 rfl) ?_
      refine bGet (v := .int 0) (T := TX8) (N := 9) (ci := 8) X Y i_X8_undo_X8 0 rfl rfl 4 (Nat.le_of_ble_eq_true rfl) f_X8_undo_38 rfl rfl dX8_undo_57 ?_
      have h9 := (Prod.mk.inj hu).1; replace hu := (Prod.mk.inj hu).2; subst h9
      have h9 := (Prod.mk.inj hu).1; replace hu := (Prod.mk.inj hu).2; subst h9
      subst hu
      exact bEndI X Y hr hlk dX8_undo_60 rfl rfl
    · have c_1 : ¬ (515 ≤ nI j) := c_1
      rw [if_neg c_1] at hu
      refine lv_aload_n hx hb dX8_undo_29 rfl (lv_at hl 0 rfl) ?_
      refine bGet (v := .ref mN) (T := TX8) (N := 9) (ci := 8) X Y i_X8_undo_X8 0 rfl rfl 0 (Nat.le_of_ble_eq_true rfl) f_X8_undo_7 rfl rfl dX8_undo_30 ?_
      refine lv_iload_n hx hb dX8_undo_33 rfl (lv_at hl 1 rfl) ?_
      refine lv_aload_n hx hb dX8_undo_34 rfl (lv_at hl 0 rfl) ?_
      refine bGet (v := .ref mP) (T := TX8) (N := 9) (ci := 8) X Y i_X8_undo_X8 0 rfl rfl 3 (Nat.le_of_ble_eq_true rfl) f_X8_undo_19 rfl rfl dX8_undo_35 ?_
      refine lv_sipush (v := 515) hx hb dX8_undo_38 (by decide) ?_
      refine lv_aload_n hx hb dX8_undo_41 rfl (lv_at hl 0 rfl) ?_
      refine bGet (v := .int 0) (T := TX8) (N := 9) (ci := 8) X Y i_X8_undo_X8 0 rfl rfl 4 (Nat.le_of_ble_eq_true rfl) f_X8_undo_38 rfl rfl dX8_undo_42 ?_
      refine bMul (v := 0) X dX8_undo_45 (by decide) ?_
      refine lv_iload_n hx hb dX8_undo_46 rfl (lv_at hl 1 rfl) ?_
      refine bAdd (v := nI (j)) X dX8_undo_47 (nI_sum (a := 0) (b := j) rfl rfl (by omega)) ?_
      refine bIald (v := ps (j)) X Y 2 rfl (by have h9 := bNle (k := 515) rfl (by omega) (by decide) c_1; exact bIn (by omega) (by decide)) dX8_undo_48 (bIdx (by omega)) ?_
      refine bIast (f' := upd ng j (ps (j))) (ws' := [(mM, .inr (8, [.ref mN, .ref mR, .ref mA, .ref mP, .int 0, .ref mT, .int le, .int sp, .ref mD])), (mN, .inl (cyI, 515, .inl (upd ng j (ps (j))))), (mP, .inl (cyI, 2060, .inl ps))]) X Y 1 rfl (by have h9 := bNle (k := 515) rfl (by omega) (by decide) c_1; exact bIn (by omega) (by decide)) (bIdxs (by omega)) rfl dX8_undo_49 (fun H locs Y => ?_)
      refine lv_iinc (v := nI (j + 1)) (lv' := [(1, .int (nI (j + 1))), (0, .ref mM)]) hx hb dX8_undo_50 hl (k := 1) rfl (nI_inc _) (by decide) rfl (fun ls hl => ?_)
      refine lv_goto (tgt := 22) hx hb dX8_undo_53 (by decide) ?_
      exact ih (j + 1) (upd ng j (ps (j))) (by omega) (by have := bNle (k := 515) rfl (by omega) (by decide) c_1; omega) hu _ _ _ (lv_sub hl [1, 0] rfl) Y
set_option maxHeartbeats 4000000 in
set_option maxRecDepth 100000 in
theorem c_undo8_1 (l : Launch) (D : va_G) (cyC cyI : ClassId) (mM : Nat) (mN : Nat) (mR : Nat) (mA : Nat) (mP : Nat) (mT : Nat) (mD : Nat) (le : Int32) (sp : Int32) (nw : Nat → Int32) (ps : Nat → Int32) (o0 : Int32) (o1 : Int32) (o2 : Nat → Int32) (hu : s_undo8_1 nw ps = (o0, o1, o2)) : CI l yX8_undo wsX8_undo { frames := 0, cells := 0, slots := 0, locals := 0 } D cyC cyI [.ref mM] [(mM, .inr (8, [.ref mN, .ref mR, .ref mA, .ref mP, .int 1, .ref mT, .int le, .int sp, .ref mD])), (mN, .inl (cyI, 515, .inl nw)), (mP, .inl (cyI, 2060, .inl ps))] o0 [(mM, .inr (8, [.ref mN, .ref mR, .ref mA, .ref mP, .int o1, .ref mT, .int le, .int sp, .ref mD])), (mN, .inl (cyI, 515, .inl o2)), (mP, .inl (cyI, 2060, .inl ps))] := by
  refine CI.of (cc := cX8_undo) (n := 2) (ret := (some .int)) (by decide +kernel) rfl (Nat.le_of_ble_eq_true rfl) ?_
  intro p_ e_ s_ m_ bl_ me_ cd_ A_ ls X Y hr hlk hl
  have hx := X.1.1
  have hb := X.1.2.1
  have hl : lv_has ls 2 [(0, .ref mM)] := hl
  unfold s_undo8_1 at hu
  refine lv_aload_n hx hb dX8_undo_0 rfl (lv_at hl 0 rfl) ?_
  refine bGet (v := .int 1) (T := TX8) (N := 9) (ci := 8) X Y i_X8_undo_X8 0 rfl rfl 4 (Nat.le_of_ble_eq_true rfl) f_X8_undo_38 rfl rfl dX8_undo_1 ?_
  refine lv_if_ne (tgt := 10) hx hb dX8_undo_4 (by decide) (fun _ => ?_) (fun c_ => absurd c_ (by decide))
  refine lv_aload_n hx hb dX8_undo_10 rfl (lv_at hl 0 rfl) ?_
  refine lv_dup hx hb dX8_undo_11 rfl ?_
  refine bGet (v := .int 1) (T := TX8) (N := 9) (ci := 8) X Y i_X8_undo_X8 0 rfl rfl 4 (Nat.le_of_ble_eq_true rfl) f_X8_undo_38 rfl rfl dX8_undo_12 ?_
  refine lv_iconst (v := 1) hx hb dX8_undo_15 (by decide) ?_
  refine bSub (v := 0) X dX8_undo_16 (by decide) ?_
  refine bPut (T := TX8) (N := 9) (ci := 8) (ws' := [(mM, .inr (8, [.ref mN, .ref mR, .ref mA, .ref mP, .int 0, .ref mT, .int le, .int sp, .ref mD])), (mN, .inl (cyI, 515, .inl nw)), (mP, .inl (cyI, 2060, .inl ps))]) X Y i_X8_undo_X8 tyX8 tyX8_ok nmX8 0 rfl rfl 4 (Nat.le_of_ble_eq_true rfl) f_X8_undo_38 rfl rfl rfl rfl (Nat.le_of_ble_eq_true rfl) rfl dX8_undo_17 (fun H locs Y => ?_)
  refine lv_iconst (v := 0) hx hb dX8_undo_20 (by decide) ?_
  refine lv_istore_n (lv' := [(1, .int 0), (0, .ref mM)]) hx hb dX8_undo_21 rfl hl (by decide) rfl (fun ls hl => ?_)
  exact lp_undo8_1 l D cyC cyI mM mN mR mA mP mT mD le sp nw ps o0 o1 o2 X hr hlk (516) 0 nw (by omega) (by omega) hu _ _ _ (lv_sub hl [1, 0] rfl) Y
def g_undo8_2 (ps : Nat → Int32) : Nat → Nat → (Nat → Int32) → Int32 × Int32 × (Nat → Int32)
  | 0, _, _ => (0, 0, fun _ => 0)
  | n_ + 1, j, ng =>
    if 515 ≤ nI j then
      (1, 1, ng)
    else
      g_undo8_2 ps n_ (j + 1) (upd ng j (ps (j + 515)))
def s_undo8_2 (nw : Nat → Int32) (ps : Nat → Int32) : Int32 × Int32 × (Nat → Int32) :=
  g_undo8_2 ps (516) 0 nw
set_option maxHeartbeats 4000000 in
set_option maxRecDepth 100000 in
theorem lp_undo8_2 {p_ : Program} {e_ : Env} {s_ : State} {m_ : MethodId} {bl_ : List Frame} {me_ : Method} {cd_ : Code} {A_ : Nat → Prop} (l : Launch) (D : va_G) (cyC cyI : ClassId) (mM : Nat) (mN : Nat) (mR : Nat) (mA : Nat) (mP : Nat) (mT : Nat) (mD : Nat) (le : Int32) (sp : Int32) (nw : Nat → Int32) (ps : Nat → Int32) (o0 : Int32) (o1 : Int32) (o2 : Nat → Int32) (X : bX p_ s_ m_ ([.ref mM] : List Value).toArray cd_ cX8_undo 2 wsX8_undo yX8_undo.cls D cyC cyI) (hr : me_.sig.returnType = (some .int)) (hlk : me_.locks = false) : ∀ (n_ : Nat) (j : Nat) (ng : Nat → Int32) (hN : 516 ≤ j + n_) (hJ : j ≤ 515) (hu : g_undo8_2 ps n_ j ng = (o0, o1, o2)) (ls : Array Slot) (H : Heap) (locs : List Loc), lv_has ls 2 [(0, .ref mM), (1, .int (nI j))] → bY D A_ s_.heap [(mM, .inr (8, [.ref mN, .ref mR, .ref mA, .ref mP, .int 1, .ref mT, .int le, .int sp, .ref mD])), (mN, .inl (cyI, 515, .inl ng)), (mP, .inl (cyI, 2060, .inl ps))] H locs → W p_ l e_ ({ frames := 0, cells := 0, slots := 0, locals := 0 } : Room) s_ m_ ([.ref mM] : List Value).toArray bl_ me_ cd_ H locs 0 0 (bQI bl_ ([.ref mM] : List Value).toArray s_ D [(mM, .inr (8, [.ref mN, .ref mR, .ref mA, .ref mP, .int o1, .ref mT, .int le, .int sp, .ref mD])), (mN, .inl (cyI, 515, .inl o2)), (mP, .inl (cyI, 2060, .inl ps))] o0 A_) (F0 m_ 22 ls []) := by
  intro n_
  induction n_ with
  | zero =>
    intro j ng hN hJ hu ls H locs hl Y
    exfalso; omega
  | succ n_ ih =>
    intro j ng hN hJ hu ls H locs hl Y
    have hx := X.1.1
    have hb := X.1.2.1
    rw [g_undo8_2] at hu
    refine lv_iload_n hx hb dX8_undo_22 rfl (lv_at hl 1 rfl) ?_
    refine lv_sipush (v := 515) hx hb dX8_undo_23 (by decide) ?_
    refine lv_icmp_ge (tgt := 56) hx hb dX8_undo_26 (by decide) (fun c_1 => ?_) (fun c_1 => ?_)
    · have c_1 : 515 ≤ nI j := c_1
      rw [if_pos c_1] at hu
      refine lv_aload_n hx hb dX8_undo_56 rfl (lv_at hl 0 rfl) ?_
      refine bGet (v := .int 1) (T := TX8) (N := 9) (ci := 8) X Y i_X8_undo_X8 0 rfl rfl 4 (Nat.le_of_ble_eq_true rfl) f_X8_undo_38 rfl rfl dX8_undo_57 ?_
      have h9 := (Prod.mk.inj hu).1; replace hu := (Prod.mk.inj hu).2; subst h9
      have h9 := (Prod.mk.inj hu).1; replace hu := (Prod.mk.inj hu).2; subst h9
      subst hu
      exact bEndI X Y hr hlk dX8_undo_60 rfl rfl
    · have c_1 : ¬ (515 ≤ nI j) := c_1
      rw [if_neg c_1] at hu
      refine lv_aload_n hx hb dX8_undo_29 rfl (lv_at hl 0 rfl) ?_
      refine bGet (v := .ref mN) (T := TX8) (N := 9) (ci := 8) X Y i_X8_undo_X8 0 rfl rfl 0 (Nat.le_of_ble_eq_true rfl) f_X8_undo_7 rfl rfl dX8_undo_30 ?_
      refine lv_iload_n hx hb dX8_undo_33 rfl (lv_at hl 1 rfl) ?_
      refine lv_aload_n hx hb dX8_undo_34 rfl (lv_at hl 0 rfl) ?_
      refine bGet (v := .ref mP) (T := TX8) (N := 9) (ci := 8) X Y i_X8_undo_X8 0 rfl rfl 3 (Nat.le_of_ble_eq_true rfl) f_X8_undo_19 rfl rfl dX8_undo_35 ?_
      refine lv_sipush (v := 515) hx hb dX8_undo_38 (by decide) ?_
      refine lv_aload_n hx hb dX8_undo_41 rfl (lv_at hl 0 rfl) ?_
      refine bGet (v := .int 1) (T := TX8) (N := 9) (ci := 8) X Y i_X8_undo_X8 0 rfl rfl 4 (Nat.le_of_ble_eq_true rfl) f_X8_undo_38 rfl rfl dX8_undo_42 ?_
      refine bMul (v := 515) X dX8_undo_45 (by decide) ?_
      refine lv_iload_n hx hb dX8_undo_46 rfl (lv_at hl 1 rfl) ?_
      refine bAdd (v := nI (j + 515)) X dX8_undo_47 (nI_sum (a := 515) (b := j) rfl rfl (by omega)) ?_
      refine bIald (v := ps (j + 515)) X Y 2 rfl (by have h9 := bNle (k := 515) rfl (by omega) (by decide) c_1; exact bIn (by omega) (by decide)) dX8_undo_48 (bIdx (by omega)) ?_
      refine bIast (f' := upd ng j (ps (j + 515))) (ws' := [(mM, .inr (8, [.ref mN, .ref mR, .ref mA, .ref mP, .int 1, .ref mT, .int le, .int sp, .ref mD])), (mN, .inl (cyI, 515, .inl (upd ng j (ps (j + 515))))), (mP, .inl (cyI, 2060, .inl ps))]) X Y 1 rfl (by have h9 := bNle (k := 515) rfl (by omega) (by decide) c_1; exact bIn (by omega) (by decide)) (bIdxs (by omega)) rfl dX8_undo_49 (fun H locs Y => ?_)
      refine lv_iinc (v := nI (j + 1)) (lv' := [(1, .int (nI (j + 1))), (0, .ref mM)]) hx hb dX8_undo_50 hl (k := 1) rfl (nI_inc _) (by decide) rfl (fun ls hl => ?_)
      refine lv_goto (tgt := 22) hx hb dX8_undo_53 (by decide) ?_
      exact ih (j + 1) (upd ng j (ps (j + 515))) (by omega) (by have := bNle (k := 515) rfl (by omega) (by decide) c_1; omega) hu _ _ _ (lv_sub hl [1, 0] rfl) Y
set_option maxHeartbeats 4000000 in
set_option maxRecDepth 100000 in
theorem c_undo8_2 (l : Launch) (D : va_G) (cyC cyI : ClassId) (mM : Nat) (mN : Nat) (mR : Nat) (mA : Nat) (mP : Nat) (mT : Nat) (mD : Nat) (le : Int32) (sp : Int32) (nw : Nat → Int32) (ps : Nat → Int32) (o0 : Int32) (o1 : Int32) (o2 : Nat → Int32) (hu : s_undo8_2 nw ps = (o0, o1, o2)) : CI l yX8_undo wsX8_undo { frames := 0, cells := 0, slots := 0, locals := 0 } D cyC cyI [.ref mM] [(mM, .inr (8, [.ref mN, .ref mR, .ref mA, .ref mP, .int 2, .ref mT, .int le, .int sp, .ref mD])), (mN, .inl (cyI, 515, .inl nw)), (mP, .inl (cyI, 2060, .inl ps))] o0 [(mM, .inr (8, [.ref mN, .ref mR, .ref mA, .ref mP, .int o1, .ref mT, .int le, .int sp, .ref mD])), (mN, .inl (cyI, 515, .inl o2)), (mP, .inl (cyI, 2060, .inl ps))] := by
  refine CI.of (cc := cX8_undo) (n := 2) (ret := (some .int)) (by decide +kernel) rfl (Nat.le_of_ble_eq_true rfl) ?_
  intro p_ e_ s_ m_ bl_ me_ cd_ A_ ls X Y hr hlk hl
  have hx := X.1.1
  have hb := X.1.2.1
  have hl : lv_has ls 2 [(0, .ref mM)] := hl
  unfold s_undo8_2 at hu
  refine lv_aload_n hx hb dX8_undo_0 rfl (lv_at hl 0 rfl) ?_
  refine bGet (v := .int 2) (T := TX8) (N := 9) (ci := 8) X Y i_X8_undo_X8 0 rfl rfl 4 (Nat.le_of_ble_eq_true rfl) f_X8_undo_38 rfl rfl dX8_undo_1 ?_
  refine lv_if_ne (tgt := 10) hx hb dX8_undo_4 (by decide) (fun _ => ?_) (fun c_ => absurd c_ (by decide))
  refine lv_aload_n hx hb dX8_undo_10 rfl (lv_at hl 0 rfl) ?_
  refine lv_dup hx hb dX8_undo_11 rfl ?_
  refine bGet (v := .int 2) (T := TX8) (N := 9) (ci := 8) X Y i_X8_undo_X8 0 rfl rfl 4 (Nat.le_of_ble_eq_true rfl) f_X8_undo_38 rfl rfl dX8_undo_12 ?_
  refine lv_iconst (v := 1) hx hb dX8_undo_15 (by decide) ?_
  refine bSub (v := 1) X dX8_undo_16 (by decide) ?_
  refine bPut (T := TX8) (N := 9) (ci := 8) (ws' := [(mM, .inr (8, [.ref mN, .ref mR, .ref mA, .ref mP, .int 1, .ref mT, .int le, .int sp, .ref mD])), (mN, .inl (cyI, 515, .inl nw)), (mP, .inl (cyI, 2060, .inl ps))]) X Y i_X8_undo_X8 tyX8 tyX8_ok nmX8 0 rfl rfl 4 (Nat.le_of_ble_eq_true rfl) f_X8_undo_38 rfl rfl rfl rfl (Nat.le_of_ble_eq_true rfl) rfl dX8_undo_17 (fun H locs Y => ?_)
  refine lv_iconst (v := 0) hx hb dX8_undo_20 (by decide) ?_
  refine lv_istore_n (lv' := [(1, .int 0), (0, .ref mM)]) hx hb dX8_undo_21 rfl hl (by decide) rfl (fun ls hl => ?_)
  exact lp_undo8_2 l D cyC cyI mM mN mR mA mP mT mD le sp nw ps o0 o1 o2 X hr hlk (516) 0 nw (by omega) (by omega) hu _ _ _ (lv_sub hl [1, 0] rfl) Y
def g_undo8_3 (ps : Nat → Int32) : Nat → Nat → (Nat → Int32) → Int32 × Int32 × (Nat → Int32)
  | 0, _, _ => (0, 0, fun _ => 0)
  | n_ + 1, j, ng =>
    if 515 ≤ nI j then
      (2, 2, ng)
    else
      g_undo8_3 ps n_ (j + 1) (upd ng j (ps (j + 1030)))
def s_undo8_3 (nw : Nat → Int32) (ps : Nat → Int32) : Int32 × Int32 × (Nat → Int32) :=
  g_undo8_3 ps (516) 0 nw
set_option maxHeartbeats 4000000 in
set_option maxRecDepth 100000 in
theorem lp_undo8_3 {p_ : Program} {e_ : Env} {s_ : State} {m_ : MethodId} {bl_ : List Frame} {me_ : Method} {cd_ : Code} {A_ : Nat → Prop} (l : Launch) (D : va_G) (cyC cyI : ClassId) (mM : Nat) (mN : Nat) (mR : Nat) (mA : Nat) (mP : Nat) (mT : Nat) (mD : Nat) (le : Int32) (sp : Int32) (nw : Nat → Int32) (ps : Nat → Int32) (o0 : Int32) (o1 : Int32) (o2 : Nat → Int32) (X : bX p_ s_ m_ ([.ref mM] : List Value).toArray cd_ cX8_undo 2 wsX8_undo yX8_undo.cls D cyC cyI) (hr : me_.sig.returnType = (some .int)) (hlk : me_.locks = false) : ∀ (n_ : Nat) (j : Nat) (ng : Nat → Int32) (hN : 516 ≤ j + n_) (hJ : j ≤ 515) (hu : g_undo8_3 ps n_ j ng = (o0, o1, o2)) (ls : Array Slot) (H : Heap) (locs : List Loc), lv_has ls 2 [(0, .ref mM), (1, .int (nI j))] → bY D A_ s_.heap [(mM, .inr (8, [.ref mN, .ref mR, .ref mA, .ref mP, .int 2, .ref mT, .int le, .int sp, .ref mD])), (mN, .inl (cyI, 515, .inl ng)), (mP, .inl (cyI, 2060, .inl ps))] H locs → W p_ l e_ ({ frames := 0, cells := 0, slots := 0, locals := 0 } : Room) s_ m_ ([.ref mM] : List Value).toArray bl_ me_ cd_ H locs 0 0 (bQI bl_ ([.ref mM] : List Value).toArray s_ D [(mM, .inr (8, [.ref mN, .ref mR, .ref mA, .ref mP, .int o1, .ref mT, .int le, .int sp, .ref mD])), (mN, .inl (cyI, 515, .inl o2)), (mP, .inl (cyI, 2060, .inl ps))] o0 A_) (F0 m_ 22 ls []) := by
  intro n_
  induction n_ with
  | zero =>
    intro j ng hN hJ hu ls H locs hl Y
    exfalso; omega
  | succ n_ ih =>
    intro j ng hN hJ hu ls H locs hl Y
    have hx := X.1.1
    have hb := X.1.2.1
    rw [g_undo8_3] at hu
    refine lv_iload_n hx hb dX8_undo_22 rfl (lv_at hl 1 rfl) ?_
    refine lv_sipush (v := 515) hx hb dX8_undo_23 (by decide) ?_
    refine lv_icmp_ge (tgt := 56) hx hb dX8_undo_26 (by decide) (fun c_1 => ?_) (fun c_1 => ?_)
    · have c_1 : 515 ≤ nI j := c_1
      rw [if_pos c_1] at hu
      refine lv_aload_n hx hb dX8_undo_56 rfl (lv_at hl 0 rfl) ?_
      refine bGet (v := .int 2) (T := TX8) (N := 9) (ci := 8) X Y i_X8_undo_X8 0 rfl rfl 4 (Nat.le_of_ble_eq_true rfl) f_X8_undo_38 rfl rfl dX8_undo_57 ?_
      have h9 := (Prod.mk.inj hu).1; replace hu := (Prod.mk.inj hu).2; subst h9
      have h9 := (Prod.mk.inj hu).1; replace hu := (Prod.mk.inj hu).2; subst h9
      subst hu
      exact bEndI X Y hr hlk dX8_undo_60 rfl rfl
    · have c_1 : ¬ (515 ≤ nI j) := c_1
      rw [if_neg c_1] at hu
      refine lv_aload_n hx hb dX8_undo_29 rfl (lv_at hl 0 rfl) ?_
      refine bGet (v := .ref mN) (T := TX8) (N := 9) (ci := 8) X Y i_X8_undo_X8 0 rfl rfl 0 (Nat.le_of_ble_eq_true rfl) f_X8_undo_7 rfl rfl dX8_undo_30 ?_
      refine lv_iload_n hx hb dX8_undo_33 rfl (lv_at hl 1 rfl) ?_
      refine lv_aload_n hx hb dX8_undo_34 rfl (lv_at hl 0 rfl) ?_
      refine bGet (v := .ref mP) (T := TX8) (N := 9) (ci := 8) X Y i_X8_undo_X8 0 rfl rfl 3 (Nat.le_of_ble_eq_true rfl) f_X8_undo_19 rfl rfl dX8_undo_35 ?_
      refine lv_sipush (v := 515) hx hb dX8_undo_38 (by decide) ?_
      refine lv_aload_n hx hb dX8_undo_41 rfl (lv_at hl 0 rfl) ?_
      refine bGet (v := .int 2) (T := TX8) (N := 9) (ci := 8) X Y i_X8_undo_X8 0 rfl rfl 4 (Nat.le_of_ble_eq_true rfl) f_X8_undo_38 rfl rfl dX8_undo_42 ?_
      refine bMul (v := 1030) X dX8_undo_45 (by decide) ?_
      refine lv_iload_n hx hb dX8_undo_46 rfl (lv_at hl 1 rfl) ?_
      refine bAdd (v := nI (j + 1030)) X dX8_undo_47 (nI_sum (a := 1030) (b := j) rfl rfl (by omega)) ?_
      refine bIald (v := ps (j + 1030)) X Y 2 rfl (by have h9 := bNle (k := 515) rfl (by omega) (by decide) c_1; exact bIn (by omega) (by decide)) dX8_undo_48 (bIdx (by omega)) ?_
      refine bIast (f' := upd ng j (ps (j + 1030))) (ws' := [(mM, .inr (8, [.ref mN, .ref mR, .ref mA, .ref mP, .int 2, .ref mT, .int le, .int sp, .ref mD])), (mN, .inl (cyI, 515, .inl (upd ng j (ps (j + 1030))))), (mP, .inl (cyI, 2060, .inl ps))]) X Y 1 rfl (by have h9 := bNle (k := 515) rfl (by omega) (by decide) c_1; exact bIn (by omega) (by decide)) (bIdxs (by omega)) rfl dX8_undo_49 (fun H locs Y => ?_)
      refine lv_iinc (v := nI (j + 1)) (lv' := [(1, .int (nI (j + 1))), (0, .ref mM)]) hx hb dX8_undo_50 hl (k := 1) rfl (nI_inc _) (by decide) rfl (fun ls hl => ?_)
      refine lv_goto (tgt := 22) hx hb dX8_undo_53 (by decide) ?_
      exact ih (j + 1) (upd ng j (ps (j + 1030))) (by omega) (by have := bNle (k := 515) rfl (by omega) (by decide) c_1; omega) hu _ _ _ (lv_sub hl [1, 0] rfl) Y
set_option maxHeartbeats 4000000 in
set_option maxRecDepth 100000 in
theorem c_undo8_3 (l : Launch) (D : va_G) (cyC cyI : ClassId) (mM : Nat) (mN : Nat) (mR : Nat) (mA : Nat) (mP : Nat) (mT : Nat) (mD : Nat) (le : Int32) (sp : Int32) (nw : Nat → Int32) (ps : Nat → Int32) (o0 : Int32) (o1 : Int32) (o2 : Nat → Int32) (hu : s_undo8_3 nw ps = (o0, o1, o2)) : CI l yX8_undo wsX8_undo { frames := 0, cells := 0, slots := 0, locals := 0 } D cyC cyI [.ref mM] [(mM, .inr (8, [.ref mN, .ref mR, .ref mA, .ref mP, .int 3, .ref mT, .int le, .int sp, .ref mD])), (mN, .inl (cyI, 515, .inl nw)), (mP, .inl (cyI, 2060, .inl ps))] o0 [(mM, .inr (8, [.ref mN, .ref mR, .ref mA, .ref mP, .int o1, .ref mT, .int le, .int sp, .ref mD])), (mN, .inl (cyI, 515, .inl o2)), (mP, .inl (cyI, 2060, .inl ps))] := by
  refine CI.of (cc := cX8_undo) (n := 2) (ret := (some .int)) (by decide +kernel) rfl (Nat.le_of_ble_eq_true rfl) ?_
  intro p_ e_ s_ m_ bl_ me_ cd_ A_ ls X Y hr hlk hl
  have hx := X.1.1
  have hb := X.1.2.1
  have hl : lv_has ls 2 [(0, .ref mM)] := hl
  unfold s_undo8_3 at hu
  refine lv_aload_n hx hb dX8_undo_0 rfl (lv_at hl 0 rfl) ?_
  refine bGet (v := .int 3) (T := TX8) (N := 9) (ci := 8) X Y i_X8_undo_X8 0 rfl rfl 4 (Nat.le_of_ble_eq_true rfl) f_X8_undo_38 rfl rfl dX8_undo_1 ?_
  refine lv_if_ne (tgt := 10) hx hb dX8_undo_4 (by decide) (fun _ => ?_) (fun c_ => absurd c_ (by decide))
  refine lv_aload_n hx hb dX8_undo_10 rfl (lv_at hl 0 rfl) ?_
  refine lv_dup hx hb dX8_undo_11 rfl ?_
  refine bGet (v := .int 3) (T := TX8) (N := 9) (ci := 8) X Y i_X8_undo_X8 0 rfl rfl 4 (Nat.le_of_ble_eq_true rfl) f_X8_undo_38 rfl rfl dX8_undo_12 ?_
  refine lv_iconst (v := 1) hx hb dX8_undo_15 (by decide) ?_
  refine bSub (v := 2) X dX8_undo_16 (by decide) ?_
  refine bPut (T := TX8) (N := 9) (ci := 8) (ws' := [(mM, .inr (8, [.ref mN, .ref mR, .ref mA, .ref mP, .int 2, .ref mT, .int le, .int sp, .ref mD])), (mN, .inl (cyI, 515, .inl nw)), (mP, .inl (cyI, 2060, .inl ps))]) X Y i_X8_undo_X8 tyX8 tyX8_ok nmX8 0 rfl rfl 4 (Nat.le_of_ble_eq_true rfl) f_X8_undo_38 rfl rfl rfl rfl (Nat.le_of_ble_eq_true rfl) rfl dX8_undo_17 (fun H locs Y => ?_)
  refine lv_iconst (v := 0) hx hb dX8_undo_20 (by decide) ?_
  refine lv_istore_n (lv' := [(1, .int 0), (0, .ref mM)]) hx hb dX8_undo_21 rfl hl (by decide) rfl (fun ls hl => ?_)
  exact lp_undo8_3 l D cyC cyI mM mN mR mA mP mT mD le sp nw ps o0 o1 o2 X hr hlk (516) 0 nw (by omega) (by omega) hu _ _ _ (lv_sub hl [1, 0] rfl) Y
def g_undo8_4 (ps : Nat → Int32) : Nat → Nat → (Nat → Int32) → Int32 × Int32 × (Nat → Int32)
  | 0, _, _ => (0, 0, fun _ => 0)
  | n_ + 1, j, ng =>
    if 515 ≤ nI j then
      (3, 3, ng)
    else
      g_undo8_4 ps n_ (j + 1) (upd ng j (ps (j + 1545)))
def s_undo8_4 (nw : Nat → Int32) (ps : Nat → Int32) : Int32 × Int32 × (Nat → Int32) :=
  g_undo8_4 ps (516) 0 nw
set_option maxHeartbeats 4000000 in
set_option maxRecDepth 100000 in
theorem lp_undo8_4 {p_ : Program} {e_ : Env} {s_ : State} {m_ : MethodId} {bl_ : List Frame} {me_ : Method} {cd_ : Code} {A_ : Nat → Prop} (l : Launch) (D : va_G) (cyC cyI : ClassId) (mM : Nat) (mN : Nat) (mR : Nat) (mA : Nat) (mP : Nat) (mT : Nat) (mD : Nat) (le : Int32) (sp : Int32) (nw : Nat → Int32) (ps : Nat → Int32) (o0 : Int32) (o1 : Int32) (o2 : Nat → Int32) (X : bX p_ s_ m_ ([.ref mM] : List Value).toArray cd_ cX8_undo 2 wsX8_undo yX8_undo.cls D cyC cyI) (hr : me_.sig.returnType = (some .int)) (hlk : me_.locks = false) : ∀ (n_ : Nat) (j : Nat) (ng : Nat → Int32) (hN : 516 ≤ j + n_) (hJ : j ≤ 515) (hu : g_undo8_4 ps n_ j ng = (o0, o1, o2)) (ls : Array Slot) (H : Heap) (locs : List Loc), lv_has ls 2 [(0, .ref mM), (1, .int (nI j))] → bY D A_ s_.heap [(mM, .inr (8, [.ref mN, .ref mR, .ref mA, .ref mP, .int 3, .ref mT, .int le, .int sp, .ref mD])), (mN, .inl (cyI, 515, .inl ng)), (mP, .inl (cyI, 2060, .inl ps))] H locs → W p_ l e_ ({ frames := 0, cells := 0, slots := 0, locals := 0 } : Room) s_ m_ ([.ref mM] : List Value).toArray bl_ me_ cd_ H locs 0 0 (bQI bl_ ([.ref mM] : List Value).toArray s_ D [(mM, .inr (8, [.ref mN, .ref mR, .ref mA, .ref mP, .int o1, .ref mT, .int le, .int sp, .ref mD])), (mN, .inl (cyI, 515, .inl o2)), (mP, .inl (cyI, 2060, .inl ps))] o0 A_) (F0 m_ 22 ls []) := by
  intro n_
  induction n_ with
  | zero =>
    intro j ng hN hJ hu ls H locs hl Y
    exfalso; omega
  | succ n_ ih =>
    intro j ng hN hJ hu ls H locs hl Y
    have hx := X.1.1
    have hb := X.1.2.1
    rw [g_undo8_4] at hu
    refine lv_iload_n hx hb dX8_undo_22 rfl (lv_at hl 1 rfl) ?_
    refine lv_sipush (v := 515) hx hb dX8_undo_23 (by decide) ?_
    refine lv_icmp_ge (tgt := 56) hx hb dX8_undo_26 (by decide) (fun c_1 => ?_) (fun c_1 => ?_)
    · have c_1 : 515 ≤ nI j := c_1
      rw [if_pos c_1] at hu
      refine lv_aload_n hx hb dX8_undo_56 rfl (lv_at hl 0 rfl) ?_
      refine bGet (v := .int 3) (T := TX8) (N := 9) (ci := 8) X Y i_X8_undo_X8 0 rfl rfl 4 (Nat.le_of_ble_eq_true rfl) f_X8_undo_38 rfl rfl dX8_undo_57 ?_
      have h9 := (Prod.mk.inj hu).1; replace hu := (Prod.mk.inj hu).2; subst h9
      have h9 := (Prod.mk.inj hu).1; replace hu := (Prod.mk.inj hu).2; subst h9
      subst hu
      exact bEndI X Y hr hlk dX8_undo_60 rfl rfl
    · have c_1 : ¬ (515 ≤ nI j) := c_1
      rw [if_neg c_1] at hu
      refine lv_aload_n hx hb dX8_undo_29 rfl (lv_at hl 0 rfl) ?_
      refine bGet (v := .ref mN) (T := TX8) (N := 9) (ci := 8) X Y i_X8_undo_X8 0 rfl rfl 0 (Nat.le_of_ble_eq_true rfl) f_X8_undo_7 rfl rfl dX8_undo_30 ?_
      refine lv_iload_n hx hb dX8_undo_33 rfl (lv_at hl 1 rfl) ?_
      refine lv_aload_n hx hb dX8_undo_34 rfl (lv_at hl 0 rfl) ?_
      refine bGet (v := .ref mP) (T := TX8) (N := 9) (ci := 8) X Y i_X8_undo_X8 0 rfl rfl 3 (Nat.le_of_ble_eq_true rfl) f_X8_undo_19 rfl rfl dX8_undo_35 ?_
      refine lv_sipush (v := 515) hx hb dX8_undo_38 (by decide) ?_
      refine lv_aload_n hx hb dX8_undo_41 rfl (lv_at hl 0 rfl) ?_
      refine bGet (v := .int 3) (T := TX8) (N := 9) (ci := 8) X Y i_X8_undo_X8 0 rfl rfl 4 (Nat.le_of_ble_eq_true rfl) f_X8_undo_38 rfl rfl dX8_undo_42 ?_
      refine bMul (v := 1545) X dX8_undo_45 (by decide) ?_
      refine lv_iload_n hx hb dX8_undo_46 rfl (lv_at hl 1 rfl) ?_
      refine bAdd (v := nI (j + 1545)) X dX8_undo_47 (nI_sum (a := 1545) (b := j) rfl rfl (by omega)) ?_
      refine bIald (v := ps (j + 1545)) X Y 2 rfl (by have h9 := bNle (k := 515) rfl (by omega) (by decide) c_1; exact bIn (by omega) (by decide)) dX8_undo_48 (bIdx (by omega)) ?_
      refine bIast (f' := upd ng j (ps (j + 1545))) (ws' := [(mM, .inr (8, [.ref mN, .ref mR, .ref mA, .ref mP, .int 3, .ref mT, .int le, .int sp, .ref mD])), (mN, .inl (cyI, 515, .inl (upd ng j (ps (j + 1545))))), (mP, .inl (cyI, 2060, .inl ps))]) X Y 1 rfl (by have h9 := bNle (k := 515) rfl (by omega) (by decide) c_1; exact bIn (by omega) (by decide)) (bIdxs (by omega)) rfl dX8_undo_49 (fun H locs Y => ?_)
      refine lv_iinc (v := nI (j + 1)) (lv' := [(1, .int (nI (j + 1))), (0, .ref mM)]) hx hb dX8_undo_50 hl (k := 1) rfl (nI_inc _) (by decide) rfl (fun ls hl => ?_)
      refine lv_goto (tgt := 22) hx hb dX8_undo_53 (by decide) ?_
      exact ih (j + 1) (upd ng j (ps (j + 1545))) (by omega) (by have := bNle (k := 515) rfl (by omega) (by decide) c_1; omega) hu _ _ _ (lv_sub hl [1, 0] rfl) Y
set_option maxHeartbeats 4000000 in
set_option maxRecDepth 100000 in
theorem c_undo8_4 (l : Launch) (D : va_G) (cyC cyI : ClassId) (mM : Nat) (mN : Nat) (mR : Nat) (mA : Nat) (mP : Nat) (mT : Nat) (mD : Nat) (le : Int32) (sp : Int32) (nw : Nat → Int32) (ps : Nat → Int32) (o0 : Int32) (o1 : Int32) (o2 : Nat → Int32) (hu : s_undo8_4 nw ps = (o0, o1, o2)) : CI l yX8_undo wsX8_undo { frames := 0, cells := 0, slots := 0, locals := 0 } D cyC cyI [.ref mM] [(mM, .inr (8, [.ref mN, .ref mR, .ref mA, .ref mP, .int 4, .ref mT, .int le, .int sp, .ref mD])), (mN, .inl (cyI, 515, .inl nw)), (mP, .inl (cyI, 2060, .inl ps))] o0 [(mM, .inr (8, [.ref mN, .ref mR, .ref mA, .ref mP, .int o1, .ref mT, .int le, .int sp, .ref mD])), (mN, .inl (cyI, 515, .inl o2)), (mP, .inl (cyI, 2060, .inl ps))] := by
  refine CI.of (cc := cX8_undo) (n := 2) (ret := (some .int)) (by decide +kernel) rfl (Nat.le_of_ble_eq_true rfl) ?_
  intro p_ e_ s_ m_ bl_ me_ cd_ A_ ls X Y hr hlk hl
  have hx := X.1.1
  have hb := X.1.2.1
  have hl : lv_has ls 2 [(0, .ref mM)] := hl
  unfold s_undo8_4 at hu
  refine lv_aload_n hx hb dX8_undo_0 rfl (lv_at hl 0 rfl) ?_
  refine bGet (v := .int 4) (T := TX8) (N := 9) (ci := 8) X Y i_X8_undo_X8 0 rfl rfl 4 (Nat.le_of_ble_eq_true rfl) f_X8_undo_38 rfl rfl dX8_undo_1 ?_
  refine lv_if_ne (tgt := 10) hx hb dX8_undo_4 (by decide) (fun _ => ?_) (fun c_ => absurd c_ (by decide))
  refine lv_aload_n hx hb dX8_undo_10 rfl (lv_at hl 0 rfl) ?_
  refine lv_dup hx hb dX8_undo_11 rfl ?_
  refine bGet (v := .int 4) (T := TX8) (N := 9) (ci := 8) X Y i_X8_undo_X8 0 rfl rfl 4 (Nat.le_of_ble_eq_true rfl) f_X8_undo_38 rfl rfl dX8_undo_12 ?_
  refine lv_iconst (v := 1) hx hb dX8_undo_15 (by decide) ?_
  refine bSub (v := 3) X dX8_undo_16 (by decide) ?_
  refine bPut (T := TX8) (N := 9) (ci := 8) (ws' := [(mM, .inr (8, [.ref mN, .ref mR, .ref mA, .ref mP, .int 3, .ref mT, .int le, .int sp, .ref mD])), (mN, .inl (cyI, 515, .inl nw)), (mP, .inl (cyI, 2060, .inl ps))]) X Y i_X8_undo_X8 tyX8 tyX8_ok nmX8 0 rfl rfl 4 (Nat.le_of_ble_eq_true rfl) f_X8_undo_38 rfl rfl rfl rfl (Nat.le_of_ble_eq_true rfl) rfl dX8_undo_17 (fun H locs Y => ?_)
  refine lv_iconst (v := 0) hx hb dX8_undo_20 (by decide) ?_
  refine lv_istore_n (lv' := [(1, .int 0), (0, .ref mM)]) hx hb dX8_undo_21 rfl hl (by decide) rfl (fun ls hl => ?_)
  exact lp_undo8_4 l D cyC cyI mM mN mR mA mP mT mD le sp nw ps o0 o1 o2 X hr hlk (516) 0 nw (by omega) (by omega) hu _ _ _ (lv_sub hl [1, 0] rfl) Y
def s_undo8 (ch : Int32) (nw : Nat → Int32) (ps : Nat → Int32) : Int32 × Int32 × (Nat → Int32) := if ch = 0 then s_undo8_0 nw else if ch = 1 then s_undo8_1 nw ps else if ch = 2 then s_undo8_2 nw ps else if ch = 3 then s_undo8_3 nw ps else s_undo8_4 nw ps
theorem c_undo8 (l : Launch) (D : va_G) (cyC cyI : ClassId) (mM : Nat) (mN : Nat) (mR : Nat) (mA : Nat) (mP : Nat) (mT : Nat) (mD : Nat) (ch : Int32) (le : Int32) (sp : Int32) (nw : Nat → Int32) (ps : Nat → Int32) (o0 : Int32) (o1 : Int32) (o2 : Nat → Int32) (hu : s_undo8 ch nw ps = (o0, o1, o2)) (hch : ch = 0 ∨ ch = 1 ∨ ch = 2 ∨ ch = 3 ∨ ch = 4) : CI l yX8_undo wsX8_undo { frames := 0, cells := 0, slots := 0, locals := 0 } D cyC cyI [.ref mM] [(mM, .inr (8, [.ref mN, .ref mR, .ref mA, .ref mP, .int ch, .ref mT, .int le, .int sp, .ref mD])), (mN, .inl (cyI, 515, .inl nw)), (mP, .inl (cyI, 2060, .inl ps))] o0 [(mM, .inr (8, [.ref mN, .ref mR, .ref mA, .ref mP, .int o1, .ref mT, .int le, .int sp, .ref mD])), (mN, .inl (cyI, 515, .inl o2)), (mP, .inl (cyI, 2060, .inl ps))] := by
  unfold s_undo8 at hu
  rcases hch with h9 | h9 | h9 | h9 | h9
  · rw [if_pos h9] at hu
    subst h9; exact c_undo8_0 l D cyC cyI mM mN mR mA mP mT mD le sp nw ps o0 o1 o2 hu
  · rw [if_neg (by rw [h9]; decide), if_pos h9] at hu
    subst h9; exact c_undo8_1 l D cyC cyI mM mN mR mA mP mT mD le sp nw ps o0 o1 o2 hu
  · rw [if_neg (by rw [h9]; decide), if_neg (by rw [h9]; decide), if_pos h9] at hu
    subst h9; exact c_undo8_2 l D cyC cyI mM mN mR mA mP mT mD le sp nw ps o0 o1 o2 hu
  · rw [if_neg (by rw [h9]; decide), if_neg (by rw [h9]; decide), if_neg (by rw [h9]; decide), if_pos h9] at hu
    subst h9; exact c_undo8_3 l D cyC cyI mM mN mR mA mP mT mD le sp nw ps o0 o1 o2 hu
  · rw [if_neg (by rw [h9]; decide), if_neg (by rw [h9]; decide), if_neg (by rw [h9]; decide), if_neg (by rw [h9]; decide)] at hu
    subst h9; exact c_undo8_4 l D cyC cyI mM mN mR mA mP mT mD le sp nw ps o0 o1 o2 hu
