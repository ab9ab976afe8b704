theorem isWithin_hi {n lo hi : Int32} (h : s_isWithin n lo hi = true) : n ≤ hi := by
  unfold s_isWithin at h
  by_cases h1 : n < lo
  · rw [if_pos h1] at h; cases h
  · rw [if_neg h1] at h
    by_cases h2 : hi < n
    · rw [if_pos h2] at h; cases h
    · rw [Int32.le_iff_toInt_le]; rw [Int32.lt_iff_toInt_lt] at h2; omega
theorem isCrane_no {c : Int32} (h0 : ¬ c = 0) (h1 : ¬ c = 1) : ¬ s_isCrane c = true := by
  unfold s_isCrane
  rw [if_neg h0, if_neg h1]
  decide
theorem i_X7_write_X7 : ∀ w ∈ wsX70, w ∈ wsX7_write := by decide +kernel
theorem f_X7_write_10 : Cond.fieldLink RX7 10 "SwingCranes" "text" "LSwingCranes$Text;" ∈ wsX7_write := by decide +kernel
theorem hd_X6_isFull : bD1 yX6_isFull RX6 0 := by decide +kernel
theorem hd_X6_append : bD1 yX6_append RX6 1 := by decide +kernel
theorem i_X7_write_X6 : ∀ w ∈ wsX60, w ∈ wsX7_write := by decide +kernel
theorem f_X7_write_68 : Cond.fieldLink RX7 68 "SwingCranes$Text" "length" "I" ∈ wsX7_write := by decide +kernel
def s_write (xn : Int32) (xc : Nat → Int32) (w : Int32) : Int32 × Int32 × (Nat → Int32) :=
  if (s_isWithin w 32 126) = true then
    if (s_isFull xn) = true then
      ((-3), xn, xc)
    else
      match s_append xn xc ((w.toUInt32 % 65536).toInt32) with
      | (u_3_0, u_3_1) =>
        (u_3_0, u_3_0, u_3_1)
  else
    ((-1), xn, xc)
set_option maxHeartbeats 4000000 in
set_option maxRecDepth 100000 in
theorem c_write (l : Launch) (D : va_G) (cyC cyI : ClassId) (qM : Nat) (qT : Nat) (qQ : Nat) (qR : Nat) (qD : Nat) (qN : Nat) (q1 : Nat) (q2 : Nat) (q3 : Nat) (q4 : Nat) (ud : Int32) (qTt : Nat) (xn : Int32) (xi : Int32) (xc : Nat → Int32) (w : Int32) (o0 : Int32) (o1 : Int32) (o2 : Nat → Int32) (hu : s_write xn xc w = (o0, o1, o2)) : CI l yX7_write wsX7_write { frames := 1, cells := 0, slots := 0, locals := 22 } D cyC cyI [.ref qM, .int w] [(qM, .inr (7, [.ref qT, .ref qQ, .ref qR, .ref qD, .ref qN, .ref q1, .ref q2, .ref q3, .ref q4, .int ud])), (qT, .inr (6, [.ref qTt, .int xn, .int xi])), (qTt, .inl (cyC, 200, .inl xc))] o0 [(qM, .inr (7, [.ref qT, .ref qQ, .ref qR, .ref qD, .ref qN, .ref q1, .ref q2, .ref q3, .ref q4, .int ud])), (qT, .inr (6, [.ref qTt, .int o1, .int xi])), (qTt, .inl (cyC, 200, .inl o2))] := by
  refine CI.of (cc := cX7_write) (n := 2) (ret := (some .int)) (by decide +kernel) rfl (Nat.le_of_ble_eq_true rfl) ?_
  intro p_ e_ s_ m_ bl_ me_ cd_ A_ ls X Y hr hlk hl
  have hx := X.1.1
  have hb := X.1.2.1
  have hl : lv_has ls 2 [(0, .ref qM), (1, .int w)] := hl
  unfold s_write at hu
  refine lv_iload_n hx hb dX7_write_0 rfl (lv_at hl 1 rfl) ?_
  refine lv_bipush (v := 32) hx hb dX7_write_1 (by decide) ?_
  refine lv_bipush (v := 126) hx hb dX7_write_3 (by decide) ?_
  refine bSI (As := [.int w, .int 32, .int 126]) (rest := []) X Y (c_isWithin l D cyC cyI w 32 126 (s_isWithin w 32 126) rfl) gX7_write_X7_isWithin rfl ⟨rfl, rfl⟩ hd_X7_isWithin.2 ⟨(Nat.le_of_ble_eq_true rfl), (Nat.le_of_ble_eq_true rfl)⟩ rfl rfl hl.1 (Nat.le_of_ble_eq_true rfl) ⟨Nat.zero_le _, Nat.zero_le _⟩ dX7_write_5 (fun H locs Y => ?_)
  refine lv_if_ne (tgt := 13) hx hb dX7_write_8 (by decide) (fun c_1 => ?_) (fun c_1 => ?_)
  · have c_1 := bB_t c_1
    rw [if_pos c_1] at hu
    refine lv_aload_n hx hb dX7_write_13 rfl (lv_at hl 0 rfl) ?_
    refine bGet (v := .ref qT) (T := TX7) (N := 10) (ci := 7) X Y i_X7_write_X7 0 rfl rfl 0 (Nat.le_of_ble_eq_true rfl) f_X7_write_10 rfl rfl dX7_write_14 ?_
    refine bVI0 (As := []) (rest := []) (wc := [(qT, .inr (6, [.ref qTt, .int xn, .int xi])), (qTt, .inl (cyC, 200, .inl xc))]) (ci := 6) (q0 := 1) X Y (c_isFull l D cyC cyI qT qTt xn xi xc (s_isFull xn) rfl) gX7_write_X6_isFull rfl ⟨rfl, rfl⟩ hd_X6_isFull ⟨(Nat.le_of_ble_eq_true rfl), (Nat.le_of_ble_eq_true rfl)⟩ rfl rfl rfl [1, 2] rfl rfl rfl rfl hl.1 (Nat.le_of_ble_eq_true rfl) ⟨Nat.zero_le _, Nat.zero_le _⟩ dX7_write_17 (fun H locs Y => ?_)
    refine lv_if_eq (tgt := 26) hx hb dX7_write_20 (by decide) (fun c_2 => ?_) (fun c_2 => ?_)
    · have c_2 := bB_f c_2
      rw [if_neg c_2] at hu
      refine lv_aload_n hx hb dX7_write_26 rfl (lv_at hl 0 rfl) ?_
      refine bGet (v := .ref qT) (T := TX7) (N := 10) (ci := 7) X Y i_X7_write_X7 0 rfl rfl 0 (Nat.le_of_ble_eq_true rfl) f_X7_write_10 rfl rfl dX7_write_27 ?_
      refine lv_iload_n hx hb dX7_write_30 rfl (lv_at hl 1 rfl) ?_
      refine lv_i2c (v := (w.toUInt32 % 65536).toInt32) hx hb dX7_write_31 rfl ?_
      obtain ⟨u_3_0, u_3_1, hr_3⟩ := bEx2 (s_append xn xc ((w.toUInt32 % 65536).toInt32))
      rw [hr_3] at hu
      dsimp only at hu
      refine bVV (As := [.int ((w.toUInt32 % 65536).toInt32)]) (rest := []) (wc := [(qT, .inr (6, [.ref qTt, .int xn, .int xi])), (qTt, .inl (cyC, 200, .inl xc))]) (w1 := [(qT, .inr (6, [.ref qTt, .int u_3_0, .int xi])), (qTt, .inl (cyC, 200, .inl u_3_1))]) (ws' := [(qM, .inr (7, [.ref qT, .ref qQ, .ref qR, .ref qD, .ref qN, .ref q1, .ref q2, .ref q3, .ref q4, .int ud])), (qT, .inr (6, [.ref qTt, .int u_3_0, .int xi])), (qTt, .inl (cyC, 200, .inl u_3_1))]) (ad := [qT, qTt]) (wr := [(qM, .inr (7, [.ref qT, .ref qQ, .ref qR, .ref qD, .ref qN, .ref q1, .ref q2, .ref q3, .ref q4, .int ud]))]) (nn := 3) (ci := 6) (q0 := 1) X Y (c_append l D cyC cyI qT qTt xn xi xc ((w.toUInt32 % 65536).toInt32) u_3_0 u_3_1 hr_3) gX7_write_X6_append rfl ⟨rfl, rfl⟩ hd_X6_append ⟨(Nat.le_of_ble_eq_true rfl), (Nat.le_of_ble_eq_true rfl)⟩ rfl rfl rfl [1, 2] [0] rfl rfl rfl rfl rfl rfl rfl rfl (by decide) rfl rfl hl.1 (Nat.le_of_ble_eq_true rfl) ⟨Nat.zero_le _, Nat.zero_le _⟩ dX7_write_32 (fun H locs Y => ?_)
      refine lv_aload_n hx hb dX7_write_35 rfl (lv_at hl 0 rfl) ?_
      refine bGet (v := .ref qT) (T := TX7) (N := 10) (ci := 7) X Y i_X7_write_X7 0 rfl rfl 0 (Nat.le_of_ble_eq_true rfl) f_X7_write_10 rfl rfl dX7_write_36 ?_
      refine bGet (v := .int u_3_0) (T := TX6) (N := 3) (ci := 6) X Y i_X7_write_X6 1 rfl rfl 1 (Nat.le_of_ble_eq_true rfl) f_X7_write_68 rfl rfl dX7_write_39 ?_
      have h9 := (Prod.mk.inj hu).1; replace hu := (Prod.mk.inj hu).2; subst h9
      have h9 := (Prod.mk.inj hu).1; replace hu := (Prod.mk.inj hu).2; subst h9
      subst hu
      exact bEndI X Y hr hlk dX7_write_42 rfl rfl
    · have c_2 := bB_t c_2
      rw [if_pos c_2] at hu
      refine lv_bipush (v := (-3)) hx hb dX7_write_23 (by decide) ?_
      have h9 := (Prod.mk.inj hu).1; replace hu := (Prod.mk.inj hu).2; subst h9
      have h9 := (Prod.mk.inj hu).1; replace hu := (Prod.mk.inj hu).2; subst h9
      subst hu
      exact bEndI X Y hr hlk dX7_write_25 rfl rfl
  · have c_1 := bB_f c_1
    rw [if_neg c_1] at hu
    refine lv_iconst (v := (-1)) hx hb dX7_write_11 (by decide) ?_
    have h9 := (Prod.mk.inj hu).1; replace hu := (Prod.mk.inj hu).2; subst h9
    have h9 := (Prod.mk.inj hu).1; replace hu := (Prod.mk.inj hu).2; subst h9
    subst hu
    exact bEndI X Y hr hlk dX7_write_12 rfl rfl
theorem i_X7_wipe_X7 : ∀ w ∈ wsX70, w ∈ wsX7_wipe := by decide +kernel
theorem f_X7_wipe_10 : Cond.fieldLink RX7 10 "SwingCranes" "text" "LSwingCranes$Text;" ∈ wsX7_wipe := by decide +kernel
theorem i_X7_wipe_X6 : ∀ w ∈ wsX60, w ∈ wsX7_wipe := by decide +kernel
theorem f_X7_wipe_68 : Cond.fieldLink RX7 68 "SwingCranes$Text" "length" "I" ∈ wsX7_wipe := by decide +kernel
def s_wipe (xn : Int32) : Int32 :=
  xn
set_option maxHeartbeats 4000000 in
set_option maxRecDepth 100000 in
theorem c_wipe (l : Launch) (D : va_G) (cyC cyI : ClassId) (qM : Nat) (qT : Nat) (qQ : Nat) (qR : Nat) (qD : Nat) (qN : Nat) (q1 : Nat) (q2 : Nat) (q3 : Nat) (q4 : Nat) (ud : Int32) (qTt : Nat) (xn : Int32) (xi : Int32) (xc : Nat → Int32) (o0 : Int32) (hu : s_wipe xn = o0) : CI l yX7_wipe wsX7_wipe { frames := 0, cells := 0, slots := 0, locals := 0 } D cyC cyI [.ref qM] [(qM, .inr (7, [.ref qT, .ref qQ, .ref qR, .ref qD, .ref qN, .ref q1, .ref q2, .ref q3, .ref q4, .int ud])), (qT, .inr (6, [.ref qTt, .int xn, .int xi])), (qTt, .inl (cyC, 200, .inl xc))] o0 [(qM, .inr (7, [.ref qT, .ref qQ, .ref qR, .ref qD, .ref qN, .ref q1, .ref q2, .ref q3, .ref q4, .int ud])), (qT, .inr (6, [.ref qTt, .int 0, .int xi])), (qTt, .inl (cyC, 200, .inl xc))] := by
  refine CI.of (cc := cX7_wipe) (n := 2) (ret := (some .int)) (by decide +kernel) rfl (Nat.le_of_ble_eq_true rfl) ?_
  intro p_ e_ s_ m_ bl_ me_ cd_ A_ ls X Y hr hlk hl
  have hx := X.1.1
  have hb := X.1.2.1
  have hl : lv_has ls 2 [(0, .ref qM)] := hl
  unfold s_wipe at hu
  refine lv_aload_n hx hb dX7_wipe_0 rfl (lv_at hl 0 rfl) ?_
  refine bGet (v := .ref qT) (T := TX7) (N := 10) (ci := 7) X Y i_X7_wipe_X7 0 rfl rfl 0 (Nat.le_of_ble_eq_true rfl) f_X7_wipe_10 rfl rfl dX7_wipe_1 ?_
  refine bGet (v := .int xn) (T := TX6) (N := 3) (ci := 6) X Y i_X7_wipe_X6 1 rfl rfl 1 (Nat.le_of_ble_eq_true rfl) f_X7_wipe_68 rfl rfl dX7_wipe_4 ?_
  refine lv_istore_n (lv' := [(1, .int xn), (0, .ref qM)]) hx hb dX7_wipe_7 rfl hl (by decide) rfl (fun ls hl => ?_)
  refine lv_aload_n hx hb dX7_wipe_8 rfl (lv_at hl 1 rfl) ?_
  refine bGet (v := .ref qT) (T := TX7) (N := 10) (ci := 7) X Y i_X7_wipe_X7 0 rfl rfl 0 (Nat.le_of_ble_eq_true rfl) f_X7_wipe_10 rfl rfl dX7_wipe_9 ?_
  refine lv_iconst (v := 0) hx hb dX7_wipe_12 (by decide) ?_
  refine bPut (T := TX6) (N := 3) (ci := 6) (ws' := [(qM, .inr (7, [.ref qT, .ref qQ, .ref qR, .ref qD, .ref qN, .ref q1, .ref q2, .ref q3, .ref q4, .int ud])), (qT, .inr (6, [.ref qTt, .int 0, .int xi])), (qTt, .inl (cyC, 200, .inl xc))]) X Y i_X7_wipe_X6 tyX6 tyX6_ok nmX6 1 rfl rfl 1 (Nat.le_of_ble_eq_true rfl) f_X7_wipe_68 rfl rfl rfl rfl (Nat.le_of_ble_eq_true rfl) rfl dX7_wipe_13 (fun H locs Y => ?_)
  refine lv_iload_n hx hb dX7_wipe_16 rfl (lv_at hl 0 rfl) ?_
  subst hu
  exact bEndI X Y hr hlk dX7_wipe_17 rfl rfl
theorem i_X7_fault_X7 : ∀ w ∈ wsX70, w ∈ wsX7_fault := by decide +kernel
theorem f_X7_fault_10 : Cond.fieldLink RX7 10 "SwingCranes" "text" "LSwingCranes$Text;" ∈ wsX7_fault := by decide +kernel
theorem f_X7_fault_30 : Cond.fieldLink RX7 30 "SwingCranes" "draft" "LSwingCranes$Layout;" ∈ wsX7_fault := by decide +kernel
theorem hd_X6_readInto : bD1 yX6_readInto RX6 1 := by decide +kernel
def s_fault (xn : Int32) (xc : Nat → Int32) : Int32 × Int32 × Int32 × Int32 × Int32 × Int32 × Int32 × Int32 × Int32 × Int32 × Int32 × Int32 × Int32 :=
  match s_readInto xn xc with
  | (u_1_0, u_1_1, u_1_2, u_1_3, u_1_4, u_1_5, u_1_6, u_1_7, u_1_8, u_1_9, u_1_10, u_1_11, u_1_12) =>
    (u_1_0, u_1_1, u_1_2, u_1_3, u_1_4, u_1_5, u_1_6, u_1_7, u_1_8, u_1_9, u_1_10, u_1_11, u_1_12)
set_option maxHeartbeats 4000000 in
set_option maxRecDepth 100000 in
theorem c_fault (l : Launch) (D : va_G) (cyC cyI : ClassId) (qM : Nat) (qT : Nat) (qQ : Nat) (qR : Nat) (qD : Nat) (qN : Nat) (q1 : Nat) (q2 : Nat) (q3 : Nat) (q4 : Nat) (ud : Int32) (qTt : Nat) (xn : Int32) (xi : Int32) (xc : Nat → Int32) (d0 : Int32) (d1 : Int32) (d2 : Int32) (d3 : Int32) (d4 : Int32) (qDl : Nat) (dx0 : Int32) (dx1 : Int32) (dx2 : Int32) (qDr : Nat) (dy0 : Int32) (dy1 : Int32) (dy2 : Int32) (o0 : Int32) (o1 : Int32) (o2 : Int32) (o3 : Int32) (o4 : Int32) (o5 : Int32) (o6 : Int32) (o7 : Int32) (o8 : Int32) (o9 : Int32) (o10 : Int32) (o11 : Int32) (o12 : Int32) (hu : s_fault xn xc = (o0, o1, o2, o3, o4, o5, o6, o7, o8, o9, o10, o11, o12)) : CI l yX7_fault wsX7_fault { frames := 5, cells := 0, slots := 0, locals := 114 } D cyC cyI [.ref qM] [(qM, .inr (7, [.ref qT, .ref qQ, .ref qR, .ref qD, .ref qN, .ref q1, .ref q2, .ref q3, .ref q4, .int ud])), (qT, .inr (6, [.ref qTt, .int xn, .int xi])), (qTt, .inl (cyC, 200, .inl xc)), (qD, .inr (1, [.int d0, .int d1, .int d2, .int d3, .int d4, .ref qDl, .ref qDr])), (qDl, .inr (4, [.int dx0, .int dx1, .int dx2])), (qDr, .inr (4, [.int dy0, .int dy1, .int dy2]))] o0 [(qM, .inr (7, [.ref qT, .ref qQ, .ref qR, .ref qD, .ref qN, .ref q1, .ref q2, .ref q3, .ref q4, .int ud])), (qT, .inr (6, [.ref qTt, .int xn, .int o1])), (qTt, .inl (cyC, 200, .inl xc)), (qD, .inr (1, [.int o2, .int o3, .int o4, .int o5, .int o6, .ref qDl, .ref qDr])), (qDl, .inr (4, [.int o7, .int o8, .int o9])), (qDr, .inr (4, [.int o10, .int o11, .int o12]))] := by
  refine CI.of (cc := cX7_fault) (n := 1) (ret := (some .int)) (by decide +kernel) rfl (Nat.le_of_ble_eq_true rfl) ?_
  intro p_ e_ s_ m_ bl_ me_ cd_ A_ ls X Y hr hlk hl
  have hx := X.1.1
  have hb := X.1.2.1
  have hl : lv_has ls 1 [(0, .ref qM)] := hl
  unfold s_fault at hu
  refine lv_aload_n hx hb dX7_fault_0 rfl (lv_at hl 0 rfl) ?_
  refine bGet (v := .ref qT) (T := TX7) (N := 10) (ci := 7) X Y i_X7_fault_X7 0 rfl rfl 0 (Nat.le_of_ble_eq_true rfl) f_X7_fault_10 rfl rfl dX7_fault_1 ?_
  refine lv_aload_n hx hb dX7_fault_4 rfl (lv_at hl 0 rfl) ?_
  refine bGet (v := .ref qD) (T := TX7) (N := 10) (ci := 7) X Y i_X7_fault_X7 0 rfl rfl 3 (Nat.le_of_ble_eq_true rfl) f_X7_fault_30 rfl rfl dX7_fault_5 ?_
  obtain ⟨u_1_0, u_1_1, u_1_2, u_1_3, u_1_4, u_1_5, u_1_6, u_1_7, u_1_8, u_1_9, u_1_10, u_1_11, u_1_12, hr_1⟩ := bEx13 (s_readInto xn xc)
  rw [hr_1] at hu
  dsimp only at hu
  refine bVI (As := [.ref qD]) (rest := []) (wc := [(qT, .inr (6, [.ref qTt, .int xn, .int xi])), (qTt, .inl (cyC, 200, .inl xc)), (qD, .inr (1, [.int d0, .int d1, .int d2, .int d3, .int d4, .ref qDl, .ref qDr])), (qDl, .inr (4, [.int dx0, .int dx1, .int dx2])), (qDr, .inr (4, [.int dy0, .int dy1, .int dy2]))]) (w1 := [(qT, .inr (6, [.ref qTt, .int xn, .int u_1_1])), (qTt, .inl (cyC, 200, .inl xc)), (qD, .inr (1, [.int u_1_2, .int u_1_3, .int u_1_4, .int u_1_5, .int u_1_6, .ref qDl, .ref qDr])), (qDl, .inr (4, [.int u_1_7, .int u_1_8, .int u_1_9])), (qDr, .inr (4, [.int u_1_10, .int u_1_11, .int u_1_12]))]) (ws' := [(qM, .inr (7, [.ref qT, .ref qQ, .ref qR, .ref qD, .ref qN, .ref q1, .ref q2, .ref q3, .ref q4, .int ud])), (qT, .inr (6, [.ref qTt, .int xn, .int u_1_1])), (qTt, .inl (cyC, 200, .inl xc)), (qD, .inr (1, [.int u_1_2, .int u_1_3, .int u_1_4, .int u_1_5, .int u_1_6, .ref qDl, .ref qDr])), (qDl, .inr (4, [.int u_1_7, .int u_1_8, .int u_1_9])), (qDr, .inr (4, [.int u_1_10, .int u_1_11, .int u_1_12]))]) (ad := [qT, qTt, qD, qDl, qDr]) (wr := [(qM, .inr (7, [.ref qT, .ref qQ, .ref qR, .ref qD, .ref qN, .ref q1, .ref q2, .ref q3, .ref q4, .int ud]))]) (nn := 6) (ci := 6) (q0 := 1) X Y (c_readInto l D cyC cyI qT qTt xn xi xc qD d0 d1 d2 d3 d4 qDl dx0 dx1 dx2 qDr dy0 dy1 dy2 u_1_0 u_1_1 u_1_2 u_1_3 u_1_4 u_1_5 u_1_6 u_1_7 u_1_8 u_1_9 u_1_10 u_1_11 u_1_12 hr_1) gX7_fault_X6_readInto rfl ⟨rfl, rfl⟩ hd_X6_readInto ⟨(Nat.le_of_ble_eq_true rfl), (Nat.le_of_ble_eq_true rfl)⟩ rfl rfl rfl [1, 2, 3, 4, 5] [0] rfl rfl rfl rfl rfl rfl rfl rfl (by decide) rfl rfl hl.1 (Nat.le_of_ble_eq_true rfl) ⟨Nat.zero_le _, Nat.zero_le _⟩ dX7_fault_8 (fun H locs Y => ?_)
  have h9 := (Prod.mk.inj hu).1; replace hu := (Prod.mk.inj hu).2; subst h9
  have h9 := (Prod.mk.inj hu).1; replace hu := (Prod.mk.inj hu).2; subst h9
  have h9 := (Prod.mk.inj hu).1; replace hu := (Prod.mk.inj hu).2; subst h9
  have h9 := (Prod.mk.inj hu).1; replace hu := (Prod.mk.inj hu).2; subst h9
  have h9 := (Prod.mk.inj hu).1; replace hu := (Prod.mk.inj hu).2; subst h9
  have h9 := (Prod.mk.inj hu).1; replace hu := (Prod.mk.inj hu).2; subst h9
  have h9 := (Prod.mk.inj hu).1; replace hu := (Prod.mk.inj hu).2; subst h9
  have h9 := (Prod.mk.inj hu).1; replace hu := (Prod.mk.inj hu).2; subst h9
  have h9 := (Prod.mk.inj hu).1; replace hu := (Prod.mk.inj hu).2; subst h9
  have h9 := (Prod.mk.inj hu).1; replace hu := (Prod.mk.inj hu).2; subst h9
  have h9 := (Prod.mk.inj hu).1; replace hu := (Prod.mk.inj hu).2; subst h9
  have h9 := (Prod.mk.inj hu).1; replace hu := (Prod.mk.inj hu).2; subst h9
  subst hu
  exact bEndI X Y hr hlk dX7_fault_11 rfl rfl
theorem i_X7_keepForUndo_X7 : ∀ w ∈ wsX70, w ∈ wsX7_keepForUndo := by decide +kernel
theorem f_X7_keepForUndo_49 : Cond.fieldLink RX7 49 "SwingCranes" "fourthBack" "LSwingCranes$Story;" ∈ wsX7_keepForUndo := by decide +kernel
theorem f_X7_keepForUndo_46 : Cond.fieldLink RX7 46 "SwingCranes" "thirdBack" "LSwingCranes$Story;" ∈ wsX7_keepForUndo := by decide +kernel
theorem f_X7_keepForUndo_43 : Cond.fieldLink RX7 43 "SwingCranes" "secondBack" "LSwingCranes$Story;" ∈ wsX7_keepForUndo := by decide +kernel
theorem f_X7_keepForUndo_40 : Cond.fieldLink RX7 40 "SwingCranes" "firstBack" "LSwingCranes$Story;" ∈ wsX7_keepForUndo := by decide +kernel
theorem f_X7_keepForUndo_36 : Cond.fieldLink RX7 36 "SwingCranes" "now" "LSwingCranes$Story;" ∈ wsX7_keepForUndo := by decide +kernel
theorem hd_X5_copyFrom : bD1 yX5_copyFrom RX5 1 := by decide +kernel
theorem f_X7_keepForUndo_79 : Cond.fieldLink RX7 79 "SwingCranes" "undoable" "I" ∈ wsX7_keepForUndo := by decide +kernel
theorem m_X7_keepForUndo_239 : Cond.methodLink RX7 239 Lib.Math.min.name ∈ wsX7_keepForUndo := by decide +kernel
theorem ms_X7_keepForUndo_min : Cond.static Lib.Math.min.name ∈ wsX7_keepForUndo := by decide +kernel
theorem mi_X7_keepForUndo : Cond.initialized "java/lang/Math" ∈ wsX7_keepForUndo := by decide +kernel
theorem mc_X7_keepForUndo_min : Cond.code Lib.Math.min.name Lib.Math.min.code 2 (some .int) ∈ wsX7_keepForUndo := by decide +kernel
def s_keepForUndo (nsm : Int32) (nsf : Nat → Int32) (nsg : Nat → Int32) (nzm : Int32) (nzf : Nat → Int32) (nzg : Nat → Int32) (fsf : Nat → Int32) (fsg : Nat → Int32) (fzf : Nat → Int32) (fzg : Nat → Int32) : (Nat → Int32) × (Nat → Int32) × (Nat → Int32) × (Nat → Int32) :=
  match s_storyCopy fsf fsg fzf fzg nsm nsf nsg nzm nzf nzg with
  | (u_1_0, u_1_1, u_1_2, u_1_3) =>
    (u_1_0, u_1_1, u_1_2, u_1_3)
set_option maxHeartbeats 4000000 in
set_option maxRecDepth 100000 in
theorem c_keepForUndo (l : Launch) (D : va_G) (cyC cyI : ClassId) (qM : Nat) (qT : Nat) (qQ : Nat) (qR : Nat) (qD : Nat) (qN : Nat) (q1 : Nat) (q2 : Nat) (q3 : Nat) (q4 : Nat) (ud : Int32) (nk : Int32) (qNp : Nat) (nv : Int32) (qNpl : Nat) (nl0 : Int32) (nl1 : Int32) (nl2 : Int32) (nl3 : Int32) (nl4 : Int32) (nl5 : Int32) (nl6 : Int32) (nl7 : Int32) (nl8 : Int32) (nl9 : Int32) (nl10 : Int32) (nl11 : Int32) (nlb : Bool) (qNpr : Nat) (nr0 : Int32) (nr1 : Int32) (nr2 : Int32) (nr3 : Int32) (nr4 : Int32) (nr5 : Int32) (nr6 : Int32) (nr7 : Int32) (nr8 : Int32) (nr9 : Int32) (nr10 : Int32) (nr11 : Int32) (nrb : Bool) (qNs : Nat) (qNsn : Nat) (qNst : Nat) (nsm : Int32) (nsf : Nat → Int32) (nsg : Nat → Int32) (qNz : Nat) (qNzn : Nat) (qNzt : Nat) (nzm : Int32) (nzf : Nat → Int32) (nzg : Nat → Int32) (fk : Int32) (q4p : Nat) (fv : Int32) (q4pl : Nat) (fl0 : Int32) (fl1 : Int32) (fl2 : Int32) (fl3 : Int32) (fl4 : Int32) (fl5 : Int32) (fl6 : Int32) (fl7 : Int32) (fl8 : Int32) (fl9 : Int32) (fl10 : Int32) (fl11 : Int32) (flb : Bool) (q4pr : Nat) (fr0 : Int32) (fr1 : Int32) (fr2 : Int32) (fr3 : Int32) (fr4 : Int32) (fr5 : Int32) (fr6 : Int32) (fr7 : Int32) (fr8 : Int32) (fr9 : Int32) (fr10 : Int32) (fr11 : Int32) (frb : Bool) (q4s : Nat) (q4sn : Nat) (q4st : Nat) (fsm : Int32) (fsf : Nat → Int32) (fsg : Nat → Int32) (q4z : Nat) (q4zn : Nat) (q4zt : Nat) (fzm : Int32) (fzf : Nat → Int32) (fzg : Nat → Int32) (o0 : Nat → Int32) (o1 : Nat → Int32) (o2 : Nat → Int32) (o3 : Nat → Int32) (hu : s_keepForUndo nsm nsf nsg nzm nzf nzg fsf fsg fzf fzg = (o0, o1, o2, o3)) : CV l yX7_keepForUndo wsX7_keepForUndo { frames := 3, cells := 0, slots := 0, locals := 66 } D cyC cyI [.ref qM] [(qM, .inr (7, [.ref qT, .ref qQ, .ref qR, .ref qD, .ref qN, .ref q1, .ref q2, .ref q3, .ref q4, .int ud])), (qN, .inr (5, [.ref qNp, .ref qNs, .ref qNz, .int nk])), (qNp, .inr (2, [.ref qNpl, .ref qNpr, .int nv])), (qNpl, .inr (0, [.int nl0, .int nl1, .int nl2, .int nl3, .int nl4, .int nl5, .int nl6, .int nl7, .int nl8, .int nl9, .int nl10, .int nl11, .int (bB nlb)])), (qNpr, .inr (0, [.int nr0, .int nr1, .int nr2, .int nr3, .int nr4, .int nr5, .int nr6, .int nr7, .int nr8, .int nr9, .int nr10, .int nr11, .int (bB nrb)])), (qNs, .inr (3, [.ref qNsn, .ref qNst, .int nsm])), (qNsn, .inl (cyI, 120, .inl nsf)), (qNst, .inl (cyI, 120, .inl nsg)), (qNz, .inr (3, [.ref qNzn, .ref qNzt, .int nzm])), (qNzn, .inl (cyI, 120, .inl nzf)), (qNzt, .inl (cyI, 120, .inl nzg)), (q4, .inr (5, [.ref q4p, .ref q4s, .ref q4z, .int fk])), (q4p, .inr (2, [.ref q4pl, .ref q4pr, .int fv])), (q4pl, .inr (0, [.int fl0, .int fl1, .int fl2, .int fl3, .int fl4, .int fl5, .int fl6, .int fl7, .int fl8, .int fl9, .int fl10, .int fl11, .int (bB flb)])), (q4pr, .inr (0, [.int fr0, .int fr1, .int fr2, .int fr3, .int fr4, .int fr5, .int fr6, .int fr7, .int fr8, .int fr9, .int fr10, .int fr11, .int (bB frb)])), (q4s, .inr (3, [.ref q4sn, .ref q4st, .int fsm])), (q4sn, .inl (cyI, 120, .inl fsf)), (q4st, .inl (cyI, 120, .inl fsg)), (q4z, .inr (3, [.ref q4zn, .ref q4zt, .int fzm])), (q4zn, .inl (cyI, 120, .inl fzf)), (q4zt, .inl (cyI, 120, .inl fzg))] [(qM, .inr (7, [.ref qT, .ref qQ, .ref qR, .ref qD, .ref qN, .ref q4, .ref q1, .ref q2, .ref q3, .int (if 4 < (ud + 1) then 4 else (ud + 1))])), (qN, .inr (5, [.ref qNp, .ref qNs, .ref qNz, .int nk])), (qNp, .inr (2, [.ref qNpl, .ref qNpr, .int nv])), (qNpl, .inr (0, [.int nl0, .int nl1, .int nl2, .int nl3, .int nl4, .int nl5, .int nl6, .int nl7, .int nl8, .int nl9, .int nl10, .int nl11, .int (bB nlb)])), (qNpr, .inr (0, [.int nr0, .int nr1, .int nr2, .int nr3, .int nr4, .int nr5, .int nr6, .int nr7, .int nr8, .int nr9, .int nr10, .int nr11, .int (bB nrb)])), (qNs, .inr (3, [.ref qNsn, .ref qNst, .int nsm])), (qNsn, .inl (cyI, 120, .inl nsf)), (qNst, .inl (cyI, 120, .inl nsg)), (qNz, .inr (3, [.ref qNzn, .ref qNzt, .int nzm])), (qNzn, .inl (cyI, 120, .inl nzf)), (qNzt, .inl (cyI, 120, .inl nzg)), (q4, .inr (5, [.ref q4p, .ref q4s, .ref q4z, .int nk])), (q4p, .inr (2, [.ref q4pl, .ref q4pr, .int nv])), (q4pl, .inr (0, [.int nl0, .int nl1, .int nl2, .int nl3, .int nl4, .int nl5, .int nl6, .int nl7, .int nl8, .int nl9, .int nl10, .int nl11, .int (bB nlb)])), (q4pr, .inr (0, [.int nr0, .int nr1, .int nr2, .int nr3, .int nr4, .int nr5, .int nr6, .int nr7, .int nr8, .int nr9, .int nr10, .int nr11, .int (bB nrb)])), (q4s, .inr (3, [.ref q4sn, .ref q4st, .int nsm])), (q4sn, .inl (cyI, 120, .inl o0)), (q4st, .inl (cyI, 120, .inl o1)), (q4z, .inr (3, [.ref q4zn, .ref q4zt, .int nzm])), (q4zn, .inl (cyI, 120, .inl o2)), (q4zt, .inl (cyI, 120, .inl o3))] := by
  refine CV.of (cc := cX7_keepForUndo) (n := 2) (ret := none) (by decide +kernel) rfl (Nat.le_of_ble_eq_true rfl) ?_
  intro p_ e_ s_ m_ bl_ me_ cd_ A_ ls X Y hr hlk hl
  have hx := X.1.1
  have hb := X.1.2.1
  have hl : lv_has ls 2 [(0, .ref qM)] := hl
  unfold s_keepForUndo at hu
  refine lv_aload_n hx hb dX7_keepForUndo_0 rfl (lv_at hl 0 rfl) ?_
  refine bGet (v := .ref q4) (T := TX7) (N := 10) (ci := 7) X Y i_X7_keepForUndo_X7 0 rfl rfl 8 (Nat.le_of_ble_eq_true rfl) f_X7_keepForUndo_49 rfl rfl dX7_keepForUndo_1 ?_
  refine lv_astore_n (lv' := [(1, .ref q4), (0, .ref qM)]) hx hb dX7_keepForUndo_4 rfl hl (by decide) rfl (fun ls hl => ?_)
  refine lv_aload_n hx hb dX7_keepForUndo_5 rfl (lv_at hl 1 rfl) ?_
  refine lv_aload_n hx hb dX7_keepForUndo_6 rfl (lv_at hl 1 rfl) ?_
  refine bGet (v := .ref q3) (T := TX7) (N := 10) (ci := 7) X Y i_X7_keepForUndo_X7 0 rfl rfl 7 (Nat.le_of_ble_eq_true rfl) f_X7_keepForUndo_46 rfl rfl dX7_keepForUndo_7 ?_
  refine bPut (T := TX7) (N := 10) (ci := 7) (ws' := [(qM, .inr (7, [.ref qT, .ref qQ, .ref qR, .ref qD, .ref qN, .ref q1, .ref q2, .ref q3, .ref q3, .int ud])), (qN, .inr (5, [.ref qNp, .ref qNs, .ref qNz, .int nk])), (qNp, .inr (2, [.ref qNpl, .ref qNpr, .int nv])), (qNpl, .inr (0, [.int nl0, .int nl1, .int nl2, .int nl3, .int nl4, .int nl5, .int nl6, .int nl7, .int nl8, .int nl9, .int nl10, .int nl11, .int (bB nlb)])), (qNpr, .inr (0, [.int nr0, .int nr1, .int nr2, .int nr3, .int nr4, .int nr5, .int nr6, .int nr7, .int nr8, .int nr9, .int nr10, .int nr11, .int (bB nrb)])), (qNs, .inr (3, [.ref qNsn, .ref qNst, .int nsm])), (qNsn, .inl (cyI, 120, .inl nsf)), (qNst, .inl (cyI, 120, .inl nsg)), (qNz, .inr (3, [.ref qNzn, .ref qNzt, .int nzm])), (qNzn, .inl (cyI, 120, .inl nzf)), (qNzt, .inl (cyI, 120, .inl nzg)), (q4, .inr (5, [.ref q4p, .ref q4s, .ref q4z, .int fk])), (q4p, .inr (2, [.ref q4pl, .ref q4pr, .int fv])), (q4pl, .inr (0, [.int fl0, .int fl1, .int fl2, .int fl3, .int fl4, .int fl5, .int fl6, .int fl7, .int fl8, .int fl9, .int fl10, .int fl11, .int (bB flb)])), (q4pr, .inr (0, [.int fr0, .int fr1, .int fr2, .int fr3, .int fr4, .int fr5, .int fr6, .int fr7, .int fr8, .int fr9, .int fr10, .int fr11, .int (bB frb)])), (q4s, .inr (3, [.ref q4sn, .ref q4st, .int fsm])), (q4sn, .inl (cyI, 120, .inl fsf)), (q4st, .inl (cyI, 120, .inl fsg)), (q4z, .inr (3, [.ref q4zn, .ref q4zt, .int fzm])), (q4zn, .inl (cyI, 120, .inl fzf)), (q4zt, .inl (cyI, 120, .inl fzg))]) X Y i_X7_keepForUndo_X7 tyX7 tyX7_ok nmX7 0 rfl rfl 8 (Nat.le_of_ble_eq_true rfl) f_X7_keepForUndo_49 rfl rfl rfl rfl (Nat.le_of_ble_eq_true rfl) rfl dX7_keepForUndo_10 (fun H locs Y => ?_)
  refine lv_aload_n hx hb dX7_keepForUndo_13 rfl (lv_at hl 1 rfl) ?_
  refine lv_aload_n hx hb dX7_keepForUndo_14 rfl (lv_at hl 1 rfl) ?_
  refine bGet (v := .ref q2) (T := TX7) (N := 10) (ci := 7) X Y i_X7_keepForUndo_X7 0 rfl rfl 6 (Nat.le_of_ble_eq_true rfl) f_X7_keepForUndo_43 rfl rfl dX7_keepForUndo_15 ?_
  refine bPut (T := TX7) (N := 10) (ci := 7) (ws' := [(qM, .inr (7, [.ref qT, .ref qQ, .ref qR, .ref qD, .ref qN, .ref q1, .ref q2, .ref q2, .ref q3, .int ud])), (qN, .inr (5, [.ref qNp, .ref qNs, .ref qNz, .int nk])), (qNp, .inr (2, [.ref qNpl, .ref qNpr, .int nv])), (qNpl, .inr (0, [.int nl0, .int nl1, .int nl2, .int nl3, .int nl4, .int nl5, .int nl6, .int nl7, .int nl8, .int nl9, .int nl10, .int nl11, .int (bB nlb)])), (qNpr, .inr (0, [.int nr0, .int nr1, .int nr2, .int nr3, .int nr4, .int nr5, .int nr6, .int nr7, .int nr8, .int nr9, .int nr10, .int nr11, .int (bB nrb)])), (qNs, .inr (3, [.ref qNsn, .ref qNst, .int nsm])), (qNsn, .inl (cyI, 120, .inl nsf)), (qNst, .inl (cyI, 120, .inl nsg)), (qNz, .inr (3, [.ref qNzn, .ref qNzt, .int nzm])), (qNzn, .inl (cyI, 120, .inl nzf)), (qNzt, .inl (cyI, 120, .inl nzg)), (q4, .inr (5, [.ref q4p, .ref q4s, .ref q4z, .int fk])), (q4p, .inr (2, [.ref q4pl, .ref q4pr, .int fv])), (q4pl, .inr (0, [.int fl0, .int fl1, .int fl2, .int fl3, .int fl4, .int fl5, .int fl6, .int fl7, .int fl8, .int fl9, .int fl10, .int fl11, .int (bB flb)])), (q4pr, .inr (0, [.int fr0, .int fr1, .int fr2, .int fr3, .int fr4, .int fr5, .int fr6, .int fr7, .int fr8, .int fr9, .int fr10, .int fr11, .int (bB frb)])), (q4s, .inr (3, [.ref q4sn, .ref q4st, .int fsm])), (q4sn, .inl (cyI, 120, .inl fsf)), (q4st, .inl (cyI, 120, .inl fsg)), (q4z, .inr (3, [.ref q4zn, .ref q4zt, .int fzm])), (q4zn, .inl (cyI, 120, .inl fzf)), (q4zt, .inl (cyI, 120, .inl fzg))]) X Y i_X7_keepForUndo_X7 tyX7 tyX7_ok nmX7 0 rfl rfl 7 (Nat.le_of_ble_eq_true rfl) f_X7_keepForUndo_46 rfl rfl rfl rfl (Nat.le_of_ble_eq_true rfl) rfl dX7_keepForUndo_18 (fun H locs Y => ?_)
  refine lv_aload_n hx hb dX7_keepForUndo_21 rfl (lv_at hl 1 rfl) ?_
  refine lv_aload_n hx hb dX7_keepForUndo_22 rfl (lv_at hl 1 rfl) ?_
  refine bGet (v := .ref q1) (T := TX7) (N := 10) (ci := 7) X Y i_X7_keepForUndo_X7 0 rfl rfl 5 (Nat.le_of_ble_eq_true rfl) f_X7_keepForUndo_40 rfl rfl dX7_keepForUndo_23 ?_
  refine bPut (T := TX7) (N := 10) (ci := 7) (ws' := [(qM, .inr (7, [.ref qT, .ref qQ, .ref qR, .ref qD, .ref qN, .ref q1, .ref q1, .ref q2, .ref q3, .int ud])), (qN, .inr (5, [.ref qNp, .ref qNs, .ref qNz, .int nk])), (qNp, .inr (2, [.ref qNpl, .ref qNpr, .int nv])), (qNpl, .inr (0, [.int nl0, .int nl1, .int nl2, .int nl3, .int nl4, .int nl5, .int nl6, .int nl7, .int nl8, .int nl9, .int nl10, .int nl11, .int (bB nlb)])), (qNpr, .inr (0, [.int nr0, .int nr1, .int nr2, .int nr3, .int nr4, .int nr5, .int nr6, .int nr7, .int nr8, .int nr9, .int nr10, .int nr11, .int (bB nrb)])), (qNs, .inr (3, [.ref qNsn, .ref qNst, .int nsm])), (qNsn, .inl (cyI, 120, .inl nsf)), (qNst, .inl (cyI, 120, .inl nsg)), (qNz, .inr (3, [.ref qNzn, .ref qNzt, .int nzm])), (qNzn, .inl (cyI, 120, .inl nzf)), (qNzt, .inl (cyI, 120, .inl nzg)), (q4, .inr (5, [.ref q4p, .ref q4s, .ref q4z, .int fk])), (q4p, .inr (2, [.ref q4pl, .ref q4pr, .int fv])), (q4pl, .inr (0, [.int fl0, .int fl1, .int fl2, .int fl3, .int fl4, .int fl5, .int fl6, .int fl7, .int fl8, .int fl9, .int fl10, .int fl11, .int (bB flb)])), (q4pr, .inr (0, [.int fr0, .int fr1, .int fr2, .int fr3, .int fr4, .int fr5, .int fr6, .int fr7, .int fr8, .int fr9, .int fr10, .int fr11, .int (bB frb)])), (q4s, .inr (3, [.ref q4sn, .ref q4st, .int fsm])), (q4sn, .inl (cyI, 120, .inl fsf)), (q4st, .inl (cyI, 120, .inl fsg)), (q4z, .inr (3, [.ref q4zn, .ref q4zt, .int fzm])), (q4zn, .inl (cyI, 120, .inl fzf)), (q4zt, .inl (cyI, 120, .inl fzg))]) X Y i_X7_keepForUndo_X7 tyX7 tyX7_ok nmX7 0 rfl rfl 6 (Nat.le_of_ble_eq_true rfl) f_X7_keepForUndo_43 rfl rfl rfl rfl (Nat.le_of_ble_eq_true rfl) rfl dX7_keepForUndo_26 (fun H locs Y => ?_)
  refine lv_aload_n hx hb dX7_keepForUndo_29 rfl (lv_at hl 1 rfl) ?_
  refine lv_aload_n hx hb dX7_keepForUndo_30 rfl (lv_at hl 0 rfl) ?_
  refine bPut (T := TX7) (N := 10) (ci := 7) (ws' := [(qM, .inr (7, [.ref qT, .ref qQ, .ref qR, .ref qD, .ref qN, .ref q4, .ref q1, .ref q2, .ref q3, .int ud])), (qN, .inr (5, [.ref qNp, .ref qNs, .ref qNz, .int nk])), (qNp, .inr (2, [.ref qNpl, .ref qNpr, .int nv])), (qNpl, .inr (0, [.int nl0, .int nl1, .int nl2, .int nl3, .int nl4, .int nl5, .int nl6, .int nl7, .int nl8, .int nl9, .int nl10, .int nl11, .int (bB nlb)])), (qNpr, .inr (0, [.int nr0, .int nr1, .int nr2, .int nr3, .int nr4, .int nr5, .int nr6, .int nr7, .int nr8, .int nr9, .int nr10, .int nr11, .int (bB nrb)])), (qNs, .inr (3, [.ref qNsn, .ref qNst, .int nsm])), (qNsn, .inl (cyI, 120, .inl nsf)), (qNst, .inl (cyI, 120, .inl nsg)), (qNz, .inr (3, [.ref qNzn, .ref qNzt, .int nzm])), (qNzn, .inl (cyI, 120, .inl nzf)), (qNzt, .inl (cyI, 120, .inl nzg)), (q4, .inr (5, [.ref q4p, .ref q4s, .ref q4z, .int fk])), (q4p, .inr (2, [.ref q4pl, .ref q4pr, .int fv])), (q4pl, .inr (0, [.int fl0, .int fl1, .int fl2, .int fl3, .int fl4, .int fl5, .int fl6, .int fl7, .int fl8, .int fl9, .int fl10, .int fl11, .int (bB flb)])), (q4pr, .inr (0, [.int fr0, .int fr1, .int fr2, .int fr3, .int fr4, .int fr5, .int fr6, .int fr7, .int fr8, .int fr9, .int fr10, .int fr11, .int (bB frb)])), (q4s, .inr (3, [.ref q4sn, .ref q4st, .int fsm])), (q4sn, .inl (cyI, 120, .inl fsf)), (q4st, .inl (cyI, 120, .inl fsg)), (q4z, .inr (3, [.ref q4zn, .ref q4zt, .int fzm])), (q4zn, .inl (cyI, 120, .inl fzf)), (q4zt, .inl (cyI, 120, .inl fzg))]) X Y i_X7_keepForUndo_X7 tyX7 tyX7_ok nmX7 0 rfl rfl 5 (Nat.le_of_ble_eq_true rfl) f_X7_keepForUndo_40 rfl rfl rfl rfl (Nat.le_of_ble_eq_true rfl) rfl dX7_keepForUndo_31 (fun H locs Y => ?_)
  refine lv_aload_n hx hb dX7_keepForUndo_34 rfl (lv_at hl 1 rfl) ?_
  refine bGet (v := .ref q4) (T := TX7) (N := 10) (ci := 7) X Y i_X7_keepForUndo_X7 0 rfl rfl 5 (Nat.le_of_ble_eq_true rfl) f_X7_keepForUndo_40 rfl rfl dX7_keepForUndo_35 ?_
  refine lv_aload_n hx hb dX7_keepForUndo_38 rfl (lv_at hl 1 rfl) ?_
  refine bGet (v := .ref qN) (T := TX7) (N := 10) (ci := 7) X Y i_X7_keepForUndo_X7 0 rfl rfl 4 (Nat.le_of_ble_eq_true rfl) f_X7_keepForUndo_36 rfl rfl dX7_keepForUndo_39 ?_
  obtain ⟨u_1_0, u_1_1, u_1_2, u_1_3, hr_1⟩ := bEx4 (s_storyCopy fsf fsg fzf fzg nsm nsf nsg nzm nzf nzg)
  rw [hr_1] at hu
  dsimp only at hu
  refine bVV (As := [.ref qN]) (rest := []) (wc := [(q4, .inr (5, [.ref q4p, .ref q4s, .ref q4z, .int fk])), (q4p, .inr (2, [.ref q4pl, .ref q4pr, .int fv])), (q4pl, .inr (0, [.int fl0, .int fl1, .int fl2, .int fl3, .int fl4, .int fl5, .int fl6, .int fl7, .int fl8, .int fl9, .int fl10, .int fl11, .int (bB flb)])), (q4pr, .inr (0, [.int fr0, .int fr1, .int fr2, .int fr3, .int fr4, .int fr5, .int fr6, .int fr7, .int fr8, .int fr9, .int fr10, .int fr11, .int (bB frb)])), (q4s, .inr (3, [.ref q4sn, .ref q4st, .int fsm])), (q4sn, .inl (cyI, 120, .inl fsf)), (q4st, .inl (cyI, 120, .inl fsg)), (q4z, .inr (3, [.ref q4zn, .ref q4zt, .int fzm])), (q4zn, .inl (cyI, 120, .inl fzf)), (q4zt, .inl (cyI, 120, .inl fzg)), (qN, .inr (5, [.ref qNp, .ref qNs, .ref qNz, .int nk])), (qNp, .inr (2, [.ref qNpl, .ref qNpr, .int nv])), (qNpl, .inr (0, [.int nl0, .int nl1, .int nl2, .int nl3, .int nl4, .int nl5, .int nl6, .int nl7, .int nl8, .int nl9, .int nl10, .int nl11, .int (bB nlb)])), (qNpr, .inr (0, [.int nr0, .int nr1, .int nr2, .int nr3, .int nr4, .int nr5, .int nr6, .int nr7, .int nr8, .int nr9, .int nr10, .int nr11, .int (bB nrb)])), (qNs, .inr (3, [.ref qNsn, .ref qNst, .int nsm])), (qNsn, .inl (cyI, 120, .inl nsf)), (qNst, .inl (cyI, 120, .inl nsg)), (qNz, .inr (3, [.ref qNzn, .ref qNzt, .int nzm])), (qNzn, .inl (cyI, 120, .inl nzf)), (qNzt, .inl (cyI, 120, .inl nzg))]) (w1 := [(q4, .inr (5, [.ref q4p, .ref q4s, .ref q4z, .int nk])), (q4p, .inr (2, [.ref q4pl, .ref q4pr, .int nv])), (q4pl, .inr (0, [.int nl0, .int nl1, .int nl2, .int nl3, .int nl4, .int nl5, .int nl6, .int nl7, .int nl8, .int nl9, .int nl10, .int nl11, .int (bB nlb)])), (q4pr, .inr (0, [.int nr0, .int nr1, .int nr2, .int nr3, .int nr4, .int nr5, .int nr6, .int nr7, .int nr8, .int nr9, .int nr10, .int nr11, .int (bB nrb)])), (q4s, .inr (3, [.ref q4sn, .ref q4st, .int nsm])), (q4sn, .inl (cyI, 120, .inl u_1_0)), (q4st, .inl (cyI, 120, .inl u_1_1)), (q4z, .inr (3, [.ref q4zn, .ref q4zt, .int nzm])), (q4zn, .inl (cyI, 120, .inl u_1_2)), (q4zt, .inl (cyI, 120, .inl u_1_3)), (qN, .inr (5, [.ref qNp, .ref qNs, .ref qNz, .int nk])), (qNp, .inr (2, [.ref qNpl, .ref qNpr, .int nv])), (qNpl, .inr (0, [.int nl0, .int nl1, .int nl2, .int nl3, .int nl4, .int nl5, .int nl6, .int nl7, .int nl8, .int nl9, .int nl10, .int nl11, .int (bB nlb)])), (qNpr, .inr (0, [.int nr0, .int nr1, .int nr2, .int nr3, .int nr4, .int nr5, .int nr6, .int nr7, .int nr8, .int nr9, .int nr10, .int nr11, .int (bB nrb)])), (qNs, .inr (3, [.ref qNsn, .ref qNst, .int nsm])), (qNsn, .inl (cyI, 120, .inl nsf)), (qNst, .inl (cyI, 120, .inl nsg)), (qNz, .inr (3, [.ref qNzn, .ref qNzt, .int nzm])), (qNzn, .inl (cyI, 120, .inl nzf)), (qNzt, .inl (cyI, 120, .inl nzg))]) (ws' := [(qM, .inr (7, [.ref qT, .ref qQ, .ref qR, .ref qD, .ref qN, .ref q4, .ref q1, .ref q2, .ref q3, .int ud])), (qN, .inr (5, [.ref qNp, .ref qNs, .ref qNz, .int nk])), (qNp, .inr (2, [.ref qNpl, .ref qNpr, .int nv])), (qNpl, .inr (0, [.int nl0, .int nl1, .int nl2, .int nl3, .int nl4, .int nl5, .int nl6, .int nl7, .int nl8, .int nl9, .int nl10, .int nl11, .int (bB nlb)])), (qNpr, .inr (0, [.int nr0, .int nr1, .int nr2, .int nr3, .int nr4, .int nr5, .int nr6, .int nr7, .int nr8, .int nr9, .int nr10, .int nr11, .int (bB nrb)])), (qNs, .inr (3, [.ref qNsn, .ref qNst, .int nsm])), (qNsn, .inl (cyI, 120, .inl nsf)), (qNst, .inl (cyI, 120, .inl nsg)), (qNz, .inr (3, [.ref qNzn, .ref qNzt, .int nzm])), (qNzn, .inl (cyI, 120, .inl nzf)), (qNzt, .inl (cyI, 120, .inl nzg)), (q4, .inr (5, [.ref q4p, .ref q4s, .ref q4z, .int nk])), (q4p, .inr (2, [.ref q4pl, .ref q4pr, .int nv])), (q4pl, .inr (0, [.int nl0, .int nl1, .int nl2, .int nl3, .int nl4, .int nl5, .int nl6, .int nl7, .int nl8, .int nl9, .int nl10, .int nl11, .int (bB nlb)])), (q4pr, .inr (0, [.int nr0, .int nr1, .int nr2, .int nr3, .int nr4, .int nr5, .int nr6, .int nr7, .int nr8, .int nr9, .int nr10, .int nr11, .int (bB nrb)])), (q4s, .inr (3, [.ref q4sn, .ref q4st, .int nsm])), (q4sn, .inl (cyI, 120, .inl u_1_0)), (q4st, .inl (cyI, 120, .inl u_1_1)), (q4z, .inr (3, [.ref q4zn, .ref q4zt, .int nzm])), (q4zn, .inl (cyI, 120, .inl u_1_2)), (q4zt, .inl (cyI, 120, .inl u_1_3))]) (ad := [q4, q4p, q4pl, q4pr, q4s, q4sn, q4st, q4z, q4zn, q4zt, qN, qNp, qNpl, qNpr, qNs, qNsn, qNst, qNz, qNzn, qNzt]) (wr := [(qM, .inr (7, [.ref qT, .ref qQ, .ref qR, .ref qD, .ref qN, .ref q4, .ref q1, .ref q2, .ref q3, .int ud]))]) (nn := 21) (ci := 5) (q0 := 11) X Y (c_storyCopy l D cyC cyI q4 fk q4p fv q4pl fl0 fl1 fl2 fl3 fl4 fl5 fl6 fl7 fl8 fl9 fl10 fl11 flb q4pr fr0 fr1 fr2 fr3 fr4 fr5 fr6 fr7 fr8 fr9 fr10 fr11 frb q4s q4sn q4st fsm fsf fsg q4z q4zn q4zt fzm fzf fzg qN nk qNp nv qNpl nl0 nl1 nl2 nl3 nl4 nl5 nl6 nl7 nl8 nl9 nl10 nl11 nlb qNpr nr0 nr1 nr2 nr3 nr4 nr5 nr6 nr7 nr8 nr9 nr10 nr11 nrb qNs qNsn qNst nsm nsf nsg qNz qNzn qNzt nzm nzf nzg u_1_0 u_1_1 u_1_2 u_1_3 hr_1) gX7_keepForUndo_X5_copyFrom rfl ⟨rfl, rfl⟩ hd_X5_copyFrom ⟨(Nat.le_of_ble_eq_true rfl), (Nat.le_of_ble_eq_true rfl)⟩ rfl rfl rfl [11, 12, 13, 14, 15, 16, 17, 18, 19, 20, 1, 2, 3, 4, 5, 6, 7, 8, 9, 10] [0] rfl rfl rfl rfl rfl rfl rfl rfl (by decide) rfl rfl hl.1 (Nat.le_of_ble_eq_true rfl) ⟨Nat.zero_le _, Nat.zero_le _⟩ dX7_keepForUndo_42 (fun H locs Y => ?_)
  refine lv_aload_n hx hb dX7_keepForUndo_45 rfl (lv_at hl 1 rfl) ?_
  refine lv_aload_n hx hb dX7_keepForUndo_46 rfl (lv_at hl 1 rfl) ?_
  refine bGet (v := .int ud) (T := TX7) (N := 10) (ci := 7) X Y i_X7_keepForUndo_X7 0 rfl rfl 9 (Nat.le_of_ble_eq_true rfl) f_X7_keepForUndo_79 rfl rfl dX7_keepForUndo_47 ?_
  refine lv_iconst (v := 1) hx hb dX7_keepForUndo_50 (by decide) ?_
  refine bAdd (v := ud + 1) X dX7_keepForUndo_51 rfl ?_
  refine lv_iconst (v := 4) hx hb dX7_keepForUndo_52 (by decide) ?_
  refine bMin (v := (if 4 < (ud + 1) then 4 else (ud + 1))) X hl.1 m_X7_keepForUndo_239 ms_X7_keepForUndo_min mi_X7_keepForUndo mc_X7_keepForUndo_min (Nat.le_of_ble_eq_true rfl) (Nat.le_of_ble_eq_true rfl) ⟨Nat.zero_le _, Nat.zero_le _⟩ dX7_keepForUndo_53 rfl ?_
  refine bPut (T := TX7) (N := 10) (ci := 7) (ws' := [(qM, .inr (7, [.ref qT, .ref qQ, .ref qR, .ref qD, .ref qN, .ref q4, .ref q1, .ref q2, .ref q3, .int (if 4 < (ud + 1) then 4 else (ud + 1))])), (qN, .inr (5, [.ref qNp, .ref qNs, .ref qNz, .int nk])), (qNp, .inr (2, [.ref qNpl, .ref qNpr, .int nv])), (qNpl, .inr (0, [.int nl0, .int nl1, .int nl2, .int nl3, .int nl4, .int nl5, .int nl6, .int nl7, .int nl8, .int nl9, .int nl10, .int nl11, .int (bB nlb)])), (qNpr, .inr (0, [.int nr0, .int nr1, .int nr2, .int nr3, .int nr4, .int nr5, .int nr6, .int nr7, .int nr8, .int nr9, .int nr10, .int nr11, .int (bB nrb)])), (qNs, .inr (3, [.ref qNsn, .ref qNst, .int nsm])), (qNsn, .inl (cyI, 120, .inl nsf)), (qNst, .inl (cyI, 120, .inl nsg)), (qNz, .inr (3, [.ref qNzn, .ref qNzt, .int nzm])), (qNzn, .inl (cyI, 120, .inl nzf)), (qNzt, .inl (cyI, 120, .inl nzg)), (q4, .inr (5, [.ref q4p, .ref q4s, .ref q4z, .int nk])), (q4p, .inr (2, [.ref q4pl, .ref q4pr, .int nv])), (q4pl, .inr (0, [.int nl0, .int nl1, .int nl2, .int nl3, .int nl4, .int nl5, .int nl6, .int nl7, .int nl8, .int nl9, .int nl10, .int nl11, .int (bB nlb)])), (q4pr, .inr (0, [.int nr0, .int nr1, .int nr2, .int nr3, .int nr4, .int nr5, .int nr6, .int nr7, .int nr8, .int nr9, .int nr10, .int nr11, .int (bB nrb)])), (q4s, .inr (3, [.ref q4sn, .ref q4st, .int nsm])), (q4sn, .inl (cyI, 120, .inl u_1_0)), (q4st, .inl (cyI, 120, .inl u_1_1)), (q4z, .inr (3, [.ref q4zn, .ref q4zt, .int nzm])), (q4zn, .inl (cyI, 120, .inl u_1_2)), (q4zt, .inl (cyI, 120, .inl u_1_3))]) X Y i_X7_keepForUndo_X7 tyX7 tyX7_ok nmX7 0 rfl rfl 9 (Nat.le_of_ble_eq_true rfl) f_X7_keepForUndo_79 rfl rfl rfl rfl (Nat.le_of_ble_eq_true rfl) rfl dX7_keepForUndo_56 (fun H locs Y => ?_)
  have h9 := (Prod.mk.inj hu).1; replace hu := (Prod.mk.inj hu).2; subst h9
  have h9 := (Prod.mk.inj hu).1; replace hu := (Prod.mk.inj hu).2; subst h9
  have h9 := (Prod.mk.inj hu).1; replace hu := (Prod.mk.inj hu).2; subst h9
  subst hu
  exact bEndV X Y hr hlk dX7_keepForUndo_59 rfl
theorem hd_X7_isSpeed : bD1 yX7_isSpeed RX7 1 := by decide +kernel
theorem i_X7_stop_X7 : ∀ w ∈ wsX70, w ∈ wsX7_stop := by decide +kernel
theorem f_X7_stop_26 : Cond.fieldLink RX7 26 "SwingCranes" "rules" "LSwingCranes$Layout;" ∈ wsX7_stop := by decide +kernel
theorem i_X7_stop_X1 : ∀ w ∈ wsX10, w ∈ wsX7_stop := by decide +kernel
theorem f_X7_stop_164 : Cond.fieldLink RX7 164 "SwingCranes$Layout" "change" "I" ∈ wsX7_stop := by decide +kernel
def s_stop (r2 : Int32) (v : Int32) : Int32 :=
  if (s_isSpeed v) = true then
    (s_wayToStop v r2)
  else
    (-1)
set_option maxHeartbeats 4000000 in
set_option maxRecDepth 100000 in
theorem c_stop (l : Launch) (D : va_G) (cyC cyI : ClassId) (qM : Nat) (qT : Nat) (qQ : Nat) (qR : Nat) (qD : Nat) (qN : Nat) (q1 : Nat) (q2 : Nat) (q3 : Nat) (q4 : Nat) (ud : Int32) (qRl : Nat) (qRr : Nat) (r0 : Int32) (r1 : Int32) (r2 : Int32) (r3 : Int32) (r4 : Int32) (v : Int32) (o0 : Int32) (hu : s_stop r2 v = o0) : CI l yX7_stop wsX7_stop { frames := 2, cells := 0, slots := 0, locals := 42 } D cyC cyI [.ref qM, .int v] [(qM, .inr (7, [.ref qT, .ref qQ, .ref qR, .ref qD, .ref qN, .ref q1, .ref q2, .ref q3, .ref q4, .int ud])), (qR, .inr (1, [.int r0, .int r1, .int r2, .int r3, .int r4, .ref qRl, .ref qRr]))] o0 [(qM, .inr (7, [.ref qT, .ref qQ, .ref qR, .ref qD, .ref qN, .ref q1, .ref q2, .ref q3, .ref q4, .int ud])), (qR, .inr (1, [.int r0, .int r1, .int r2, .int r3, .int r4, .ref qRl, .ref qRr]))] := by
  refine CI.of (cc := cX7_stop) (n := 2) (ret := (some .int)) (by decide +kernel) rfl (Nat.le_of_ble_eq_true rfl) ?_
  intro p_ e_ s_ m_ bl_ me_ cd_ A_ ls X Y hr hlk hl
  have hx := X.1.1
  have hb := X.1.2.1
  have hl : lv_has ls 2 [(0, .ref qM), (1, .int v)] := hl
  unfold s_stop at hu
  refine lv_iload_n hx hb dX7_stop_0 rfl (lv_at hl 1 rfl) ?_
  refine bSI (As := [.int v]) (rest := []) X Y (c_isSpeed l D cyC cyI v (s_isSpeed v) rfl) gX7_stop_X7_isSpeed rfl ⟨rfl, rfl⟩ hd_X7_isSpeed.2 ⟨(Nat.le_of_ble_eq_true rfl), (Nat.le_of_ble_eq_true rfl)⟩ rfl rfl hl.1 (Nat.le_of_ble_eq_true rfl) ⟨Nat.zero_le _, Nat.zero_le _⟩ dX7_stop_1 (fun H locs Y => ?_)
  refine lv_if_eq (tgt := 21) hx hb dX7_stop_4 (by decide) (fun c_1 => ?_) (fun c_1 => ?_)
  · have c_1 := bB_f c_1
    rw [if_neg c_1] at hu
    refine lv_iconst (v := (-1)) hx hb dX7_stop_21 (by decide) ?_
    subst hu
    exact bEndI X Y hr hlk dX7_stop_22 rfl rfl
  · have c_1 := bB_t c_1
    rw [if_pos c_1] at hu
    refine lv_iload_n hx hb dX7_stop_7 rfl (lv_at hl 1 rfl) ?_
    refine lv_aload_n hx hb dX7_stop_8 rfl (lv_at hl 0 rfl) ?_
    refine bGet (v := .ref qR) (T := TX7) (N := 10) (ci := 7) X Y i_X7_stop_X7 0 rfl rfl 2 (Nat.le_of_ble_eq_true rfl) f_X7_stop_26 rfl rfl dX7_stop_9 ?_
    refine bGet (v := .int r2) (T := TX1) (N := 7) (ci := 1) X Y i_X7_stop_X1 1 rfl rfl 2 (Nat.le_of_ble_eq_true rfl) f_X7_stop_164 rfl rfl dX7_stop_12 ?_
    refine bSI (As := [.int v, .int r2]) (rest := []) X Y (c_wayToStop l D cyC cyI v r2 (s_wayToStop v r2) rfl) gX7_stop_X7_wayToStop rfl ⟨rfl, rfl⟩ hd_X7_wayToStop.2 ⟨(Nat.le_of_ble_eq_true rfl), (Nat.le_of_ble_eq_true rfl)⟩ rfl rfl hl.1 (Nat.le_of_ble_eq_true rfl) ⟨Nat.zero_le _, Nat.zero_le _⟩ dX7_stop_15 (fun H locs Y => ?_)
    refine lv_goto (tgt := 22) hx hb dX7_stop_18 (by decide) ?_
    subst hu
    exact bEndI X Y hr hlk dX7_stop_22 rfl rfl
def s_half (v : Int32) : Int32 :=
  if (s_isRope v) = true then
    nI (s_halfSwing v)
  else
    (-1)
set_option maxHeartbeats 4000000 in
set_option maxRecDepth 100000 in
theorem c_half (l : Launch) (D : va_G) (cyC cyI : ClassId) (qM : Nat) (qT : Nat) (qQ : Nat) (qR : Nat) (qD : Nat) (qN : Nat) (q1 : Nat) (q2 : Nat) (q3 : Nat) (q4 : Nat) (ud : Int32) (v : Int32) (o0 : Int32) (hu : s_half v = o0) : CI l yX7_half wsX7_half { frames := 2, cells := 0, slots := 0, locals := 42 } D cyC cyI [.ref qM, .int v] [(qM, .inr (7, [.ref qT, .ref qQ, .ref qR, .ref qD, .ref qN, .ref q1, .ref q2, .ref q3, .ref q4, .int ud]))] o0 [(qM, .inr (7, [.ref qT, .ref qQ, .ref qR, .ref qD, .ref qN, .ref q1, .ref q2, .ref q3, .ref q4, .int ud]))] := by
  refine CI.of (cc := cX7_half) (n := 2) (ret := (some .int)) (by decide +kernel) rfl (Nat.le_of_ble_eq_true rfl) ?_
  intro p_ e_ s_ m_ bl_ me_ cd_ A_ ls X Y hr hlk hl
  have hx := X.1.1
  have hb := X.1.2.1
  have hl : lv_has ls 2 [(0, .ref qM), (1, .int v)] := hl
  unfold s_half at hu
  refine lv_iload_n hx hb dX7_half_0 rfl (lv_at hl 1 rfl) ?_
  refine bSI (As := [.int v]) (rest := []) X Y (c_isRope l D cyC cyI v (s_isRope v) rfl) gX7_half_X7_isRope rfl ⟨rfl, rfl⟩ hd_X7_isRope.2 ⟨(Nat.le_of_ble_eq_true rfl), (Nat.le_of_ble_eq_true rfl)⟩ rfl rfl hl.1 (Nat.le_of_ble_eq_true rfl) ⟨Nat.zero_le _, Nat.zero_le _⟩ dX7_half_1 (fun H locs Y => ?_)
  refine lv_if_eq (tgt := 14) hx hb dX7_half_4 (by decide) (fun c_1 => ?_) (fun c_1 => ?_)
  · have c_1 := bB_f c_1
    rw [if_neg c_1] at hu
    refine lv_iconst (v := (-1)) hx hb dX7_half_14 (by decide) ?_
    subst hu
    exact bEndI X Y hr hlk dX7_half_15 rfl rfl
  · have c_1 := bB_t c_1
    rw [if_pos c_1] at hu
    refine lv_iload_n hx hb dX7_half_7 rfl (lv_at hl 1 rfl) ?_
    refine bSI (As := [.int v]) (rest := []) X Y (c_halfSwing l D cyC cyI v (s_halfSwing v) rfl) gX7_half_X7_halfSwing rfl ⟨rfl, rfl⟩ hd_X7_halfSwing.2 ⟨(Nat.le_of_ble_eq_true rfl), (Nat.le_of_ble_eq_true rfl)⟩ rfl rfl hl.1 (Nat.le_of_ble_eq_true rfl) ⟨Nat.zero_le _, Nat.zero_le _⟩ dX7_half_8 (fun H locs Y => ?_)
    refine lv_goto (tgt := 15) hx hb dX7_half_11 (by decide) ?_
    subst hu
    exact bEndI X Y hr hlk dX7_half_15 rfl rfl
theorem i_X7_crane_X7 : ∀ w ∈ wsX70, w ∈ wsX7_crane := by decide +kernel
theorem f_X7_crane_36 : Cond.fieldLink RX7 36 "SwingCranes" "now" "LSwingCranes$Story;" ∈ wsX7_crane := by decide +kernel
theorem i_X7_crane_X5 : ∀ w ∈ wsX50, w ∈ wsX7_crane := by decide +kernel
theorem f_X7_crane_95 : Cond.fieldLink RX7 95 "SwingCranes$Story" "pair" "LSwingCranes$Pair;" ∈ wsX7_crane := by decide +kernel
theorem hd_X2_side : bD1 yX2_side RX2 1 := by decide +kernel
theorem i_X7_crane_X0 : ∀ w ∈ wsX00, w ∈ wsX7_crane := by decide +kernel
theorem f_X7_crane_138 : Cond.fieldLink RX7 138 "SwingCranes$Crane" "place" "I" ∈ wsX7_crane := by decide +kernel
theorem f_X7_crane_141 : Cond.fieldLink RX7 141 "SwingCranes$Crane" "speed" "I" ∈ wsX7_crane := by decide +kernel
theorem k_X7_crane_144 : Cond.constant RX7 144 (100000) ∈ wsX7_crane := by decide +kernel
theorem f_X7_crane_145 : Cond.fieldLink RX7 145 "SwingCranes$Crane" "rope" "I" ∈ wsX7_crane := by decide +kernel
theorem f_X7_crane_126 : Cond.fieldLink RX7 126 "SwingCranes$Crane" "load" "I" ∈ wsX7_crane := by decide +kernel
theorem f_X7_crane_148 : Cond.fieldLink RX7 148 "SwingCranes$Crane" "swing" "I" ∈ wsX7_crane := by decide +kernel
theorem f_X7_crane_151 : Cond.fieldLink RX7 151 "SwingCranes$Crane" "rate" "I" ∈ wsX7_crane := by decide +kernel
theorem f_X7_crane_154 : Cond.fieldLink RX7 154 "SwingCranes$Crane" "want" "I" ∈ wsX7_crane := by decide +kernel
theorem f_X7_crane_117 : Cond.fieldLink RX7 117 "SwingCranes$Crane" "target" "I" ∈ wsX7_crane := by decide +kernel
theorem f_X7_crane_26 : Cond.fieldLink RX7 26 "SwingCranes" "rules" "LSwingCranes$Layout;" ∈ wsX7_crane := by decide +kernel
theorem i_X7_crane_X1 : ∀ w ∈ wsX10, w ∈ wsX7_crane := by decide +kernel
theorem f_X7_crane_164 : Cond.fieldLink RX7 164 "SwingCranes$Layout" "change" "I" ∈ wsX7_crane := by decide +kernel
theorem hd_X0_isQuiet : bD1 yX0_isQuiet RX0 0 := by decide +kernel
def s_crane_0 (nl0 : Int32) (nl1 : Int32) (nl2 : Int32) (nl3 : Int32) (nl4 : Int32) (nl5 : Int32) (nl6 : Int32) (nl7 : Int32) (nl9 : Int32) (nl11 : Int32) (r2 : Int32) (r3 : Int32) (what : Int32) : Int32 :=
  if (s_isCrane 0) = true then
    if what = 0 then
      nl0
    else
      if what = 1 then
        nl1 + 100000
      else
        if what = 2 then
          nl2
        else
          if what = 3 then
            nl3
          else
            if what = 4 then
              nl4 + 100000
            else
              if what = 5 then
                nl5 + 100000
              else
                if what = 6 then
                  nl6 + 100000
                else
                  if what = 7 then
                    nl7
                  else
                    if what = 8 then
                      (s_limit nl3 r3)
                    else
                      if what = 9 then
                        (s_stepsToCome nl9 nl11)
                      else
                        if what = 10 then
                          (s_wayToStop nl1 r2)
                        else
                          if what = 11 then
                            nI (s_halfSwing nl2)
                          else
                            if what = 12 then
                              if (s_isQuiet nl1 nl4 nl5 nl6 nl9 nl11) = true then
                                1
                              else
                                0
                            else
                              (-1)
  else
    (-1)
set_option maxHeartbeats 4000000 in
set_option maxRecDepth 100000 in
theorem c_crane_0 (l : Launch) (D : va_G) (cyC cyI : ClassId) (qM : Nat) (qT : Nat) (qQ : Nat) (qR : Nat) (qD : Nat) (qN : Nat) (q1 : Nat) (q2 : Nat) (q3 : Nat) (q4 : Nat) (ud : Int32) (nk : Int32) (qNp : Nat) (nv : Int32) (qNpl : Nat) (nl0 : Int32) (nl1 : Int32) (nl2 : Int32) (nl3 : Int32) (nl4 : Int32) (nl5 : Int32) (nl6 : Int32) (nl7 : Int32) (nl8 : Int32) (nl9 : Int32) (nl10 : Int32) (nl11 : Int32) (nlb : Bool) (qNpr : Nat) (nr0 : Int32) (nr1 : Int32) (nr2 : Int32) (nr3 : Int32) (nr4 : Int32) (nr5 : Int32) (nr6 : Int32) (nr7 : Int32) (nr8 : Int32) (nr9 : Int32) (nr10 : Int32) (nr11 : Int32) (nrb : Bool) (qNs : Nat) (qNz : Nat) (qRl : Nat) (qRr : Nat) (r0 : Int32) (r1 : Int32) (r2 : Int32) (r3 : Int32) (r4 : Int32) (what : Int32) (o0 : Int32) (hu : s_crane_0 nl0 nl1 nl2 nl3 nl4 nl5 nl6 nl7 nl9 nl11 r2 r3 what = o0) : CI l yX7_crane wsX7_crane { frames := 2, cells := 0, slots := 0, locals := 40 } D cyC cyI [.ref qM, .int 0, .int what] [(qM, .inr (7, [.ref qT, .ref qQ, .ref qR, .ref qD, .ref qN, .ref q1, .ref q2, .ref q3, .ref q4, .int ud])), (qN, .inr (5, [.ref qNp, .ref qNs, .ref qNz, .int nk])), (qNp, .inr (2, [.ref qNpl, .ref qNpr, .int nv])), (qNpl, .inr (0, [.int nl0, .int nl1, .int nl2, .int nl3, .int nl4, .int nl5, .int nl6, .int nl7, .int nl8, .int nl9, .int nl10, .int nl11, .int (bB nlb)])), (qNpr, .inr (0, [.int nr0, .int nr1, .int nr2, .int nr3, .int nr4, .int nr5, .int nr6, .int nr7, .int nr8, .int nr9, .int nr10, .int nr11, .int (bB nrb)])), (qR, .inr (1, [.int r0, .int r1, .int r2, .int r3, .int r4, .ref qRl, .ref qRr]))] o0 [(qM, .inr (7, [.ref qT, .ref qQ, .ref qR, .ref qD, .ref qN, .ref q1, .ref q2, .ref q3, .ref q4, .int ud])), (qN, .inr (5, [.ref qNp, .ref qNs, .ref qNz, .int nk])), (qNp, .inr (2, [.ref qNpl, .ref qNpr, .int nv])), (qNpl, .inr (0, [.int nl0, .int nl1, .int nl2, .int nl3, .int nl4, .int nl5, .int nl6, .int nl7, .int nl8, .int nl9, .int nl10, .int nl11, .int (bB nlb)])), (qNpr, .inr (0, [.int nr0, .int nr1, .int nr2, .int nr3, .int nr4, .int nr5, .int nr6, .int nr7, .int nr8, .int nr9, .int nr10, .int nr11, .int (bB nrb)])), (qR, .inr (1, [.int r0, .int r1, .int r2, .int r3, .int r4, .ref qRl, .ref qRr]))] := by
  refine CI.of (cc := cX7_crane) (n := 4) (ret := (some .int)) (by decide +kernel) rfl (Nat.le_of_ble_eq_true rfl) ?_
  intro p_ e_ s_ m_ bl_ me_ cd_ A_ ls X Y hr hlk hl
  have hx := X.1.1
  have hb := X.1.2.1
  have hl : lv_has ls 4 [(0, .ref qM), (1, .int 0), (2, .int what)] := hl
  unfold s_crane_0 at hu
  refine lv_iload_n hx hb dX7_crane_0 rfl (lv_at hl 1 rfl) ?_
  refine bSI (As := [.int 0]) (rest := []) X Y (c_isCrane l D cyC cyI 0 (s_isCrane 0) rfl) gX7_crane_X7_isCrane rfl ⟨rfl, rfl⟩ hd_X7_isCrane.2 ⟨(Nat.le_of_ble_eq_true rfl), (Nat.le_of_ble_eq_true rfl)⟩ rfl rfl hl.1 (Nat.le_of_ble_eq_true rfl) ⟨Nat.zero_le _, Nat.zero_le _⟩ dX7_crane_1 (fun H locs Y => ?_)
  refine lv_if_ne (tgt := 9) hx hb dX7_crane_4 (by decide) (fun c_1 => ?_) (fun c_1 => ?_)
  · have c_1 := bB_t c_1
    rw [if_pos c_1] at hu
    refine lv_aload_n hx hb dX7_crane_9 rfl (lv_at hl 0 rfl) ?_
    refine bGet (v := .ref qN) (T := TX7) (N := 10) (ci := 7) X Y i_X7_crane_X7 0 rfl rfl 4 (Nat.le_of_ble_eq_true rfl) f_X7_crane_36 rfl rfl dX7_crane_10 ?_
    refine bGet (v := .ref qNp) (T := TX5) (N := 4) (ci := 5) X Y i_X7_crane_X5 1 rfl rfl 0 (Nat.le_of_ble_eq_true rfl) f_X7_crane_95 rfl rfl dX7_crane_13 ?_
    refine lv_iload_n hx hb dX7_crane_16 rfl (lv_at hl 1 rfl) ?_
    refine bVR0 (As := [.int 0]) (rest := []) (wc := [(qNp, .inr (2, [.ref qNpl, .ref qNpr, .int nv]))]) (ci := 2) (q0 := 2) X Y (c_side0 l D cyC cyI qNp qNpl qNpr nv) gX7_crane_X2_side rfl ⟨rfl, rfl⟩ hd_X2_side ⟨(Nat.le_of_ble_eq_true rfl), (Nat.le_of_ble_eq_true rfl)⟩ rfl rfl rfl [2] rfl rfl rfl rfl hl.1 (Nat.le_of_ble_eq_true rfl) ⟨Nat.zero_le _, Nat.zero_le _⟩ dX7_crane_17 (fun H locs Y => ?_)
    refine lv_astore_n (lv' := [(3, .ref qNpl), (0, .ref qM), (1, .int 0), (2, .int what)]) hx hb dX7_crane_20 rfl hl (by decide) rfl (fun ls hl => ?_)
    refine lv_iload_n hx hb dX7_crane_21 rfl (lv_at hl 3 rfl) ?_
    by_cases c_2 : what = 0
    · rw [if_pos c_2] at hu
      refine lv_tableIn (tgt := 88) (off := 66) hx hb dX7_crane_22 (by rw [c_2]; decide) (by rw [c_2]; decide) (by rw [c_2]; decide +kernel) (by decide) ?_
      refine lv_aload_n hx hb dX7_crane_88 rfl (lv_at hl 0 rfl) ?_
      refine bGet (v := .int nl0) (T := TX0) (N := 13) (ci := 0) X Y i_X7_crane_X0 3 rfl rfl 0 (Nat.le_of_ble_eq_true rfl) f_X7_crane_138 rfl rfl dX7_crane_89 ?_
      subst hu
      exact bEndI X Y hr hlk dX7_crane_92 rfl rfl
    · skip
      rw [if_neg c_2] at hu
      by_cases c_3 : what = 1
      · rw [if_pos c_3] at hu
        refine lv_tableIn (tgt := 93) (off := 71) hx hb dX7_crane_22 (by rw [c_3]; decide) (by rw [c_3]; decide) (by rw [c_3]; decide +kernel) (by decide) ?_
        refine lv_aload_n hx hb dX7_crane_93 rfl (lv_at hl 0 rfl) ?_
        refine bGet (v := .int nl1) (T := TX0) (N := 13) (ci := 0) X Y i_X7_crane_X0 3 rfl rfl 1 (Nat.le_of_ble_eq_true rfl) f_X7_crane_141 rfl rfl dX7_crane_94 ?_
        refine lv_ldc (v := 100000) hx hb X.1.2.2.2.1 (X.1.2.2.2.2 _ k_X7_crane_144) dX7_crane_97 ?_
        refine bAdd (v := nl1 + 100000) X dX7_crane_99 rfl ?_
        subst hu
        exact bEndI X Y hr hlk dX7_crane_100 rfl rfl
      · skip
        rw [if_neg c_3] at hu
        by_cases c_4 : what = 2
        · rw [if_pos c_4] at hu
          refine lv_tableIn (tgt := 101) (off := 79) hx hb dX7_crane_22 (by rw [c_4]; decide) (by rw [c_4]; decide) (by rw [c_4]; decide +kernel) (by decide) ?_
          refine lv_aload_n hx hb dX7_crane_101 rfl (lv_at hl 0 rfl) ?_
          refine bGet (v := .int nl2) (T := TX0) (N := 13) (ci := 0) X Y i_X7_crane_X0 3 rfl rfl 2 (Nat.le_of_ble_eq_true rfl) f_X7_crane_145 rfl rfl dX7_crane_102 ?_
          subst hu
          exact bEndI X Y hr hlk dX7_crane_105 rfl rfl
        · skip
          rw [if_neg c_4] at hu
          by_cases c_5 : what = 3
          · rw [if_pos c_5] at hu
            refine lv_tableIn (tgt := 106) (off := 84) hx hb dX7_crane_22 (by rw [c_5]; decide) (by rw [c_5]; decide) (by rw [c_5]; decide +kernel) (by decide) ?_
            refine lv_aload_n hx hb dX7_crane_106 rfl (lv_at hl 0 rfl) ?_
            refine bGet (v := .int nl3) (T := TX0) (N := 13) (ci := 0) X Y i_X7_crane_X0 3 rfl rfl 3 (Nat.le_of_ble_eq_true rfl) f_X7_crane_126 rfl rfl dX7_crane_107 ?_
            subst hu
            exact bEndI X Y hr hlk dX7_crane_110 rfl rfl
          · skip
            rw [if_neg c_5] at hu
            by_cases c_6 : what = 4
            · rw [if_pos c_6] at hu
              refine lv_tableIn (tgt := 111) (off := 89) hx hb dX7_crane_22 (by rw [c_6]; decide) (by rw [c_6]; decide) (by rw [c_6]; decide +kernel) (by decide) ?_
              refine lv_aload_n hx hb dX7_crane_111 rfl (lv_at hl 0 rfl) ?_
              refine bGet (v := .int nl4) (T := TX0) (N := 13) (ci := 0) X Y i_X7_crane_X0 3 rfl rfl 4 (Nat.le_of_ble_eq_true rfl) f_X7_crane_148 rfl rfl dX7_crane_112 ?_
              refine lv_ldc (v := 100000) hx hb X.1.2.2.2.1 (X.1.2.2.2.2 _ k_X7_crane_144) dX7_crane_115 ?_
              refine bAdd (v := nl4 + 100000) X dX7_crane_117 rfl ?_
              subst hu
              exact bEndI X Y hr hlk dX7_crane_118 rfl rfl
            · skip
              rw [if_neg c_6] at hu
              by_cases c_7 : what = 5
              · rw [if_pos c_7] at hu
                refine lv_tableIn (tgt := 119) (off := 97) hx hb dX7_crane_22 (by rw [c_7]; decide) (by rw [c_7]; decide) (by rw [c_7]; decide +kernel) (by decide) ?_
                refine lv_aload_n hx hb dX7_crane_119 rfl (lv_at hl 0 rfl) ?_
                refine bGet (v := .int nl5) (T := TX0) (N := 13) (ci := 0) X Y i_X7_crane_X0 3 rfl rfl 5 (Nat.le_of_ble_eq_true rfl) f_X7_crane_151 rfl rfl dX7_crane_120 ?_
                refine lv_ldc (v := 100000) hx hb X.1.2.2.2.1 (X.1.2.2.2.2 _ k_X7_crane_144) dX7_crane_123 ?_
                refine bAdd (v := nl5 + 100000) X dX7_crane_125 rfl ?_
                subst hu
                exact bEndI X Y hr hlk dX7_crane_126 rfl rfl
              · skip
                rw [if_neg c_7] at hu
                by_cases c_8 : what = 6
                · rw [if_pos c_8] at hu
                  refine lv_tableIn (tgt := 127) (off := 105) hx hb dX7_crane_22 (by rw [c_8]; decide) (by rw [c_8]; decide) (by rw [c_8]; decide +kernel) (by decide) ?_
                  refine lv_aload_n hx hb dX7_crane_127 rfl (lv_at hl 0 rfl) ?_
                  refine bGet (v := .int nl6) (T := TX0) (N := 13) (ci := 0) X Y i_X7_crane_X0 3 rfl rfl 6 (Nat.le_of_ble_eq_true rfl) f_X7_crane_154 rfl rfl dX7_crane_128 ?_
                  refine lv_ldc (v := 100000) hx hb X.1.2.2.2.1 (X.1.2.2.2.2 _ k_X7_crane_144) dX7_crane_131 ?_
                  refine bAdd (v := nl6 + 100000) X dX7_crane_133 rfl ?_
                  subst hu
                  exact bEndI X Y hr hlk dX7_crane_134 rfl rfl
                · skip
                  rw [if_neg c_8] at hu
                  by_cases c_9 : what = 7
                  · rw [if_pos c_9] at hu
                    refine lv_tableIn (tgt := 135) (off := 113) hx hb dX7_crane_22 (by rw [c_9]; decide) (by rw [c_9]; decide) (by rw [c_9]; decide +kernel) (by decide) ?_
                    refine lv_aload_n hx hb dX7_crane_135 rfl (lv_at hl 0 rfl) ?_
                    refine bGet (v := .int nl7) (T := TX0) (N := 13) (ci := 0) X Y i_X7_crane_X0 3 rfl rfl 7 (Nat.le_of_ble_eq_true rfl) f_X7_crane_117 rfl rfl dX7_crane_136 ?_
                    subst hu
                    exact bEndI X Y hr hlk dX7_crane_139 rfl rfl
                  · skip
                    rw [if_neg c_9] at hu
                    by_cases c_10 : what = 8
                    · rw [if_pos c_10] at hu
                      refine lv_tableIn (tgt := 140) (off := 118) hx hb dX7_crane_22 (by rw [c_10]; decide) (by rw [c_10]; decide) (by rw [c_10]; decide +kernel) (by decide) ?_
                      refine lv_aload_n hx hb dX7_crane_140 rfl (lv_at hl 0 rfl) ?_
                      refine lv_aload_n hx hb dX7_crane_141 rfl (lv_at hl 1 rfl) ?_
                      refine bGet (v := .ref qR) (T := TX7) (N := 10) (ci := 7) X Y i_X7_crane_X7 0 rfl rfl 2 (Nat.le_of_ble_eq_true rfl) f_X7_crane_26 rfl rfl dX7_crane_142 ?_
                      refine bVI0 (As := [.ref qR]) (rest := []) (wc := [(qNpl, .inr (0, [.int nl0, .int nl1, .int nl2, .int nl3, .int nl4, .int nl5, .int nl6, .int nl7, .int nl8, .int nl9, .int nl10, .int nl11, .int (bB nlb)])), (qR, .inr (1, [.int r0, .int r1, .int r2, .int r3, .int r4, .ref qRl, .ref qRr]))]) (ci := 0) (q0 := 3) X Y (c_limit l D cyC cyI qNpl nl0 nl1 nl2 nl3 nl4 nl5 nl6 nl7 nl8 nl9 nl10 nl11 nlb qR qRl qRr r0 r1 r2 r3 r4 (s_limit nl3 r3) rfl) gX7_crane_X0_limit rfl ⟨rfl, rfl⟩ hd_X0_limit ⟨(Nat.le_of_ble_eq_true rfl), (Nat.le_of_ble_eq_true rfl)⟩ rfl rfl rfl [3, 5] rfl rfl rfl rfl hl.1 (Nat.le_of_ble_eq_true rfl) ⟨Nat.zero_le _, Nat.zero_le _⟩ dX7_crane_145 (fun H locs Y => ?_)
                      subst hu
                      exact bEndI X Y hr hlk dX7_crane_148 rfl rfl
                    · skip
                      rw [if_neg c_10] at hu
                      by_cases c_11 : what = 9
                      · rw [if_pos c_11] at hu
                        refine lv_tableIn (tgt := 149) (off := 127) hx hb dX7_crane_22 (by rw [c_11]; decide) (by rw [c_11]; decide) (by rw [c_11]; decide +kernel) (by decide) ?_
                        refine lv_aload_n hx hb dX7_crane_149 rfl (lv_at hl 0 rfl) ?_
                        refine bVI0 (As := []) (rest := []) (wc := [(qNpl, .inr (0, [.int nl0, .int nl1, .int nl2, .int nl3, .int nl4, .int nl5, .int nl6, .int nl7, .int nl8, .int nl9, .int nl10, .int nl11, .int (bB nlb)]))]) (ci := 0) (q0 := 3) X Y (c_stepsToCome l D cyC cyI qNpl nl0 nl1 nl2 nl3 nl4 nl5 nl6 nl7 nl8 nl9 nl10 nl11 nlb (s_stepsToCome nl9 nl11) rfl) gX7_crane_X0_stepsToCome rfl ⟨rfl, rfl⟩ hd_X0_stepsToCome ⟨(Nat.le_of_ble_eq_true rfl), (Nat.le_of_ble_eq_true rfl)⟩ rfl rfl rfl [3] rfl rfl rfl rfl hl.1 (Nat.le_of_ble_eq_true rfl) ⟨Nat.zero_le _, Nat.zero_le _⟩ dX7_crane_150 (fun H locs Y => ?_)
                        subst hu
                        exact bEndI X Y hr hlk dX7_crane_153 rfl rfl
                      · skip
                        rw [if_neg c_11] at hu
                        by_cases c_12 : what = 10
                        · rw [if_pos c_12] at hu
                          refine lv_tableIn (tgt := 154) (off := 132) hx hb dX7_crane_22 (by rw [c_12]; decide) (by rw [c_12]; decide) (by rw [c_12]; decide +kernel) (by decide) ?_
                          refine lv_aload_n hx hb dX7_crane_154 rfl (lv_at hl 0 rfl) ?_
                          refine bGet (v := .int nl1) (T := TX0) (N := 13) (ci := 0) X Y i_X7_crane_X0 3 rfl rfl 1 (Nat.le_of_ble_eq_true rfl) f_X7_crane_141 rfl rfl dX7_crane_155 ?_
                          refine lv_aload_n hx hb dX7_crane_158 rfl (lv_at hl 1 rfl) ?_
                          refine bGet (v := .ref qR) (T := TX7) (N := 10) (ci := 7) X Y i_X7_crane_X7 0 rfl rfl 2 (Nat.le_of_ble_eq_true rfl) f_X7_crane_26 rfl rfl dX7_crane_159 ?_
                          refine bGet (v := .int r2) (T := TX1) (N := 7) (ci := 1) X Y i_X7_crane_X1 5 rfl rfl 2 (Nat.le_of_ble_eq_true rfl) f_X7_crane_164 rfl rfl dX7_crane_162 ?_
                          refine bSI (As := [.int nl1, .int r2]) (rest := []) X Y (c_wayToStop l D cyC cyI nl1 r2 (s_wayToStop nl1 r2) rfl) gX7_crane_X7_wayToStop rfl ⟨rfl, rfl⟩ hd_X7_wayToStop.2 ⟨(Nat.le_of_ble_eq_true rfl), (Nat.le_of_ble_eq_true rfl)⟩ rfl rfl hl.1 (Nat.le_of_ble_eq_true rfl) ⟨Nat.zero_le _, Nat.zero_le _⟩ dX7_crane_165 (fun H locs Y => ?_)
                          subst hu
                          exact bEndI X Y hr hlk dX7_crane_168 rfl rfl
                        · skip
                          rw [if_neg c_12] at hu
                          by_cases c_13 : what = 11
                          · rw [if_pos c_13] at hu
                            refine lv_tableIn (tgt := 169) (off := 147) hx hb dX7_crane_22 (by rw [c_13]; decide) (by rw [c_13]; decide) (by rw [c_13]; decide +kernel) (by decide) ?_
                            refine lv_aload_n hx hb dX7_crane_169 rfl (lv_at hl 0 rfl) ?_
                            refine bGet (v := .int nl2) (T := TX0) (N := 13) (ci := 0) X Y i_X7_crane_X0 3 rfl rfl 2 (Nat.le_of_ble_eq_true rfl) f_X7_crane_145 rfl rfl dX7_crane_170 ?_
                            refine bSI (As := [.int nl2]) (rest := []) X Y (c_halfSwing l D cyC cyI nl2 (s_halfSwing nl2) rfl) gX7_crane_X7_halfSwing rfl ⟨rfl, rfl⟩ hd_X7_halfSwing.2 ⟨(Nat.le_of_ble_eq_true rfl), (Nat.le_of_ble_eq_true rfl)⟩ rfl rfl hl.1 (Nat.le_of_ble_eq_true rfl) ⟨Nat.zero_le _, Nat.zero_le _⟩ dX7_crane_173 (fun H locs Y => ?_)
                            subst hu
                            exact bEndI X Y hr hlk dX7_crane_176 rfl rfl
                          · skip
                            rw [if_neg c_13] at hu
                            by_cases c_14 : what = 12
                            · rw [if_pos c_14] at hu
                              refine lv_tableIn (tgt := 177) (off := 155) hx hb dX7_crane_22 (by rw [c_14]; decide) (by rw [c_14]; decide) (by rw [c_14]; decide +kernel) (by decide) ?_
                              refine lv_aload_n hx hb dX7_crane_177 rfl (lv_at hl 0 rfl) ?_
                              refine bVI0 (As := []) (rest := []) (wc := [(qNpl, .inr (0, [.int nl0, .int nl1, .int nl2, .int nl3, .int nl4, .int nl5, .int nl6, .int nl7, .int nl8, .int nl9, .int nl10, .int nl11, .int (bB nlb)]))]) (ci := 0) (q0 := 3) X Y (c_isQuiet l D cyC cyI qNpl nl0 nl1 nl2 nl3 nl4 nl5 nl6 nl7 nl8 nl9 nl10 nl11 nlb (s_isQuiet nl1 nl4 nl5 nl6 nl9 nl11) rfl) gX7_crane_X0_isQuiet rfl ⟨rfl, rfl⟩ hd_X0_isQuiet ⟨(Nat.le_of_ble_eq_true rfl), (Nat.le_of_ble_eq_true rfl)⟩ rfl rfl rfl [3] rfl rfl rfl rfl hl.1 (Nat.le_of_ble_eq_true rfl) ⟨Nat.zero_le _, Nat.zero_le _⟩ dX7_crane_178 (fun H locs Y => ?_)
                              refine lv_if_eq (tgt := 188) hx hb dX7_crane_181 (by decide) (fun c_15 => ?_) (fun c_15 => ?_)
                              · have c_15 := bB_f c_15
                                rw [if_neg c_15] at hu
                                refine lv_iconst (v := 0) hx hb dX7_crane_188 (by decide) ?_
                                subst hu
                                exact bEndI X Y hr hlk dX7_crane_189 rfl rfl
                              · have c_15 := bB_t c_15
                                rw [if_pos c_15] at hu
                                refine lv_iconst (v := 1) hx hb dX7_crane_184 (by decide) ?_
                                refine lv_goto (tgt := 189) hx hb dX7_crane_185 (by decide) ?_
                                subst hu
                                exact bEndI X Y hr hlk dX7_crane_189 rfl rfl
                            · skip
                              rw [if_neg c_14] at hu
                              refine lv_tableOut (tgt := 190) hx hb dX7_crane_22 (by have e0 := bNeI c_2 (show (0 : Int32).toInt = 0 by decide); have e1 := bNeI c_3 (show (1 : Int32).toInt = 1 by decide); have e2 := bNeI c_4 (show (2 : Int32).toInt = 2 by decide); have e3 := bNeI c_5 (show (3 : Int32).toInt = 3 by decide); have e4 := bNeI c_6 (show (4 : Int32).toInt = 4 by decide); have e5 := bNeI c_7 (show (5 : Int32).toInt = 5 by decide); have e6 := bNeI c_8 (show (6 : Int32).toInt = 6 by decide); have e7 := bNeI c_9 (show (7 : Int32).toInt = 7 by decide); have e8 := bNeI c_10 (show (8 : Int32).toInt = 8 by decide); have e9 := bNeI c_11 (show (9 : Int32).toInt = 9 by decide); have e10 := bNeI c_12 (show (10 : Int32).toInt = 10 by decide); have e11 := bNeI c_13 (show (11 : Int32).toInt = 11 by decide); have e12 := bNeI c_14 (show (12 : Int32).toInt = 12 by decide); omega) (by decide) ?_
                              refine lv_iconst (v := (-1)) hx hb dX7_crane_190 (by decide) ?_
                              subst hu
                              exact bEndI X Y hr hlk dX7_crane_191 rfl rfl
  · have c_1 := bB_f c_1
    rw [if_neg c_1] at hu
    refine lv_iconst (v := (-1)) hx hb dX7_crane_7 (by decide) ?_
    subst hu
    exact bEndI X Y hr hlk dX7_crane_8 rfl rfl
def s_crane_1 (nr0 : Int32) (nr1 : Int32) (nr2 : Int32) (nr3 : Int32) (nr4 : Int32) (nr5 : Int32) (nr6 : Int32) (nr7 : Int32) (nr9 : Int32) (nr11 : Int32) (r2 : Int32) (r3 : Int32) (what : Int32) : Int32 :=
  if (s_isCrane 1) = true then
    if what = 0 then
      nr0
    else
      if what = 1 then
        nr1 + 100000
      else
        if what = 2 then
          nr2
        else
          if what = 3 then
            nr3
          else
            if what = 4 then
              nr4 + 100000
            else
              if what = 5 then
                nr5 + 100000
              else
                if what = 6 then
                  nr6 + 100000
                else
                  if what = 7 then
                    nr7
                  else
                    if what = 8 then
                      (s_limit nr3 r3)
                    else
                      if what = 9 then
                        (s_stepsToCome nr9 nr11)
                      else
                        if what = 10 then
                          (s_wayToStop nr1 r2)
                        else
                          if what = 11 then
                            nI (s_halfSwing nr2)
                          else
                            if what = 12 then
                              if (s_isQuiet nr1 nr4 nr5 nr6 nr9 nr11) = true then
                                1
                              else
                                0
                            else
                              (-1)
  else
    (-1)
set_option maxHeartbeats 4000000 in
set_option maxRecDepth 100000 in
theorem c_crane_1 (l : Launch) (D : va_G) (cyC cyI : ClassId) (qM : Nat) (qT : Nat) (qQ : Nat) (qR : Nat) (qD : Nat) (qN : Nat) (q1 : Nat) (q2 : Nat) (q3 : Nat) (q4 : Nat) (ud : Int32) (nk : Int32) (qNp : Nat) (nv : Int32) (qNpl : Nat) (nl0 : Int32) (nl1 : Int32) (nl2 : Int32) (nl3 : Int32) (nl4 : Int32) (nl5 : Int32) (nl6 : Int32) (nl7 : Int32) (nl8 : Int32) (nl9 : Int32) (nl10 : Int32) (nl11 : Int32) (nlb : Bool) (qNpr : Nat) (nr0 : Int32) (nr1 : Int32) (nr2 : Int32) (nr3 : Int32) (nr4 : Int32) (nr5 : Int32) (nr6 : Int32) (nr7 : Int32) (nr8 : Int32) (nr9 : Int32) (nr10 : Int32) (nr11 : Int32) (nrb : Bool) (qNs : Nat) (qNz : Nat) (qRl : Nat) (qRr : Nat) (r0 : Int32) (r1 : Int32) (r2 : Int32) (r3 : Int32) (r4 : Int32) (what : Int32) (o0 : Int32) (hu : s_crane_1 nr0 nr1 nr2 nr3 nr4 nr5 nr6 nr7 nr9 nr11 r2 r3 what = o0) : CI l yX7_crane wsX7_crane { frames := 2, cells := 0, slots := 0, locals := 40 } D cyC cyI [.ref qM, .int 1, .int what] [(qM, .inr (7, [.ref qT, .ref qQ, .ref qR, .ref qD, .ref qN, .ref q1, .ref q2, .ref q3, .ref q4, .int ud])), (qN, .inr (5, [.ref qNp, .ref qNs, .ref qNz, .int nk])), (qNp, .inr (2, [.ref qNpl, .ref qNpr, .int nv])), (qNpl, .inr (0, [.int nl0, .int nl1, .int nl2, .int nl3, .int nl4, .int nl5, .int nl6, .int nl7, .int nl8, .int nl9, .int nl10, .int nl11, .int (bB nlb)])), (qNpr, .inr (0, [.int nr0, .int nr1, .int nr2, .int nr3, .int nr4, .int nr5, .int nr6, .int nr7, .int nr8, .int nr9, .int nr10, .int nr11, .int (bB nrb)])), (qR, .inr (1, [.int r0, .int r1, .int r2, .int r3, .int r4, .ref qRl, .ref qRr]))] o0 [(qM, .inr (7, [.ref qT, .ref qQ, .ref qR, .ref qD, .ref qN, .ref q1, .ref q2, .ref q3, .ref q4, .int ud])), (qN, .inr (5, [.ref qNp, .ref qNs, .ref qNz, .int nk])), (qNp, .inr (2, [.ref qNpl, .ref qNpr, .int nv])), (qNpl, .inr (0, [.int nl0, .int nl1, .int nl2, .int nl3, .int nl4, .int nl5, .int nl6, .int nl7, .int nl8, .int nl9, .int nl10, .int nl11, .int (bB nlb)])), (qNpr, .inr (0, [.int nr0, .int nr1, .int nr2, .int nr3, .int nr4, .int nr5, .int nr6, .int nr7, .int nr8, .int nr9, .int nr10, .int nr11, .int (bB nrb)])), (qR, .inr (1, [.int r0, .int r1, .int r2, .int r3, .int r4, .ref qRl, .ref qRr]))] := by
  refine CI.of (cc := cX7_crane) (n := 4) (ret := (some .int)) (by decide +kernel) rfl (Nat.le_of_ble_eq_true rfl) ?_
  intro p_ e_ s_ m_ bl_ me_ cd_ A_ ls X Y hr hlk hl
  have hx := X.1.1
  have hb := X.1.2.1
  have hl : lv_has ls 4 [(0, .ref qM), (1, .int 1), (2, .int what)] := hl
  unfold s_crane_1 at hu
  refine lv_iload_n hx hb dX7_crane_0 rfl (lv_at hl 1 rfl) ?_
  refine bSI (As := [.int 1]) (rest := []) X Y (c_isCrane l D cyC cyI 1 (s_isCrane 1) rfl) gX7_crane_X7_isCrane rfl ⟨rfl, rfl⟩ hd_X7_isCrane.2 ⟨(Nat.le_of_ble_eq_true rfl), (Nat.le_of_ble_eq_true rfl)⟩ rfl rfl hl.1 (Nat.le_of_ble_eq_true rfl) ⟨Nat.zero_le _, Nat.zero_le _⟩ dX7_crane_1 (fun H locs Y => ?_)
  refine lv_if_ne (tgt := 9) hx hb dX7_crane_4 (by decide) (fun c_1 => ?_) (fun c_1 => ?_)
  · have c_1 := bB_t c_1
    rw [if_pos c_1] at hu
    refine lv_aload_n hx hb dX7_crane_9 rfl (lv_at hl 0 rfl) ?_
    refine bGet (v := .ref qN) (T := TX7) (N := 10) (ci := 7) X Y i_X7_crane_X7 0 rfl rfl 4 (Nat.le_of_ble_eq_true rfl) f_X7_crane_36 rfl rfl dX7_crane_10 ?_
    refine bGet (v := .ref qNp) (T := TX5) (N := 4) (ci := 5) X Y i_X7_crane_X5 1 rfl rfl 0 (Nat.le_of_ble_eq_true rfl) f_X7_crane_95 rfl rfl dX7_crane_13 ?_
    refine lv_iload_n hx hb dX7_crane_16 rfl (lv_at hl 1 rfl) ?_
    refine bVR0 (As := [.int 1]) (rest := []) (wc := [(qNp, .inr (2, [.ref qNpl, .ref qNpr, .int nv]))]) (ci := 2) (q0 := 2) X Y (c_side1 l D cyC cyI qNp qNpl qNpr nv) gX7_crane_X2_side rfl ⟨rfl, rfl⟩ hd_X2_side ⟨(Nat.le_of_ble_eq_true rfl), (Nat.le_of_ble_eq_true rfl)⟩ rfl rfl rfl [2] rfl rfl rfl rfl hl.1 (Nat.le_of_ble_eq_true rfl) ⟨Nat.zero_le _, Nat.zero_le _⟩ dX7_crane_17 (fun H locs Y => ?_)
    refine lv_astore_n (lv' := [(3, .ref qNpr), (0, .ref qM), (1, .int 1), (2, .int what)]) hx hb dX7_crane_20 rfl hl (by decide) rfl (fun ls hl => ?_)
    refine lv_iload_n hx hb dX7_crane_21 rfl (lv_at hl 3 rfl) ?_
    by_cases c_2 : what = 0
    · rw [if_pos c_2] at hu
      refine lv_tableIn (tgt := 88) (off := 66) hx hb dX7_crane_22 (by rw [c_2]; decide) (by rw [c_2]; decide) (by rw [c_2]; decide +kernel) (by decide) ?_
      refine lv_aload_n hx hb dX7_crane_88 rfl (lv_at hl 0 rfl) ?_
      refine bGet (v := .int nr0) (T := TX0) (N := 13) (ci := 0) X Y i_X7_crane_X0 4 rfl rfl 0 (Nat.le_of_ble_eq_true rfl) f_X7_crane_138 rfl rfl dX7_crane_89 ?_
      subst hu
      exact bEndI X Y hr hlk dX7_crane_92 rfl rfl
    · skip
      rw [if_neg c_2] at hu
      by_cases c_3 : what = 1
      · rw [if_pos c_3] at hu
        refine lv_tableIn (tgt := 93) (off := 71) hx hb dX7_crane_22 (by rw [c_3]; decide) (by rw [c_3]; decide) (by rw [c_3]; decide +kernel) (by decide) ?_
        refine lv_aload_n hx hb dX7_crane_93 rfl (lv_at hl 0 rfl) ?_
        refine bGet (v := .int nr1) (T := TX0) (N := 13) (ci := 0) X Y i_X7_crane_X0 4 rfl rfl 1 (Nat.le_of_ble_eq_true rfl) f_X7_crane_141 rfl rfl dX7_crane_94 ?_
        refine lv_ldc (v := 100000) hx hb X.1.2.2.2.1 (X.1.2.2.2.2 _ k_X7_crane_144) dX7_crane_97 ?_
        refine bAdd (v := nr1 + 100000) X dX7_crane_99 rfl ?_
        subst hu
        exact bEndI X Y hr hlk dX7_crane_100 rfl rfl
      · skip
        rw [if_neg c_3] at hu
        by_cases c_4 : what = 2
        · rw [if_pos c_4] at hu
          refine lv_tableIn (tgt := 101) (off := 79) hx hb dX7_crane_22 (by rw [c_4]; decide) (by rw [c_4]; decide) (by rw [c_4]; decide +kernel) (by decide) ?_
          refine lv_aload_n hx hb dX7_crane_101 rfl (lv_at hl 0 rfl) ?_
          refine bGet (v := .int nr2) (T := TX0) (N := 13) (ci := 0) X Y i_X7_crane_X0 4 rfl rfl 2 (Nat.le_of_ble_eq_true rfl) f_X7_crane_145 rfl rfl dX7_crane_102 ?_
          subst hu
          exact bEndI X Y hr hlk dX7_crane_105 rfl rfl
        · skip
          rw [if_neg c_4] at hu
          by_cases c_5 : what = 3
          · rw [if_pos c_5] at hu
            refine lv_tableIn (tgt := 106) (off := 84) hx hb dX7_crane_22 (by rw [c_5]; decide) (by rw [c_5]; decide) (by rw [c_5]; decide +kernel) (by decide) ?_
            refine lv_aload_n hx hb dX7_crane_106 rfl (lv_at hl 0 rfl) ?_
            refine bGet (v := .int nr3) (T := TX0) (N := 13) (ci := 0) X Y i_X7_crane_X0 4 rfl rfl 3 (Nat.le_of_ble_eq_true rfl) f_X7_crane_126 rfl rfl dX7_crane_107 ?_
            subst hu
            exact bEndI X Y hr hlk dX7_crane_110 rfl rfl
          · skip
            rw [if_neg c_5] at hu
            by_cases c_6 : what = 4
            · rw [if_pos c_6] at hu
              refine lv_tableIn (tgt := 111) (off := 89) hx hb dX7_crane_22 (by rw [c_6]; decide) (by rw [c_6]; decide) (by rw [c_6]; decide +kernel) (by decide) ?_
              refine lv_aload_n hx hb dX7_crane_111 rfl (lv_at hl 0 rfl) ?_
              refine bGet (v := .int nr4) (T := TX0) (N := 13) (ci := 0) X Y i_X7_crane_X0 4 rfl rfl 4 (Nat.le_of_ble_eq_true rfl) f_X7_crane_148 rfl rfl dX7_crane_112 ?_
              refine lv_ldc (v := 100000) hx hb X.1.2.2.2.1 (X.1.2.2.2.2 _ k_X7_crane_144) dX7_crane_115 ?_
              refine bAdd (v := nr4 + 100000) X dX7_crane_117 rfl ?_
              subst hu
              exact bEndI X Y hr hlk dX7_crane_118 rfl rfl
            · skip
              rw [if_neg c_6] at hu
              by_cases c_7 : what = 5
              · rw [if_pos c_7] at hu
                refine lv_tableIn (tgt := 119) (off := 97) hx hb dX7_crane_22 (by rw [c_7]; decide) (by rw [c_7]; decide) (by rw [c_7]; decide +kernel) (by decide) ?_
                refine lv_aload_n hx hb dX7_crane_119 rfl (lv_at hl 0 rfl) ?_
                refine bGet (v := .int nr5) (T := TX0) (N := 13) (ci := 0) X Y i_X7_crane_X0 4 rfl rfl 5 (Nat.le_of_ble_eq_true rfl) f_X7_crane_151 rfl rfl dX7_crane_120 ?_
                refine lv_ldc (v := 100000) hx hb X.1.2.2.2.1 (X.1.2.2.2.2 _ k_X7_crane_144) dX7_crane_123 ?_
                refine bAdd (v := nr5 + 100000) X dX7_crane_125 rfl ?_
                subst hu
                exact bEndI X Y hr hlk dX7_crane_126 rfl rfl
              · skip
                rw [if_neg c_7] at hu
                by_cases c_8 : what = 6
                · rw [if_pos c_8] at hu
                  refine lv_tableIn (tgt := 127) (off := 105) hx hb dX7_crane_22 (by rw [c_8]; decide) (by rw [c_8]; decide) (by rw [c_8]; decide +kernel) (by decide) ?_
                  refine lv_aload_n hx hb dX7_crane_127 rfl (lv_at hl 0 rfl) ?_
                  refine bGet (v := .int nr6) (T := TX0) (N := 13) (ci := 0) X Y i_X7_crane_X0 4 rfl rfl 6 (Nat.le_of_ble_eq_true rfl) f_X7_crane_154 rfl rfl dX7_crane_128 ?_
                  refine lv_ldc (v := 100000) hx hb X.1.2.2.2.1 (X.1.2.2.2.2 _ k_X7_crane_144) dX7_crane_131 ?_
                  refine bAdd (v := nr6 + 100000) X dX7_crane_133 rfl ?_
                  subst hu
                  exact bEndI X Y hr hlk dX7_crane_134 rfl rfl
                · skip
                  rw [if_neg c_8] at hu
                  by_cases c_9 : what = 7
                  · rw [if_pos c_9] at hu
                    refine lv_tableIn (tgt := 135) (off := 113) hx hb dX7_crane_22 (by rw [c_9]; decide) (by rw [c_9]; decide) (by rw [c_9]; decide +kernel) (by decide) ?_
                    refine lv_aload_n hx hb dX7_crane_135 rfl (lv_at hl 0 rfl) ?_
                    refine bGet (v := .int nr7) (T := TX0) (N := 13) (ci := 0) X Y i_X7_crane_X0 4 rfl rfl 7 (Nat.le_of_ble_eq_true rfl) f_X7_crane_117 rfl rfl dX7_crane_136 ?_
                    subst hu
                    exact bEndI X Y hr hlk dX7_crane_139 rfl rfl
                  · skip
                    rw [if_neg c_9] at hu
                    by_cases c_10 : what = 8
                    · rw [if_pos c_10] at hu
                      refine lv_tableIn (tgt := 140) (off := 118) hx hb dX7_crane_22 (by rw [c_10]; decide) (by rw [c_10]; decide) (by rw [c_10]; decide +kernel) (by decide) ?_
                      refine lv_aload_n hx hb dX7_crane_140 rfl (lv_at hl 0 rfl) ?_
                      refine lv_aload_n hx hb dX7_crane_141 rfl (lv_at hl 1 rfl) ?_
                      refine bGet (v := .ref qR) (T := TX7) (N := 10) (ci := 7) X Y i_X7_crane_X7 0 rfl rfl 2 (Nat.le_of_ble_eq_true rfl) f_X7_crane_26 rfl rfl dX7_crane_142 ?_
                      refine bVI0 (As := [.ref qR]) (rest := []) (wc := [(qNpr, .inr (0, [.int nr0, .int nr1, .int nr2, .int nr3, .int nr4, .int nr5, .int nr6, .int nr7, .int nr8, .int nr9, .int nr10, .int nr11, .int (bB nrb)])), (qR, .inr (1, [.int r0, .int r1, .int r2, .int r3, .int r4, .ref qRl, .ref qRr]))]) (ci := 0) (q0 := 4) X Y (c_limit l D cyC cyI qNpr nr0 nr1 nr2 nr3 nr4 nr5 nr6 nr7 nr8 nr9 nr10 nr11 nrb qR qRl qRr r0 r1 r2 r3 r4 (s_limit nr3 r3) rfl) gX7_crane_X0_limit rfl ⟨rfl, rfl⟩ hd_X0_limit ⟨(Nat.le_of_ble_eq_true rfl), (Nat.le_of_ble_eq_true rfl)⟩ rfl rfl rfl [4, 5] rfl rfl rfl rfl hl.1 (Nat.le_of_ble_eq_true rfl) ⟨Nat.zero_le _, Nat.zero_le _⟩ dX7_crane_145 (fun H locs Y => ?_)
                      subst hu
                      exact bEndI X Y hr hlk dX7_crane_148 rfl rfl
                    · skip
                      rw [if_neg c_10] at hu
                      by_cases c_11 : what = 9
                      · rw [if_pos c_11] at hu
                        refine lv_tableIn (tgt := 149) (off := 127) hx hb dX7_crane_22 (by rw [c_11]; decide) (by rw [c_11]; decide) (by rw [c_11]; decide +kernel) (by decide) ?_
                        refine lv_aload_n hx hb dX7_crane_149 rfl (lv_at hl 0 rfl) ?_
                        refine bVI0 (As := []) (rest := []) (wc := [(qNpr, .inr (0, [.int nr0, .int nr1, .int nr2, .int nr3, .int nr4, .int nr5, .int nr6, .int nr7, .int nr8, .int nr9, .int nr10, .int nr11, .int (bB nrb)]))]) (ci := 0) (q0 := 4) X Y (c_stepsToCome l D cyC cyI qNpr nr0 nr1 nr2 nr3 nr4 nr5 nr6 nr7 nr8 nr9 nr10 nr11 nrb (s_stepsToCome nr9 nr11) rfl) gX7_crane_X0_stepsToCome rfl ⟨rfl, rfl⟩ hd_X0_stepsToCome ⟨(Nat.le_of_ble_eq_true rfl), (Nat.le_of_ble_eq_true rfl)⟩ rfl rfl rfl [4] rfl rfl rfl rfl hl.1 (Nat.le_of_ble_eq_true rfl) ⟨Nat.zero_le _, Nat.zero_le _⟩ dX7_crane_150 (fun H locs Y => ?_)
                        subst hu
                        exact bEndI X Y hr hlk dX7_crane_153 rfl rfl
                      · skip
                        rw [if_neg c_11] at hu
                        by_cases c_12 : what = 10
                        · rw [if_pos c_12] at hu
                          refine lv_tableIn (tgt := 154) (off := 132) hx hb dX7_crane_22 (by rw [c_12]; decide) (by rw [c_12]; decide) (by rw [c_12]; decide +kernel) (by decide) ?_
                          refine lv_aload_n hx hb dX7_crane_154 rfl (lv_at hl 0 rfl) ?_
                          refine bGet (v := .int nr1) (T := TX0) (N := 13) (ci := 0) X Y i_X7_crane_X0 4 rfl rfl 1 (Nat.le_of_ble_eq_true rfl) f_X7_crane_141 rfl rfl dX7_crane_155 ?_
                          refine lv_aload_n hx hb dX7_crane_158 rfl (lv_at hl 1 rfl) ?_
                          refine bGet (v := .ref qR) (T := TX7) (N := 10) (ci := 7) X Y i_X7_crane_X7 0 rfl rfl 2 (Nat.le_of_ble_eq_true rfl) f_X7_crane_26 rfl rfl dX7_crane_159 ?_
                          refine bGet (v := .int r2) (T := TX1) (N := 7) (ci := 1) X Y i_X7_crane_X1 5 rfl rfl 2 (Nat.le_of_ble_eq_true rfl) f_X7_crane_164 rfl rfl dX7_crane_162 ?_
                          refine bSI (As := [.int nr1, .int r2]) (rest := []) X Y (c_wayToStop l D cyC cyI nr1 r2 (s_wayToStop nr1 r2) rfl) gX7_crane_X7_wayToStop rfl ⟨rfl, rfl⟩ hd_X7_wayToStop.2 ⟨(Nat.le_of_ble_eq_true rfl), (Nat.le_of_ble_eq_true rfl)⟩ rfl rfl hl.1 (Nat.le_of_ble_eq_true rfl) ⟨Nat.zero_le _, Nat.zero_le _⟩ dX7_crane_165 (fun H locs Y => ?_)
                          subst hu
                          exact bEndI X Y hr hlk dX7_crane_168 rfl rfl
                        · skip
                          rw [if_neg c_12] at hu
                          by_cases c_13 : what = 11
                          · rw [if_pos c_13] at hu
                            refine lv_tableIn (tgt := 169) (off := 147) hx hb dX7_crane_22 (by rw [c_13]; decide) (by rw [c_13]; decide) (by rw [c_13]; decide +kernel) (by decide) ?_
                            refine lv_aload_n hx hb dX7_crane_169 rfl (lv_at hl 0 rfl) ?_
                            refine bGet (v := .int nr2) (T := TX0) (N := 13) (ci := 0) X Y i_X7_crane_X0 4 rfl rfl 2 (Nat.le_of_ble_eq_true rfl) f_X7_crane_145 rfl rfl dX7_crane_170 ?_
                            refine bSI (As := [.int nr2]) (rest := []) X Y (c_halfSwing l D cyC cyI nr2 (s_halfSwing nr2) rfl) gX7_crane_X7_halfSwing rfl ⟨rfl, rfl⟩ hd_X7_halfSwing.2 ⟨(Nat.le_of_ble_eq_true rfl), (Nat.le_of_ble_eq_true rfl)⟩ rfl rfl hl.1 (Nat.le_of_ble_eq_true rfl) ⟨Nat.zero_le _, Nat.zero_le _⟩ dX7_crane_173 (fun H locs Y => ?_)
                            subst hu
                            exact bEndI X Y hr hlk dX7_crane_176 rfl rfl
                          · skip
                            rw [if_neg c_13] at hu
                            by_cases c_14 : what = 12
                            · rw [if_pos c_14] at hu
                              refine lv_tableIn (tgt := 177) (off := 155) hx hb dX7_crane_22 (by rw [c_14]; decide) (by rw [c_14]; decide) (by rw [c_14]; decide +kernel) (by decide) ?_
                              refine lv_aload_n hx hb dX7_crane_177 rfl (lv_at hl 0 rfl) ?_
                              refine bVI0 (As := []) (rest := []) (wc := [(qNpr, .inr (0, [.int nr0, .int nr1, .int nr2, .int nr3, .int nr4, .int nr5, .int nr6, .int nr7, .int nr8, .int nr9, .int nr10, .int nr11, .int (bB nrb)]))]) (ci := 0) (q0 := 4) X Y (c_isQuiet l D cyC cyI qNpr nr0 nr1 nr2 nr3 nr4 nr5 nr6 nr7 nr8 nr9 nr10 nr11 nrb (s_isQuiet nr1 nr4 nr5 nr6 nr9 nr11) rfl) gX7_crane_X0_isQuiet rfl ⟨rfl, rfl⟩ hd_X0_isQuiet ⟨(Nat.le_of_ble_eq_true rfl), (Nat.le_of_ble_eq_true rfl)⟩ rfl rfl rfl [4] rfl rfl rfl rfl hl.1 (Nat.le_of_ble_eq_true rfl) ⟨Nat.zero_le _, Nat.zero_le _⟩ dX7_crane_178 (fun H locs Y => ?_)
                              refine lv_if_eq (tgt := 188) hx hb dX7_crane_181 (by decide) (fun c_15 => ?_) (fun c_15 => ?_)
                              · have c_15 := bB_f c_15
                                rw [if_neg c_15] at hu
                                refine lv_iconst (v := 0) hx hb dX7_crane_188 (by decide) ?_
                                subst hu
                                exact bEndI X Y hr hlk dX7_crane_189 rfl rfl
                              · have c_15 := bB_t c_15
                                rw [if_pos c_15] at hu
                                refine lv_iconst (v := 1) hx hb dX7_crane_184 (by decide) ?_
                                refine lv_goto (tgt := 189) hx hb dX7_crane_185 (by decide) ?_
                                subst hu
                                exact bEndI X Y hr hlk dX7_crane_189 rfl rfl
                            · skip
                              rw [if_neg c_14] at hu
                              refine lv_tableOut (tgt := 190) hx hb dX7_crane_22 (by have e0 := bNeI c_2 (show (0 : Int32).toInt = 0 by decide); have e1 := bNeI c_3 (show (1 : Int32).toInt = 1 by decide); have e2 := bNeI c_4 (show (2 : Int32).toInt = 2 by decide); have e3 := bNeI c_5 (show (3 : Int32).toInt = 3 by decide); have e4 := bNeI c_6 (show (4 : Int32).toInt = 4 by decide); have e5 := bNeI c_7 (show (5 : Int32).toInt = 5 by decide); have e6 := bNeI c_8 (show (6 : Int32).toInt = 6 by decide); have e7 := bNeI c_9 (show (7 : Int32).toInt = 7 by decide); have e8 := bNeI c_10 (show (8 : Int32).toInt = 8 by decide); have e9 := bNeI c_11 (show (9 : Int32).toInt = 9 by decide); have e10 := bNeI c_12 (show (10 : Int32).toInt = 10 by decide); have e11 := bNeI c_13 (show (11 : Int32).toInt = 11 by decide); have e12 := bNeI c_14 (show (12 : Int32).toInt = 12 by decide); omega) (by decide) ?_
                              refine lv_iconst (v := (-1)) hx hb dX7_crane_190 (by decide) ?_
                              subst hu
                              exact bEndI X Y hr hlk dX7_crane_191 rfl rfl
  · have c_1 := bB_f c_1
    rw [if_neg c_1] at hu
    refine lv_iconst (v := (-1)) hx hb dX7_crane_7 (by decide) ?_
    subst hu
    exact bEndI X Y hr hlk dX7_crane_8 rfl rfl
def s_crane_b : Int32 :=
  (-1)
set_option maxHeartbeats 4000000 in
set_option maxRecDepth 100000 in
theorem c_crane_b (l : Launch) (D : va_G) (cyC cyI : ClassId) (qM : Nat) (qT : Nat) (qQ : Nat) (qR : Nat) (qD : Nat) (qN : Nat) (q1 : Nat) (q2 : Nat) (q3 : Nat) (q4 : Nat) (ud : Int32) (c : Int32) (what : Int32) (o0 : Int32) (hu : s_crane_b = o0) (hc0 : ¬ c = 0) (hc1 : ¬ c = 1) : CI l yX7_crane wsX7_crane { frames := 1, cells := 0, slots := 0, locals := 20 } D cyC cyI [.ref qM, .int c, .int what] [(qM, .inr (7, [.ref qT, .ref qQ, .ref qR, .ref qD, .ref qN, .ref q1, .ref q2, .ref q3, .ref q4, .int ud]))] o0 [(qM, .inr (7, [.ref qT, .ref qQ, .ref qR, .ref qD, .ref qN, .ref q1, .ref q2, .ref q3, .ref q4, .int ud]))] := by
  refine CI.of (cc := cX7_crane) (n := 4) (ret := (some .int)) (by decide +kernel) rfl (Nat.le_of_ble_eq_true rfl) ?_
  intro p_ e_ s_ m_ bl_ me_ cd_ A_ ls X Y hr hlk hl
  have hx := X.1.1
  have hb := X.1.2.1
  have hl : lv_has ls 4 [(0, .ref qM), (1, .int c), (2, .int what)] := hl
  unfold s_crane_b at hu
  refine lv_iload_n hx hb dX7_crane_0 rfl (lv_at hl 1 rfl) ?_
  refine bSI (As := [.int c]) (rest := []) X Y (c_isCrane l D cyC cyI c (s_isCrane c) rfl) gX7_crane_X7_isCrane rfl ⟨rfl, rfl⟩ hd_X7_isCrane.2 ⟨(Nat.le_of_ble_eq_true rfl), (Nat.le_of_ble_eq_true rfl)⟩ rfl rfl hl.1 (Nat.le_of_ble_eq_true rfl) ⟨Nat.zero_le _, Nat.zero_le _⟩ dX7_crane_1 (fun H locs Y => ?_)
  refine lv_if_ne (tgt := 9) hx hb dX7_crane_4 (by decide) (fun c_1 => ?_) (fun c_1 => ?_)
  · have c_1 := bB_t c_1
    exact absurd c_1 (isCrane_no hc0 hc1)
  · have c_1 := bB_f c_1
    refine lv_iconst (v := (-1)) hx hb dX7_crane_7 (by decide) ?_
    subst hu
    exact bEndI X Y hr hlk dX7_crane_8 rfl rfl
theorem i_X7_stepOf_X7 : ∀ w ∈ wsX70, w ∈ wsX7_stepOf := by decide +kernel
theorem f_X7_stepOf_36 : Cond.fieldLink RX7 36 "SwingCranes" "now" "LSwingCranes$Story;" ∈ wsX7_stepOf := by decide +kernel
theorem i_X7_stepOf_X5 : ∀ w ∈ wsX50, w ∈ wsX7_stepOf := by decide +kernel
theorem f_X7_stepOf_95 : Cond.fieldLink RX7 95 "SwingCranes$Story" "pair" "LSwingCranes$Pair;" ∈ wsX7_stepOf := by decide +kernel
theorem hd_X0_stepBy : bD1 yX0_stepBy RX0 1 := by decide +kernel
theorem k_X7_stepOf_144 : Cond.constant RX7 144 (100000) ∈ wsX7_stepOf := by decide +kernel
theorem hd_X0_stepIn : bD1 yX0_stepIn RX0 1 := by decide +kernel
def s_stepOf_0 (nl8 : Int32) (nl9 : Int32) (nl10 : Int32) (nl11 : Int32) (k : Int32) (what : Int32) : Int32 :=
  if (s_isCrane 0) = true then
    if k < 0 then
      (-1)
    else
      if (s_isWithin what 0 1) = true then
        if k < (s_stepsToCome nl9 nl11) then
          if what = 0 then
            (s_stepIn nl8 nl9 nl10 k)
          else
            (s_stepBy nl9 nl11 k) + 100000
        else
          (-4)
      else
        (-1)
  else
    (-1)
set_option maxHeartbeats 4000000 in
set_option maxRecDepth 100000 in
theorem c_stepOf_0 (l : Launch) (D : va_G) (cyC cyI : ClassId) (qM : Nat) (qT : Nat) (qQ : Nat) (qR : Nat) (qD : Nat) (qN : Nat) (q1 : Nat) (q2 : Nat) (q3 : Nat) (q4 : Nat) (ud : Int32) (nk : Int32) (qNp : Nat) (nv : Int32) (qNpl : Nat) (nl0 : Int32) (nl1 : Int32) (nl2 : Int32) (nl3 : Int32) (nl4 : Int32) (nl5 : Int32) (nl6 : Int32) (nl7 : Int32) (nl8 : Int32) (nl9 : Int32) (nl10 : Int32) (nl11 : Int32) (nlb : Bool) (qNpr : Nat) (nr0 : Int32) (nr1 : Int32) (nr2 : Int32) (nr3 : Int32) (nr4 : Int32) (nr5 : Int32) (nr6 : Int32) (nr7 : Int32) (nr8 : Int32) (nr9 : Int32) (nr10 : Int32) (nr11 : Int32) (nrb : Bool) (qNs : Nat) (qNz : Nat) (k : Int32) (what : Int32) (o0 : Int32) (hu : s_stepOf_0 nl8 nl9 nl10 nl11 k what = o0) : CI l yX7_stepOf wsX7_stepOf { frames := 2, cells := 0, slots := 0, locals := 42 } D cyC cyI [.ref qM, .int 0, .int k, .int what] [(qM, .inr (7, [.ref qT, .ref qQ, .ref qR, .ref qD, .ref qN, .ref q1, .ref q2, .ref q3, .ref q4, .int ud])), (qN, .inr (5, [.ref qNp, .ref qNs, .ref qNz, .int nk])), (qNp, .inr (2, [.ref qNpl, .ref qNpr, .int nv])), (qNpl, .inr (0, [.int nl0, .int nl1, .int nl2, .int nl3, .int nl4, .int nl5, .int nl6, .int nl7, .int nl8, .int nl9, .int nl10, .int nl11, .int (bB nlb)])), (qNpr, .inr (0, [.int nr0, .int nr1, .int nr2, .int nr3, .int nr4, .int nr5, .int nr6, .int nr7, .int nr8, .int nr9, .int nr10, .int nr11, .int (bB nrb)]))] o0 [(qM, .inr (7, [.ref qT, .ref qQ, .ref qR, .ref qD, .ref qN, .ref q1, .ref q2, .ref q3, .ref q4, .int ud])), (qN, .inr (5, [.ref qNp, .ref qNs, .ref qNz, .int nk])), (qNp, .inr (2, [.ref qNpl, .ref qNpr, .int nv])), (qNpl, .inr (0, [.int nl0, .int nl1, .int nl2, .int nl3, .int nl4, .int nl5, .int nl6, .int nl7, .int nl8, .int nl9, .int nl10, .int nl11, .int (bB nlb)])), (qNpr, .inr (0, [.int nr0, .int nr1, .int nr2, .int nr3, .int nr4, .int nr5, .int nr6, .int nr7, .int nr8, .int nr9, .int nr10, .int nr11, .int (bB nrb)]))] := by
  refine CI.of (cc := cX7_stepOf) (n := 5) (ret := (some .int)) (by decide +kernel) rfl (Nat.le_of_ble_eq_true rfl) ?_
  intro p_ e_ s_ m_ bl_ me_ cd_ A_ ls X Y hr hlk hl
  have hx := X.1.1
  have hb := X.1.2.1
  have hl : lv_has ls 5 [(0, .ref qM), (1, .int 0), (2, .int k), (3, .int what)] := hl
  unfold s_stepOf_0 at hu
  refine lv_iload_n hx hb dX7_stepOf_0 rfl (lv_at hl 1 rfl) ?_
  refine bSI (As := [.int 0]) (rest := []) X Y (c_isCrane l D cyC cyI 0 (s_isCrane 0) rfl) gX7_stepOf_X7_isCrane rfl ⟨rfl, rfl⟩ hd_X7_isCrane.2 ⟨(Nat.le_of_ble_eq_true rfl), (Nat.le_of_ble_eq_true rfl)⟩ rfl rfl hl.1 (Nat.le_of_ble_eq_true rfl) ⟨Nat.zero_le _, Nat.zero_le _⟩ dX7_stepOf_1 (fun H locs Y => ?_)
  refine lv_if_eq (tgt := 20) hx hb dX7_stepOf_4 (by decide) (fun c_1 => ?_) (fun c_1 => ?_)
  · have c_1 := bB_f c_1
    rw [if_neg c_1] at hu
    refine lv_iconst (v := (-1)) hx hb dX7_stepOf_20 (by decide) ?_
    subst hu
    exact bEndI X Y hr hlk dX7_stepOf_21 rfl rfl
  · have c_1 := bB_t c_1
    rw [if_pos c_1] at hu
    refine lv_iload_n hx hb dX7_stepOf_7 rfl (lv_at hl 2 rfl) ?_
    refine lv_if_lt (tgt := 20) hx hb dX7_stepOf_8 (by decide) (fun c_2 => ?_) (fun c_2 => ?_)
    · have c_2 : k < 0 := c_2
      rw [if_pos c_2] at hu
      refine lv_iconst (v := (-1)) hx hb dX7_stepOf_20 (by decide) ?_
      subst hu
      exact bEndI X Y hr hlk dX7_stepOf_21 rfl rfl
    · have c_2 : ¬ (k < 0) := c_2
      rw [if_neg c_2] at hu
      refine lv_iload_n hx hb dX7_stepOf_11 rfl (lv_at hl 3 rfl) ?_
      refine lv_iconst (v := 0) hx hb dX7_stepOf_12 (by decide) ?_
      refine lv_iconst (v := 1) hx hb dX7_stepOf_13 (by decide) ?_
      refine bSI (As := [.int what, .int 0, .int 1]) (rest := []) X Y (c_isWithin l D cyC cyI what 0 1 (s_isWithin what 0 1) rfl) gX7_stepOf_X7_isWithin rfl ⟨rfl, rfl⟩ hd_X7_isWithin.2 ⟨(Nat.le_of_ble_eq_true rfl), (Nat.le_of_ble_eq_true rfl)⟩ rfl rfl hl.1 (Nat.le_of_ble_eq_true rfl) ⟨Nat.zero_le _, Nat.zero_le _⟩ dX7_stepOf_14 (fun H locs Y => ?_)
      refine lv_if_ne (tgt := 22) hx hb dX7_stepOf_17 (by decide) (fun c_3 => ?_) (fun c_3 => ?_)
      · have c_3 := bB_t c_3
        rw [if_pos c_3] at hu
        refine lv_aload_n hx hb dX7_stepOf_22 rfl (lv_at hl 0 rfl) ?_
        refine bGet (v := .ref qN) (T := TX7) (N := 10) (ci := 7) X Y i_X7_stepOf_X7 0 rfl rfl 4 (Nat.le_of_ble_eq_true rfl) f_X7_stepOf_36 rfl rfl dX7_stepOf_23 ?_
        refine bGet (v := .ref qNp) (T := TX5) (N := 4) (ci := 5) X Y i_X7_stepOf_X5 1 rfl rfl 0 (Nat.le_of_ble_eq_true rfl) f_X7_stepOf_95 rfl rfl dX7_stepOf_26 ?_
        refine lv_iload_n hx hb dX7_stepOf_29 rfl (lv_at hl 1 rfl) ?_
        refine bVR0 (As := [.int 0]) (rest := []) (wc := [(qNp, .inr (2, [.ref qNpl, .ref qNpr, .int nv]))]) (ci := 2) (q0 := 2) X Y (c_side0 l D cyC cyI qNp qNpl qNpr nv) gX7_stepOf_X2_side rfl ⟨rfl, rfl⟩ hd_X2_side ⟨(Nat.le_of_ble_eq_true rfl), (Nat.le_of_ble_eq_true rfl)⟩ rfl rfl rfl [2] rfl rfl rfl rfl hl.1 (Nat.le_of_ble_eq_true rfl) ⟨Nat.zero_le _, Nat.zero_le _⟩ dX7_stepOf_30 (fun H locs Y => ?_)
        refine lv_astore (lv' := [(4, .ref qNpl), (0, .ref qM), (1, .int 0), (2, .int k), (3, .int what)]) hx hb dX7_stepOf_33 hl (by decide) rfl (fun ls hl => ?_)
        refine lv_iload_n hx hb dX7_stepOf_35 rfl (lv_at hl 3 rfl) ?_
        refine lv_aload hx hb dX7_stepOf_36 (lv_at hl 0 rfl) ?_
        refine bVI0 (As := []) (rest := [.int k]) (wc := [(qNpl, .inr (0, [.int nl0, .int nl1, .int nl2, .int nl3, .int nl4, .int nl5, .int nl6, .int nl7, .int nl8, .int nl9, .int nl10, .int nl11, .int (bB nlb)]))]) (ci := 0) (q0 := 3) X Y (c_stepsToCome l D cyC cyI qNpl nl0 nl1 nl2 nl3 nl4 nl5 nl6 nl7 nl8 nl9 nl10 nl11 nlb (s_stepsToCome nl9 nl11) rfl) gX7_stepOf_X0_stepsToCome rfl ⟨rfl, rfl⟩ hd_X0_stepsToCome ⟨(Nat.le_of_ble_eq_true rfl), (Nat.le_of_ble_eq_true rfl)⟩ rfl rfl rfl [3] rfl rfl rfl rfl hl.1 (Nat.le_of_ble_eq_true rfl) ⟨Nat.zero_le _, Nat.zero_le _⟩ dX7_stepOf_38 (fun H locs Y => ?_)
        refine lv_icmp_lt (tgt := 47) hx hb dX7_stepOf_41 (by decide) (fun c_4 => ?_) (fun c_4 => ?_)
        · have c_4 : k < (s_stepsToCome nl9 nl11) := c_4
          rw [if_pos c_4] at hu
          refine lv_iload_n hx hb dX7_stepOf_47 rfl (lv_at hl 4 rfl) ?_
          refine lv_if_ne (tgt := 60) hx hb dX7_stepOf_48 (by decide) (fun c_5 => ?_) (fun c_5 => ?_)
          · have c_5 : ¬ (what = 0) := c_5
            rw [if_neg c_5] at hu
            refine lv_aload hx hb dX7_stepOf_60 (lv_at hl 0 rfl) ?_
            refine lv_iload_n hx hb dX7_stepOf_62 rfl (lv_at hl 3 rfl) ?_
            refine bVI0 (As := [.int k]) (rest := []) (wc := [(qNpl, .inr (0, [.int nl0, .int nl1, .int nl2, .int nl3, .int nl4, .int nl5, .int nl6, .int nl7, .int nl8, .int nl9, .int nl10, .int nl11, .int (bB nlb)]))]) (ci := 0) (q0 := 3) X Y (c_stepBy l D cyC cyI qNpl nl0 nl1 nl2 nl3 nl4 nl5 nl6 nl7 nl8 nl9 nl10 nl11 nlb k (s_stepBy nl9 nl11 k) rfl) gX7_stepOf_X0_stepBy rfl ⟨rfl, rfl⟩ hd_X0_stepBy ⟨(Nat.le_of_ble_eq_true rfl), (Nat.le_of_ble_eq_true rfl)⟩ rfl rfl rfl [3] rfl rfl rfl rfl hl.1 (Nat.le_of_ble_eq_true rfl) ⟨Nat.zero_le _, Nat.zero_le _⟩ dX7_stepOf_63 (fun H locs Y => ?_)
            refine lv_ldc (v := 100000) hx hb X.1.2.2.2.1 (X.1.2.2.2.2 _ k_X7_stepOf_144) dX7_stepOf_66 ?_
            refine bAdd (v := (s_stepBy nl9 nl11 k) + 100000) X dX7_stepOf_68 rfl ?_
            subst hu
            exact bEndI X Y hr hlk dX7_stepOf_69 rfl rfl
          · have c_5 : what = 0 := c_5
            rw [if_pos c_5] at hu
            refine lv_aload hx hb dX7_stepOf_51 (lv_at hl 0 rfl) ?_
            refine lv_iload_n hx hb dX7_stepOf_53 rfl (lv_at hl 3 rfl) ?_
            refine bVI0 (As := [.int k]) (rest := []) (wc := [(qNpl, .inr (0, [.int nl0, .int nl1, .int nl2, .int nl3, .int nl4, .int nl5, .int nl6, .int nl7, .int nl8, .int nl9, .int nl10, .int nl11, .int (bB nlb)]))]) (ci := 0) (q0 := 3) X Y (c_stepIn l D cyC cyI qNpl nl0 nl1 nl2 nl3 nl4 nl5 nl6 nl7 nl8 nl9 nl10 nl11 nlb k (s_stepIn nl8 nl9 nl10 k) rfl) gX7_stepOf_X0_stepIn rfl ⟨rfl, rfl⟩ hd_X0_stepIn ⟨(Nat.le_of_ble_eq_true rfl), (Nat.le_of_ble_eq_true rfl)⟩ rfl rfl rfl [3] rfl rfl rfl rfl hl.1 (Nat.le_of_ble_eq_true rfl) ⟨Nat.zero_le _, Nat.zero_le _⟩ dX7_stepOf_54 (fun H locs Y => ?_)
            refine lv_goto (tgt := 69) hx hb dX7_stepOf_57 (by decide) ?_
            subst hu
            exact bEndI X Y hr hlk dX7_stepOf_69 rfl rfl
        · have c_4 : ¬ (k < (s_stepsToCome nl9 nl11)) := c_4
          rw [if_neg c_4] at hu
          refine lv_bipush (v := (-4)) hx hb dX7_stepOf_44 (by decide) ?_
          subst hu
          exact bEndI X Y hr hlk dX7_stepOf_46 rfl rfl
      · have c_3 := bB_f c_3
        rw [if_neg c_3] at hu
        refine lv_iconst (v := (-1)) hx hb dX7_stepOf_20 (by decide) ?_
        subst hu
        exact bEndI X Y hr hlk dX7_stepOf_21 rfl rfl
def s_stepOf_1 (nr8 : Int32) (nr9 : Int32) (nr10 : Int32) (nr11 : Int32) (k : Int32) (what : Int32) : Int32 :=
  if (s_isCrane 1) = true then
    if k < 0 then
      (-1)
    else
      if (s_isWithin what 0 1) = true then
        if k < (s_stepsToCome nr9 nr11) then
          if what = 0 then
            (s_stepIn nr8 nr9 nr10 k)
          else
            (s_stepBy nr9 nr11 k) + 100000
        else
          (-4)
      else
        (-1)
  else
    (-1)
set_option maxHeartbeats 4000000 in
set_option maxRecDepth 100000 in
theorem c_stepOf_1 (l : Launch) (D : va_G) (cyC cyI : ClassId) (qM : Nat) (qT : Nat) (qQ : Nat) (qR : Nat) (qD : Nat) (qN : Nat) (q1 : Nat) (q2 : Nat) (q3 : Nat) (q4 : Nat) (ud : Int32) (nk : Int32) (qNp : Nat) (nv : Int32) (qNpl : Nat) (nl0 : Int32) (nl1 : Int32) (nl2 : Int32) (nl3 : Int32) (nl4 : Int32) (nl5 : Int32) (nl6 : Int32) (nl7 : Int32) (nl8 : Int32) (nl9 : Int32) (nl10 : Int32) (nl11 : Int32) (nlb : Bool) (qNpr : Nat) (nr0 : Int32) (nr1 : Int32) (nr2 : Int32) (nr3 : Int32) (nr4 : Int32) (nr5 : Int32) (nr6 : Int32) (nr7 : Int32) (nr8 : Int32) (nr9 : Int32) (nr10 : Int32) (nr11 : Int32) (nrb : Bool) (qNs : Nat) (qNz : Nat) (k : Int32) (what : Int32) (o0 : Int32) (hu : s_stepOf_1 nr8 nr9 nr10 nr11 k what = o0) : CI l yX7_stepOf wsX7_stepOf { frames := 2, cells := 0, slots := 0, locals := 42 } D cyC cyI [.ref qM, .int 1, .int k, .int what] [(qM, .inr (7, [.ref qT, .ref qQ, .ref qR, .ref qD, .ref qN, .ref q1, .ref q2, .ref q3, .ref q4, .int ud])), (qN, .inr (5, [.ref qNp, .ref qNs, .ref qNz, .int nk])), (qNp, .inr (2, [.ref qNpl, .ref qNpr, .int nv])), (qNpl, .inr (0, [.int nl0, .int nl1, .int nl2, .int nl3, .int nl4, .int nl5, .int nl6, .int nl7, .int nl8, .int nl9, .int nl10, .int nl11, .int (bB nlb)])), (qNpr, .inr (0, [.int nr0, .int nr1, .int nr2, .int nr3, .int nr4, .int nr5, .int nr6, .int nr7, .int nr8, .int nr9, .int nr10, .int nr11, .int (bB nrb)]))] o0 [(qM, .inr (7, [.ref qT, .ref qQ, .ref qR, .ref qD, .ref qN, .ref q1, .ref q2, .ref q3, .ref q4, .int ud])), (qN, .inr (5, [.ref qNp, .ref qNs, .ref qNz, .int nk])), (qNp, .inr (2, [.ref qNpl, .ref qNpr, .int nv])), (qNpl, .inr (0, [.int nl0, .int nl1, .int nl2, .int nl3, .int nl4, .int nl5, .int nl6, .int nl7, .int nl8, .int nl9, .int nl10, .int nl11, .int (bB nlb)])), (qNpr, .inr (0, [.int nr0, .int nr1, .int nr2, .int nr3, .int nr4, .int nr5, .int nr6, .int nr7, .int nr8, .int nr9, .int nr10, .int nr11, .int (bB nrb)]))] := by
  refine CI.of (cc := cX7_stepOf) (n := 5) (ret := (some .int)) (by decide +kernel) rfl (Nat.le_of_ble_eq_true rfl) ?_
  intro p_ e_ s_ m_ bl_ me_ cd_ A_ ls X Y hr hlk hl
  have hx := X.1.1
  have hb := X.1.2.1
  have hl : lv_has ls 5 [(0, .ref qM), (1, .int 1), (2, .int k), (3, .int what)] := hl
  unfold s_stepOf_1 at hu
  refine lv_iload_n hx hb dX7_stepOf_0 rfl (lv_at hl 1 rfl) ?_
  refine bSI (As := [.int 1]) (rest := []) X Y (c_isCrane l D cyC cyI 1 (s_isCrane 1) rfl) gX7_stepOf_X7_isCrane rfl ⟨rfl, rfl⟩ hd_X7_isCrane.2 ⟨(Nat.le_of_ble_eq_true rfl), (Nat.le_of_ble_eq_true rfl)⟩ rfl rfl hl.1 (Nat.le_of_ble_eq_true rfl) ⟨Nat.zero_le _, Nat.zero_le _⟩ dX7_stepOf_1 (fun H locs Y => ?_)
  refine lv_if_eq (tgt := 20) hx hb dX7_stepOf_4 (by decide) (fun c_1 => ?_) (fun c_1 => ?_)
  · have c_1 := bB_f c_1
    rw [if_neg c_1] at hu
    refine lv_iconst (v := (-1)) hx hb dX7_stepOf_20 (by decide) ?_
    subst hu
    exact bEndI X Y hr hlk dX7_stepOf_21 rfl rfl
  · have c_1 := bB_t c_1
    rw [if_pos c_1] at hu
    refine lv_iload_n hx hb dX7_stepOf_7 rfl (lv_at hl 2 rfl) ?_
    refine lv_if_lt (tgt := 20) hx hb dX7_stepOf_8 (by decide) (fun c_2 => ?_) (fun c_2 => ?_)
    · have c_2 : k < 0 := c_2
      rw [if_pos c_2] at hu
      refine lv_iconst (v := (-1)) hx hb dX7_stepOf_20 (by decide) ?_
      subst hu
      exact bEndI X Y hr hlk dX7_stepOf_21 rfl rfl
    · have c_2 : ¬ (k < 0) := c_2
      rw [if_neg c_2] at hu
      refine lv_iload_n hx hb dX7_stepOf_11 rfl (lv_at hl 3 rfl) ?_
      refine lv_iconst (v := 0) hx hb dX7_stepOf_12 (by decide) ?_
      refine lv_iconst (v := 1) hx hb dX7_stepOf_13 (by decide) ?_
      refine bSI (As := [.int what, .int 0, .int 1]) (rest := []) X Y (c_isWithin l D cyC cyI what 0 1 (s_isWithin what 0 1) rfl) gX7_stepOf_X7_isWithin rfl ⟨rfl, rfl⟩ hd_X7_isWithin.2 ⟨(Nat.le_of_ble_eq_true rfl), (Nat.le_of_ble_eq_true rfl)⟩ rfl rfl hl.1 (Nat.le_of_ble_eq_true rfl) ⟨Nat.zero_le _, Nat.zero_le _⟩ dX7_stepOf_14 (fun H locs Y => ?_)
      refine lv_if_ne (tgt := 22) hx hb dX7_stepOf_17 (by decide) (fun c_3 => ?_) (fun c_3 => ?_)
      · have c_3 := bB_t c_3
        rw [if_pos c_3] at hu
        refine lv_aload_n hx hb dX7_stepOf_22 rfl (lv_at hl 0 rfl) ?_
        refine bGet (v := .ref qN) (T := TX7) (N := 10) (ci := 7) X Y i_X7_stepOf_X7 0 rfl rfl 4 (Nat.le_of_ble_eq_true rfl) f_X7_stepOf_36 rfl rfl dX7_stepOf_23 ?_
        refine bGet (v := .ref qNp) (T := TX5) (N := 4) (ci := 5) X Y i_X7_stepOf_X5 1 rfl rfl 0 (Nat.le_of_ble_eq_true rfl) f_X7_stepOf_95 rfl rfl dX7_stepOf_26 ?_
        refine lv_iload_n hx hb dX7_stepOf_29 rfl (lv_at hl 1 rfl) ?_
        refine bVR0 (As := [.int 1]) (rest := []) (wc := [(qNp, .inr (2, [.ref qNpl, .ref qNpr, .int nv]))]) (ci := 2) (q0 := 2) X Y (c_side1 l D cyC cyI qNp qNpl qNpr nv) gX7_stepOf_X2_side rfl ⟨rfl, rfl⟩ hd_X2_side ⟨(Nat.le_of_ble_eq_true rfl), (Nat.le_of_ble_eq_true rfl)⟩ rfl rfl rfl [2] rfl rfl rfl rfl hl.1 (Nat.le_of_ble_eq_true rfl) ⟨Nat.zero_le _, Nat.zero_le _⟩ dX7_stepOf_30 (fun H locs Y => ?_)
        refine lv_astore (lv' := [(4, .ref qNpr), (0, .ref qM), (1, .int 1), (2, .int k), (3, .int what)]) hx hb dX7_stepOf_33 hl (by decide) rfl (fun ls hl => ?_)
        refine lv_iload_n hx hb dX7_stepOf_35 rfl (lv_at hl 3 rfl) ?_
        refine lv_aload hx hb dX7_stepOf_36 (lv_at hl 0 rfl) ?_
        refine bVI0 (As := []) (rest := [.int k]) (wc := [(qNpr, .inr (0, [.int nr0, .int nr1, .int nr2, .int nr3, .int nr4, .int nr5, .int nr6, .int nr7, .int nr8, .int nr9, .int nr10, .int nr11, .int (bB nrb)]))]) (ci := 0) (q0 := 4) X Y (c_stepsToCome l D cyC cyI qNpr nr0 nr1 nr2 nr3 nr4 nr5 nr6 nr7 nr8 nr9 nr10 nr11 nrb (s_stepsToCome nr9 nr11) rfl) gX7_stepOf_X0_stepsToCome rfl ⟨rfl, rfl⟩ hd_X0_stepsToCome ⟨(Nat.le_of_ble_eq_true rfl), (Nat.le_of_ble_eq_true rfl)⟩ rfl rfl rfl [4] rfl rfl rfl rfl hl.1 (Nat.le_of_ble_eq_true rfl) ⟨Nat.zero_le _, Nat.zero_le _⟩ dX7_stepOf_38 (fun H locs Y => ?_)
        refine lv_icmp_lt (tgt := 47) hx hb dX7_stepOf_41 (by decide) (fun c_4 => ?_) (fun c_4 => ?_)
        · have c_4 : k < (s_stepsToCome nr9 nr11) := c_4
          rw [if_pos c_4] at hu
          refine lv_iload_n hx hb dX7_stepOf_47 rfl (lv_at hl 4 rfl) ?_
          refine lv_if_ne (tgt := 60) hx hb dX7_stepOf_48 (by decide) (fun c_5 => ?_) (fun c_5 => ?_)
          · have c_5 : ¬ (what = 0) := c_5
            rw [if_neg c_5] at hu
            refine lv_aload hx hb dX7_stepOf_60 (lv_at hl 0 rfl) ?_
            refine lv_iload_n hx hb dX7_stepOf_62 rfl (lv_at hl 3 rfl) ?_
            refine bVI0 (As := [.int k]) (rest := []) (wc := [(qNpr, .inr (0, [.int nr0, .int nr1, .int nr2, .int nr3, .int nr4, .int nr5, .int nr6, .int nr7, .int nr8, .int nr9, .int nr10, .int nr11, .int (bB nrb)]))]) (ci := 0) (q0 := 4) X Y (c_stepBy l D cyC cyI qNpr nr0 nr1 nr2 nr3 nr4 nr5 nr6 nr7 nr8 nr9 nr10 nr11 nrb k (s_stepBy nr9 nr11 k) rfl) gX7_stepOf_X0_stepBy rfl ⟨rfl, rfl⟩ hd_X0_stepBy ⟨(Nat.le_of_ble_eq_true rfl), (Nat.le_of_ble_eq_true rfl)⟩ rfl rfl rfl [4] rfl rfl rfl rfl hl.1 (Nat.le_of_ble_eq_true rfl) ⟨Nat.zero_le _, Nat.zero_le _⟩ dX7_stepOf_63 (fun H locs Y => ?_)
            refine lv_ldc (v := 100000) hx hb X.1.2.2.2.1 (X.1.2.2.2.2 _ k_X7_stepOf_144) dX7_stepOf_66 ?_
            refine bAdd (v := (s_stepBy nr9 nr11 k) + 100000) X dX7_stepOf_68 rfl ?_
            subst hu
            exact bEndI X Y hr hlk dX7_stepOf_69 rfl rfl
          · have c_5 : what = 0 := c_5
            rw [if_pos c_5] at hu
            refine lv_aload hx hb dX7_stepOf_51 (lv_at hl 0 rfl) ?_
            refine lv_iload_n hx hb dX7_stepOf_53 rfl (lv_at hl 3 rfl) ?_
            refine bVI0 (As := [.int k]) (rest := []) (wc := [(qNpr, .inr (0, [.int nr0, .int nr1, .int nr2, .int nr3, .int nr4, .int nr5, .int nr6, .int nr7, .int nr8, .int nr9, .int nr10, .int nr11, .int (bB nrb)]))]) (ci := 0) (q0 := 4) X Y (c_stepIn l D cyC cyI qNpr nr0 nr1 nr2 nr3 nr4 nr5 nr6 nr7 nr8 nr9 nr10 nr11 nrb k (s_stepIn nr8 nr9 nr10 k) rfl) gX7_stepOf_X0_stepIn rfl ⟨rfl, rfl⟩ hd_X0_stepIn ⟨(Nat.le_of_ble_eq_true rfl), (Nat.le_of_ble_eq_true rfl)⟩ rfl rfl rfl [4] rfl rfl rfl rfl hl.1 (Nat.le_of_ble_eq_true rfl) ⟨Nat.zero_le _, Nat.zero_le _⟩ dX7_stepOf_54 (fun H locs Y => ?_)
            refine lv_goto (tgt := 69) hx hb dX7_stepOf_57 (by decide) ?_
            subst hu
            exact bEndI X Y hr hlk dX7_stepOf_69 rfl rfl
        · have c_4 : ¬ (k < (s_stepsToCome nr9 nr11)) := c_4
          rw [if_neg c_4] at hu
          refine lv_bipush (v := (-4)) hx hb dX7_stepOf_44 (by decide) ?_
          subst hu
          exact bEndI X Y hr hlk dX7_stepOf_46 rfl rfl
      · have c_3 := bB_f c_3
        rw [if_neg c_3] at hu
        refine lv_iconst (v := (-1)) hx hb dX7_stepOf_20 (by decide) ?_
        subst hu
        exact bEndI X Y hr hlk dX7_stepOf_21 rfl rfl
def s_stepOf_b : Int32 :=
  (-1)
set_option maxHeartbeats 4000000 in
set_option maxRecDepth 100000 in
theorem c_stepOf_b (l : Launch) (D : va_G) (cyC cyI : ClassId) (qM : Nat) (qT : Nat) (qQ : Nat) (qR : Nat) (qD : Nat) (qN : Nat) (q1 : Nat) (q2 : Nat) (q3 : Nat) (q4 : Nat) (ud : Int32) (c : Int32) (k : Int32) (what : Int32) (o0 : Int32) (hu : s_stepOf_b = o0) (hc0 : ¬ c = 0) (hc1 : ¬ c = 1) : CI l yX7_stepOf wsX7_stepOf { frames := 1, cells := 0, slots := 0, locals := 20 } D cyC cyI [.ref qM, .int c, .int k, .int what] [(qM, .inr (7, [.ref qT, .ref qQ, .ref qR, .ref qD, .ref qN, .ref q1, .ref q2, .ref q3, .ref q4, .int ud]))] o0 [(qM, .inr (7, [.ref qT, .ref qQ, .ref qR, .ref qD, .ref qN, .ref q1, .ref q2, .ref q3, .ref q4, .int ud]))] := by
  refine CI.of (cc := cX7_stepOf) (n := 5) (ret := (some .int)) (by decide +kernel) rfl (Nat.le_of_ble_eq_true rfl) ?_
  intro p_ e_ s_ m_ bl_ me_ cd_ A_ ls X Y hr hlk hl
  have hx := X.1.1
  have hb := X.1.2.1
  have hl : lv_has ls 5 [(0, .ref qM), (1, .int c), (2, .int k), (3, .int what)] := hl
  unfold s_stepOf_b at hu
  refine lv_iload_n hx hb dX7_stepOf_0 rfl (lv_at hl 1 rfl) ?_
  refine bSI (As := [.int c]) (rest := []) X Y (c_isCrane l D cyC cyI c (s_isCrane c) rfl) gX7_stepOf_X7_isCrane rfl ⟨rfl, rfl⟩ hd_X7_isCrane.2 ⟨(Nat.le_of_ble_eq_true rfl), (Nat.le_of_ble_eq_true rfl)⟩ rfl rfl hl.1 (Nat.le_of_ble_eq_true rfl) ⟨Nat.zero_le _, Nat.zero_le _⟩ dX7_stepOf_1 (fun H locs Y => ?_)
  refine lv_if_eq (tgt := 20) hx hb dX7_stepOf_4 (by decide) (fun c_1 => ?_) (fun c_1 => ?_)
  · have c_1 := bB_f c_1
    refine lv_iconst (v := (-1)) hx hb dX7_stepOf_20 (by decide) ?_
    subst hu
    exact bEndI X Y hr hlk dX7_stepOf_21 rfl rfl
  · have c_1 := bB_t c_1
    exact absurd c_1 (isCrane_no hc0 hc1)
theorem i_X7_spot_X7 : ∀ w ∈ wsX70, w ∈ wsX7_spot := by decide +kernel
theorem f_X7_spot_36 : Cond.fieldLink RX7 36 "SwingCranes" "now" "LSwingCranes$Story;" ∈ wsX7_spot := by decide +kernel
theorem hd_X5_spotsOf : bD1 yX5_spotsOf RX5 1 := by decide +kernel
theorem i_X7_spot_X3 : ∀ w ∈ wsX30, w ∈ wsX7_spot := by decide +kernel
theorem f_X7_spot_187 : Cond.fieldLink RX7 187 "SwingCranes$Spots" "many" "I" ∈ wsX7_spot := by decide +kernel
theorem hd_X3_blockAt : bD1 yX3_blockAt RX3 1 := by decide +kernel
theorem hd_X3_floorAt : bD1 yX3_floorAt RX3 1 := by decide +kernel
def s_spot_0 (nsm : Int32) (nsf : Nat → Int32) (nsg : Nat → Int32) (k : Int32) (what : Int32) : Int32 :=
  if (s_isCrane 0) = true then
    if k < (-1) then
      (-1)
    else
      if (s_isWithin what 0 2) = true then
        if k = (-1) then
          nsm
        else
          if k < nsm then
            if what = 0 then
              (s_blockAt nsf k)
            else
              if what = 1 then
                (s_floorAt nsf k)
              else
                (s_ticksAt nsm nsg k)
          else
            (-4)
      else
        (-1)
  else
    (-1)
set_option maxHeartbeats 4000000 in
set_option maxRecDepth 100000 in
theorem c_spot_0 (l : Launch) (D : va_G) (cyC cyI : ClassId) (qM : Nat) (qT : Nat) (qQ : Nat) (qR : Nat) (qD : Nat) (qN : Nat) (q1 : Nat) (q2 : Nat) (q3 : Nat) (q4 : Nat) (ud : Int32) (nk : Int32) (qNp : Nat) (nv : Int32) (qNpl : Nat) (nl0 : Int32) (nl1 : Int32) (nl2 : Int32) (nl3 : Int32) (nl4 : Int32) (nl5 : Int32) (nl6 : Int32) (nl7 : Int32) (nl8 : Int32) (nl9 : Int32) (nl10 : Int32) (nl11 : Int32) (nlb : Bool) (qNpr : Nat) (nr0 : Int32) (nr1 : Int32) (nr2 : Int32) (nr3 : Int32) (nr4 : Int32) (nr5 : Int32) (nr6 : Int32) (nr7 : Int32) (nr8 : Int32) (nr9 : Int32) (nr10 : Int32) (nr11 : Int32) (nrb : Bool) (qNs : Nat) (qNsn : Nat) (qNst : Nat) (nsm : Int32) (nsf : Nat → Int32) (nsg : Nat → Int32) (qNz : Nat) (qNzn : Nat) (qNzt : Nat) (nzm : Int32) (nzf : Nat → Int32) (nzg : Nat → Int32) (k : Int32) (what : Int32) (o0 : Int32) (hu : s_spot_0 nsm nsf nsg k what = o0) : CI l yX7_spot wsX7_spot { frames := 2, cells := 0, slots := 0, locals := 42 } D cyC cyI [.ref qM, .int 0, .int k, .int what] [(qM, .inr (7, [.ref qT, .ref qQ, .ref qR, .ref qD, .ref qN, .ref q1, .ref q2, .ref q3, .ref q4, .int ud])), (qN, .inr (5, [.ref qNp, .ref qNs, .ref qNz, .int nk])), (qNp, .inr (2, [.ref qNpl, .ref qNpr, .int nv])), (qNpl, .inr (0, [.int nl0, .int nl1, .int nl2, .int nl3, .int nl4, .int nl5, .int nl6, .int nl7, .int nl8, .int nl9, .int nl10, .int nl11, .int (bB nlb)])), (qNpr, .inr (0, [.int nr0, .int nr1, .int nr2, .int nr3, .int nr4, .int nr5, .int nr6, .int nr7, .int nr8, .int nr9, .int nr10, .int nr11, .int (bB nrb)])), (qNs, .inr (3, [.ref qNsn, .ref qNst, .int nsm])), (qNsn, .inl (cyI, 120, .inl nsf)), (qNst, .inl (cyI, 120, .inl nsg)), (qNz, .inr (3, [.ref qNzn, .ref qNzt, .int nzm])), (qNzn, .inl (cyI, 120, .inl nzf)), (qNzt, .inl (cyI, 120, .inl nzg))] o0 [(qM, .inr (7, [.ref qT, .ref qQ, .ref qR, .ref qD, .ref qN, .ref q1, .ref q2, .ref q3, .ref q4, .int ud])), (qN, .inr (5, [.ref qNp, .ref qNs, .ref qNz, .int nk])), (qNp, .inr (2, [.ref qNpl, .ref qNpr, .int nv])), (qNpl, .inr (0, [.int nl0, .int nl1, .int nl2, .int nl3, .int nl4, .int nl5, .int nl6, .int nl7, .int nl8, .int nl9, .int nl10, .int nl11, .int (bB nlb)])), (qNpr, .inr (0, [.int nr0, .int nr1, .int nr2, .int nr3, .int nr4, .int nr5, .int nr6, .int nr7, .int nr8, .int nr9, .int nr10, .int nr11, .int (bB nrb)])), (qNs, .inr (3, [.ref qNsn, .ref qNst, .int nsm])), (qNsn, .inl (cyI, 120, .inl nsf)), (qNst, .inl (cyI, 120, .inl nsg)), (qNz, .inr (3, [.ref qNzn, .ref qNzt, .int nzm])), (qNzn, .inl (cyI, 120, .inl nzf)), (qNzt, .inl (cyI, 120, .inl nzg))] := by
  refine CI.of (cc := cX7_spot) (n := 5) (ret := (some .int)) (by decide +kernel) rfl (Nat.le_of_ble_eq_true rfl) ?_
  intro p_ e_ s_ m_ bl_ me_ cd_ A_ ls X Y hr hlk hl
  have hx := X.1.1
  have hb := X.1.2.1
  have hl : lv_has ls 5 [(0, .ref qM), (1, .int 0), (2, .int k), (3, .int what)] := hl
  unfold s_spot_0 at hu
  refine lv_iload_n hx hb dX7_spot_0 rfl (lv_at hl 1 rfl) ?_
  refine bSI (As := [.int 0]) (rest := []) X Y (c_isCrane l D cyC cyI 0 (s_isCrane 0) rfl) gX7_spot_X7_isCrane rfl ⟨rfl, rfl⟩ hd_X7_isCrane.2 ⟨(Nat.le_of_ble_eq_true rfl), (Nat.le_of_ble_eq_true rfl)⟩ rfl rfl hl.1 (Nat.le_of_ble_eq_true rfl) ⟨Nat.zero_le _, Nat.zero_le _⟩ dX7_spot_1 (fun H locs Y => ?_)
  refine lv_if_eq (tgt := 21) hx hb dX7_spot_4 (by decide) (fun c_1 => ?_) (fun c_1 => ?_)
  · have c_1 := bB_f c_1
    rw [if_neg c_1] at hu
    refine lv_iconst (v := (-1)) hx hb dX7_spot_21 (by decide) ?_
    subst hu
    exact bEndI X Y hr hlk dX7_spot_22 rfl rfl
  · have c_1 := bB_t c_1
    rw [if_pos c_1] at hu
    refine lv_iload_n hx hb dX7_spot_7 rfl (lv_at hl 2 rfl) ?_
    refine lv_iconst (v := (-1)) hx hb dX7_spot_8 (by decide) ?_
    refine lv_icmp_lt (tgt := 21) hx hb dX7_spot_9 (by decide) (fun c_2 => ?_) (fun c_2 => ?_)
    · have c_2 : k < (-1) := c_2
      rw [if_pos c_2] at hu
      refine lv_iconst (v := (-1)) hx hb dX7_spot_21 (by decide) ?_
      subst hu
      exact bEndI X Y hr hlk dX7_spot_22 rfl rfl
    · have c_2 : ¬ (k < (-1)) := c_2
      rw [if_neg c_2] at hu
      refine lv_iload_n hx hb dX7_spot_12 rfl (lv_at hl 3 rfl) ?_
      refine lv_iconst (v := 0) hx hb dX7_spot_13 (by decide) ?_
      refine lv_iconst (v := 2) hx hb dX7_spot_14 (by decide) ?_
      refine bSI (As := [.int what, .int 0, .int 2]) (rest := []) X Y (c_isWithin l D cyC cyI what 0 2 (s_isWithin what 0 2) rfl) gX7_spot_X7_isWithin rfl ⟨rfl, rfl⟩ hd_X7_isWithin.2 ⟨(Nat.le_of_ble_eq_true rfl), (Nat.le_of_ble_eq_true rfl)⟩ rfl rfl hl.1 (Nat.le_of_ble_eq_true rfl) ⟨Nat.zero_le _, Nat.zero_le _⟩ dX7_spot_15 (fun H locs Y => ?_)
      refine lv_if_ne (tgt := 23) hx hb dX7_spot_18 (by decide) (fun c_3 => ?_) (fun c_3 => ?_)
      · have c_3 := bB_t c_3
        rw [if_pos c_3] at hu
        refine lv_aload_n hx hb dX7_spot_23 rfl (lv_at hl 0 rfl) ?_
        refine bGet (v := .ref qN) (T := TX7) (N := 10) (ci := 7) X Y i_X7_spot_X7 0 rfl rfl 4 (Nat.le_of_ble_eq_true rfl) f_X7_spot_36 rfl rfl dX7_spot_24 ?_
        refine lv_iload_n hx hb dX7_spot_27 rfl (lv_at hl 1 rfl) ?_
        refine bVR0 (As := [.int 0]) (rest := []) (wc := [(qN, .inr (5, [.ref qNp, .ref qNs, .ref qNz, .int nk]))]) (ci := 5) (q0 := 1) X Y (c_spotsOf0 l D cyC cyI qN qNp qNs qNz nk) gX7_spot_X5_spotsOf rfl ⟨rfl, rfl⟩ hd_X5_spotsOf ⟨(Nat.le_of_ble_eq_true rfl), (Nat.le_of_ble_eq_true rfl)⟩ rfl rfl rfl [1] rfl rfl rfl rfl hl.1 (Nat.le_of_ble_eq_true rfl) ⟨Nat.zero_le _, Nat.zero_le _⟩ dX7_spot_28 (fun H locs Y => ?_)
        refine lv_astore (lv' := [(4, .ref qNs), (0, .ref qM), (1, .int 0), (2, .int k), (3, .int what)]) hx hb dX7_spot_31 hl (by decide) rfl (fun ls hl => ?_)
        refine lv_iload_n hx hb dX7_spot_33 rfl (lv_at hl 3 rfl) ?_
        refine lv_iconst (v := (-1)) hx hb dX7_spot_34 (by decide) ?_
        refine lv_icmp_ne (tgt := 44) hx hb dX7_spot_35 (by decide) (fun c_4 => ?_) (fun c_4 => ?_)
        · have c_4 : ¬ (k = (-1)) := c_4
          rw [if_neg c_4] at hu
          refine lv_iload_n hx hb dX7_spot_44 rfl (lv_at hl 3 rfl) ?_
          refine lv_aload hx hb dX7_spot_45 (lv_at hl 0 rfl) ?_
          refine bGet (v := .int nsm) (T := TX3) (N := 3) (ci := 3) X Y i_X7_spot_X3 5 rfl rfl 2 (Nat.le_of_ble_eq_true rfl) f_X7_spot_187 rfl rfl dX7_spot_47 ?_
          refine lv_icmp_lt (tgt := 56) hx hb dX7_spot_50 (by decide) (fun c_5 => ?_) (fun c_5 => ?_)
          · have c_5 : k < nsm := c_5
            rw [if_pos c_5] at hu
            refine lv_iload_n hx hb dX7_spot_56 rfl (lv_at hl 4 rfl) ?_
            by_cases c_6 : what = 0
            · rw [if_pos c_6] at hu
              refine lv_lookup (tgt := 84) (off := 27) hx hb dX7_spot_57 (by decide +kernel) (by rw [c_6]; first | done | decide +kernel) (by decide) ?_
              refine lv_aload hx hb dX7_spot_84 (lv_at hl 0 rfl) ?_
              refine lv_iload_n hx hb dX7_spot_86 rfl (lv_at hl 3 rfl) ?_
              refine bVI0 (As := [.int k]) (rest := []) (wc := [(qNs, .inr (3, [.ref qNsn, .ref qNst, .int nsm])), (qNsn, .inl (cyI, 120, .inl nsf)), (qNst, .inl (cyI, 120, .inl nsg))]) (ci := 3) (q0 := 5) X Y (c_blockAt l D cyC cyI qNs qNsn qNst nsm nsf nsg k (s_blockAt nsf k) rfl) gX7_spot_X3_blockAt rfl ⟨rfl, rfl⟩ hd_X3_blockAt ⟨(Nat.le_of_ble_eq_true rfl), (Nat.le_of_ble_eq_true rfl)⟩ rfl rfl rfl [5, 6, 7] rfl rfl rfl rfl hl.1 (Nat.le_of_ble_eq_true rfl) ⟨Nat.zero_le _, Nat.zero_le _⟩ dX7_spot_87 (fun H locs Y => ?_)
              subst hu
              exact bEndI X Y hr hlk dX7_spot_90 rfl rfl
            · skip
              rw [if_neg c_6] at hu
              by_cases c_7 : what = 1
              · rw [if_pos c_7] at hu
                refine lv_lookup (tgt := 91) (off := 34) hx hb dX7_spot_57 (by decide +kernel) (by rw [c_7]; first | done | decide +kernel) (by decide) ?_
                refine lv_aload hx hb dX7_spot_91 (lv_at hl 0 rfl) ?_
                refine lv_iload_n hx hb dX7_spot_93 rfl (lv_at hl 3 rfl) ?_
                refine bVI0 (As := [.int k]) (rest := []) (wc := [(qNs, .inr (3, [.ref qNsn, .ref qNst, .int nsm])), (qNsn, .inl (cyI, 120, .inl nsf)), (qNst, .inl (cyI, 120, .inl nsg))]) (ci := 3) (q0 := 5) X Y (c_floorAt l D cyC cyI qNs qNsn qNst nsm nsf nsg k (s_floorAt nsf k) rfl) gX7_spot_X3_floorAt rfl ⟨rfl, rfl⟩ hd_X3_floorAt ⟨(Nat.le_of_ble_eq_true rfl), (Nat.le_of_ble_eq_true rfl)⟩ rfl rfl rfl [5, 6, 7] rfl rfl rfl rfl hl.1 (Nat.le_of_ble_eq_true rfl) ⟨Nat.zero_le _, Nat.zero_le _⟩ dX7_spot_94 (fun H locs Y => ?_)
                subst hu
                exact bEndI X Y hr hlk dX7_spot_97 rfl rfl
              · skip
                rw [if_neg c_7] at hu
                refine lv_lookup (tgt := 98) (off := 41) hx hb dX7_spot_57 (by decide +kernel) (by have e0 := bNeI c_6 (show (0 : Int32).toInt = 0 by decide); have e1 := bNeI c_7 (show (1 : Int32).toInt = 1 by decide); simp [Op.lookupswitch.offset, e0, Ne.symm e0, e1, Ne.symm e1]) (by decide) ?_
                refine lv_aload hx hb dX7_spot_98 (lv_at hl 0 rfl) ?_
                refine lv_iload_n hx hb dX7_spot_100 rfl (lv_at hl 3 rfl) ?_
                refine bVI0 (As := [.int k]) (rest := []) (wc := [(qNs, .inr (3, [.ref qNsn, .ref qNst, .int nsm])), (qNsn, .inl (cyI, 120, .inl nsf)), (qNst, .inl (cyI, 120, .inl nsg))]) (ci := 3) (q0 := 5) X Y (c_ticksAt l D cyC cyI qNs qNsn qNst nsm nsf nsg k (s_ticksAt nsm nsg k) rfl) gX7_spot_X3_ticksAt rfl ⟨rfl, rfl⟩ hd_X3_ticksAt ⟨(Nat.le_of_ble_eq_true rfl), (Nat.le_of_ble_eq_true rfl)⟩ rfl rfl rfl [5, 6, 7] rfl rfl rfl rfl hl.1 (Nat.le_of_ble_eq_true rfl) ⟨Nat.zero_le _, Nat.zero_le _⟩ dX7_spot_101 (fun H locs Y => ?_)
                subst hu
                exact bEndI X Y hr hlk dX7_spot_104 rfl rfl
          · have c_5 : ¬ (k < nsm) := c_5
            rw [if_neg c_5] at hu
            refine lv_bipush (v := (-4)) hx hb dX7_spot_53 (by decide) ?_
            subst hu
            exact bEndI X Y hr hlk dX7_spot_55 rfl rfl
        · have c_4 : k = (-1) := c_4
          rw [if_pos c_4] at hu
          refine lv_aload hx hb dX7_spot_38 (lv_at hl 0 rfl) ?_
          refine bGet (v := .int nsm) (T := TX3) (N := 3) (ci := 3) X Y i_X7_spot_X3 5 rfl rfl 2 (Nat.le_of_ble_eq_true rfl) f_X7_spot_187 rfl rfl dX7_spot_40 ?_
          subst hu
          exact bEndI X Y hr hlk dX7_spot_43 rfl rfl
      · have c_3 := bB_f c_3
        rw [if_neg c_3] at hu
        refine lv_iconst (v := (-1)) hx hb dX7_spot_21 (by decide) ?_
        subst hu
        exact bEndI X Y hr hlk dX7_spot_22 rfl rfl
def s_spot_1 (nzm : Int32) (nzf : Nat → Int32) (nzg : Nat → Int32) (k : Int32) (what : Int32) : Int32 :=
  if (s_isCrane 1) = true then
    if k < (-1) then
      (-1)
    else
      if (s_isWithin what 0 2) = true then
        if k = (-1) then
          nzm
        else
          if k < nzm then
            if what = 0 then
              (s_blockAt nzf k)
            else
              if what = 1 then
                (s_floorAt nzf k)
              else
                (s_ticksAt nzm nzg k)
          else
            (-4)
      else
        (-1)
  else
    (-1)
set_option maxHeartbeats 4000000 in
set_option maxRecDepth 100000 in
theorem c_spot_1 (l : Launch) (D : va_G) (cyC cyI : ClassId) (qM : Nat) (qT : Nat) (qQ : Nat) (qR : Nat) (qD : Nat) (qN : Nat) (q1 : Nat) (q2 : Nat) (q3 : Nat) (q4 : Nat) (ud : Int32) (nk : Int32) (qNp : Nat) (nv : Int32) (qNpl : Nat) (nl0 : Int32) (nl1 : Int32) (nl2 : Int32) (nl3 : Int32) (nl4 : Int32) (nl5 : Int32) (nl6 : Int32) (nl7 : Int32) (nl8 : Int32) (nl9 : Int32) (nl10 : Int32) (nl11 : Int32) (nlb : Bool) (qNpr : Nat) (nr0 : Int32) (nr1 : Int32) (nr2 : Int32) (nr3 : Int32) (nr4 : Int32) (nr5 : Int32) (nr6 : Int32) (nr7 : Int32) (nr8 : Int32) (nr9 : Int32) (nr10 : Int32) (nr11 : Int32) (nrb : Bool) (qNs : Nat) (qNsn : Nat) (qNst : Nat) (nsm : Int32) (nsf : Nat → Int32) (nsg : Nat → Int32) (qNz : Nat) (qNzn : Nat) (qNzt : Nat) (nzm : Int32) (nzf : Nat → Int32) (nzg : Nat → Int32) (k : Int32) (what : Int32) (o0 : Int32) (hu : s_spot_1 nzm nzf nzg k what = o0) : CI l yX7_spot wsX7_spot { frames := 2, cells := 0, slots := 0, locals := 42 } D cyC cyI [.ref qM, .int 1, .int k, .int what] [(qM, .inr (7, [.ref qT, .ref qQ, .ref qR, .ref qD, .ref qN, .ref q1, .ref q2, .ref q3, .ref q4, .int ud])), (qN, .inr (5, [.ref qNp, .ref qNs, .ref qNz, .int nk])), (qNp, .inr (2, [.ref qNpl, .ref qNpr, .int nv])), (qNpl, .inr (0, [.int nl0, .int nl1, .int nl2, .int nl3, .int nl4, .int nl5, .int nl6, .int nl7, .int nl8, .int nl9, .int nl10, .int nl11, .int (bB nlb)])), (qNpr, .inr (0, [.int nr0, .int nr1, .int nr2, .int nr3, .int nr4, .int nr5, .int nr6, .int nr7, .int nr8, .int nr9, .int nr10, .int nr11, .int (bB nrb)])), (qNs, .inr (3, [.ref qNsn, .ref qNst, .int nsm])), (qNsn, .inl (cyI, 120, .inl nsf)), (qNst, .inl (cyI, 120, .inl nsg)), (qNz, .inr (3, [.ref qNzn, .ref qNzt, .int nzm])), (qNzn, .inl (cyI, 120, .inl nzf)), (qNzt, .inl (cyI, 120, .inl nzg))] o0 [(qM, .inr (7, [.ref qT, .ref qQ, .ref qR, .ref qD, .ref qN, .ref q1, .ref q2, .ref q3, .ref q4, .int ud])), (qN, .inr (5, [.ref qNp, .ref qNs, .ref qNz, .int nk])), (qNp, .inr (2, [.ref qNpl, .ref qNpr, .int nv])), (qNpl, .inr (0, [.int nl0, .int nl1, .int nl2, .int nl3, .int nl4, .int nl5, .int nl6, .int nl7, .int nl8, .int nl9, .int nl10, .int nl11, .int (bB nlb)])), (qNpr, .inr (0, [.int nr0, .int nr1, .int nr2, .int nr3, .int nr4, .int nr5, .int nr6, .int nr7, .int nr8, .int nr9, .int nr10, .int nr11, .int (bB nrb)])), (qNs, .inr (3, [.ref qNsn, .ref qNst, .int nsm])), (qNsn, .inl (cyI, 120, .inl nsf)), (qNst, .inl (cyI, 120, .inl nsg)), (qNz, .inr (3, [.ref qNzn, .ref qNzt, .int nzm])), (qNzn, .inl (cyI, 120, .inl nzf)), (qNzt, .inl (cyI, 120, .inl nzg))] := by
  refine CI.of (cc := cX7_spot) (n := 5) (ret := (some .int)) (by decide +kernel) rfl (Nat.le_of_ble_eq_true rfl) ?_
  intro p_ e_ s_ m_ bl_ me_ cd_ A_ ls X Y hr hlk hl
  have hx := X.1.1
  have hb := X.1.2.1
  have hl : lv_has ls 5 [(0, .ref qM), (1, .int 1), (2, .int k), (3, .int what)] := hl
  unfold s_spot_1 at hu
  refine lv_iload_n hx hb dX7_spot_0 rfl (lv_at hl 1 rfl) ?_
  refine bSI (As := [.int 1]) (rest := []) X Y (c_isCrane l D cyC cyI 1 (s_isCrane 1) rfl) gX7_spot_X7_isCrane rfl ⟨rfl, rfl⟩ hd_X7_isCrane.2 ⟨(Nat.le_of_ble_eq_true rfl), (Nat.le_of_ble_eq_true rfl)⟩ rfl rfl hl.1 (Nat.le_of_ble_eq_true rfl) ⟨Nat.zero_le _, Nat.zero_le _⟩ dX7_spot_1 (fun H locs Y => ?_)
  refine lv_if_eq (tgt := 21) hx hb dX7_spot_4 (by decide) (fun c_1 => ?_) (fun c_1 => ?_)
  · have c_1 := bB_f c_1
    rw [if_neg c_1] at hu
    refine lv_iconst (v := (-1)) hx hb dX7_spot_21 (by decide) ?_
    subst hu
    exact bEndI X Y hr hlk dX7_spot_22 rfl rfl
  · have c_1 := bB_t c_1
    rw [if_pos c_1] at hu
    refine lv_iload_n hx hb dX7_spot_7 rfl (lv_at hl 2 rfl) ?_
    refine lv_iconst (v := (-1)) hx hb dX7_spot_8 (by decide) ?_
    refine lv_icmp_lt (tgt := 21) hx hb dX7_spot_9 (by decide) (fun c_2 => ?_) (fun c_2 => ?_)
    · have c_2 : k < (-1) := c_2
      rw [if_pos c_2] at hu
      refine lv_iconst (v := (-1)) hx hb dX7_spot_21 (by decide) ?_
      subst hu
      exact bEndI X Y hr hlk dX7_spot_22 rfl rfl
    · have c_2 : ¬ (k < (-1)) := c_2
      rw [if_neg c_2] at hu
      refine lv_iload_n hx hb dX7_spot_12 rfl (lv_at hl 3 rfl) ?_
      refine lv_iconst (v := 0) hx hb dX7_spot_13 (by decide) ?_
      refine lv_iconst (v := 2) hx hb dX7_spot_14 (by decide) ?_
      refine bSI (As := [.int what, .int 0, .int 2]) (rest := []) X Y (c_isWithin l D cyC cyI what 0 2 (s_isWithin what 0 2) rfl) gX7_spot_X7_isWithin rfl ⟨rfl, rfl⟩ hd_X7_isWithin.2 ⟨(Nat.le_of_ble_eq_true rfl), (Nat.le_of_ble_eq_true rfl)⟩ rfl rfl hl.1 (Nat.le_of_ble_eq_true rfl) ⟨Nat.zero_le _, Nat.zero_le _⟩ dX7_spot_15 (fun H locs Y => ?_)
      refine lv_if_ne (tgt := 23) hx hb dX7_spot_18 (by decide) (fun c_3 => ?_) (fun c_3 => ?_)
      · have c_3 := bB_t c_3
        rw [if_pos c_3] at hu
        refine lv_aload_n hx hb dX7_spot_23 rfl (lv_at hl 0 rfl) ?_
        refine bGet (v := .ref qN) (T := TX7) (N := 10) (ci := 7) X Y i_X7_spot_X7 0 rfl rfl 4 (Nat.le_of_ble_eq_true rfl) f_X7_spot_36 rfl rfl dX7_spot_24 ?_
        refine lv_iload_n hx hb dX7_spot_27 rfl (lv_at hl 1 rfl) ?_
        refine bVR0 (As := [.int 1]) (rest := []) (wc := [(qN, .inr (5, [.ref qNp, .ref qNs, .ref qNz, .int nk]))]) (ci := 5) (q0 := 1) X Y (c_spotsOf1 l D cyC cyI qN qNp qNs qNz nk) gX7_spot_X5_spotsOf rfl ⟨rfl, rfl⟩ hd_X5_spotsOf ⟨(Nat.le_of_ble_eq_true rfl), (Nat.le_of_ble_eq_true rfl)⟩ rfl rfl rfl [1] rfl rfl rfl rfl hl.1 (Nat.le_of_ble_eq_true rfl) ⟨Nat.zero_le _, Nat.zero_le _⟩ dX7_spot_28 (fun H locs Y => ?_)
        refine lv_astore (lv' := [(4, .ref qNz), (0, .ref qM), (1, .int 1), (2, .int k), (3, .int what)]) hx hb dX7_spot_31 hl (by decide) rfl (fun ls hl => ?_)
        refine lv_iload_n hx hb dX7_spot_33 rfl (lv_at hl 3 rfl) ?_
        refine lv_iconst (v := (-1)) hx hb dX7_spot_34 (by decide) ?_
        refine lv_icmp_ne (tgt := 44) hx hb dX7_spot_35 (by decide) (fun c_4 => ?_) (fun c_4 => ?_)
        · have c_4 : ¬ (k = (-1)) := c_4
          rw [if_neg c_4] at hu
          refine lv_iload_n hx hb dX7_spot_44 rfl (lv_at hl 3 rfl) ?_
          refine lv_aload hx hb dX7_spot_45 (lv_at hl 0 rfl) ?_
          refine bGet (v := .int nzm) (T := TX3) (N := 3) (ci := 3) X Y i_X7_spot_X3 8 rfl rfl 2 (Nat.le_of_ble_eq_true rfl) f_X7_spot_187 rfl rfl dX7_spot_47 ?_
          refine lv_icmp_lt (tgt := 56) hx hb dX7_spot_50 (by decide) (fun c_5 => ?_) (fun c_5 => ?_)
          · have c_5 : k < nzm := c_5
            rw [if_pos c_5] at hu
            refine lv_iload_n hx hb dX7_spot_56 rfl (lv_at hl 4 rfl) ?_
            by_cases c_6 : what = 0
            · rw [if_pos c_6] at hu
              refine lv_lookup (tgt := 84) (off := 27) hx hb dX7_spot_57 (by decide +kernel) (by rw [c_6]; first | done | decide +kernel) (by decide) ?_
              refine lv_aload hx hb dX7_spot_84 (lv_at hl 0 rfl) ?_
              refine lv_iload_n hx hb dX7_spot_86 rfl (lv_at hl 3 rfl) ?_
              refine bVI0 (As := [.int k]) (rest := []) (wc := [(qNz, .inr (3, [.ref qNzn, .ref qNzt, .int nzm])), (qNzn, .inl (cyI, 120, .inl nzf)), (qNzt, .inl (cyI, 120, .inl nzg))]) (ci := 3) (q0 := 8) X Y (c_blockAt l D cyC cyI qNz qNzn qNzt nzm nzf nzg k (s_blockAt nzf k) rfl) gX7_spot_X3_blockAt rfl ⟨rfl, rfl⟩ hd_X3_blockAt ⟨(Nat.le_of_ble_eq_true rfl), (Nat.le_of_ble_eq_true rfl)⟩ rfl rfl rfl [8, 9, 10] rfl rfl rfl rfl hl.1 (Nat.le_of_ble_eq_true rfl) ⟨Nat.zero_le _, Nat.zero_le _⟩ dX7_spot_87 (fun H locs Y => ?_)
              subst hu
              exact bEndI X Y hr hlk dX7_spot_90 rfl rfl
            · skip
              rw [if_neg c_6] at hu
              by_cases c_7 : what = 1
              · rw [if_pos c_7] at hu
                refine lv_lookup (tgt := 91) (off := 34) hx hb dX7_spot_57 (by decide +kernel) (by rw [c_7]; first | done | decide +kernel) (by decide) ?_
                refine lv_aload hx hb dX7_spot_91 (lv_at hl 0 rfl) ?_
                refine lv_iload_n hx hb dX7_spot_93 rfl (lv_at hl 3 rfl) ?_
                refine bVI0 (As := [.int k]) (rest := []) (wc := [(qNz, .inr (3, [.ref qNzn, .ref qNzt, .int nzm])), (qNzn, .inl (cyI, 120, .inl nzf)), (qNzt, .inl (cyI, 120, .inl nzg))]) (ci := 3) (q0 := 8) X Y (c_floorAt l D cyC cyI qNz qNzn qNzt nzm nzf nzg k (s_floorAt nzf k) rfl) gX7_spot_X3_floorAt rfl ⟨rfl, rfl⟩ hd_X3_floorAt ⟨(Nat.le_of_ble_eq_true rfl), (Nat.le_of_ble_eq_true rfl)⟩ rfl rfl rfl [8, 9, 10] rfl rfl rfl rfl hl.1 (Nat.le_of_ble_eq_true rfl) ⟨Nat.zero_le _, Nat.zero_le _⟩ dX7_spot_94 (fun H locs Y => ?_)
                subst hu
                exact bEndI X Y hr hlk dX7_spot_97 rfl rfl
              · skip
                rw [if_neg c_7] at hu
                refine lv_lookup (tgt := 98) (off := 41) hx hb dX7_spot_57 (by decide +kernel) (by have e0 := bNeI c_6 (show (0 : Int32).toInt = 0 by decide); have e1 := bNeI c_7 (show (1 : Int32).toInt = 1 by decide); simp [Op.lookupswitch.offset, e0, Ne.symm e0, e1, Ne.symm e1]) (by decide) ?_
                refine lv_aload hx hb dX7_spot_98 (lv_at hl 0 rfl) ?_
                refine lv_iload_n hx hb dX7_spot_100 rfl (lv_at hl 3 rfl) ?_
                refine bVI0 (As := [.int k]) (rest := []) (wc := [(qNz, .inr (3, [.ref qNzn, .ref qNzt, .int nzm])), (qNzn, .inl (cyI, 120, .inl nzf)), (qNzt, .inl (cyI, 120, .inl nzg))]) (ci := 3) (q0 := 8) X Y (c_ticksAt l D cyC cyI qNz qNzn qNzt nzm nzf nzg k (s_ticksAt nzm nzg k) rfl) gX7_spot_X3_ticksAt rfl ⟨rfl, rfl⟩ hd_X3_ticksAt ⟨(Nat.le_of_ble_eq_true rfl), (Nat.le_of_ble_eq_true rfl)⟩ rfl rfl rfl [8, 9, 10] rfl rfl rfl rfl hl.1 (Nat.le_of_ble_eq_true rfl) ⟨Nat.zero_le _, Nat.zero_le _⟩ dX7_spot_101 (fun H locs Y => ?_)
                subst hu
                exact bEndI X Y hr hlk dX7_spot_104 rfl rfl
          · have c_5 : ¬ (k < nzm) := c_5
            rw [if_neg c_5] at hu
            refine lv_bipush (v := (-4)) hx hb dX7_spot_53 (by decide) ?_
            subst hu
            exact bEndI X Y hr hlk dX7_spot_55 rfl rfl
        · have c_4 : k = (-1) := c_4
          rw [if_pos c_4] at hu
          refine lv_aload hx hb dX7_spot_38 (lv_at hl 0 rfl) ?_
          refine bGet (v := .int nzm) (T := TX3) (N := 3) (ci := 3) X Y i_X7_spot_X3 8 rfl rfl 2 (Nat.le_of_ble_eq_true rfl) f_X7_spot_187 rfl rfl dX7_spot_40 ?_
          subst hu
          exact bEndI X Y hr hlk dX7_spot_43 rfl rfl
      · have c_3 := bB_f c_3
        rw [if_neg c_3] at hu
        refine lv_iconst (v := (-1)) hx hb dX7_spot_21 (by decide) ?_
        subst hu
        exact bEndI X Y hr hlk dX7_spot_22 rfl rfl
def s_spot_b : Int32 :=
  (-1)
set_option maxHeartbeats 4000000 in
set_option maxRecDepth 100000 in
theorem c_spot_b (l : Launch) (D : va_G) (cyC cyI : ClassId) (qM : Nat) (qT : Nat) (qQ : Nat) (qR : Nat) (qD : Nat) (qN : Nat) (q1 : Nat) (q2 : Nat) (q3 : Nat) (q4 : Nat) (ud : Int32) (c : Int32) (k : Int32) (what : Int32) (o0 : Int32) (hu : s_spot_b = o0) (hc0 : ¬ c = 0) (hc1 : ¬ c = 1) : CI l yX7_spot wsX7_spot { frames := 1, cells := 0, slots := 0, locals := 20 } D cyC cyI [.ref qM, .int c, .int k, .int what] [(qM, .inr (7, [.ref qT, .ref qQ, .ref qR, .ref qD, .ref qN, .ref q1, .ref q2, .ref q3, .ref q4, .int ud]))] o0 [(qM, .inr (7, [.ref qT, .ref qQ, .ref qR, .ref qD, .ref qN, .ref q1, .ref q2, .ref q3, .ref q4, .int ud]))] := by
  refine CI.of (cc := cX7_spot) (n := 5) (ret := (some .int)) (by decide +kernel) rfl (Nat.le_of_ble_eq_true rfl) ?_
  intro p_ e_ s_ m_ bl_ me_ cd_ A_ ls X Y hr hlk hl
  have hx := X.1.1
  have hb := X.1.2.1
  have hl : lv_has ls 5 [(0, .ref qM), (1, .int c), (2, .int k), (3, .int what)] := hl
  unfold s_spot_b at hu
  refine lv_iload_n hx hb dX7_spot_0 rfl (lv_at hl 1 rfl) ?_
  refine bSI (As := [.int c]) (rest := []) X Y (c_isCrane l D cyC cyI c (s_isCrane c) rfl) gX7_spot_X7_isCrane rfl ⟨rfl, rfl⟩ hd_X7_isCrane.2 ⟨(Nat.le_of_ble_eq_true rfl), (Nat.le_of_ble_eq_true rfl)⟩ rfl rfl hl.1 (Nat.le_of_ble_eq_true rfl) ⟨Nat.zero_le _, Nat.zero_le _⟩ dX7_spot_1 (fun H locs Y => ?_)
  refine lv_if_eq (tgt := 21) hx hb dX7_spot_4 (by decide) (fun c_1 => ?_) (fun c_1 => ?_)
  · have c_1 := bB_f c_1
    refine lv_iconst (v := (-1)) hx hb dX7_spot_21 (by decide) ?_
    subst hu
    exact bEndI X Y hr hlk dX7_spot_22 rfl rfl
  · have c_1 := bB_t c_1
    exact absurd c_1 (isCrane_no hc0 hc1)
theorem i_X7_been_X7 : ∀ w ∈ wsX70, w ∈ wsX7_been := by decide +kernel
theorem f_X7_been_36 : Cond.fieldLink RX7 36 "SwingCranes" "now" "LSwingCranes$Story;" ∈ wsX7_been := by decide +kernel
theorem hd_X3_ticksIn : bD1 yX3_ticksIn RX3 2 := by decide +kernel
def s_been_0 (nsm : Int32) (nsf : Nat → Int32) (nsg : Nat → Int32) (x : Int32) (rp : Int32) : Int32 :=
  if (s_isCrane 0) = true then
    if (s_isWithin x 0 99) = true then
      if (s_isWithin rp 0 99) = true then
        (s_ticksIn nsm nsf nsg x rp)
      else
        (-1)
    else
      (-1)
  else
    (-1)
set_option maxHeartbeats 4000000 in
set_option maxRecDepth 100000 in
theorem c_been_0 (l : Launch) (D : va_G) (cyC cyI : ClassId) (qM : Nat) (qT : Nat) (qQ : Nat) (qR : Nat) (qD : Nat) (qN : Nat) (q1 : Nat) (q2 : Nat) (q3 : Nat) (q4 : Nat) (ud : Int32) (nk : Int32) (qNp : Nat) (nv : Int32) (qNpl : Nat) (nl0 : Int32) (nl1 : Int32) (nl2 : Int32) (nl3 : Int32) (nl4 : Int32) (nl5 : Int32) (nl6 : Int32) (nl7 : Int32) (nl8 : Int32) (nl9 : Int32) (nl10 : Int32) (nl11 : Int32) (nlb : Bool) (qNpr : Nat) (nr0 : Int32) (nr1 : Int32) (nr2 : Int32) (nr3 : Int32) (nr4 : Int32) (nr5 : Int32) (nr6 : Int32) (nr7 : Int32) (nr8 : Int32) (nr9 : Int32) (nr10 : Int32) (nr11 : Int32) (nrb : Bool) (qNs : Nat) (qNsn : Nat) (qNst : Nat) (nsm : Int32) (nsf : Nat → Int32) (nsg : Nat → Int32) (qNz : Nat) (qNzn : Nat) (qNzt : Nat) (nzm : Int32) (nzf : Nat → Int32) (nzg : Nat → Int32) (x : Int32) (rp : Int32) (o0 : Int32) (hu : s_been_0 nsm nsf nsg x rp = o0) : CI l yX7_been wsX7_been { frames := 3, cells := 0, slots := 0, locals := 65 } D cyC cyI [.ref qM, .int 0, .int x, .int rp] [(qM, .inr (7, [.ref qT, .ref qQ, .ref qR, .ref qD, .ref qN, .ref q1, .ref q2, .ref q3, .ref q4, .int ud])), (qN, .inr (5, [.ref qNp, .ref qNs, .ref qNz, .int nk])), (qNp, .inr (2, [.ref qNpl, .ref qNpr, .int nv])), (qNpl, .inr (0, [.int nl0, .int nl1, .int nl2, .int nl3, .int nl4, .int nl5, .int nl6, .int nl7, .int nl8, .int nl9, .int nl10, .int nl11, .int (bB nlb)])), (qNpr, .inr (0, [.int nr0, .int nr1, .int nr2, .int nr3, .int nr4, .int nr5, .int nr6, .int nr7, .int nr8, .int nr9, .int nr10, .int nr11, .int (bB nrb)])), (qNs, .inr (3, [.ref qNsn, .ref qNst, .int nsm])), (qNsn, .inl (cyI, 120, .inl nsf)), (qNst, .inl (cyI, 120, .inl nsg)), (qNz, .inr (3, [.ref qNzn, .ref qNzt, .int nzm])), (qNzn, .inl (cyI, 120, .inl nzf)), (qNzt, .inl (cyI, 120, .inl nzg))] o0 [(qM, .inr (7, [.ref qT, .ref qQ, .ref qR, .ref qD, .ref qN, .ref q1, .ref q2, .ref q3, .ref q4, .int ud])), (qN, .inr (5, [.ref qNp, .ref qNs, .ref qNz, .int nk])), (qNp, .inr (2, [.ref qNpl, .ref qNpr, .int nv])), (qNpl, .inr (0, [.int nl0, .int nl1, .int nl2, .int nl3, .int nl4, .int nl5, .int nl6, .int nl7, .int nl8, .int nl9, .int nl10, .int nl11, .int (bB nlb)])), (qNpr, .inr (0, [.int nr0, .int nr1, .int nr2, .int nr3, .int nr4, .int nr5, .int nr6, .int nr7, .int nr8, .int nr9, .int nr10, .int nr11, .int (bB nrb)])), (qNs, .inr (3, [.ref qNsn, .ref qNst, .int nsm])), (qNsn, .inl (cyI, 120, .inl nsf)), (qNst, .inl (cyI, 120, .inl nsg)), (qNz, .inr (3, [.ref qNzn, .ref qNzt, .int nzm])), (qNzn, .inl (cyI, 120, .inl nzf)), (qNzt, .inl (cyI, 120, .inl nzg))] := by
  refine CI.of (cc := cX7_been) (n := 4) (ret := (some .int)) (by decide +kernel) rfl (Nat.le_of_ble_eq_true rfl) ?_
  intro p_ e_ s_ m_ bl_ me_ cd_ A_ ls X Y hr hlk hl
  have hx := X.1.1
  have hb := X.1.2.1
  have hl : lv_has ls 4 [(0, .ref qM), (1, .int 0), (2, .int x), (3, .int rp)] := hl
  unfold s_been_0 at hu
  refine lv_iload_n hx hb dX7_been_0 rfl (lv_at hl 1 rfl) ?_
  refine bSI (As := [.int 0]) (rest := []) X Y (c_isCrane l D cyC cyI 0 (s_isCrane 0) rfl) gX7_been_X7_isCrane rfl ⟨rfl, rfl⟩ hd_X7_isCrane.2 ⟨(Nat.le_of_ble_eq_true rfl), (Nat.le_of_ble_eq_true rfl)⟩ rfl rfl hl.1 (Nat.le_of_ble_eq_true rfl) ⟨Nat.zero_le _, Nat.zero_le _⟩ dX7_been_1 (fun H locs Y => ?_)
  refine lv_if_eq (tgt := 27) hx hb dX7_been_4 (by decide) (fun c_1 => ?_) (fun c_1 => ?_)
  · have c_1 := bB_f c_1
    rw [if_neg c_1] at hu
    refine lv_iconst (v := (-1)) hx hb dX7_been_27 (by decide) ?_
    subst hu
    exact bEndI X Y hr hlk dX7_been_28 rfl rfl
  · have c_1 := bB_t c_1
    rw [if_pos c_1] at hu
    refine lv_iload_n hx hb dX7_been_7 rfl (lv_at hl 2 rfl) ?_
    refine lv_iconst (v := 0) hx hb dX7_been_8 (by decide) ?_
    refine lv_bipush (v := 99) hx hb dX7_been_9 (by decide) ?_
    refine bSI (As := [.int x, .int 0, .int 99]) (rest := []) X Y (c_isWithin l D cyC cyI x 0 99 (s_isWithin x 0 99) rfl) gX7_been_X7_isWithin rfl ⟨rfl, rfl⟩ hd_X7_isWithin.2 ⟨(Nat.le_of_ble_eq_true rfl), (Nat.le_of_ble_eq_true rfl)⟩ rfl rfl hl.1 (Nat.le_of_ble_eq_true rfl) ⟨Nat.zero_le _, Nat.zero_le _⟩ dX7_been_11 (fun H locs Y => ?_)
    refine lv_if_eq (tgt := 27) hx hb dX7_been_14 (by decide) (fun c_2 => ?_) (fun c_2 => ?_)
    · have c_2 := bB_f c_2
      rw [if_neg c_2] at hu
      refine lv_iconst (v := (-1)) hx hb dX7_been_27 (by decide) ?_
      subst hu
      exact bEndI X Y hr hlk dX7_been_28 rfl rfl
    · have c_2 := bB_t c_2
      rw [if_pos c_2] at hu
      refine lv_iload_n hx hb dX7_been_17 rfl (lv_at hl 3 rfl) ?_
      refine lv_iconst (v := 0) hx hb dX7_been_18 (by decide) ?_
      refine lv_bipush (v := 99) hx hb dX7_been_19 (by decide) ?_
      refine bSI (As := [.int rp, .int 0, .int 99]) (rest := []) X Y (c_isWithin l D cyC cyI rp 0 99 (s_isWithin rp 0 99) rfl) gX7_been_X7_isWithin rfl ⟨rfl, rfl⟩ hd_X7_isWithin.2 ⟨(Nat.le_of_ble_eq_true rfl), (Nat.le_of_ble_eq_true rfl)⟩ rfl rfl hl.1 (Nat.le_of_ble_eq_true rfl) ⟨Nat.zero_le _, Nat.zero_le _⟩ dX7_been_21 (fun H locs Y => ?_)
      refine lv_if_ne (tgt := 29) hx hb dX7_been_24 (by decide) (fun c_3 => ?_) (fun c_3 => ?_)
      · have c_3 := bB_t c_3
        rw [if_pos c_3] at hu
        refine lv_aload_n hx hb dX7_been_29 rfl (lv_at hl 0 rfl) ?_
        refine bGet (v := .ref qN) (T := TX7) (N := 10) (ci := 7) X Y i_X7_been_X7 0 rfl rfl 4 (Nat.le_of_ble_eq_true rfl) f_X7_been_36 rfl rfl dX7_been_30 ?_
        refine lv_iload_n hx hb dX7_been_33 rfl (lv_at hl 1 rfl) ?_
        refine bVR0 (As := [.int 0]) (rest := []) (wc := [(qN, .inr (5, [.ref qNp, .ref qNs, .ref qNz, .int nk]))]) (ci := 5) (q0 := 1) X Y (c_spotsOf0 l D cyC cyI qN qNp qNs qNz nk) gX7_been_X5_spotsOf rfl ⟨rfl, rfl⟩ hd_X5_spotsOf ⟨(Nat.le_of_ble_eq_true rfl), (Nat.le_of_ble_eq_true rfl)⟩ rfl rfl rfl [1] rfl rfl rfl rfl hl.1 (Nat.le_of_ble_eq_true rfl) ⟨Nat.zero_le _, Nat.zero_le _⟩ dX7_been_34 (fun H locs Y => ?_)
        refine lv_iload_n hx hb dX7_been_37 rfl (lv_at hl 2 rfl) ?_
        refine lv_iload_n hx hb dX7_been_38 rfl (lv_at hl 3 rfl) ?_
        refine bVI0 (As := [.int x, .int rp]) (rest := []) (wc := [(qNs, .inr (3, [.ref qNsn, .ref qNst, .int nsm])), (qNsn, .inl (cyI, 120, .inl nsf)), (qNst, .inl (cyI, 120, .inl nsg))]) (ci := 3) (q0 := 5) X Y (c_ticksIn l D cyC cyI qNs qNsn qNst nsm nsf nsg x rp (s_ticksIn nsm nsf nsg x rp) rfl) gX7_been_X3_ticksIn rfl ⟨rfl, rfl⟩ hd_X3_ticksIn ⟨(Nat.le_of_ble_eq_true rfl), (Nat.le_of_ble_eq_true rfl)⟩ rfl rfl rfl [5, 6, 7] rfl rfl rfl rfl hl.1 (Nat.le_of_ble_eq_true rfl) ⟨Nat.zero_le _, Nat.zero_le _⟩ dX7_been_39 (fun H locs Y => ?_)
        subst hu
        exact bEndI X Y hr hlk dX7_been_42 rfl rfl
      · have c_3 := bB_f c_3
        rw [if_neg c_3] at hu
        refine lv_iconst (v := (-1)) hx hb dX7_been_27 (by decide) ?_
        subst hu
        exact bEndI X Y hr hlk dX7_been_28 rfl rfl
def s_been_1 (nzm : Int32) (nzf : Nat → Int32) (nzg : Nat → Int32) (x : Int32) (rp : Int32) : Int32 :=
  if (s_isCrane 1) = true then
    if (s_isWithin x 0 99) = true then
      if (s_isWithin rp 0 99) = true then
        (s_ticksIn nzm nzf nzg x rp)
      else
        (-1)
    else
      (-1)
  else
    (-1)
set_option maxHeartbeats 4000000 in
set_option maxRecDepth 100000 in
theorem c_been_1 (l : Launch) (D : va_G) (cyC cyI : ClassId) (qM : Nat) (qT : Nat) (qQ : Nat) (qR : Nat) (qD : Nat) (qN : Nat) (q1 : Nat) (q2 : Nat) (q3 : Nat) (q4 : Nat) (ud : Int32) (nk : Int32) (qNp : Nat) (nv : Int32) (qNpl : Nat) (nl0 : Int32) (nl1 : Int32) (nl2 : Int32) (nl3 : Int32) (nl4 : Int32) (nl5 : Int32) (nl6 : Int32) (nl7 : Int32) (nl8 : Int32) (nl9 : Int32) (nl10 : Int32) (nl11 : Int32) (nlb : Bool) (qNpr : Nat) (nr0 : Int32) (nr1 : Int32) (nr2 : Int32) (nr3 : Int32) (nr4 : Int32) (nr5 : Int32) (nr6 : Int32) (nr7 : Int32) (nr8 : Int32) (nr9 : Int32) (nr10 : Int32) (nr11 : Int32) (nrb : Bool) (qNs : Nat) (qNsn : Nat) (qNst : Nat) (nsm : Int32) (nsf : Nat → Int32) (nsg : Nat → Int32) (qNz : Nat) (qNzn : Nat) (qNzt : Nat) (nzm : Int32) (nzf : Nat → Int32) (nzg : Nat → Int32) (x : Int32) (rp : Int32) (o0 : Int32) (hu : s_been_1 nzm nzf nzg x rp = o0) : CI l yX7_been wsX7_been { frames := 3, cells := 0, slots := 0, locals := 65 } D cyC cyI [.ref qM, .int 1, .int x, .int rp] [(qM, .inr (7, [.ref qT, .ref qQ, .ref qR, .ref qD, .ref qN, .ref q1, .ref q2, .ref q3, .ref q4, .int ud])), (qN, .inr (5, [.ref qNp, .ref qNs, .ref qNz, .int nk])), (qNp, .inr (2, [.ref qNpl, .ref qNpr, .int nv])), (qNpl, .inr (0, [.int nl0, .int nl1, .int nl2, .int nl3, .int nl4, .int nl5, .int nl6, .int nl7, .int nl8, .int nl9, .int nl10, .int nl11, .int (bB nlb)])), (qNpr, .inr (0, [.int nr0, .int nr1, .int nr2, .int nr3, .int nr4, .int nr5, .int nr6, .int nr7, .int nr8, .int nr9, .int nr10, .int nr11, .int (bB nrb)])), (qNs, .inr (3, [.ref qNsn, .ref qNst, .int nsm])), (qNsn, .inl (cyI, 120, .inl nsf)), (qNst, .inl (cyI, 120, .inl nsg)), (qNz, .inr (3, [.ref qNzn, .ref qNzt, .int nzm])), (qNzn, .inl (cyI, 120, .inl nzf)), (qNzt, .inl (cyI, 120, .inl nzg))] o0 [(qM, .inr (7, [.ref qT, .ref qQ, .ref qR, .ref qD, .ref qN, .ref q1, .ref q2, .ref q3, .ref q4, .int ud])), (qN, .inr (5, [.ref qNp, .ref qNs, .ref qNz, .int nk])), (qNp, .inr (2, [.ref qNpl, .ref qNpr, .int nv])), (qNpl, .inr (0, [.int nl0, .int nl1, .int nl2, .int nl3, .int nl4, .int nl5, .int nl6, .int nl7, .int nl8, .int nl9, .int nl10, .int nl11, .int (bB nlb)])), (qNpr, .inr (0, [.int nr0, .int nr1, .int nr2, .int nr3, .int nr4, .int nr5, .int nr6, .int nr7, .int nr8, .int nr9, .int nr10, .int nr11, .int (bB nrb)])), (qNs, .inr (3, [.ref qNsn, .ref qNst, .int nsm])), (qNsn, .inl (cyI, 120, .inl nsf)), (qNst, .inl (cyI, 120, .inl nsg)), (qNz, .inr (3, [.ref qNzn, .ref qNzt, .int nzm])), (qNzn, .inl (cyI, 120, .inl nzf)), (qNzt, .inl (cyI, 120, .inl nzg))] := by
  refine CI.of (cc := cX7_been) (n := 4) (ret := (some .int)) (by decide +kernel) rfl (Nat.le_of_ble_eq_true rfl) ?_
  intro p_ e_ s_ m_ bl_ me_ cd_ A_ ls X Y hr hlk hl
  have hx := X.1.1
  have hb := X.1.2.1
  have hl : lv_has ls 4 [(0, .ref qM), (1, .int 1), (2, .int x), (3, .int rp)] := hl
  unfold s_been_1 at hu
  refine lv_iload_n hx hb dX7_been_0 rfl (lv_at hl 1 rfl) ?_
  refine bSI (As := [.int 1]) (rest := []) X Y (c_isCrane l D cyC cyI 1 (s_isCrane 1) rfl) gX7_been_X7_isCrane rfl ⟨rfl, rfl⟩ hd_X7_isCrane.2 ⟨(Nat.le_of_ble_eq_true rfl), (Nat.le_of_ble_eq_true rfl)⟩ rfl rfl hl.1 (Nat.le_of_ble_eq_true rfl) ⟨Nat.zero_le _, Nat.zero_le _⟩ dX7_been_1 (fun H locs Y => ?_)
  refine lv_if_eq (tgt := 27) hx hb dX7_been_4 (by decide) (fun c_1 => ?_) (fun c_1 => ?_)
  · have c_1 := bB_f c_1
    rw [if_neg c_1] at hu
    refine lv_iconst (v := (-1)) hx hb dX7_been_27 (by decide) ?_
    subst hu
    exact bEndI X Y hr hlk dX7_been_28 rfl rfl
  · have c_1 := bB_t c_1
    rw [if_pos c_1] at hu
    refine lv_iload_n hx hb dX7_been_7 rfl (lv_at hl 2 rfl) ?_
    refine lv_iconst (v := 0) hx hb dX7_been_8 (by decide) ?_
    refine lv_bipush (v := 99) hx hb dX7_been_9 (by decide) ?_
    refine bSI (As := [.int x, .int 0, .int 99]) (rest := []) X Y (c_isWithin l D cyC cyI x 0 99 (s_isWithin x 0 99) rfl) gX7_been_X7_isWithin rfl ⟨rfl, rfl⟩ hd_X7_isWithin.2 ⟨(Nat.le_of_ble_eq_true rfl), (Nat.le_of_ble_eq_true rfl)⟩ rfl rfl hl.1 (Nat.le_of_ble_eq_true rfl) ⟨Nat.zero_le _, Nat.zero_le _⟩ dX7_been_11 (fun H locs Y => ?_)
    refine lv_if_eq (tgt := 27) hx hb dX7_been_14 (by decide) (fun c_2 => ?_) (fun c_2 => ?_)
    · have c_2 := bB_f c_2
      rw [if_neg c_2] at hu
      refine lv_iconst (v := (-1)) hx hb dX7_been_27 (by decide) ?_
      subst hu
      exact bEndI X Y hr hlk dX7_been_28 rfl rfl
    · have c_2 := bB_t c_2
      rw [if_pos c_2] at hu
      refine lv_iload_n hx hb dX7_been_17 rfl (lv_at hl 3 rfl) ?_
      refine lv_iconst (v := 0) hx hb dX7_been_18 (by decide) ?_
      refine lv_bipush (v := 99) hx hb dX7_been_19 (by decide) ?_
      refine bSI (As := [.int rp, .int 0, .int 99]) (rest := []) X Y (c_isWithin l D cyC cyI rp 0 99 (s_isWithin rp 0 99) rfl) gX7_been_X7_isWithin rfl ⟨rfl, rfl⟩ hd_X7_isWithin.2 ⟨(Nat.le_of_ble_eq_true rfl), (Nat.le_of_ble_eq_true rfl)⟩ rfl rfl hl.1 (Nat.le_of_ble_eq_true rfl) ⟨Nat.zero_le _, Nat.zero_le _⟩ dX7_been_21 (fun H locs Y => ?_)
      refine lv_if_ne (tgt := 29) hx hb dX7_been_24 (by decide) (fun c_3 => ?_) (fun c_3 => ?_)
      · have c_3 := bB_t c_3
        rw [if_pos c_3] at hu
        refine lv_aload_n hx hb dX7_been_29 rfl (lv_at hl 0 rfl) ?_
        refine bGet (v := .ref qN) (T := TX7) (N := 10) (ci := 7) X Y i_X7_been_X7 0 rfl rfl 4 (Nat.le_of_ble_eq_true rfl) f_X7_been_36 rfl rfl dX7_been_30 ?_
        refine lv_iload_n hx hb dX7_been_33 rfl (lv_at hl 1 rfl) ?_
        refine bVR0 (As := [.int 1]) (rest := []) (wc := [(qN, .inr (5, [.ref qNp, .ref qNs, .ref qNz, .int nk]))]) (ci := 5) (q0 := 1) X Y (c_spotsOf1 l D cyC cyI qN qNp qNs qNz nk) gX7_been_X5_spotsOf rfl ⟨rfl, rfl⟩ hd_X5_spotsOf ⟨(Nat.le_of_ble_eq_true rfl), (Nat.le_of_ble_eq_true rfl)⟩ rfl rfl rfl [1] rfl rfl rfl rfl hl.1 (Nat.le_of_ble_eq_true rfl) ⟨Nat.zero_le _, Nat.zero_le _⟩ dX7_been_34 (fun H locs Y => ?_)
        refine lv_iload_n hx hb dX7_been_37 rfl (lv_at hl 2 rfl) ?_
        refine lv_iload_n hx hb dX7_been_38 rfl (lv_at hl 3 rfl) ?_
        refine bVI0 (As := [.int x, .int rp]) (rest := []) (wc := [(qNz, .inr (3, [.ref qNzn, .ref qNzt, .int nzm])), (qNzn, .inl (cyI, 120, .inl nzf)), (qNzt, .inl (cyI, 120, .inl nzg))]) (ci := 3) (q0 := 8) X Y (c_ticksIn l D cyC cyI qNz qNzn qNzt nzm nzf nzg x rp (s_ticksIn nzm nzf nzg x rp) rfl) gX7_been_X3_ticksIn rfl ⟨rfl, rfl⟩ hd_X3_ticksIn ⟨(Nat.le_of_ble_eq_true rfl), (Nat.le_of_ble_eq_true rfl)⟩ rfl rfl rfl [8, 9, 10] rfl rfl rfl rfl hl.1 (Nat.le_of_ble_eq_true rfl) ⟨Nat.zero_le _, Nat.zero_le _⟩ dX7_been_39 (fun H locs Y => ?_)
        subst hu
        exact bEndI X Y hr hlk dX7_been_42 rfl rfl
      · have c_3 := bB_f c_3
        rw [if_neg c_3] at hu
        refine lv_iconst (v := (-1)) hx hb dX7_been_27 (by decide) ?_
        subst hu
        exact bEndI X Y hr hlk dX7_been_28 rfl rfl
def s_been_b : Int32 :=
  (-1)
set_option maxHeartbeats 4000000 in
set_option maxRecDepth 100000 in
theorem c_been_b (l : Launch) (D : va_G) (cyC cyI : ClassId) (qM : Nat) (qT : Nat) (qQ : Nat) (qR : Nat) (qD : Nat) (qN : Nat) (q1 : Nat) (q2 : Nat) (q3 : Nat) (q4 : Nat) (ud : Int32) (c : Int32) (x : Int32) (rp : Int32) (o0 : Int32) (hu : s_been_b = o0) (hc0 : ¬ c = 0) (hc1 : ¬ c = 1) : CI l yX7_been wsX7_been { frames := 1, cells := 0, slots := 0, locals := 20 } D cyC cyI [.ref qM, .int c, .int x, .int rp] [(qM, .inr (7, [.ref qT, .ref qQ, .ref qR, .ref qD, .ref qN, .ref q1, .ref q2, .ref q3, .ref q4, .int ud]))] o0 [(qM, .inr (7, [.ref qT, .ref qQ, .ref qR, .ref qD, .ref qN, .ref q1, .ref q2, .ref q3, .ref q4, .int ud]))] := by
  refine CI.of (cc := cX7_been) (n := 4) (ret := (some .int)) (by decide +kernel) rfl (Nat.le_of_ble_eq_true rfl) ?_
  intro p_ e_ s_ m_ bl_ me_ cd_ A_ ls X Y hr hlk hl
  have hx := X.1.1
  have hb := X.1.2.1
  have hl : lv_has ls 4 [(0, .ref qM), (1, .int c), (2, .int x), (3, .int rp)] := hl
  unfold s_been_b at hu
  refine lv_iload_n hx hb dX7_been_0 rfl (lv_at hl 1 rfl) ?_
  refine bSI (As := [.int c]) (rest := []) X Y (c_isCrane l D cyC cyI c (s_isCrane c) rfl) gX7_been_X7_isCrane rfl ⟨rfl, rfl⟩ hd_X7_isCrane.2 ⟨(Nat.le_of_ble_eq_true rfl), (Nat.le_of_ble_eq_true rfl)⟩ rfl rfl hl.1 (Nat.le_of_ble_eq_true rfl) ⟨Nat.zero_le _, Nat.zero_le _⟩ dX7_been_1 (fun H locs Y => ?_)
  refine lv_if_eq (tgt := 27) hx hb dX7_been_4 (by decide) (fun c_1 => ?_) (fun c_1 => ?_)
  · have c_1 := bB_f c_1
    refine lv_iconst (v := (-1)) hx hb dX7_been_27 (by decide) ?_
    subst hu
    exact bEndI X Y hr hlk dX7_been_28 rfl rfl
  · have c_1 := bB_t c_1
    exact absurd c_1 (isCrane_no hc0 hc1)
