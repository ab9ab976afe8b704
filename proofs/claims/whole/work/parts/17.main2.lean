theorem hd_X7_keepForUndo : bD1 yX7_keepForUndo RX7 0 := by decide +kernel
theorem i_X7_command_X7 : ∀ w ∈ wsX70, w ∈ wsX7_command := by decide +kernel
theorem f_X7_command_36 : Cond.fieldLink RX7 36 "SwingCranes" "now" "LSwingCranes$Story;" ∈ wsX7_command := by decide +kernel
theorem i_X7_command_X5 : ∀ w ∈ wsX50, w ∈ wsX7_command := by decide +kernel
theorem f_X7_command_95 : Cond.fieldLink RX7 95 "SwingCranes$Story" "pair" "LSwingCranes$Pair;" ∈ wsX7_command := by decide +kernel
theorem hd_X2_tellAtOnce : bD1 yX2_tellAtOnce RX2 2 := by decide +kernel
def s_command_ok (nv : Int32) (nl6 : Int32) (nl8 : Int32) (nl9 : Int32) (nl10 : Int32) (nl11 : Int32) (nr6 : Int32) (nr8 : Int32) (nr9 : Int32) (nr10 : Int32) (nr11 : Int32) (nsm : Int32) (nsf : Nat → Int32) (nsg : Nat → Int32) (nzm : Int32) (nzf : Nat → Int32) (nzg : Nat → Int32) (fsf : Nat → Int32) (fsg : Nat → Int32) (fzf : Nat → Int32) (fzg : Nat → Int32) (c : Int32) (w : Int32) : Int32 × Int32 × Int32 × Int32 × Int32 × Int32 × Int32 × Int32 × Int32 × (Nat → Int32) × (Nat → Int32) × (Nat → Int32) × (Nat → Int32) :=
  match s_keepForUndo nsm nsf nsg nzm nzf nzg fsf fsg fzf fzg with
  | (u_3_0, u_3_1, u_3_2, u_3_3) =>
    match s_tellAtOnce nv nl6 nl8 nl9 nl10 nl11 nr6 nr8 nr9 nr10 nr11 c w with
    | (u_4_0, u_4_1, u_4_2, u_4_3, u_4_4, u_4_5, u_4_6, u_4_7, u_4_8) =>
      (u_4_0, u_4_1, u_4_2, u_4_3, u_4_4, u_4_5, u_4_6, u_4_7, u_4_8, u_3_0, u_3_1, u_3_2, u_3_3)
set_option maxHeartbeats 4000000 in
set_option maxRecDepth 100000 in
theorem c_command_ok (l : Launch) (D : va_G) (cyC cyI : ClassId) (qM : Nat) (qT : Nat) (qQ : Nat) (qR : Nat) (qD : Nat) (qN : Nat) (q1 : Nat) (q2 : Nat) (q3 : Nat) (q4 : Nat) (ud : Int32) (nk : Int32) (qNp : Nat) (nv : Int32) (qNpl : Nat) (nl0 : Int32) (nl1 : Int32) (nl2 : Int32) (nl3 : Int32) (nl4 : Int32) (nl5 : Int32) (nl6 : Int32) (nl7 : Int32) (nl8 : Int32) (nl9 : Int32) (nl10 : Int32) (nl11 : Int32) (nlb : Bool) (qNpr : Nat) (nr0 : Int32) (nr1 : Int32) (nr2 : Int32) (nr3 : Int32) (nr4 : Int32) (nr5 : Int32) (nr6 : Int32) (nr7 : Int32) (nr8 : Int32) (nr9 : Int32) (nr10 : Int32) (nr11 : Int32) (nrb : Bool) (qNs : Nat) (qNsn : Nat) (qNst : Nat) (nsm : Int32) (nsf : Nat → Int32) (nsg : Nat → Int32) (qNz : Nat) (qNzn : Nat) (qNzt : Nat) (nzm : Int32) (nzf : Nat → Int32) (nzg : Nat → Int32) (fk : Int32) (q4p : Nat) (fv : Int32) (q4pl : Nat) (fl0 : Int32) (fl1 : Int32) (fl2 : Int32) (fl3 : Int32) (fl4 : Int32) (fl5 : Int32) (fl6 : Int32) (fl7 : Int32) (fl8 : Int32) (fl9 : Int32) (fl10 : Int32) (fl11 : Int32) (flb : Bool) (q4pr : Nat) (fr0 : Int32) (fr1 : Int32) (fr2 : Int32) (fr3 : Int32) (fr4 : Int32) (fr5 : Int32) (fr6 : Int32) (fr7 : Int32) (fr8 : Int32) (fr9 : Int32) (fr10 : Int32) (fr11 : Int32) (frb : Bool) (q4s : Nat) (q4sn : Nat) (q4st : Nat) (fsm : Int32) (fsf : Nat → Int32) (fsg : Nat → Int32) (q4z : Nat) (q4zn : Nat) (q4zt : Nat) (fzm : Int32) (fzf : Nat → Int32) (fzg : Nat → Int32) (c : Int32) (w : Int32) (o0 : Int32) (o1 : Int32) (o2 : Int32) (o3 : Int32) (o4 : Int32) (o5 : Int32) (o6 : Int32) (o7 : Int32) (o8 : Int32) (o9 : Nat → Int32) (o10 : Nat → Int32) (o11 : Nat → Int32) (o12 : Nat → Int32) (hu : s_command_ok nv nl6 nl8 nl9 nl10 nl11 nr6 nr8 nr9 nr10 nr11 nsm nsf nsg nzm nzf nzg fsf fsg fzf fzg c w = (o0, o1, o2, o3, o4, o5, o6, o7, o8, o9, o10, o11, o12)) (h0_ : (s_isCrane c) = true) (h1_ : (s_isSpeed w) = true) : CI l yX7_command wsX7_command { frames := 4, cells := 0, slots := 0, locals := 87 } D cyC cyI [.ref qM, .int c, .int w] [(qM, .inr (7, [.ref qT, .ref qQ, .ref qR, .ref qD, .ref qN, .ref q1, .ref q2, .ref q3, .ref q4, .int ud])), (qN, .inr (5, [.ref qNp, .ref qNs, .ref qNz, .int nk])), (qNp, .inr (2, [.ref qNpl, .ref qNpr, .int nv])), (qNpl, .inr (0, [.int nl0, .int nl1, .int nl2, .int nl3, .int nl4, .int nl5, .int nl6, .int nl7, .int nl8, .int nl9, .int nl10, .int nl11, .int (bB nlb)])), (qNpr, .inr (0, [.int nr0, .int nr1, .int nr2, .int nr3, .int nr4, .int nr5, .int nr6, .int nr7, .int nr8, .int nr9, .int nr10, .int nr11, .int (bB nrb)])), (qNs, .inr (3, [.ref qNsn, .ref qNst, .int nsm])), (qNsn, .inl (cyI, 120, .inl nsf)), (qNst, .inl (cyI, 120, .inl nsg)), (qNz, .inr (3, [.ref qNzn, .ref qNzt, .int nzm])), (qNzn, .inl (cyI, 120, .inl nzf)), (qNzt, .inl (cyI, 120, .inl nzg)), (q4, .inr (5, [.ref q4p, .ref q4s, .ref q4z, .int fk])), (q4p, .inr (2, [.ref q4pl, .ref q4pr, .int fv])), (q4pl, .inr (0, [.int fl0, .int fl1, .int fl2, .int fl3, .int fl4, .int fl5, .int fl6, .int fl7, .int fl8, .int fl9, .int fl10, .int fl11, .int (bB flb)])), (q4pr, .inr (0, [.int fr0, .int fr1, .int fr2, .int fr3, .int fr4, .int fr5, .int fr6, .int fr7, .int fr8, .int fr9, .int fr10, .int fr11, .int (bB frb)])), (q4s, .inr (3, [.ref q4sn, .ref q4st, .int fsm])), (q4sn, .inl (cyI, 120, .inl fsf)), (q4st, .inl (cyI, 120, .inl fsg)), (q4z, .inr (3, [.ref q4zn, .ref q4zt, .int fzm])), (q4zn, .inl (cyI, 120, .inl fzf)), (q4zt, .inl (cyI, 120, .inl fzg))] o0 [(qM, .inr (7, [.ref qT, .ref qQ, .ref qR, .ref qD, .ref qN, .ref q4, .ref q1, .ref q2, .ref q3, .int (if 4 < (ud + 1) then 4 else (ud + 1))])), (qN, .inr (5, [.ref qNp, .ref qNs, .ref qNz, .int nk])), (qNp, .inr (2, [.ref qNpl, .ref qNpr, .int nv])), (qNpl, .inr (0, [.int nl0, .int nl1, .int nl2, .int nl3, .int nl4, .int nl5, .int nl6, .int nl7, .int o1, .int o2, .int o3, .int o4, .int (bB nlb)])), (qNpr, .inr (0, [.int nr0, .int nr1, .int nr2, .int nr3, .int nr4, .int nr5, .int nr6, .int nr7, .int o5, .int o6, .int o7, .int o8, .int (bB nrb)])), (qNs, .inr (3, [.ref qNsn, .ref qNst, .int nsm])), (qNsn, .inl (cyI, 120, .inl nsf)), (qNst, .inl (cyI, 120, .inl nsg)), (qNz, .inr (3, [.ref qNzn, .ref qNzt, .int nzm])), (qNzn, .inl (cyI, 120, .inl nzf)), (qNzt, .inl (cyI, 120, .inl nzg)), (q4, .inr (5, [.ref q4p, .ref q4s, .ref q4z, .int nk])), (q4p, .inr (2, [.ref q4pl, .ref q4pr, .int nv])), (q4pl, .inr (0, [.int nl0, .int nl1, .int nl2, .int nl3, .int nl4, .int nl5, .int nl6, .int nl7, .int nl8, .int nl9, .int nl10, .int nl11, .int (bB nlb)])), (q4pr, .inr (0, [.int nr0, .int nr1, .int nr2, .int nr3, .int nr4, .int nr5, .int nr6, .int nr7, .int nr8, .int nr9, .int nr10, .int nr11, .int (bB nrb)])), (q4s, .inr (3, [.ref q4sn, .ref q4st, .int nsm])), (q4sn, .inl (cyI, 120, .inl o9)), (q4st, .inl (cyI, 120, .inl o10)), (q4z, .inr (3, [.ref q4zn, .ref q4zt, .int nzm])), (q4zn, .inl (cyI, 120, .inl o11)), (q4zt, .inl (cyI, 120, .inl o12))] := by
  refine CI.of (cc := cX7_command) (n := 3) (ret := (some .int)) (by decide +kernel) rfl (Nat.le_of_ble_eq_true rfl) ?_
  intro p_ e_ s_ m_ bl_ me_ cd_ A_ ls X Y hr hlk hl
  have hx := X.1.1
  have hb := X.1.2.1
  have hl : lv_has ls 3 [(0, .ref qM), (1, .int c), (2, .int w)] := hl
  unfold s_command_ok at hu
  refine lv_iload_n hx hb dX7_command_0 rfl (lv_at hl 1 rfl) ?_
  refine bSI (As := [.int c]) (rest := []) X Y (c_isCrane l D cyC cyI c (s_isCrane c) rfl) gX7_command_X7_isCrane rfl ⟨rfl, rfl⟩ hd_X7_isCrane.2 ⟨(Nat.le_of_ble_eq_true rfl), (Nat.le_of_ble_eq_true rfl)⟩ rfl rfl hl.1 (Nat.le_of_ble_eq_true rfl) ⟨Nat.zero_le _, Nat.zero_le _⟩ dX7_command_1 (fun H locs Y => ?_)
  refine lv_if_eq (tgt := 14) hx hb dX7_command_4 (by decide) (fun c_1 => ?_) (fun c_1 => ?_)
  · have c_1 := bB_f c_1
    exact absurd h0_ c_1
  · have c_1 := bB_t c_1
    refine lv_iload_n hx hb dX7_command_7 rfl (lv_at hl 2 rfl) ?_
    refine bSI (As := [.int w]) (rest := []) X Y (c_isSpeed l D cyC cyI w (s_isSpeed w) rfl) gX7_command_X7_isSpeed rfl ⟨rfl, rfl⟩ hd_X7_isSpeed.2 ⟨(Nat.le_of_ble_eq_true rfl), (Nat.le_of_ble_eq_true rfl)⟩ rfl rfl hl.1 (Nat.le_of_ble_eq_true rfl) ⟨Nat.zero_le _, Nat.zero_le _⟩ dX7_command_8 (fun H locs Y => ?_)
    refine lv_if_ne (tgt := 16) hx hb dX7_command_11 (by decide) (fun c_2 => ?_) (fun c_2 => ?_)
    · have c_2 := bB_t c_2
      refine lv_aload_n hx hb dX7_command_16 rfl (lv_at hl 0 rfl) ?_
      obtain ⟨u_3_0, u_3_1, u_3_2, u_3_3, hr_3⟩ := bEx4 (s_keepForUndo nsm nsf nsg nzm nzf nzg fsf fsg fzf fzg)
      rw [hr_3] at hu
      dsimp only at hu
      refine bVV (As := []) (rest := []) (wc := [(qM, .inr (7, [.ref qT, .ref qQ, .ref qR, .ref qD, .ref qN, .ref q1, .ref q2, .ref q3, .ref q4, .int ud])), (qN, .inr (5, [.ref qNp, .ref qNs, .ref qNz, .int nk])), (qNp, .inr (2, [.ref qNpl, .ref qNpr, .int nv])), (qNpl, .inr (0, [.int nl0, .int nl1, .int nl2, .int nl3, .int nl4, .int nl5, .int nl6, .int nl7, .int nl8, .int nl9, .int nl10, .int nl11, .int (bB nlb)])), (qNpr, .inr (0, [.int nr0, .int nr1, .int nr2, .int nr3, .int nr4, .int nr5, .int nr6, .int nr7, .int nr8, .int nr9, .int nr10, .int nr11, .int (bB nrb)])), (qNs, .inr (3, [.ref qNsn, .ref qNst, .int nsm])), (qNsn, .inl (cyI, 120, .inl nsf)), (qNst, .inl (cyI, 120, .inl nsg)), (qNz, .inr (3, [.ref qNzn, .ref qNzt, .int nzm])), (qNzn, .inl (cyI, 120, .inl nzf)), (qNzt, .inl (cyI, 120, .inl nzg)), (q4, .inr (5, [.ref q4p, .ref q4s, .ref q4z, .int fk])), (q4p, .inr (2, [.ref q4pl, .ref q4pr, .int fv])), (q4pl, .inr (0, [.int fl0, .int fl1, .int fl2, .int fl3, .int fl4, .int fl5, .int fl6, .int fl7, .int fl8, .int fl9, .int fl10, .int fl11, .int (bB flb)])), (q4pr, .inr (0, [.int fr0, .int fr1, .int fr2, .int fr3, .int fr4, .int fr5, .int fr6, .int fr7, .int fr8, .int fr9, .int fr10, .int fr11, .int (bB frb)])), (q4s, .inr (3, [.ref q4sn, .ref q4st, .int fsm])), (q4sn, .inl (cyI, 120, .inl fsf)), (q4st, .inl (cyI, 120, .inl fsg)), (q4z, .inr (3, [.ref q4zn, .ref q4zt, .int fzm])), (q4zn, .inl (cyI, 120, .inl fzf)), (q4zt, .inl (cyI, 120, .inl fzg))]) (w1 := [(qM, .inr (7, [.ref qT, .ref qQ, .ref qR, .ref qD, .ref qN, .ref q4, .ref q1, .ref q2, .ref q3, .int (if 4 < (ud + 1) then 4 else (ud + 1))])), (qN, .inr (5, [.ref qNp, .ref qNs, .ref qNz, .int nk])), (qNp, .inr (2, [.ref qNpl, .ref qNpr, .int nv])), (qNpl, .inr (0, [.int nl0, .int nl1, .int nl2, .int nl3, .int nl4, .int nl5, .int nl6, .int nl7, .int nl8, .int nl9, .int nl10, .int nl11, .int (bB nlb)])), (qNpr, .inr (0, [.int nr0, .int nr1, .int nr2, .int nr3, .int nr4, .int nr5, .int nr6, .int nr7, .int nr8, .int nr9, .int nr10, .int nr11, .int (bB nrb)])), (qNs, .inr (3, [.ref qNsn, .ref qNst, .int nsm])), (qNsn, .inl (cyI, 120, .inl nsf)), (qNst, .inl (cyI, 120, .inl nsg)), (qNz, .inr (3, [.ref qNzn, .ref qNzt, .int nzm])), (qNzn, .inl (cyI, 120, .inl nzf)), (qNzt, .inl (cyI, 120, .inl nzg)), (q4, .inr (5, [.ref q4p, .ref q4s, .ref q4z, .int nk])), (q4p, .inr (2, [.ref q4pl, .ref q4pr, .int nv])), (q4pl, .inr (0, [.int nl0, .int nl1, .int nl2, .int nl3, .int nl4, .int nl5, .int nl6, .int nl7, .int nl8, .int nl9, .int nl10, .int nl11, .int (bB nlb)])), (q4pr, .inr (0, [.int nr0, .int nr1, .int nr2, .int nr3, .int nr4, .int nr5, .int nr6, .int nr7, .int nr8, .int nr9, .int nr10, .int nr11, .int (bB nrb)])), (q4s, .inr (3, [.ref q4sn, .ref q4st, .int nsm])), (q4sn, .inl (cyI, 120, .inl u_3_0)), (q4st, .inl (cyI, 120, .inl u_3_1)), (q4z, .inr (3, [.ref q4zn, .ref q4zt, .int nzm])), (q4zn, .inl (cyI, 120, .inl u_3_2)), (q4zt, .inl (cyI, 120, .inl u_3_3))]) (ws' := [(qM, .inr (7, [.ref qT, .ref qQ, .ref qR, .ref qD, .ref qN, .ref q4, .ref q1, .ref q2, .ref q3, .int (if 4 < (ud + 1) then 4 else (ud + 1))])), (qN, .inr (5, [.ref qNp, .ref qNs, .ref qNz, .int nk])), (qNp, .inr (2, [.ref qNpl, .ref qNpr, .int nv])), (qNpl, .inr (0, [.int nl0, .int nl1, .int nl2, .int nl3, .int nl4, .int nl5, .int nl6, .int nl7, .int nl8, .int nl9, .int nl10, .int nl11, .int (bB nlb)])), (qNpr, .inr (0, [.int nr0, .int nr1, .int nr2, .int nr3, .int nr4, .int nr5, .int nr6, .int nr7, .int nr8, .int nr9, .int nr10, .int nr11, .int (bB nrb)])), (qNs, .inr (3, [.ref qNsn, .ref qNst, .int nsm])), (qNsn, .inl (cyI, 120, .inl nsf)), (qNst, .inl (cyI, 120, .inl nsg)), (qNz, .inr (3, [.ref qNzn, .ref qNzt, .int nzm])), (qNzn, .inl (cyI, 120, .inl nzf)), (qNzt, .inl (cyI, 120, .inl nzg)), (q4, .inr (5, [.ref q4p, .ref q4s, .ref q4z, .int nk])), (q4p, .inr (2, [.ref q4pl, .ref q4pr, .int nv])), (q4pl, .inr (0, [.int nl0, .int nl1, .int nl2, .int nl3, .int nl4, .int nl5, .int nl6, .int nl7, .int nl8, .int nl9, .int nl10, .int nl11, .int (bB nlb)])), (q4pr, .inr (0, [.int nr0, .int nr1, .int nr2, .int nr3, .int nr4, .int nr5, .int nr6, .int nr7, .int nr8, .int nr9, .int nr10, .int nr11, .int (bB nrb)])), (q4s, .inr (3, [.ref q4sn, .ref q4st, .int nsm])), (q4sn, .inl (cyI, 120, .inl u_3_0)), (q4st, .inl (cyI, 120, .inl u_3_1)), (q4z, .inr (3, [.ref q4zn, .ref q4zt, .int nzm])), (q4zn, .inl (cyI, 120, .inl u_3_2)), (q4zt, .inl (cyI, 120, .inl u_3_3))]) (nn := 21) (ci := 7) (q0 := 0) X Y (c_keepForUndo l D cyC cyI qM qT qQ qR qD qN q1 q2 q3 q4 ud nk qNp nv qNpl nl0 nl1 nl2 nl3 nl4 nl5 nl6 nl7 nl8 nl9 nl10 nl11 nlb qNpr nr0 nr1 nr2 nr3 nr4 nr5 nr6 nr7 nr8 nr9 nr10 nr11 nrb qNs qNsn qNst nsm nsf nsg qNz qNzn qNzt nzm nzf nzg fk q4p fv q4pl fl0 fl1 fl2 fl3 fl4 fl5 fl6 fl7 fl8 fl9 fl10 fl11 flb q4pr fr0 fr1 fr2 fr3 fr4 fr5 fr6 fr7 fr8 fr9 fr10 fr11 frb q4s q4sn q4st fsm fsf fsg q4z q4zn q4zt fzm fzf fzg u_3_0 u_3_1 u_3_2 u_3_3 hr_3) gX7_command_X7_keepForUndo rfl ⟨rfl, rfl⟩ hd_X7_keepForUndo ⟨(Nat.le_of_ble_eq_true rfl), (Nat.le_of_ble_eq_true rfl)⟩ rfl rfl rfl [0, 1, 2, 3, 4, 5, 6, 7, 8, 9, 10, 11, 12, 13, 14, 15, 16, 17, 18, 19, 20] [] rfl rfl rfl rfl rfl rfl (by decide) rfl rfl hl.1 (Nat.le_of_ble_eq_true rfl) ⟨Nat.zero_le _, Nat.zero_le _⟩ dX7_command_17 (fun H locs Y => ?_)
      refine lv_aload_n hx hb dX7_command_20 rfl (lv_at hl 0 rfl) ?_
      refine bGet (v := .ref qN) (T := TX7) (N := 10) (ci := 7) X Y i_X7_command_X7 0 rfl rfl 4 (Nat.le_of_ble_eq_true rfl) f_X7_command_36 rfl rfl dX7_command_21 ?_
      refine bGet (v := .ref qNp) (T := TX5) (N := 4) (ci := 5) X Y i_X7_command_X5 1 rfl rfl 0 (Nat.le_of_ble_eq_true rfl) f_X7_command_95 rfl rfl dX7_command_24 ?_
      refine lv_iload_n hx hb dX7_command_27 rfl (lv_at hl 1 rfl) ?_
      refine lv_iload_n hx hb dX7_command_28 rfl (lv_at hl 2 rfl) ?_
      obtain ⟨u_4_0, u_4_1, u_4_2, u_4_3, u_4_4, u_4_5, u_4_6, u_4_7, u_4_8, hr_4⟩ := bEx9 (s_tellAtOnce nv nl6 nl8 nl9 nl10 nl11 nr6 nr8 nr9 nr10 nr11 c w)
      rw [hr_4] at hu
      dsimp only at hu
      refine bVI (As := [.int c, .int w]) (rest := []) (wc := [(qNp, .inr (2, [.ref qNpl, .ref qNpr, .int nv])), (qNpl, .inr (0, [.int nl0, .int nl1, .int nl2, .int nl3, .int nl4, .int nl5, .int nl6, .int nl7, .int nl8, .int nl9, .int nl10, .int nl11, .int (bB nlb)])), (qNpr, .inr (0, [.int nr0, .int nr1, .int nr2, .int nr3, .int nr4, .int nr5, .int nr6, .int nr7, .int nr8, .int nr9, .int nr10, .int nr11, .int (bB nrb)]))]) (w1 := [(qNp, .inr (2, [.ref qNpl, .ref qNpr, .int nv])), (qNpl, .inr (0, [.int nl0, .int nl1, .int nl2, .int nl3, .int nl4, .int nl5, .int nl6, .int nl7, .int u_4_1, .int u_4_2, .int u_4_3, .int u_4_4, .int (bB nlb)])), (qNpr, .inr (0, [.int nr0, .int nr1, .int nr2, .int nr3, .int nr4, .int nr5, .int nr6, .int nr7, .int u_4_5, .int u_4_6, .int u_4_7, .int u_4_8, .int (bB nrb)]))]) (ws' := [(qM, .inr (7, [.ref qT, .ref qQ, .ref qR, .ref qD, .ref qN, .ref q4, .ref q1, .ref q2, .ref q3, .int (if 4 < (ud + 1) then 4 else (ud + 1))])), (qN, .inr (5, [.ref qNp, .ref qNs, .ref qNz, .int nk])), (qNp, .inr (2, [.ref qNpl, .ref qNpr, .int nv])), (qNpl, .inr (0, [.int nl0, .int nl1, .int nl2, .int nl3, .int nl4, .int nl5, .int nl6, .int nl7, .int u_4_1, .int u_4_2, .int u_4_3, .int u_4_4, .int (bB nlb)])), (qNpr, .inr (0, [.int nr0, .int nr1, .int nr2, .int nr3, .int nr4, .int nr5, .int nr6, .int nr7, .int u_4_5, .int u_4_6, .int u_4_7, .int u_4_8, .int (bB nrb)])), (qNs, .inr (3, [.ref qNsn, .ref qNst, .int nsm])), (qNsn, .inl (cyI, 120, .inl nsf)), (qNst, .inl (cyI, 120, .inl nsg)), (qNz, .inr (3, [.ref qNzn, .ref qNzt, .int nzm])), (qNzn, .inl (cyI, 120, .inl nzf)), (qNzt, .inl (cyI, 120, .inl nzg)), (q4, .inr (5, [.ref q4p, .ref q4s, .ref q4z, .int nk])), (q4p, .inr (2, [.ref q4pl, .ref q4pr, .int nv])), (q4pl, .inr (0, [.int nl0, .int nl1, .int nl2, .int nl3, .int nl4, .int nl5, .int nl6, .int nl7, .int nl8, .int nl9, .int nl10, .int nl11, .int (bB nlb)])), (q4pr, .inr (0, [.int nr0, .int nr1, .int nr2, .int nr3, .int nr4, .int nr5, .int nr6, .int nr7, .int nr8, .int nr9, .int nr10, .int nr11, .int (bB nrb)])), (q4s, .inr (3, [.ref q4sn, .ref q4st, .int nsm])), (q4sn, .inl (cyI, 120, .inl u_3_0)), (q4st, .inl (cyI, 120, .inl u_3_1)), (q4z, .inr (3, [.ref q4zn, .ref q4zt, .int nzm])), (q4zn, .inl (cyI, 120, .inl u_3_2)), (q4zt, .inl (cyI, 120, .inl u_3_3))]) (nn := 21) (ci := 2) (q0 := 2) X Y (c_tellAtOnce l D cyC cyI qNp nv qNpl nl0 nl1 nl2 nl3 nl4 nl5 nl6 nl7 nl8 nl9 nl10 nl11 nlb qNpr nr0 nr1 nr2 nr3 nr4 nr5 nr6 nr7 nr8 nr9 nr10 nr11 nrb c w u_4_0 u_4_1 u_4_2 u_4_3 u_4_4 u_4_5 u_4_6 u_4_7 u_4_8 hr_4) gX7_command_X2_tellAtOnce rfl ⟨rfl, rfl⟩ hd_X2_tellAtOnce ⟨(Nat.le_of_ble_eq_true rfl), (Nat.le_of_ble_eq_true rfl)⟩ rfl rfl rfl [2, 3, 4] [0, 1, 5, 6, 7, 8, 9, 10, 11, 12, 13, 14, 15, 16, 17, 18, 19, 20] rfl rfl rfl rfl rfl rfl (by decide) rfl rfl hl.1 (Nat.le_of_ble_eq_true rfl) ⟨Nat.zero_le _, Nat.zero_le _⟩ dX7_command_29 (fun H locs Y => ?_)
      have h9 := (Prod.mk.inj hu).1; replace hu := (Prod.mk.inj hu).2; subst h9
      have h9 := (Prod.mk.inj hu).1; replace hu := (Prod.mk.inj hu).2; subst h9
      have h9 := (Prod.mk.inj hu).1; replace hu := (Prod.mk.inj hu).2; subst h9
      have h9 := (Prod.mk.inj hu).1; replace hu := (Prod.mk.inj hu).2; subst h9
      have h9 := (Prod.mk.inj hu).1; replace hu := (Prod.mk.inj hu).2; subst h9
      have h9 := (Prod.mk.inj hu).1; replace hu := (Prod.mk.inj hu).2; subst h9
      have h9 := (Prod.mk.inj hu).1; replace hu := (Prod.mk.inj hu).2; subst h9
      have h9 := (Prod.mk.inj hu).1; replace hu := (Prod.mk.inj hu).2; subst h9
      have h9 := (Prod.mk.inj hu).1; replace hu := (Prod.mk.inj hu).2; subst h9
      have h9 := (Prod.mk.inj hu).1; replace hu := (Prod.mk.inj hu).2; subst h9
      have h9 := (Prod.mk.inj hu).1; replace hu := (Prod.mk.inj hu).2; subst h9
      have h9 := (Prod.mk.inj hu).1; replace hu := (Prod.mk.inj hu).2; subst h9
      subst hu
      exact bEndI X Y hr hlk dX7_command_32 rfl rfl
    · have c_2 := bB_f c_2
      exact absurd h1_ c_2
def s_command_no (c : Int32) : Int32 :=
  if (s_isCrane c) = true then
    (-1)
  else
    (-1)
set_option maxHeartbeats 4000000 in
set_option maxRecDepth 100000 in
theorem c_command_no (l : Launch) (D : va_G) (cyC cyI : ClassId) (qM : Nat) (qT : Nat) (qQ : Nat) (qR : Nat) (qD : Nat) (qN : Nat) (q1 : Nat) (q2 : Nat) (q3 : Nat) (q4 : Nat) (ud : Int32) (c : Int32) (w : Int32) (o0 : Int32) (hu : s_command_no c = o0) (hbad : ((s_isCrane c) = true) → ¬ ((s_isSpeed w) = true)) : CI l yX7_command wsX7_command { frames := 2, cells := 0, slots := 0, locals := 42 } D cyC cyI [.ref qM, .int c, .int w] [(qM, .inr (7, [.ref qT, .ref qQ, .ref qR, .ref qD, .ref qN, .ref q1, .ref q2, .ref q3, .ref q4, .int ud]))] o0 [(qM, .inr (7, [.ref qT, .ref qQ, .ref qR, .ref qD, .ref qN, .ref q1, .ref q2, .ref q3, .ref q4, .int ud]))] := by
  refine CI.of (cc := cX7_command) (n := 3) (ret := (some .int)) (by decide +kernel) rfl (Nat.le_of_ble_eq_true rfl) ?_
  intro p_ e_ s_ m_ bl_ me_ cd_ A_ ls X Y hr hlk hl
  have hx := X.1.1
  have hb := X.1.2.1
  have hl : lv_has ls 3 [(0, .ref qM), (1, .int c), (2, .int w)] := hl
  unfold s_command_no at hu
  refine lv_iload_n hx hb dX7_command_0 rfl (lv_at hl 1 rfl) ?_
  refine bSI (As := [.int c]) (rest := []) X Y (c_isCrane l D cyC cyI c (s_isCrane c) rfl) gX7_command_X7_isCrane rfl ⟨rfl, rfl⟩ hd_X7_isCrane.2 ⟨(Nat.le_of_ble_eq_true rfl), (Nat.le_of_ble_eq_true rfl)⟩ rfl rfl hl.1 (Nat.le_of_ble_eq_true rfl) ⟨Nat.zero_le _, Nat.zero_le _⟩ dX7_command_1 (fun H locs Y => ?_)
  refine lv_if_eq (tgt := 14) hx hb dX7_command_4 (by decide) (fun c_1 => ?_) (fun c_1 => ?_)
  · have c_1 := bB_f c_1
    rw [if_neg c_1] at hu
    refine lv_iconst (v := (-1)) hx hb dX7_command_14 (by decide) ?_
    subst hu
    exact bEndI X Y hr hlk dX7_command_15 rfl rfl
  · have c_1 := bB_t c_1
    rw [if_pos c_1] at hu
    refine lv_iload_n hx hb dX7_command_7 rfl (lv_at hl 2 rfl) ?_
    refine bSI (As := [.int w]) (rest := []) X Y (c_isSpeed l D cyC cyI w (s_isSpeed w) rfl) gX7_command_X7_isSpeed rfl ⟨rfl, rfl⟩ hd_X7_isSpeed.2 ⟨(Nat.le_of_ble_eq_true rfl), (Nat.le_of_ble_eq_true rfl)⟩ rfl rfl hl.1 (Nat.le_of_ble_eq_true rfl) ⟨Nat.zero_le _, Nat.zero_le _⟩ dX7_command_8 (fun H locs Y => ?_)
    refine lv_if_ne (tgt := 16) hx hb dX7_command_11 (by decide) (fun c_2 => ?_) (fun c_2 => ?_)
    · have c_2 := bB_t c_2
      exact absurd c_2 (hbad c_1)
    · have c_2 := bB_f c_2
      refine lv_iconst (v := (-1)) hx hb dX7_command_14 (by decide) ?_
      subst hu
      exact bEndI X Y hr hlk dX7_command_15 rfl rfl
theorem i_X7_shape_X7 : ∀ w ∈ wsX70, w ∈ wsX7_shape := by decide +kernel
theorem f_X7_shape_36 : Cond.fieldLink RX7 36 "SwingCranes" "now" "LSwingCranes$Story;" ∈ wsX7_shape := by decide +kernel
theorem i_X7_shape_X5 : ∀ w ∈ wsX50, w ∈ wsX7_shape := by decide +kernel
theorem f_X7_shape_95 : Cond.fieldLink RX7 95 "SwingCranes$Story" "pair" "LSwingCranes$Pair;" ∈ wsX7_shape := by decide +kernel
theorem hd_X2_tellByHalves : bD1 yX2_tellByHalves RX2 3 := by decide +kernel
def s_shape_ok (nv : Int32) (nl2 : Int32) (nl6 : Int32) (nl8 : Int32) (nl9 : Int32) (nl10 : Int32) (nl11 : Int32) (nr2 : Int32) (nr6 : Int32) (nr8 : Int32) (nr9 : Int32) (nr10 : Int32) (nr11 : Int32) (nsm : Int32) (nsf : Nat → Int32) (nsg : Nat → Int32) (nzm : Int32) (nzf : Nat → Int32) (nzg : Nat → Int32) (fsf : Nat → Int32) (fsg : Nat → Int32) (fzf : Nat → Int32) (fzg : Nat → Int32) (c : Int32) (w : Int32) (pa : Int32) : Int32 × Int32 × Int32 × Int32 × Int32 × Int32 × Int32 × Int32 × Int32 × (Nat → Int32) × (Nat → Int32) × (Nat → Int32) × (Nat → Int32) :=
  match s_keepForUndo nsm nsf nsg nzm nzf nzg fsf fsg fzf fzg with
  | (u_4_0, u_4_1, u_4_2, u_4_3) =>
    match s_tellByHalves nv nl2 nl6 nl8 nl9 nl10 nl11 nr2 nr6 nr8 nr9 nr10 nr11 c w pa with
    | (u_5_0, u_5_1, u_5_2, u_5_3, u_5_4, u_5_5, u_5_6, u_5_7, u_5_8) =>
      (u_5_0, u_5_1, u_5_2, u_5_3, u_5_4, u_5_5, u_5_6, u_5_7, u_5_8, u_4_0, u_4_1, u_4_2, u_4_3)
set_option maxHeartbeats 4000000 in
set_option maxRecDepth 100000 in
theorem c_shape_ok (l : Launch) (D : va_G) (cyC cyI : ClassId) (qM : Nat) (qT : Nat) (qQ : Nat) (qR : Nat) (qD : Nat) (qN : Nat) (q1 : Nat) (q2 : Nat) (q3 : Nat) (q4 : Nat) (ud : Int32) (nk : Int32) (qNp : Nat) (nv : Int32) (qNpl : Nat) (nl0 : Int32) (nl1 : Int32) (nl2 : Int32) (nl3 : Int32) (nl4 : Int32) (nl5 : Int32) (nl6 : Int32) (nl7 : Int32) (nl8 : Int32) (nl9 : Int32) (nl10 : Int32) (nl11 : Int32) (nlb : Bool) (qNpr : Nat) (nr0 : Int32) (nr1 : Int32) (nr2 : Int32) (nr3 : Int32) (nr4 : Int32) (nr5 : Int32) (nr6 : Int32) (nr7 : Int32) (nr8 : Int32) (nr9 : Int32) (nr10 : Int32) (nr11 : Int32) (nrb : Bool) (qNs : Nat) (qNsn : Nat) (qNst : Nat) (nsm : Int32) (nsf : Nat → Int32) (nsg : Nat → Int32) (qNz : Nat) (qNzn : Nat) (qNzt : Nat) (nzm : Int32) (nzf : Nat → Int32) (nzg : Nat → Int32) (fk : Int32) (q4p : Nat) (fv : Int32) (q4pl : Nat) (fl0 : Int32) (fl1 : Int32) (fl2 : Int32) (fl3 : Int32) (fl4 : Int32) (fl5 : Int32) (fl6 : Int32) (fl7 : Int32) (fl8 : Int32) (fl9 : Int32) (fl10 : Int32) (fl11 : Int32) (flb : Bool) (q4pr : Nat) (fr0 : Int32) (fr1 : Int32) (fr2 : Int32) (fr3 : Int32) (fr4 : Int32) (fr5 : Int32) (fr6 : Int32) (fr7 : Int32) (fr8 : Int32) (fr9 : Int32) (fr10 : Int32) (fr11 : Int32) (frb : Bool) (q4s : Nat) (q4sn : Nat) (q4st : Nat) (fsm : Int32) (fsf : Nat → Int32) (fsg : Nat → Int32) (q4z : Nat) (q4zn : Nat) (q4zt : Nat) (fzm : Int32) (fzf : Nat → Int32) (fzg : Nat → Int32) (c : Int32) (w : Int32) (pa : Int32) (o0 : Int32) (o1 : Int32) (o2 : Int32) (o3 : Int32) (o4 : Int32) (o5 : Int32) (o6 : Int32) (o7 : Int32) (o8 : Int32) (o9 : Nat → Int32) (o10 : Nat → Int32) (o11 : Nat → Int32) (o12 : Nat → Int32) (hu : s_shape_ok nv nl2 nl6 nl8 nl9 nl10 nl11 nr2 nr6 nr8 nr9 nr10 nr11 nsm nsf nsg nzm nzf nzg fsf fsg fzf fzg c w pa = (o0, o1, o2, o3, o4, o5, o6, o7, o8, o9, o10, o11, o12)) (h0_ : (s_isCrane c) = true) (h1_ : (s_isSpeed w) = true) (h2_ : (s_isWithin pa (-1) 20) = true) : CI l yX7_shape wsX7_shape { frames := 4, cells := 0, slots := 0, locals := 87 } D cyC cyI [.ref qM, .int c, .int w, .int pa] [(qM, .inr (7, [.ref qT, .ref qQ, .ref qR, .ref qD, .ref qN, .ref q1, .ref q2, .ref q3, .ref q4, .int ud])), (qN, .inr (5, [.ref qNp, .ref qNs, .ref qNz, .int nk])), (qNp, .inr (2, [.ref qNpl, .ref qNpr, .int nv])), (qNpl, .inr (0, [.int nl0, .int nl1, .int nl2, .int nl3, .int nl4, .int nl5, .int nl6, .int nl7, .int nl8, .int nl9, .int nl10, .int nl11, .int (bB nlb)])), (qNpr, .inr (0, [.int nr0, .int nr1, .int nr2, .int nr3, .int nr4, .int nr5, .int nr6, .int nr7, .int nr8, .int nr9, .int nr10, .int nr11, .int (bB nrb)])), (qNs, .inr (3, [.ref qNsn, .ref qNst, .int nsm])), (qNsn, .inl (cyI, 120, .inl nsf)), (qNst, .inl (cyI, 120, .inl nsg)), (qNz, .inr (3, [.ref qNzn, .ref qNzt, .int nzm])), (qNzn, .inl (cyI, 120, .inl nzf)), (qNzt, .inl (cyI, 120, .inl nzg)), (q4, .inr (5, [.ref q4p, .ref q4s, .ref q4z, .int fk])), (q4p, .inr (2, [.ref q4pl, .ref q4pr, .int fv])), (q4pl, .inr (0, [.int fl0, .int fl1, .int fl2, .int fl3, .int fl4, .int fl5, .int fl6, .int fl7, .int fl8, .int fl9, .int fl10, .int fl11, .int (bB flb)])), (q4pr, .inr (0, [.int fr0, .int fr1, .int fr2, .int fr3, .int fr4, .int fr5, .int fr6, .int fr7, .int fr8, .int fr9, .int fr10, .int fr11, .int (bB frb)])), (q4s, .inr (3, [.ref q4sn, .ref q4st, .int fsm])), (q4sn, .inl (cyI, 120, .inl fsf)), (q4st, .inl (cyI, 120, .inl fsg)), (q4z, .inr (3, [.ref q4zn, .ref q4zt, .int fzm])), (q4zn, .inl (cyI, 120, .inl fzf)), (q4zt, .inl (cyI, 120, .inl fzg))] o0 [(qM, .inr (7, [.ref qT, .ref qQ, .ref qR, .ref qD, .ref qN, .ref q4, .ref q1, .ref q2, .ref q3, .int (if 4 < (ud + 1) then 4 else (ud + 1))])), (qN, .inr (5, [.ref qNp, .ref qNs, .ref qNz, .int nk])), (qNp, .inr (2, [.ref qNpl, .ref qNpr, .int nv])), (qNpl, .inr (0, [.int nl0, .int nl1, .int nl2, .int nl3, .int nl4, .int nl5, .int nl6, .int nl7, .int o1, .int o2, .int o3, .int o4, .int (bB nlb)])), (qNpr, .inr (0, [.int nr0, .int nr1, .int nr2, .int nr3, .int nr4, .int nr5, .int nr6, .int nr7, .int o5, .int o6, .int o7, .int o8, .int (bB nrb)])), (qNs, .inr (3, [.ref qNsn, .ref qNst, .int nsm])), (qNsn, .inl (cyI, 120, .inl nsf)), (qNst, .inl (cyI, 120, .inl nsg)), (qNz, .inr (3, [.ref qNzn, .ref qNzt, .int nzm])), (qNzn, .inl (cyI, 120, .inl nzf)), (qNzt, .inl (cyI, 120, .inl nzg)), (q4, .inr (5, [.ref q4p, .ref q4s, .ref q4z, .int nk])), (q4p, .inr (2, [.ref q4pl, .ref q4pr, .int nv])), (q4pl, .inr (0, [.int nl0, .int nl1, .int nl2, .int nl3, .int nl4, .int nl5, .int nl6, .int nl7, .int nl8, .int nl9, .int nl10, .int nl11, .int (bB nlb)])), (q4pr, .inr (0, [.int nr0, .int nr1, .int nr2, .int nr3, .int nr4, .int nr5, .int nr6, .int nr7, .int nr8, .int nr9, .int nr10, .int nr11, .int (bB nrb)])), (q4s, .inr (3, [.ref q4sn, .ref q4st, .int nsm])), (q4sn, .inl (cyI, 120, .inl o9)), (q4st, .inl (cyI, 120, .inl o10)), (q4z, .inr (3, [.ref q4zn, .ref q4zt, .int nzm])), (q4zn, .inl (cyI, 120, .inl o11)), (q4zt, .inl (cyI, 120, .inl o12))] := by
  refine CI.of (cc := cX7_shape) (n := 4) (ret := (some .int)) (by decide +kernel) rfl (Nat.le_of_ble_eq_true rfl) ?_
  intro p_ e_ s_ m_ bl_ me_ cd_ A_ ls X Y hr hlk hl
  have hx := X.1.1
  have hb := X.1.2.1
  have hl : lv_has ls 4 [(0, .ref qM), (1, .int c), (2, .int w), (3, .int pa)] := hl
  unfold s_shape_ok at hu
  refine lv_iload_n hx hb dX7_shape_0 rfl (lv_at hl 1 rfl) ?_
  refine bSI (As := [.int c]) (rest := []) X Y (c_isCrane l D cyC cyI c (s_isCrane c) rfl) gX7_shape_X7_isCrane rfl ⟨rfl, rfl⟩ hd_X7_isCrane.2 ⟨(Nat.le_of_ble_eq_true rfl), (Nat.le_of_ble_eq_true rfl)⟩ rfl rfl hl.1 (Nat.le_of_ble_eq_true rfl) ⟨Nat.zero_le _, Nat.zero_le _⟩ dX7_shape_1 (fun H locs Y => ?_)
  refine lv_if_eq (tgt := 24) hx hb dX7_shape_4 (by decide) (fun c_1 => ?_) (fun c_1 => ?_)
  · have c_1 := bB_f c_1
    exact absurd h0_ c_1
  · have c_1 := bB_t c_1
    refine lv_iload_n hx hb dX7_shape_7 rfl (lv_at hl 2 rfl) ?_
    refine bSI (As := [.int w]) (rest := []) X Y (c_isSpeed l D cyC cyI w (s_isSpeed w) rfl) gX7_shape_X7_isSpeed rfl ⟨rfl, rfl⟩ hd_X7_isSpeed.2 ⟨(Nat.le_of_ble_eq_true rfl), (Nat.le_of_ble_eq_true rfl)⟩ rfl rfl hl.1 (Nat.le_of_ble_eq_true rfl) ⟨Nat.zero_le _, Nat.zero_le _⟩ dX7_shape_8 (fun H locs Y => ?_)
    refine lv_if_eq (tgt := 24) hx hb dX7_shape_11 (by decide) (fun c_2 => ?_) (fun c_2 => ?_)
    · have c_2 := bB_f c_2
      exact absurd h1_ c_2
    · have c_2 := bB_t c_2
      refine lv_iload_n hx hb dX7_shape_14 rfl (lv_at hl 3 rfl) ?_
      refine lv_iconst (v := (-1)) hx hb dX7_shape_15 (by decide) ?_
      refine lv_bipush (v := 20) hx hb dX7_shape_16 (by decide) ?_
      refine bSI (As := [.int pa, .int (-1), .int 20]) (rest := []) X Y (c_isWithin l D cyC cyI pa (-1) 20 (s_isWithin pa (-1) 20) rfl) gX7_shape_X7_isWithin rfl ⟨rfl, rfl⟩ hd_X7_isWithin.2 ⟨(Nat.le_of_ble_eq_true rfl), (Nat.le_of_ble_eq_true rfl)⟩ rfl rfl hl.1 (Nat.le_of_ble_eq_true rfl) ⟨Nat.zero_le _, Nat.zero_le _⟩ dX7_shape_18 (fun H locs Y => ?_)
      refine lv_if_ne (tgt := 26) hx hb dX7_shape_21 (by decide) (fun c_3 => ?_) (fun c_3 => ?_)
      · have c_3 := bB_t c_3
        refine lv_aload_n hx hb dX7_shape_26 rfl (lv_at hl 0 rfl) ?_
        obtain ⟨u_4_0, u_4_1, u_4_2, u_4_3, hr_4⟩ := bEx4 (s_keepForUndo nsm nsf nsg nzm nzf nzg fsf fsg fzf fzg)
        rw [hr_4] at hu
        dsimp only at hu
        refine bVV (As := []) (rest := []) (wc := [(qM, .inr (7, [.ref qT, .ref qQ, .ref qR, .ref qD, .ref qN, .ref q1, .ref q2, .ref q3, .ref q4, .int ud])), (qN, .inr (5, [.ref qNp, .ref qNs, .ref qNz, .int nk])), (qNp, .inr (2, [.ref qNpl, .ref qNpr, .int nv])), (qNpl, .inr (0, [.int nl0, .int nl1, .int nl2, .int nl3, .int nl4, .int nl5, .int nl6, .int nl7, .int nl8, .int nl9, .int nl10, .int nl11, .int (bB nlb)])), (qNpr, .inr (0, [.int nr0, .int nr1, .int nr2, .int nr3, .int nr4, .int nr5, .int nr6, .int nr7, .int nr8, .int nr9, .int nr10, .int nr11, .int (bB nrb)])), (qNs, .inr (3, [.ref qNsn, .ref qNst, .int nsm])), (qNsn, .inl (cyI, 120, .inl nsf)), (qNst, .inl (cyI, 120, .inl nsg)), (qNz, .inr (3, [.ref qNzn, .ref qNzt, .int nzm])), (qNzn, .inl (cyI, 120, .inl nzf)), (qNzt, .inl (cyI, 120, .inl nzg)), (q4, .inr (5, [.ref q4p, .ref q4s, .ref q4z, .int fk])), (q4p, .inr (2, [.ref q4pl, .ref q4pr, .int fv])), (q4pl, .inr (0, [.int fl0, .int fl1, .int fl2, .int fl3, .int fl4, .int fl5, .int fl6, .int fl7, .int fl8, .int fl9, .int fl10, .int fl11, .int (bB flb)])), (q4pr, .inr (0, [.int fr0, .int fr1, .int fr2, .int fr3, .int fr4, .int fr5, .int fr6, .int fr7, .int fr8, .int fr9, .int fr10, .int fr11, .int (bB frb)])), (q4s, .inr (3, [.ref q4sn, .ref q4st, .int fsm])), (q4sn, .inl (cyI, 120, .inl fsf)), (q4st, .inl (cyI, 120, .inl fsg)), (q4z, .inr (3, [.ref q4zn, .ref q4zt, .int fzm])), (q4zn, .inl (cyI, 120, .inl fzf)), (q4zt, .inl (cyI, 120, .inl fzg))]) (w1 := [(qM, .inr (7, [.ref qT, .ref qQ, .ref qR, .ref qD, .ref qN, .ref q4, .ref q1, .ref q2, .ref q3, .int (if 4 < (ud + 1) then 4 else (ud + 1))])), (qN, .inr (5, [.ref qNp, .ref qNs, .ref qNz, .int nk])), (qNp, .inr (2, [.ref qNpl, .ref qNpr, .int nv])), (qNpl, .inr (0, [.int nl0, .int nl1, .int nl2, .int nl3, .int nl4, .int nl5, .int nl6, .int nl7, .int nl8, .int nl9, .int nl10, .int nl11, .int (bB nlb)])), (qNpr, .inr (0, [.int nr0, .int nr1, .int nr2, .int nr3, .int nr4, .int nr5, .int nr6, .int nr7, .int nr8, .int nr9, .int nr10, .int nr11, .int (bB nrb)])), (qNs, .inr (3, [.ref qNsn, .ref qNst, .int nsm])), (qNsn, .inl (cyI, 120, .inl nsf)), (qNst, .inl (cyI, 120, .inl nsg)), (qNz, .inr (3, [.ref qNzn, .ref qNzt, .int nzm])), (qNzn, .inl (cyI, 120, .inl nzf)), (qNzt, .inl (cyI, 120, .inl nzg)), (q4, .inr (5, [.ref q4p, .ref q4s, .ref q4z, .int nk])), (q4p, .inr (2, [.ref q4pl, .ref q4pr, .int nv])), (q4pl, .inr (0, [.int nl0, .int nl1, .int nl2, .int nl3, .int nl4, .int nl5, .int nl6, .int nl7, .int nl8, .int nl9, .int nl10, .int nl11, .int (bB nlb)])), (q4pr, .inr (0, [.int nr0, .int nr1, .int nr2, .int nr3, .int nr4, .int nr5, .int nr6, .int nr7, .int nr8, .int nr9, .int nr10, .int nr11, .int (bB nrb)])), (q4s, .inr (3, [.ref q4sn, .ref q4st, .int nsm])), (q4sn, .inl (cyI, 120, .inl u_4_0)), (q4st, .inl (cyI, 120, .inl u_4_1)), (q4z, .inr (3, [.ref q4zn, .ref q4zt, .int nzm])), (q4zn, .inl (cyI, 120, .inl u_4_2)), (q4zt, .inl (cyI, 120, .inl u_4_3))]) (ws' := [(qM, .inr (7, [.ref qT, .ref qQ, .ref qR, .ref qD, .ref qN, .ref q4, .ref q1, .ref q2, .ref q3, .int (if 4 < (ud + 1) then 4 else (ud + 1))])), (qN, .inr (5, [.ref qNp, .ref qNs, .ref qNz, .int nk])), (qNp, .inr (2, [.ref qNpl, .ref qNpr, .int nv])), (qNpl, .inr (0, [.int nl0, .int nl1, .int nl2, .int nl3, .int nl4, .int nl5, .int nl6, .int nl7, .int nl8, .int nl9, .int nl10, .int nl11, .int (bB nlb)])), (qNpr, .inr (0, [.int nr0, .int nr1, .int nr2, .int nr3, .int nr4, .int nr5, .int nr6, .int nr7, .int nr8, .int nr9, .int nr10, .int nr11, .int (bB nrb)])), (qNs, .inr (3, [.ref qNsn, .ref qNst, .int nsm])), (qNsn, .inl (cyI, 120, .inl nsf)), (qNst, .inl (cyI, 120, .inl nsg)), (qNz, .inr (3, [.ref qNzn, .ref qNzt, .int nzm])), (qNzn, .inl (cyI, 120, .inl nzf)), (qNzt, .inl (cyI, 120, .inl nzg)), (q4, .inr (5, [.ref q4p, .ref q4s, .ref q4z, .int nk])), (q4p, .inr (2, [.ref q4pl, .ref q4pr, .int nv])), (q4pl, .inr (0, [.int nl0, .int nl1, .int nl2, .int nl3, .int nl4, .int nl5, .int nl6, .int nl7, .int nl8, .int nl9, .int nl10, .int nl11, .int (bB nlb)])), (q4pr, .inr (0, [.int nr0, .int nr1, .int nr2, .int nr3, .int nr4, .int nr5, .int nr6, .int nr7, .int nr8, .int nr9, .int nr10, .int nr11, .int (bB nrb)])), (q4s, .inr (3, [.ref q4sn, .ref q4st, .int nsm])), (q4sn, .inl (cyI, 120, .inl u_4_0)), (q4st, .inl (cyI, 120, .inl u_4_1)), (q4z, .inr (3, [.ref q4zn, .ref q4zt, .int nzm])), (q4zn, .inl (cyI, 120, .inl u_4_2)), (q4zt, .inl (cyI, 120, .inl u_4_3))]) (nn := 21) (ci := 7) (q0 := 0) X Y (c_keepForUndo l D cyC cyI qM qT qQ qR qD qN q1 q2 q3 q4 ud nk qNp nv qNpl nl0 nl1 nl2 nl3 nl4 nl5 nl6 nl7 nl8 nl9 nl10 nl11 nlb qNpr nr0 nr1 nr2 nr3 nr4 nr5 nr6 nr7 nr8 nr9 nr10 nr11 nrb qNs qNsn qNst nsm nsf nsg qNz qNzn qNzt nzm nzf nzg fk q4p fv q4pl fl0 fl1 fl2 fl3 fl4 fl5 fl6 fl7 fl8 fl9 fl10 fl11 flb q4pr fr0 fr1 fr2 fr3 fr4 fr5 fr6 fr7 fr8 fr9 fr10 fr11 frb q4s q4sn q4st fsm fsf fsg q4z q4zn q4zt fzm fzf fzg u_4_0 u_4_1 u_4_2 u_4_3 hr_4) gX7_shape_X7_keepForUndo rfl ⟨rfl, rfl⟩ hd_X7_keepForUndo ⟨(Nat.le_of_ble_eq_true rfl), (Nat.le_of_ble_eq_true rfl)⟩ rfl rfl rfl [0, 1, 2, 3, 4, 5, 6, 7, 8, 9, 10, 11, 12, 13, 14, 15, 16, 17, 18, 19, 20] [] rfl rfl rfl rfl rfl rfl (by decide) rfl rfl hl.1 (Nat.le_of_ble_eq_true rfl) ⟨Nat.zero_le _, Nat.zero_le _⟩ dX7_shape_27 (fun H locs Y => ?_)
        refine lv_aload_n hx hb dX7_shape_30 rfl (lv_at hl 0 rfl) ?_
        refine bGet (v := .ref qN) (T := TX7) (N := 10) (ci := 7) X Y i_X7_shape_X7 0 rfl rfl 4 (Nat.le_of_ble_eq_true rfl) f_X7_shape_36 rfl rfl dX7_shape_31 ?_
        refine bGet (v := .ref qNp) (T := TX5) (N := 4) (ci := 5) X Y i_X7_shape_X5 1 rfl rfl 0 (Nat.le_of_ble_eq_true rfl) f_X7_shape_95 rfl rfl dX7_shape_34 ?_
        refine lv_iload_n hx hb dX7_shape_37 rfl (lv_at hl 1 rfl) ?_
        refine lv_iload_n hx hb dX7_shape_38 rfl (lv_at hl 2 rfl) ?_
        refine lv_iload_n hx hb dX7_shape_39 rfl (lv_at hl 3 rfl) ?_
        obtain ⟨u_5_0, u_5_1, u_5_2, u_5_3, u_5_4, u_5_5, u_5_6, u_5_7, u_5_8, hr_5⟩ := bEx9 (s_tellByHalves nv nl2 nl6 nl8 nl9 nl10 nl11 nr2 nr6 nr8 nr9 nr10 nr11 c w pa)
        rw [hr_5] at hu
        dsimp only at hu
        refine bVI (As := [.int c, .int w, .int pa]) (rest := []) (wc := [(qNp, .inr (2, [.ref qNpl, .ref qNpr, .int nv])), (qNpl, .inr (0, [.int nl0, .int nl1, .int nl2, .int nl3, .int nl4, .int nl5, .int nl6, .int nl7, .int nl8, .int nl9, .int nl10, .int nl11, .int (bB nlb)])), (qNpr, .inr (0, [.int nr0, .int nr1, .int nr2, .int nr3, .int nr4, .int nr5, .int nr6, .int nr7, .int nr8, .int nr9, .int nr10, .int nr11, .int (bB nrb)]))]) (w1 := [(qNp, .inr (2, [.ref qNpl, .ref qNpr, .int nv])), (qNpl, .inr (0, [.int nl0, .int nl1, .int nl2, .int nl3, .int nl4, .int nl5, .int nl6, .int nl7, .int u_5_1, .int u_5_2, .int u_5_3, .int u_5_4, .int (bB nlb)])), (qNpr, .inr (0, [.int nr0, .int nr1, .int nr2, .int nr3, .int nr4, .int nr5, .int nr6, .int nr7, .int u_5_5, .int u_5_6, .int u_5_7, .int u_5_8, .int (bB nrb)]))]) (ws' := [(qM, .inr (7, [.ref qT, .ref qQ, .ref qR, .ref qD, .ref qN, .ref q4, .ref q1, .ref q2, .ref q3, .int (if 4 < (ud + 1) then 4 else (ud + 1))])), (qN, .inr (5, [.ref qNp, .ref qNs, .ref qNz, .int nk])), (qNp, .inr (2, [.ref qNpl, .ref qNpr, .int nv])), (qNpl, .inr (0, [.int nl0, .int nl1, .int nl2, .int nl3, .int nl4, .int nl5, .int nl6, .int nl7, .int u_5_1, .int u_5_2, .int u_5_3, .int u_5_4, .int (bB nlb)])), (qNpr, .inr (0, [.int nr0, .int nr1, .int nr2, .int nr3, .int nr4, .int nr5, .int nr6, .int nr7, .int u_5_5, .int u_5_6, .int u_5_7, .int u_5_8, .int (bB nrb)])), (qNs, .inr (3, [.ref qNsn, .ref qNst, .int nsm])), (qNsn, .inl (cyI, 120, .inl nsf)), (qNst, .inl (cyI, 120, .inl nsg)), (qNz, .inr (3, [.ref qNzn, .ref qNzt, .int nzm])), (qNzn, .inl (cyI, 120, .inl nzf)), (qNzt, .inl (cyI, 120, .inl nzg)), (q4, .inr (5, [.ref q4p, .ref q4s, .ref q4z, .int nk])), (q4p, .inr (2, [.ref q4pl, .ref q4pr, .int nv])), (q4pl, .inr (0, [.int nl0, .int nl1, .int nl2, .int nl3, .int nl4, .int nl5, .int nl6, .int nl7, .int nl8, .int nl9, .int nl10, .int nl11, .int (bB nlb)])), (q4pr, .inr (0, [.int nr0, .int nr1, .int nr2, .int nr3, .int nr4, .int nr5, .int nr6, .int nr7, .int nr8, .int nr9, .int nr10, .int nr11, .int (bB nrb)])), (q4s, .inr (3, [.ref q4sn, .ref q4st, .int nsm])), (q4sn, .inl (cyI, 120, .inl u_4_0)), (q4st, .inl (cyI, 120, .inl u_4_1)), (q4z, .inr (3, [.ref q4zn, .ref q4zt, .int nzm])), (q4zn, .inl (cyI, 120, .inl u_4_2)), (q4zt, .inl (cyI, 120, .inl u_4_3))]) (nn := 21) (ci := 2) (q0 := 2) X Y (c_tellByHalves l D cyC cyI qNp nv qNpl nl0 nl1 nl2 nl3 nl4 nl5 nl6 nl7 nl8 nl9 nl10 nl11 nlb qNpr nr0 nr1 nr2 nr3 nr4 nr5 nr6 nr7 nr8 nr9 nr10 nr11 nrb c w pa u_5_0 u_5_1 u_5_2 u_5_3 u_5_4 u_5_5 u_5_6 u_5_7 u_5_8 hr_5) gX7_shape_X2_tellByHalves rfl ⟨rfl, rfl⟩ hd_X2_tellByHalves ⟨(Nat.le_of_ble_eq_true rfl), (Nat.le_of_ble_eq_true rfl)⟩ rfl rfl rfl [2, 3, 4] [0, 1, 5, 6, 7, 8, 9, 10, 11, 12, 13, 14, 15, 16, 17, 18, 19, 20] rfl rfl rfl rfl rfl rfl (by decide) rfl rfl hl.1 (Nat.le_of_ble_eq_true rfl) ⟨Nat.zero_le _, Nat.zero_le _⟩ dX7_shape_40 (fun H locs Y => ?_)
        have h9 := (Prod.mk.inj hu).1; replace hu := (Prod.mk.inj hu).2; subst h9
        have h9 := (Prod.mk.inj hu).1; replace hu := (Prod.mk.inj hu).2; subst h9
        have h9 := (Prod.mk.inj hu).1; replace hu := (Prod.mk.inj hu).2; subst h9
        have h9 := (Prod.mk.inj hu).1; replace hu := (Prod.mk.inj hu).2; subst h9
        have h9 := (Prod.mk.inj hu).1; replace hu := (Prod.mk.inj hu).2; subst h9
        have h9 := (Prod.mk.inj hu).1; replace hu := (Prod.mk.inj hu).2; subst h9
        have h9 := (Prod.mk.inj hu).1; replace hu := (Prod.mk.inj hu).2; subst h9
        have h9 := (Prod.mk.inj hu).1; replace hu := (Prod.mk.inj hu).2; subst h9
        have h9 := (Prod.mk.inj hu).1; replace hu := (Prod.mk.inj hu).2; subst h9
        have h9 := (Prod.mk.inj hu).1; replace hu := (Prod.mk.inj hu).2; subst h9
        have h9 := (Prod.mk.inj hu).1; replace hu := (Prod.mk.inj hu).2; subst h9
        have h9 := (Prod.mk.inj hu).1; replace hu := (Prod.mk.inj hu).2; subst h9
        subst hu
        exact bEndI X Y hr hlk dX7_shape_43 rfl rfl
      · have c_3 := bB_f c_3
        exact absurd h2_ c_3
def s_shape_no (c : Int32) (w : Int32) : Int32 :=
  if (s_isCrane c) = true then
    if (s_isSpeed w) = true then
      (-1)
    else
      (-1)
  else
    (-1)
set_option maxHeartbeats 4000000 in
set_option maxRecDepth 100000 in
theorem c_shape_no (l : Launch) (D : va_G) (cyC cyI : ClassId) (qM : Nat) (qT : Nat) (qQ : Nat) (qR : Nat) (qD : Nat) (qN : Nat) (q1 : Nat) (q2 : Nat) (q3 : Nat) (q4 : Nat) (ud : Int32) (c : Int32) (w : Int32) (pa : Int32) (o0 : Int32) (hu : s_shape_no c w = o0) (hbad : ((s_isCrane c) = true) → ((s_isSpeed w) = true) → ¬ ((s_isWithin pa (-1) 20) = true)) : CI l yX7_shape wsX7_shape { frames := 2, cells := 0, slots := 0, locals := 42 } D cyC cyI [.ref qM, .int c, .int w, .int pa] [(qM, .inr (7, [.ref qT, .ref qQ, .ref qR, .ref qD, .ref qN, .ref q1, .ref q2, .ref q3, .ref q4, .int ud]))] o0 [(qM, .inr (7, [.ref qT, .ref qQ, .ref qR, .ref qD, .ref qN, .ref q1, .ref q2, .ref q3, .ref q4, .int ud]))] := by
  refine CI.of (cc := cX7_shape) (n := 4) (ret := (some .int)) (by decide +kernel) rfl (Nat.le_of_ble_eq_true rfl) ?_
  intro p_ e_ s_ m_ bl_ me_ cd_ A_ ls X Y hr hlk hl
  have hx := X.1.1
  have hb := X.1.2.1
  have hl : lv_has ls 4 [(0, .ref qM), (1, .int c), (2, .int w), (3, .int pa)] := hl
  unfold s_shape_no at hu
  refine lv_iload_n hx hb dX7_shape_0 rfl (lv_at hl 1 rfl) ?_
  refine bSI (As := [.int c]) (rest := []) X Y (c_isCrane l D cyC cyI c (s_isCrane c) rfl) gX7_shape_X7_isCrane rfl ⟨rfl, rfl⟩ hd_X7_isCrane.2 ⟨(Nat.le_of_ble_eq_true rfl), (Nat.le_of_ble_eq_true rfl)⟩ rfl rfl hl.1 (Nat.le_of_ble_eq_true rfl) ⟨Nat.zero_le _, Nat.zero_le _⟩ dX7_shape_1 (fun H locs Y => ?_)
  refine lv_if_eq (tgt := 24) hx hb dX7_shape_4 (by decide) (fun c_1 => ?_) (fun c_1 => ?_)
  · have c_1 := bB_f c_1
    rw [if_neg c_1] at hu
    refine lv_iconst (v := (-1)) hx hb dX7_shape_24 (by decide) ?_
    subst hu
    exact bEndI X Y hr hlk dX7_shape_25 rfl rfl
  · have c_1 := bB_t c_1
    rw [if_pos c_1] at hu
    refine lv_iload_n hx hb dX7_shape_7 rfl (lv_at hl 2 rfl) ?_
    refine bSI (As := [.int w]) (rest := []) X Y (c_isSpeed l D cyC cyI w (s_isSpeed w) rfl) gX7_shape_X7_isSpeed rfl ⟨rfl, rfl⟩ hd_X7_isSpeed.2 ⟨(Nat.le_of_ble_eq_true rfl), (Nat.le_of_ble_eq_true rfl)⟩ rfl rfl hl.1 (Nat.le_of_ble_eq_true rfl) ⟨Nat.zero_le _, Nat.zero_le _⟩ dX7_shape_8 (fun H locs Y => ?_)
    refine lv_if_eq (tgt := 24) hx hb dX7_shape_11 (by decide) (fun c_2 => ?_) (fun c_2 => ?_)
    · have c_2 := bB_f c_2
      rw [if_neg c_2] at hu
      refine lv_iconst (v := (-1)) hx hb dX7_shape_24 (by decide) ?_
      subst hu
      exact bEndI X Y hr hlk dX7_shape_25 rfl rfl
    · have c_2 := bB_t c_2
      rw [if_pos c_2] at hu
      refine lv_iload_n hx hb dX7_shape_14 rfl (lv_at hl 3 rfl) ?_
      refine lv_iconst (v := (-1)) hx hb dX7_shape_15 (by decide) ?_
      refine lv_bipush (v := 20) hx hb dX7_shape_16 (by decide) ?_
      refine bSI (As := [.int pa, .int (-1), .int 20]) (rest := []) X Y (c_isWithin l D cyC cyI pa (-1) 20 (s_isWithin pa (-1) 20) rfl) gX7_shape_X7_isWithin rfl ⟨rfl, rfl⟩ hd_X7_isWithin.2 ⟨(Nat.le_of_ble_eq_true rfl), (Nat.le_of_ble_eq_true rfl)⟩ rfl rfl hl.1 (Nat.le_of_ble_eq_true rfl) ⟨Nat.zero_le _, Nat.zero_le _⟩ dX7_shape_18 (fun H locs Y => ?_)
      refine lv_if_ne (tgt := 26) hx hb dX7_shape_21 (by decide) (fun c_3 => ?_) (fun c_3 => ?_)
      · have c_3 := bB_t c_3
        exact absurd c_3 (hbad c_1 c_2)
      · have c_3 := bB_f c_3
        refine lv_iconst (v := (-1)) hx hb dX7_shape_24 (by decide) ?_
        subst hu
        exact bEndI X Y hr hlk dX7_shape_25 rfl rfl
theorem i_X7_target_X7 : ∀ w ∈ wsX70, w ∈ wsX7_target := by decide +kernel
theorem f_X7_target_36 : Cond.fieldLink RX7 36 "SwingCranes" "now" "LSwingCranes$Story;" ∈ wsX7_target := by decide +kernel
theorem i_X7_target_X5 : ∀ w ∈ wsX50, w ∈ wsX7_target := by decide +kernel
theorem f_X7_target_95 : Cond.fieldLink RX7 95 "SwingCranes$Story" "pair" "LSwingCranes$Pair;" ∈ wsX7_target := by decide +kernel
theorem hd_X2_aimsAt : bD1 yX2_aimsAt RX2 2 := by decide +kernel
theorem i_X7_target_X0 : ∀ w ∈ wsX00, w ∈ wsX7_target := by decide +kernel
theorem f_X7_target_117 : Cond.fieldLink RX7 117 "SwingCranes$Crane" "target" "I" ∈ wsX7_target := by decide +kernel
theorem hd_X2_aim : bD1 yX2_aim RX2 2 := by decide +kernel
def s_target_0_ok (nv : Int32) (nl7 : Int32) (nr7 : Int32) (nsm : Int32) (nsf : Nat → Int32) (nsg : Nat → Int32) (nzm : Int32) (nzf : Nat → Int32) (nzg : Nat → Int32) (fsf : Nat → Int32) (fsg : Nat → Int32) (fzf : Nat → Int32) (fzg : Nat → Int32) (rp : Int32) : Int32 × Int32 × Int32 × (Nat → Int32) × (Nat → Int32) × (Nat → Int32) × (Nat → Int32) :=
  match s_keepForUndo nsm nsf nsg nzm nzf nzg fsf fsg fzf fzg with
  | (u_4_0, u_4_1, u_4_2, u_4_3) =>
    match s_aim nv nl7 nr7 0 rp with
    | (u_5_0, u_5_1) =>
      (nl7, u_5_0, u_5_1, u_4_0, u_4_1, u_4_2, u_4_3)
set_option maxHeartbeats 4000000 in
set_option maxRecDepth 100000 in
theorem c_target_0_ok (l : Launch) (D : va_G) (cyC cyI : ClassId) (qM : Nat) (qT : Nat) (qQ : Nat) (qR : Nat) (qD : Nat) (qN : Nat) (q1 : Nat) (q2 : Nat) (q3 : Nat) (q4 : Nat) (ud : Int32) (nk : Int32) (qNp : Nat) (nv : Int32) (qNpl : Nat) (nl0 : Int32) (nl1 : Int32) (nl2 : Int32) (nl3 : Int32) (nl4 : Int32) (nl5 : Int32) (nl6 : Int32) (nl7 : Int32) (nl8 : Int32) (nl9 : Int32) (nl10 : Int32) (nl11 : Int32) (nlb : Bool) (qNpr : Nat) (nr0 : Int32) (nr1 : Int32) (nr2 : Int32) (nr3 : Int32) (nr4 : Int32) (nr5 : Int32) (nr6 : Int32) (nr7 : Int32) (nr8 : Int32) (nr9 : Int32) (nr10 : Int32) (nr11 : Int32) (nrb : Bool) (qNs : Nat) (qNsn : Nat) (qNst : Nat) (nsm : Int32) (nsf : Nat → Int32) (nsg : Nat → Int32) (qNz : Nat) (qNzn : Nat) (qNzt : Nat) (nzm : Int32) (nzf : Nat → Int32) (nzg : Nat → Int32) (fk : Int32) (q4p : Nat) (fv : Int32) (q4pl : Nat) (fl0 : Int32) (fl1 : Int32) (fl2 : Int32) (fl3 : Int32) (fl4 : Int32) (fl5 : Int32) (fl6 : Int32) (fl7 : Int32) (fl8 : Int32) (fl9 : Int32) (fl10 : Int32) (fl11 : Int32) (flb : Bool) (q4pr : Nat) (fr0 : Int32) (fr1 : Int32) (fr2 : Int32) (fr3 : Int32) (fr4 : Int32) (fr5 : Int32) (fr6 : Int32) (fr7 : Int32) (fr8 : Int32) (fr9 : Int32) (fr10 : Int32) (fr11 : Int32) (frb : Bool) (q4s : Nat) (q4sn : Nat) (q4st : Nat) (fsm : Int32) (fsf : Nat → Int32) (fsg : Nat → Int32) (q4z : Nat) (q4zn : Nat) (q4zt : Nat) (fzm : Int32) (fzf : Nat → Int32) (fzg : Nat → Int32) (rp : Int32) (o0 : Int32) (o1 : Int32) (o2 : Int32) (o3 : Nat → Int32) (o4 : Nat → Int32) (o5 : Nat → Int32) (o6 : Nat → Int32) (hu : s_target_0_ok nv nl7 nr7 nsm nsf nsg nzm nzf nzg fsf fsg fzf fzg rp = (o0, o1, o2, o3, o4, o5, o6)) (h0_ : (s_isCrane 0) = true) (h1_ : (s_isRope rp) = true) (h2_ : ¬ ((s_aimsAt nv nl7 nr7 0 rp) = true)) : CI l yX7_target wsX7_target { frames := 4, cells := 0, slots := 0, locals := 87 } D cyC cyI [.ref qM, .int 0, .int rp] [(qM, .inr (7, [.ref qT, .ref qQ, .ref qR, .ref qD, .ref qN, .ref q1, .ref q2, .ref q3, .ref q4, .int ud])), (qN, .inr (5, [.ref qNp, .ref qNs, .ref qNz, .int nk])), (qNp, .inr (2, [.ref qNpl, .ref qNpr, .int nv])), (qNpl, .inr (0, [.int nl0, .int nl1, .int nl2, .int nl3, .int nl4, .int nl5, .int nl6, .int nl7, .int nl8, .int nl9, .int nl10, .int nl11, .int (bB nlb)])), (qNpr, .inr (0, [.int nr0, .int nr1, .int nr2, .int nr3, .int nr4, .int nr5, .int nr6, .int nr7, .int nr8, .int nr9, .int nr10, .int nr11, .int (bB nrb)])), (qNs, .inr (3, [.ref qNsn, .ref qNst, .int nsm])), (qNsn, .inl (cyI, 120, .inl nsf)), (qNst, .inl (cyI, 120, .inl nsg)), (qNz, .inr (3, [.ref qNzn, .ref qNzt, .int nzm])), (qNzn, .inl (cyI, 120, .inl nzf)), (qNzt, .inl (cyI, 120, .inl nzg)), (q4, .inr (5, [.ref q4p, .ref q4s, .ref q4z, .int fk])), (q4p, .inr (2, [.ref q4pl, .ref q4pr, .int fv])), (q4pl, .inr (0, [.int fl0, .int fl1, .int fl2, .int fl3, .int fl4, .int fl5, .int fl6, .int fl7, .int fl8, .int fl9, .int fl10, .int fl11, .int (bB flb)])), (q4pr, .inr (0, [.int fr0, .int fr1, .int fr2, .int fr3, .int fr4, .int fr5, .int fr6, .int fr7, .int fr8, .int fr9, .int fr10, .int fr11, .int (bB frb)])), (q4s, .inr (3, [.ref q4sn, .ref q4st, .int fsm])), (q4sn, .inl (cyI, 120, .inl fsf)), (q4st, .inl (cyI, 120, .inl fsg)), (q4z, .inr (3, [.ref q4zn, .ref q4zt, .int fzm])), (q4zn, .inl (cyI, 120, .inl fzf)), (q4zt, .inl (cyI, 120, .inl fzg))] o0 [(qM, .inr (7, [.ref qT, .ref qQ, .ref qR, .ref qD, .ref qN, .ref q4, .ref q1, .ref q2, .ref q3, .int (if 4 < (ud + 1) then 4 else (ud + 1))])), (qN, .inr (5, [.ref qNp, .ref qNs, .ref qNz, .int nk])), (qNp, .inr (2, [.ref qNpl, .ref qNpr, .int nv])), (qNpl, .inr (0, [.int nl0, .int nl1, .int nl2, .int nl3, .int nl4, .int nl5, .int nl6, .int o1, .int nl8, .int nl9, .int nl10, .int nl11, .int (bB nlb)])), (qNpr, .inr (0, [.int nr0, .int nr1, .int nr2, .int nr3, .int nr4, .int nr5, .int nr6, .int o2, .int nr8, .int nr9, .int nr10, .int nr11, .int (bB nrb)])), (qNs, .inr (3, [.ref qNsn, .ref qNst, .int nsm])), (qNsn, .inl (cyI, 120, .inl nsf)), (qNst, .inl (cyI, 120, .inl nsg)), (qNz, .inr (3, [.ref qNzn, .ref qNzt, .int nzm])), (qNzn, .inl (cyI, 120, .inl nzf)), (qNzt, .inl (cyI, 120, .inl nzg)), (q4, .inr (5, [.ref q4p, .ref q4s, .ref q4z, .int nk])), (q4p, .inr (2, [.ref q4pl, .ref q4pr, .int nv])), (q4pl, .inr (0, [.int nl0, .int nl1, .int nl2, .int nl3, .int nl4, .int nl5, .int nl6, .int nl7, .int nl8, .int nl9, .int nl10, .int nl11, .int (bB nlb)])), (q4pr, .inr (0, [.int nr0, .int nr1, .int nr2, .int nr3, .int nr4, .int nr5, .int nr6, .int nr7, .int nr8, .int nr9, .int nr10, .int nr11, .int (bB nrb)])), (q4s, .inr (3, [.ref q4sn, .ref q4st, .int nsm])), (q4sn, .inl (cyI, 120, .inl o3)), (q4st, .inl (cyI, 120, .inl o4)), (q4z, .inr (3, [.ref q4zn, .ref q4zt, .int nzm])), (q4zn, .inl (cyI, 120, .inl o5)), (q4zt, .inl (cyI, 120, .inl o6))] := by
  refine CI.of (cc := cX7_target) (n := 4) (ret := (some .int)) (by decide +kernel) rfl (Nat.le_of_ble_eq_true rfl) ?_
  intro p_ e_ s_ m_ bl_ me_ cd_ A_ ls X Y hr hlk hl
  have hx := X.1.1
  have hb := X.1.2.1
  have hl : lv_has ls 4 [(0, .ref qM), (1, .int 0), (2, .int rp)] := hl
  unfold s_target_0_ok at hu
  refine lv_iload_n hx hb dX7_target_0 rfl (lv_at hl 1 rfl) ?_
  refine bSI (As := [.int 0]) (rest := []) X Y (c_isCrane l D cyC cyI 0 (s_isCrane 0) rfl) gX7_target_X7_isCrane rfl ⟨rfl, rfl⟩ hd_X7_isCrane.2 ⟨(Nat.le_of_ble_eq_true rfl), (Nat.le_of_ble_eq_true rfl)⟩ rfl rfl hl.1 (Nat.le_of_ble_eq_true rfl) ⟨Nat.zero_le _, Nat.zero_le _⟩ dX7_target_1 (fun H locs Y => ?_)
  refine lv_if_eq (tgt := 14) hx hb dX7_target_4 (by decide) (fun c_1 => ?_) (fun c_1 => ?_)
  · have c_1 := bB_f c_1
    exact absurd h0_ c_1
  · have c_1 := bB_t c_1
    refine lv_iload_n hx hb dX7_target_7 rfl (lv_at hl 2 rfl) ?_
    refine bSI (As := [.int rp]) (rest := []) X Y (c_isRope l D cyC cyI rp (s_isRope rp) rfl) gX7_target_X7_isRope rfl ⟨rfl, rfl⟩ hd_X7_isRope.2 ⟨(Nat.le_of_ble_eq_true rfl), (Nat.le_of_ble_eq_true rfl)⟩ rfl rfl hl.1 (Nat.le_of_ble_eq_true rfl) ⟨Nat.zero_le _, Nat.zero_le _⟩ dX7_target_8 (fun H locs Y => ?_)
    refine lv_if_ne (tgt := 16) hx hb dX7_target_11 (by decide) (fun c_2 => ?_) (fun c_2 => ?_)
    · have c_2 := bB_t c_2
      refine lv_aload_n hx hb dX7_target_16 rfl (lv_at hl 0 rfl) ?_
      refine bGet (v := .ref qN) (T := TX7) (N := 10) (ci := 7) X Y i_X7_target_X7 0 rfl rfl 4 (Nat.le_of_ble_eq_true rfl) f_X7_target_36 rfl rfl dX7_target_17 ?_
      refine bGet (v := .ref qNp) (T := TX5) (N := 4) (ci := 5) X Y i_X7_target_X5 1 rfl rfl 0 (Nat.le_of_ble_eq_true rfl) f_X7_target_95 rfl rfl dX7_target_20 ?_
      refine lv_iload_n hx hb dX7_target_23 rfl (lv_at hl 1 rfl) ?_
      refine lv_iload_n hx hb dX7_target_24 rfl (lv_at hl 2 rfl) ?_
      refine bVI0 (As := [.int 0, .int rp]) (rest := []) (wc := [(qNp, .inr (2, [.ref qNpl, .ref qNpr, .int nv])), (qNpl, .inr (0, [.int nl0, .int nl1, .int nl2, .int nl3, .int nl4, .int nl5, .int nl6, .int nl7, .int nl8, .int nl9, .int nl10, .int nl11, .int (bB nlb)])), (qNpr, .inr (0, [.int nr0, .int nr1, .int nr2, .int nr3, .int nr4, .int nr5, .int nr6, .int nr7, .int nr8, .int nr9, .int nr10, .int nr11, .int (bB nrb)]))]) (ci := 2) (q0 := 2) X Y (c_aimsAt l D cyC cyI qNp nv qNpl nl0 nl1 nl2 nl3 nl4 nl5 nl6 nl7 nl8 nl9 nl10 nl11 nlb qNpr nr0 nr1 nr2 nr3 nr4 nr5 nr6 nr7 nr8 nr9 nr10 nr11 nrb 0 rp (s_aimsAt nv nl7 nr7 0 rp) rfl) gX7_target_X2_aimsAt rfl ⟨rfl, rfl⟩ hd_X2_aimsAt ⟨(Nat.le_of_ble_eq_true rfl), (Nat.le_of_ble_eq_true rfl)⟩ rfl rfl rfl [2, 3, 4] rfl rfl rfl rfl hl.1 (Nat.le_of_ble_eq_true rfl) ⟨Nat.zero_le _, Nat.zero_le _⟩ dX7_target_25 (fun H locs Y => ?_)
      refine lv_if_eq (tgt := 34) hx hb dX7_target_28 (by decide) (fun c_3 => ?_) (fun c_3 => ?_)
      · have c_3 := bB_f c_3
        refine lv_aload_n hx hb dX7_target_34 rfl (lv_at hl 0 rfl) ?_
        obtain ⟨u_4_0, u_4_1, u_4_2, u_4_3, hr_4⟩ := bEx4 (s_keepForUndo nsm nsf nsg nzm nzf nzg fsf fsg fzf fzg)
        rw [hr_4] at hu
        dsimp only at hu
        refine bVV (As := []) (rest := []) (wc := [(qM, .inr (7, [.ref qT, .ref qQ, .ref qR, .ref qD, .ref qN, .ref q1, .ref q2, .ref q3, .ref q4, .int ud])), (qN, .inr (5, [.ref qNp, .ref qNs, .ref qNz, .int nk])), (qNp, .inr (2, [.ref qNpl, .ref qNpr, .int nv])), (qNpl, .inr (0, [.int nl0, .int nl1, .int nl2, .int nl3, .int nl4, .int nl5, .int nl6, .int nl7, .int nl8, .int nl9, .int nl10, .int nl11, .int (bB nlb)])), (qNpr, .inr (0, [.int nr0, .int nr1, .int nr2, .int nr3, .int nr4, .int nr5, .int nr6, .int nr7, .int nr8, .int nr9, .int nr10, .int nr11, .int (bB nrb)])), (qNs, .inr (3, [.ref qNsn, .ref qNst, .int nsm])), (qNsn, .inl (cyI, 120, .inl nsf)), (qNst, .inl (cyI, 120, .inl nsg)), (qNz, .inr (3, [.ref qNzn, .ref qNzt, .int nzm])), (qNzn, .inl (cyI, 120, .inl nzf)), (qNzt, .inl (cyI, 120, .inl nzg)), (q4, .inr (5, [.ref q4p, .ref q4s, .ref q4z, .int fk])), (q4p, .inr (2, [.ref q4pl, .ref q4pr, .int fv])), (q4pl, .inr (0, [.int fl0, .int fl1, .int fl2, .int fl3, .int fl4, .int fl5, .int fl6, .int fl7, .int fl8, .int fl9, .int fl10, .int fl11, .int (bB flb)])), (q4pr, .inr (0, [.int fr0, .int fr1, .int fr2, .int fr3, .int fr4, .int fr5, .int fr6, .int fr7, .int fr8, .int fr9, .int fr10, .int fr11, .int (bB frb)])), (q4s, .inr (3, [.ref q4sn, .ref q4st, .int fsm])), (q4sn, .inl (cyI, 120, .inl fsf)), (q4st, .inl (cyI, 120, .inl fsg)), (q4z, .inr (3, [.ref q4zn, .ref q4zt, .int fzm])), (q4zn, .inl (cyI, 120, .inl fzf)), (q4zt, .inl (cyI, 120, .inl fzg))]) (w1 := [(qM, .inr (7, [.ref qT, .ref qQ, .ref qR, .ref qD, .ref qN, .ref q4, .ref q1, .ref q2, .ref q3, .int (if 4 < (ud + 1) then 4 else (ud + 1))])), (qN, .inr (5, [.ref qNp, .ref qNs, .ref qNz, .int nk])), (qNp, .inr (2, [.ref qNpl, .ref qNpr, .int nv])), (qNpl, .inr (0, [.int nl0, .int nl1, .int nl2, .int nl3, .int nl4, .int nl5, .int nl6, .int nl7, .int nl8, .int nl9, .int nl10, .int nl11, .int (bB nlb)])), (qNpr, .inr (0, [.int nr0, .int nr1, .int nr2, .int nr3, .int nr4, .int nr5, .int nr6, .int nr7, .int nr8, .int nr9, .int nr10, .int nr11, .int (bB nrb)])), (qNs, .inr (3, [.ref qNsn, .ref qNst, .int nsm])), (qNsn, .inl (cyI, 120, .inl nsf)), (qNst, .inl (cyI, 120, .inl nsg)), (qNz, .inr (3, [.ref qNzn, .ref qNzt, .int nzm])), (qNzn, .inl (cyI, 120, .inl nzf)), (qNzt, .inl (cyI, 120, .inl nzg)), (q4, .inr (5, [.ref q4p, .ref q4s, .ref q4z, .int nk])), (q4p, .inr (2, [.ref q4pl, .ref q4pr, .int nv])), (q4pl, .inr (0, [.int nl0, .int nl1, .int nl2, .int nl3, .int nl4, .int nl5, .int nl6, .int nl7, .int nl8, .int nl9, .int nl10, .int nl11, .int (bB nlb)])), (q4pr, .inr (0, [.int nr0, .int nr1, .int nr2, .int nr3, .int nr4, .int nr5, .int nr6, .int nr7, .int nr8, .int nr9, .int nr10, .int nr11, .int (bB nrb)])), (q4s, .inr (3, [.ref q4sn, .ref q4st, .int nsm])), (q4sn, .inl (cyI, 120, .inl u_4_0)), (q4st, .inl (cyI, 120, .inl u_4_1)), (q4z, .inr (3, [.ref q4zn, .ref q4zt, .int nzm])), (q4zn, .inl (cyI, 120, .inl u_4_2)), (q4zt, .inl (cyI, 120, .inl u_4_3))]) (ws' := [(qM, .inr (7, [.ref qT, .ref qQ, .ref qR, .ref qD, .ref qN, .ref q4, .ref q1, .ref q2, .ref q3, .int (if 4 < (ud + 1) then 4 else (ud + 1))])), (qN, .inr (5, [.ref qNp, .ref qNs, .ref qNz, .int nk])), (qNp, .inr (2, [.ref qNpl, .ref qNpr, .int nv])), (qNpl, .inr (0, [.int nl0, .int nl1, .int nl2, .int nl3, .int nl4, .int nl5, .int nl6, .int nl7, .int nl8, .int nl9, .int nl10, .int nl11, .int (bB nlb)])), (qNpr, .inr (0, [.int nr0, .int nr1, .int nr2, .int nr3, .int nr4, .int nr5, .int nr6, .int nr7, .int nr8, .int nr9, .int nr10, .int nr11, .int (bB nrb)])), (qNs, .inr (3, [.ref qNsn, .ref qNst, .int nsm])), (qNsn, .inl (cyI, 120, .inl nsf)), (qNst, .inl (cyI, 120, .inl nsg)), (qNz, .inr (3, [.ref qNzn, .ref qNzt, .int nzm])), (qNzn, .inl (cyI, 120, .inl nzf)), (qNzt, .inl (cyI, 120, .inl nzg)), (q4, .inr (5, [.ref q4p, .ref q4s, .ref q4z, .int nk])), (q4p, .inr (2, [.ref q4pl, .ref q4pr, .int nv])), (q4pl, .inr (0, [.int nl0, .int nl1, .int nl2, .int nl3, .int nl4, .int nl5, .int nl6, .int nl7, .int nl8, .int nl9, .int nl10, .int nl11, .int (bB nlb)])), (q4pr, .inr (0, [.int nr0, .int nr1, .int nr2, .int nr3, .int nr4, .int nr5, .int nr6, .int nr7, .int nr8, .int nr9, .int nr10, .int nr11, .int (bB nrb)])), (q4s, .inr (3, [.ref q4sn, .ref q4st, .int nsm])), (q4sn, .inl (cyI, 120, .inl u_4_0)), (q4st, .inl (cyI, 120, .inl u_4_1)), (q4z, .inr (3, [.ref q4zn, .ref q4zt, .int nzm])), (q4zn, .inl (cyI, 120, .inl u_4_2)), (q4zt, .inl (cyI, 120, .inl u_4_3))]) (nn := 21) (ci := 7) (q0 := 0) X Y (c_keepForUndo l D cyC cyI qM qT qQ qR qD qN q1 q2 q3 q4 ud nk qNp nv qNpl nl0 nl1 nl2 nl3 nl4 nl5 nl6 nl7 nl8 nl9 nl10 nl11 nlb qNpr nr0 nr1 nr2 nr3 nr4 nr5 nr6 nr7 nr8 nr9 nr10 nr11 nrb qNs qNsn qNst nsm nsf nsg qNz qNzn qNzt nzm nzf nzg fk q4p fv q4pl fl0 fl1 fl2 fl3 fl4 fl5 fl6 fl7 fl8 fl9 fl10 fl11 flb q4pr fr0 fr1 fr2 fr3 fr4 fr5 fr6 fr7 fr8 fr9 fr10 fr11 frb q4s q4sn q4st fsm fsf fsg q4z q4zn q4zt fzm fzf fzg u_4_0 u_4_1 u_4_2 u_4_3 hr_4) gX7_target_X7_keepForUndo rfl ⟨rfl, rfl⟩ hd_X7_keepForUndo ⟨(Nat.le_of_ble_eq_true rfl), (Nat.le_of_ble_eq_true rfl)⟩ rfl rfl rfl [0, 1, 2, 3, 4, 5, 6, 7, 8, 9, 10, 11, 12, 13, 14, 15, 16, 17, 18, 19, 20] [] rfl rfl rfl rfl rfl rfl (by decide) rfl rfl hl.1 (Nat.le_of_ble_eq_true rfl) ⟨Nat.zero_le _, Nat.zero_le _⟩ dX7_target_35 (fun H locs Y => ?_)
        refine lv_aload_n hx hb dX7_target_38 rfl (lv_at hl 0 rfl) ?_
        refine bGet (v := .ref qN) (T := TX7) (N := 10) (ci := 7) X Y i_X7_target_X7 0 rfl rfl 4 (Nat.le_of_ble_eq_true rfl) f_X7_target_36 rfl rfl dX7_target_39 ?_
        refine bGet (v := .ref qNp) (T := TX5) (N := 4) (ci := 5) X Y i_X7_target_X5 1 rfl rfl 0 (Nat.le_of_ble_eq_true rfl) f_X7_target_95 rfl rfl dX7_target_42 ?_
        refine lv_iload_n hx hb dX7_target_45 rfl (lv_at hl 1 rfl) ?_
        refine bVR0 (As := [.int 0]) (rest := []) (wc := [(qNp, .inr (2, [.ref qNpl, .ref qNpr, .int nv]))]) (ci := 2) (q0 := 2) X Y (c_side0 l D cyC cyI qNp qNpl qNpr nv) gX7_target_X2_side rfl ⟨rfl, rfl⟩ hd_X2_side ⟨(Nat.le_of_ble_eq_true rfl), (Nat.le_of_ble_eq_true rfl)⟩ rfl rfl rfl [2] rfl rfl rfl rfl hl.1 (Nat.le_of_ble_eq_true rfl) ⟨Nat.zero_le _, Nat.zero_le _⟩ dX7_target_46 (fun H locs Y => ?_)
        refine bGet (v := .int nl7) (T := TX0) (N := 13) (ci := 0) X Y i_X7_target_X0 3 rfl rfl 7 (Nat.le_of_ble_eq_true rfl) f_X7_target_117 rfl rfl dX7_target_49 ?_
        refine lv_istore_n (lv' := [(3, .int nl7), (0, .ref qM), (1, .int 0), (2, .int rp)]) hx hb dX7_target_52 rfl hl (by decide) rfl (fun ls hl => ?_)
        refine lv_aload_n hx hb dX7_target_53 rfl (lv_at hl 1 rfl) ?_
        refine bGet (v := .ref qN) (T := TX7) (N := 10) (ci := 7) X Y i_X7_target_X7 0 rfl rfl 4 (Nat.le_of_ble_eq_true rfl) f_X7_target_36 rfl rfl dX7_target_54 ?_
        refine bGet (v := .ref qNp) (T := TX5) (N := 4) (ci := 5) X Y i_X7_target_X5 1 rfl rfl 0 (Nat.le_of_ble_eq_true rfl) f_X7_target_95 rfl rfl dX7_target_57 ?_
        refine lv_iload_n hx hb dX7_target_60 rfl (lv_at hl 2 rfl) ?_
        refine lv_iload_n hx hb dX7_target_61 rfl (lv_at hl 3 rfl) ?_
        obtain ⟨u_5_0, u_5_1, hr_5⟩ := bEx2 (s_aim nv nl7 nr7 0 rp)
        rw [hr_5] at hu
        dsimp only at hu
        refine bVV (As := [.int 0, .int rp]) (rest := []) (wc := [(qNp, .inr (2, [.ref qNpl, .ref qNpr, .int nv])), (qNpl, .inr (0, [.int nl0, .int nl1, .int nl2, .int nl3, .int nl4, .int nl5, .int nl6, .int nl7, .int nl8, .int nl9, .int nl10, .int nl11, .int (bB nlb)])), (qNpr, .inr (0, [.int nr0, .int nr1, .int nr2, .int nr3, .int nr4, .int nr5, .int nr6, .int nr7, .int nr8, .int nr9, .int nr10, .int nr11, .int (bB nrb)]))]) (w1 := [(qNp, .inr (2, [.ref qNpl, .ref qNpr, .int nv])), (qNpl, .inr (0, [.int nl0, .int nl1, .int nl2, .int nl3, .int nl4, .int nl5, .int nl6, .int u_5_0, .int nl8, .int nl9, .int nl10, .int nl11, .int (bB nlb)])), (qNpr, .inr (0, [.int nr0, .int nr1, .int nr2, .int nr3, .int nr4, .int nr5, .int nr6, .int u_5_1, .int nr8, .int nr9, .int nr10, .int nr11, .int (bB nrb)]))]) (ws' := [(qM, .inr (7, [.ref qT, .ref qQ, .ref qR, .ref qD, .ref qN, .ref q4, .ref q1, .ref q2, .ref q3, .int (if 4 < (ud + 1) then 4 else (ud + 1))])), (qN, .inr (5, [.ref qNp, .ref qNs, .ref qNz, .int nk])), (qNp, .inr (2, [.ref qNpl, .ref qNpr, .int nv])), (qNpl, .inr (0, [.int nl0, .int nl1, .int nl2, .int nl3, .int nl4, .int nl5, .int nl6, .int u_5_0, .int nl8, .int nl9, .int nl10, .int nl11, .int (bB nlb)])), (qNpr, .inr (0, [.int nr0, .int nr1, .int nr2, .int nr3, .int nr4, .int nr5, .int nr6, .int u_5_1, .int nr8, .int nr9, .int nr10, .int nr11, .int (bB nrb)])), (qNs, .inr (3, [.ref qNsn, .ref qNst, .int nsm])), (qNsn, .inl (cyI, 120, .inl nsf)), (qNst, .inl (cyI, 120, .inl nsg)), (qNz, .inr (3, [.ref qNzn, .ref qNzt, .int nzm])), (qNzn, .inl (cyI, 120, .inl nzf)), (qNzt, .inl (cyI, 120, .inl nzg)), (q4, .inr (5, [.ref q4p, .ref q4s, .ref q4z, .int nk])), (q4p, .inr (2, [.ref q4pl, .ref q4pr, .int nv])), (q4pl, .inr (0, [.int nl0, .int nl1, .int nl2, .int nl3, .int nl4, .int nl5, .int nl6, .int nl7, .int nl8, .int nl9, .int nl10, .int nl11, .int (bB nlb)])), (q4pr, .inr (0, [.int nr0, .int nr1, .int nr2, .int nr3, .int nr4, .int nr5, .int nr6, .int nr7, .int nr8, .int nr9, .int nr10, .int nr11, .int (bB nrb)])), (q4s, .inr (3, [.ref q4sn, .ref q4st, .int nsm])), (q4sn, .inl (cyI, 120, .inl u_4_0)), (q4st, .inl (cyI, 120, .inl u_4_1)), (q4z, .inr (3, [.ref q4zn, .ref q4zt, .int nzm])), (q4zn, .inl (cyI, 120, .inl u_4_2)), (q4zt, .inl (cyI, 120, .inl u_4_3))]) (nn := 21) (ci := 2) (q0 := 2) X Y (c_aim l D cyC cyI qNp nv qNpl nl0 nl1 nl2 nl3 nl4 nl5 nl6 nl7 nl8 nl9 nl10 nl11 nlb qNpr nr0 nr1 nr2 nr3 nr4 nr5 nr6 nr7 nr8 nr9 nr10 nr11 nrb 0 rp u_5_0 u_5_1 hr_5) gX7_target_X2_aim rfl ⟨rfl, rfl⟩ hd_X2_aim ⟨(Nat.le_of_ble_eq_true rfl), (Nat.le_of_ble_eq_true rfl)⟩ rfl rfl rfl [2, 3, 4] [0, 1, 5, 6, 7, 8, 9, 10, 11, 12, 13, 14, 15, 16, 17, 18, 19, 20] rfl rfl rfl rfl rfl rfl (by decide) rfl rfl hl.1 (Nat.le_of_ble_eq_true rfl) ⟨Nat.zero_le _, Nat.zero_le _⟩ dX7_target_62 (fun H locs Y => ?_)
        refine lv_iload_n hx hb dX7_target_65 rfl (lv_at hl 0 rfl) ?_
        have h9 := (Prod.mk.inj hu).1; replace hu := (Prod.mk.inj hu).2; subst h9
        have h9 := (Prod.mk.inj hu).1; replace hu := (Prod.mk.inj hu).2; subst h9
        have h9 := (Prod.mk.inj hu).1; replace hu := (Prod.mk.inj hu).2; subst h9
        have h9 := (Prod.mk.inj hu).1; replace hu := (Prod.mk.inj hu).2; subst h9
        have h9 := (Prod.mk.inj hu).1; replace hu := (Prod.mk.inj hu).2; subst h9
        have h9 := (Prod.mk.inj hu).1; replace hu := (Prod.mk.inj hu).2; subst h9
        subst hu
        exact bEndI X Y hr hlk dX7_target_66 rfl rfl
      · have c_3 := bB_t c_3
        exact absurd c_3 h2_
    · have c_2 := bB_f c_2
      exact absurd h1_ c_2
def s_target_0_no (rp : Int32) : Int32 :=
  if (s_isCrane 0) = true then
    if (s_isRope rp) = true then
      (-2)
    else
      (-1)
  else
    (-1)
set_option maxHeartbeats 4000000 in
set_option maxRecDepth 100000 in
theorem c_target_0_no (l : Launch) (D : va_G) (cyC cyI : ClassId) (qM : Nat) (qT : Nat) (qQ : Nat) (qR : Nat) (qD : Nat) (qN : Nat) (q1 : Nat) (q2 : Nat) (q3 : Nat) (q4 : Nat) (ud : Int32) (nk : Int32) (qNp : Nat) (nv : Int32) (qNpl : Nat) (nl0 : Int32) (nl1 : Int32) (nl2 : Int32) (nl3 : Int32) (nl4 : Int32) (nl5 : Int32) (nl6 : Int32) (nl7 : Int32) (nl8 : Int32) (nl9 : Int32) (nl10 : Int32) (nl11 : Int32) (nlb : Bool) (qNpr : Nat) (nr0 : Int32) (nr1 : Int32) (nr2 : Int32) (nr3 : Int32) (nr4 : Int32) (nr5 : Int32) (nr6 : Int32) (nr7 : Int32) (nr8 : Int32) (nr9 : Int32) (nr10 : Int32) (nr11 : Int32) (nrb : Bool) (qNs : Nat) (qNz : Nat) (rp : Int32) (o0 : Int32) (hu : s_target_0_no rp = o0) (hbad : ((s_isCrane 0) = true) → ((s_isRope rp) = true) → ¬ (¬ ((s_aimsAt nv nl7 nr7 0 rp) = true))) : CI l yX7_target wsX7_target { frames := 3, cells := 0, slots := 0, locals := 63 } D cyC cyI [.ref qM, .int 0, .int rp] [(qM, .inr (7, [.ref qT, .ref qQ, .ref qR, .ref qD, .ref qN, .ref q1, .ref q2, .ref q3, .ref q4, .int ud])), (qN, .inr (5, [.ref qNp, .ref qNs, .ref qNz, .int nk])), (qNp, .inr (2, [.ref qNpl, .ref qNpr, .int nv])), (qNpl, .inr (0, [.int nl0, .int nl1, .int nl2, .int nl3, .int nl4, .int nl5, .int nl6, .int nl7, .int nl8, .int nl9, .int nl10, .int nl11, .int (bB nlb)])), (qNpr, .inr (0, [.int nr0, .int nr1, .int nr2, .int nr3, .int nr4, .int nr5, .int nr6, .int nr7, .int nr8, .int nr9, .int nr10, .int nr11, .int (bB nrb)]))] o0 [(qM, .inr (7, [.ref qT, .ref qQ, .ref qR, .ref qD, .ref qN, .ref q1, .ref q2, .ref q3, .ref q4, .int ud])), (qN, .inr (5, [.ref qNp, .ref qNs, .ref qNz, .int nk])), (qNp, .inr (2, [.ref qNpl, .ref qNpr, .int nv])), (qNpl, .inr (0, [.int nl0, .int nl1, .int nl2, .int nl3, .int nl4, .int nl5, .int nl6, .int nl7, .int nl8, .int nl9, .int nl10, .int nl11, .int (bB nlb)])), (qNpr, .inr (0, [.int nr0, .int nr1, .int nr2, .int nr3, .int nr4, .int nr5, .int nr6, .int nr7, .int nr8, .int nr9, .int nr10, .int nr11, .int (bB nrb)]))] := by
  refine CI.of (cc := cX7_target) (n := 4) (ret := (some .int)) (by decide +kernel) rfl (Nat.le_of_ble_eq_true rfl) ?_
  intro p_ e_ s_ m_ bl_ me_ cd_ A_ ls X Y hr hlk hl
  have hx := X.1.1
  have hb := X.1.2.1
  have hl : lv_has ls 4 [(0, .ref qM), (1, .int 0), (2, .int rp)] := hl
  unfold s_target_0_no at hu
  refine lv_iload_n hx hb dX7_target_0 rfl (lv_at hl 1 rfl) ?_
  refine bSI (As := [.int 0]) (rest := []) X Y (c_isCrane l D cyC cyI 0 (s_isCrane 0) rfl) gX7_target_X7_isCrane rfl ⟨rfl, rfl⟩ hd_X7_isCrane.2 ⟨(Nat.le_of_ble_eq_true rfl), (Nat.le_of_ble_eq_true rfl)⟩ rfl rfl hl.1 (Nat.le_of_ble_eq_true rfl) ⟨Nat.zero_le _, Nat.zero_le _⟩ dX7_target_1 (fun H locs Y => ?_)
  refine lv_if_eq (tgt := 14) hx hb dX7_target_4 (by decide) (fun c_1 => ?_) (fun c_1 => ?_)
  · have c_1 := bB_f c_1
    rw [if_neg c_1] at hu
    refine lv_iconst (v := (-1)) hx hb dX7_target_14 (by decide) ?_
    subst hu
    exact bEndI X Y hr hlk dX7_target_15 rfl rfl
  · have c_1 := bB_t c_1
    rw [if_pos c_1] at hu
    refine lv_iload_n hx hb dX7_target_7 rfl (lv_at hl 2 rfl) ?_
    refine bSI (As := [.int rp]) (rest := []) X Y (c_isRope l D cyC cyI rp (s_isRope rp) rfl) gX7_target_X7_isRope rfl ⟨rfl, rfl⟩ hd_X7_isRope.2 ⟨(Nat.le_of_ble_eq_true rfl), (Nat.le_of_ble_eq_true rfl)⟩ rfl rfl hl.1 (Nat.le_of_ble_eq_true rfl) ⟨Nat.zero_le _, Nat.zero_le _⟩ dX7_target_8 (fun H locs Y => ?_)
    refine lv_if_ne (tgt := 16) hx hb dX7_target_11 (by decide) (fun c_2 => ?_) (fun c_2 => ?_)
    · have c_2 := bB_t c_2
      rw [if_pos c_2] at hu
      refine lv_aload_n hx hb dX7_target_16 rfl (lv_at hl 0 rfl) ?_
      refine bGet (v := .ref qN) (T := TX7) (N := 10) (ci := 7) X Y i_X7_target_X7 0 rfl rfl 4 (Nat.le_of_ble_eq_true rfl) f_X7_target_36 rfl rfl dX7_target_17 ?_
      refine bGet (v := .ref qNp) (T := TX5) (N := 4) (ci := 5) X Y i_X7_target_X5 1 rfl rfl 0 (Nat.le_of_ble_eq_true rfl) f_X7_target_95 rfl rfl dX7_target_20 ?_
      refine lv_iload_n hx hb dX7_target_23 rfl (lv_at hl 1 rfl) ?_
      refine lv_iload_n hx hb dX7_target_24 rfl (lv_at hl 2 rfl) ?_
      refine bVI0 (As := [.int 0, .int rp]) (rest := []) (wc := [(qNp, .inr (2, [.ref qNpl, .ref qNpr, .int nv])), (qNpl, .inr (0, [.int nl0, .int nl1, .int nl2, .int nl3, .int nl4, .int nl5, .int nl6, .int nl7, .int nl8, .int nl9, .int nl10, .int nl11, .int (bB nlb)])), (qNpr, .inr (0, [.int nr0, .int nr1, .int nr2, .int nr3, .int nr4, .int nr5, .int nr6, .int nr7, .int nr8, .int nr9, .int nr10, .int nr11, .int (bB nrb)]))]) (ci := 2) (q0 := 2) X Y (c_aimsAt l D cyC cyI qNp nv qNpl nl0 nl1 nl2 nl3 nl4 nl5 nl6 nl7 nl8 nl9 nl10 nl11 nlb qNpr nr0 nr1 nr2 nr3 nr4 nr5 nr6 nr7 nr8 nr9 nr10 nr11 nrb 0 rp (s_aimsAt nv nl7 nr7 0 rp) rfl) gX7_target_X2_aimsAt rfl ⟨rfl, rfl⟩ hd_X2_aimsAt ⟨(Nat.le_of_ble_eq_true rfl), (Nat.le_of_ble_eq_true rfl)⟩ rfl rfl rfl [2, 3, 4] rfl rfl rfl rfl hl.1 (Nat.le_of_ble_eq_true rfl) ⟨Nat.zero_le _, Nat.zero_le _⟩ dX7_target_25 (fun H locs Y => ?_)
      refine lv_if_eq (tgt := 34) hx hb dX7_target_28 (by decide) (fun c_3 => ?_) (fun c_3 => ?_)
      · have c_3 := bB_f c_3
        exact absurd c_3 (hbad c_1 c_2)
      · have c_3 := bB_t c_3
        refine lv_bipush (v := (-2)) hx hb dX7_target_31 (by decide) ?_
        subst hu
        exact bEndI X Y hr hlk dX7_target_33 rfl rfl
    · have c_2 := bB_f c_2
      rw [if_neg c_2] at hu
      refine lv_iconst (v := (-1)) hx hb dX7_target_14 (by decide) ?_
      subst hu
      exact bEndI X Y hr hlk dX7_target_15 rfl rfl
theorem i_X7_load_X7 : ∀ w ∈ wsX70, w ∈ wsX7_load := by decide +kernel
theorem f_X7_load_36 : Cond.fieldLink RX7 36 "SwingCranes" "now" "LSwingCranes$Story;" ∈ wsX7_load := by decide +kernel
theorem i_X7_load_X5 : ∀ w ∈ wsX50, w ∈ wsX7_load := by decide +kernel
theorem f_X7_load_95 : Cond.fieldLink RX7 95 "SwingCranes$Story" "pair" "LSwingCranes$Pair;" ∈ wsX7_load := by decide +kernel
theorem i_X7_load_X0 : ∀ w ∈ wsX00, w ∈ wsX7_load := by decide +kernel
theorem f_X7_load_126 : Cond.fieldLink RX7 126 "SwingCranes$Crane" "load" "I" ∈ wsX7_load := by decide +kernel
def s_load_0_ok (nl3 : Int32) (nsm : Int32) (nsf : Nat → Int32) (nsg : Nat → Int32) (nzm : Int32) (nzf : Nat → Int32) (nzg : Nat → Int32) (fsf : Nat → Int32) (fsg : Nat → Int32) (fzf : Nat → Int32) (fzg : Nat → Int32) : Int32 × (Nat → Int32) × (Nat → Int32) × (Nat → Int32) × (Nat → Int32) :=
  match s_keepForUndo nsm nsf nsg nzm nzf nzg fsf fsg fzf fzg with
  | (u_4_0, u_4_1, u_4_2, u_4_3) =>
    (nl3, u_4_0, u_4_1, u_4_2, u_4_3)
set_option maxHeartbeats 4000000 in
set_option maxRecDepth 100000 in
theorem c_load_0_ok (l : Launch) (D : va_G) (cyC cyI : ClassId) (qM : Nat) (qT : Nat) (qQ : Nat) (qR : Nat) (qD : Nat) (qN : Nat) (q1 : Nat) (q2 : Nat) (q3 : Nat) (q4 : Nat) (ud : Int32) (nk : Int32) (qNp : Nat) (nv : Int32) (qNpl : Nat) (nl0 : Int32) (nl1 : Int32) (nl2 : Int32) (nl3 : Int32) (nl4 : Int32) (nl5 : Int32) (nl6 : Int32) (nl7 : Int32) (nl8 : Int32) (nl9 : Int32) (nl10 : Int32) (nl11 : Int32) (nlb : Bool) (qNpr : Nat) (nr0 : Int32) (nr1 : Int32) (nr2 : Int32) (nr3 : Int32) (nr4 : Int32) (nr5 : Int32) (nr6 : Int32) (nr7 : Int32) (nr8 : Int32) (nr9 : Int32) (nr10 : Int32) (nr11 : Int32) (nrb : Bool) (qNs : Nat) (qNsn : Nat) (qNst : Nat) (nsm : Int32) (nsf : Nat → Int32) (nsg : Nat → Int32) (qNz : Nat) (qNzn : Nat) (qNzt : Nat) (nzm : Int32) (nzf : Nat → Int32) (nzg : Nat → Int32) (fk : Int32) (q4p : Nat) (fv : Int32) (q4pl : Nat) (fl0 : Int32) (fl1 : Int32) (fl2 : Int32) (fl3 : Int32) (fl4 : Int32) (fl5 : Int32) (fl6 : Int32) (fl7 : Int32) (fl8 : Int32) (fl9 : Int32) (fl10 : Int32) (fl11 : Int32) (flb : Bool) (q4pr : Nat) (fr0 : Int32) (fr1 : Int32) (fr2 : Int32) (fr3 : Int32) (fr4 : Int32) (fr5 : Int32) (fr6 : Int32) (fr7 : Int32) (fr8 : Int32) (fr9 : Int32) (fr10 : Int32) (fr11 : Int32) (frb : Bool) (q4s : Nat) (q4sn : Nat) (q4st : Nat) (fsm : Int32) (fsf : Nat → Int32) (fsg : Nat → Int32) (q4z : Nat) (q4zn : Nat) (q4zt : Nat) (fzm : Int32) (fzf : Nat → Int32) (fzg : Nat → Int32) (m : Int32) (o0 : Int32) (o1 : Nat → Int32) (o2 : Nat → Int32) (o3 : Nat → Int32) (o4 : Nat → Int32) (hu : s_load_0_ok nl3 nsm nsf nsg nzm nzf nzg fsf fsg fzf fzg = (o0, o1, o2, o3, o4)) (h0_ : (s_isCrane 0) = true) (h1_ : (s_isWithin m 0 99) = true) (h2_ : ¬ (nl3 = m)) : CI l yX7_load wsX7_load { frames := 4, cells := 0, slots := 0, locals := 87 } D cyC cyI [.ref qM, .int 0, .int m] [(qM, .inr (7, [.ref qT, .ref qQ, .ref qR, .ref qD, .ref qN, .ref q1, .ref q2, .ref q3, .ref q4, .int ud])), (qN, .inr (5, [.ref qNp, .ref qNs, .ref qNz, .int nk])), (qNp, .inr (2, [.ref qNpl, .ref qNpr, .int nv])), (qNpl, .inr (0, [.int nl0, .int nl1, .int nl2, .int nl3, .int nl4, .int nl5, .int nl6, .int nl7, .int nl8, .int nl9, .int nl10, .int nl11, .int (bB nlb)])), (qNpr, .inr (0, [.int nr0, .int nr1, .int nr2, .int nr3, .int nr4, .int nr5, .int nr6, .int nr7, .int nr8, .int nr9, .int nr10, .int nr11, .int (bB nrb)])), (qNs, .inr (3, [.ref qNsn, .ref qNst, .int nsm])), (qNsn, .inl (cyI, 120, .inl nsf)), (qNst, .inl (cyI, 120, .inl nsg)), (qNz, .inr (3, [.ref qNzn, .ref qNzt, .int nzm])), (qNzn, .inl (cyI, 120, .inl nzf)), (qNzt, .inl (cyI, 120, .inl nzg)), (q4, .inr (5, [.ref q4p, .ref q4s, .ref q4z, .int fk])), (q4p, .inr (2, [.ref q4pl, .ref q4pr, .int fv])), (q4pl, .inr (0, [.int fl0, .int fl1, .int fl2, .int fl3, .int fl4, .int fl5, .int fl6, .int fl7, .int fl8, .int fl9, .int fl10, .int fl11, .int (bB flb)])), (q4pr, .inr (0, [.int fr0, .int fr1, .int fr2, .int fr3, .int fr4, .int fr5, .int fr6, .int fr7, .int fr8, .int fr9, .int fr10, .int fr11, .int (bB frb)])), (q4s, .inr (3, [.ref q4sn, .ref q4st, .int fsm])), (q4sn, .inl (cyI, 120, .inl fsf)), (q4st, .inl (cyI, 120, .inl fsg)), (q4z, .inr (3, [.ref q4zn, .ref q4zt, .int fzm])), (q4zn, .inl (cyI, 120, .inl fzf)), (q4zt, .inl (cyI, 120, .inl fzg))] o0 [(qM, .inr (7, [.ref qT, .ref qQ, .ref qR, .ref qD, .ref qN, .ref q4, .ref q1, .ref q2, .ref q3, .int (if 4 < (ud + 1) then 4 else (ud + 1))])), (qN, .inr (5, [.ref qNp, .ref qNs, .ref qNz, .int nk])), (qNp, .inr (2, [.ref qNpl, .ref qNpr, .int nv])), (qNpl, .inr (0, [.int nl0, .int nl1, .int nl2, .int m, .int nl4, .int nl5, .int nl6, .int nl7, .int nl8, .int nl9, .int nl10, .int nl11, .int (bB nlb)])), (qNpr, .inr (0, [.int nr0, .int nr1, .int nr2, .int nr3, .int nr4, .int nr5, .int nr6, .int nr7, .int nr8, .int nr9, .int nr10, .int nr11, .int (bB nrb)])), (qNs, .inr (3, [.ref qNsn, .ref qNst, .int nsm])), (qNsn, .inl (cyI, 120, .inl nsf)), (qNst, .inl (cyI, 120, .inl nsg)), (qNz, .inr (3, [.ref qNzn, .ref qNzt, .int nzm])), (qNzn, .inl (cyI, 120, .inl nzf)), (qNzt, .inl (cyI, 120, .inl nzg)), (q4, .inr (5, [.ref q4p, .ref q4s, .ref q4z, .int nk])), (q4p, .inr (2, [.ref q4pl, .ref q4pr, .int nv])), (q4pl, .inr (0, [.int nl0, .int nl1, .int nl2, .int nl3, .int nl4, .int nl5, .int nl6, .int nl7, .int nl8, .int nl9, .int nl10, .int nl11, .int (bB nlb)])), (q4pr, .inr (0, [.int nr0, .int nr1, .int nr2, .int nr3, .int nr4, .int nr5, .int nr6, .int nr7, .int nr8, .int nr9, .int nr10, .int nr11, .int (bB nrb)])), (q4s, .inr (3, [.ref q4sn, .ref q4st, .int nsm])), (q4sn, .inl (cyI, 120, .inl o1)), (q4st, .inl (cyI, 120, .inl o2)), (q4z, .inr (3, [.ref q4zn, .ref q4zt, .int nzm])), (q4zn, .inl (cyI, 120, .inl o3)), (q4zt, .inl (cyI, 120, .inl o4))] := by
  refine CI.of (cc := cX7_load) (n := 4) (ret := (some .int)) (by decide +kernel) rfl (Nat.le_of_ble_eq_true rfl) ?_
  intro p_ e_ s_ m_ bl_ me_ cd_ A_ ls X Y hr hlk hl
  have hx := X.1.1
  have hb := X.1.2.1
  have hl : lv_has ls 4 [(0, .ref qM), (1, .int 0), (2, .int m)] := hl
  unfold s_load_0_ok at hu
  refine lv_iload_n hx hb dX7_load_0 rfl (lv_at hl 1 rfl) ?_
  refine bSI (As := [.int 0]) (rest := []) X Y (c_isCrane l D cyC cyI 0 (s_isCrane 0) rfl) gX7_load_X7_isCrane rfl ⟨rfl, rfl⟩ hd_X7_isCrane.2 ⟨(Nat.le_of_ble_eq_true rfl), (Nat.le_of_ble_eq_true rfl)⟩ rfl rfl hl.1 (Nat.le_of_ble_eq_true rfl) ⟨Nat.zero_le _, Nat.zero_le _⟩ dX7_load_1 (fun H locs Y => ?_)
  refine lv_if_eq (tgt := 17) hx hb dX7_load_4 (by decide) (fun c_1 => ?_) (fun c_1 => ?_)
  · have c_1 := bB_f c_1
    exact absurd h0_ c_1
  · have c_1 := bB_t c_1
    refine lv_iload_n hx hb dX7_load_7 rfl (lv_at hl 2 rfl) ?_
    refine lv_iconst (v := 0) hx hb dX7_load_8 (by decide) ?_
    refine lv_bipush (v := 99) hx hb dX7_load_9 (by decide) ?_
    refine bSI (As := [.int m, .int 0, .int 99]) (rest := []) X Y (c_isWithin l D cyC cyI m 0 99 (s_isWithin m 0 99) rfl) gX7_load_X7_isWithin rfl ⟨rfl, rfl⟩ hd_X7_isWithin.2 ⟨(Nat.le_of_ble_eq_true rfl), (Nat.le_of_ble_eq_true rfl)⟩ rfl rfl hl.1 (Nat.le_of_ble_eq_true rfl) ⟨Nat.zero_le _, Nat.zero_le _⟩ dX7_load_11 (fun H locs Y => ?_)
    refine lv_if_ne (tgt := 19) hx hb dX7_load_14 (by decide) (fun c_2 => ?_) (fun c_2 => ?_)
    · have c_2 := bB_t c_2
      refine lv_aload_n hx hb dX7_load_19 rfl (lv_at hl 0 rfl) ?_
      refine bGet (v := .ref qN) (T := TX7) (N := 10) (ci := 7) X Y i_X7_load_X7 0 rfl rfl 4 (Nat.le_of_ble_eq_true rfl) f_X7_load_36 rfl rfl dX7_load_20 ?_
      refine bGet (v := .ref qNp) (T := TX5) (N := 4) (ci := 5) X Y i_X7_load_X5 1 rfl rfl 0 (Nat.le_of_ble_eq_true rfl) f_X7_load_95 rfl rfl dX7_load_23 ?_
      refine lv_iload_n hx hb dX7_load_26 rfl (lv_at hl 1 rfl) ?_
      refine bVR0 (As := [.int 0]) (rest := []) (wc := [(qNp, .inr (2, [.ref qNpl, .ref qNpr, .int nv]))]) (ci := 2) (q0 := 2) X Y (c_side0 l D cyC cyI qNp qNpl qNpr nv) gX7_load_X2_side rfl ⟨rfl, rfl⟩ hd_X2_side ⟨(Nat.le_of_ble_eq_true rfl), (Nat.le_of_ble_eq_true rfl)⟩ rfl rfl rfl [2] rfl rfl rfl rfl hl.1 (Nat.le_of_ble_eq_true rfl) ⟨Nat.zero_le _, Nat.zero_le _⟩ dX7_load_27 (fun H locs Y => ?_)
      refine bGet (v := .int nl3) (T := TX0) (N := 13) (ci := 0) X Y i_X7_load_X0 3 rfl rfl 3 (Nat.le_of_ble_eq_true rfl) f_X7_load_126 rfl rfl dX7_load_30 ?_
      refine lv_istore_n (lv' := [(3, .int nl3), (0, .ref qM), (1, .int 0), (2, .int m)]) hx hb dX7_load_33 rfl hl (by decide) rfl (fun ls hl => ?_)
      refine lv_iload_n hx hb dX7_load_34 rfl (lv_at hl 0 rfl) ?_
      refine lv_iload_n hx hb dX7_load_35 rfl (lv_at hl 3 rfl) ?_
      refine lv_icmp_ne (tgt := 42) hx hb dX7_load_36 (by decide) (fun c_3 => ?_) (fun c_3 => ?_)
      · have c_3 : ¬ (nl3 = m) := c_3
        refine lv_aload_n hx hb dX7_load_42 rfl (lv_at hl 1 rfl) ?_
        obtain ⟨u_4_0, u_4_1, u_4_2, u_4_3, hr_4⟩ := bEx4 (s_keepForUndo nsm nsf nsg nzm nzf nzg fsf fsg fzf fzg)
        rw [hr_4] at hu
        dsimp only at hu
        refine bVV (As := []) (rest := []) (wc := [(qM, .inr (7, [.ref qT, .ref qQ, .ref qR, .ref qD, .ref qN, .ref q1, .ref q2, .ref q3, .ref q4, .int ud])), (qN, .inr (5, [.ref qNp, .ref qNs, .ref qNz, .int nk])), (qNp, .inr (2, [.ref qNpl, .ref qNpr, .int nv])), (qNpl, .inr (0, [.int nl0, .int nl1, .int nl2, .int nl3, .int nl4, .int nl5, .int nl6, .int nl7, .int nl8, .int nl9, .int nl10, .int nl11, .int (bB nlb)])), (qNpr, .inr (0, [.int nr0, .int nr1, .int nr2, .int nr3, .int nr4, .int nr5, .int nr6, .int nr7, .int nr8, .int nr9, .int nr10, .int nr11, .int (bB nrb)])), (qNs, .inr (3, [.ref qNsn, .ref qNst, .int nsm])), (qNsn, .inl (cyI, 120, .inl nsf)), (qNst, .inl (cyI, 120, .inl nsg)), (qNz, .inr (3, [.ref qNzn, .ref qNzt, .int nzm])), (qNzn, .inl (cyI, 120, .inl nzf)), (qNzt, .inl (cyI, 120, .inl nzg)), (q4, .inr (5, [.ref q4p, .ref q4s, .ref q4z, .int fk])), (q4p, .inr (2, [.ref q4pl, .ref q4pr, .int fv])), (q4pl, .inr (0, [.int fl0, .int fl1, .int fl2, .int fl3, .int fl4, .int fl5, .int fl6, .int fl7, .int fl8, .int fl9, .int fl10, .int fl11, .int (bB flb)])), (q4pr, .inr (0, [.int fr0, .int fr1, .int fr2, .int fr3, .int fr4, .int fr5, .int fr6, .int fr7, .int fr8, .int fr9, .int fr10, .int fr11, .int (bB frb)])), (q4s, .inr (3, [.ref q4sn, .ref q4st, .int fsm])), (q4sn, .inl (cyI, 120, .inl fsf)), (q4st, .inl (cyI, 120, .inl fsg)), (q4z, .inr (3, [.ref q4zn, .ref q4zt, .int fzm])), (q4zn, .inl (cyI, 120, .inl fzf)), (q4zt, .inl (cyI, 120, .inl fzg))]) (w1 := [(qM, .inr (7, [.ref qT, .ref qQ, .ref qR, .ref qD, .ref qN, .ref q4, .ref q1, .ref q2, .ref q3, .int (if 4 < (ud + 1) then 4 else (ud + 1))])), (qN, .inr (5, [.ref qNp, .ref qNs, .ref qNz, .int nk])), (qNp, .inr (2, [.ref qNpl, .ref qNpr, .int nv])), (qNpl, .inr (0, [.int nl0, .int nl1, .int nl2, .int nl3, .int nl4, .int nl5, .int nl6, .int nl7, .int nl8, .int nl9, .int nl10, .int nl11, .int (bB nlb)])), (qNpr, .inr (0, [.int nr0, .int nr1, .int nr2, .int nr3, .int nr4, .int nr5, .int nr6, .int nr7, .int nr8, .int nr9, .int nr10, .int nr11, .int (bB nrb)])), (qNs, .inr (3, [.ref qNsn, .ref qNst, .int nsm])), (qNsn, .inl (cyI, 120, .inl nsf)), (qNst, .inl (cyI, 120, .inl nsg)), (qNz, .inr (3, [.ref qNzn, .ref qNzt, .int nzm])), (qNzn, .inl (cyI, 120, .inl nzf)), (qNzt, .inl (cyI, 120, .inl nzg)), (q4, .inr (5, [.ref q4p, .ref q4s, .ref q4z, .int nk])), (q4p, .inr (2, [.ref q4pl, .ref q4pr, .int nv])), (q4pl, .inr (0, [.int nl0, .int nl1, .int nl2, .int nl3, .int nl4, .int nl5, .int nl6, .int nl7, .int nl8, .int nl9, .int nl10, .int nl11, .int (bB nlb)])), (q4pr, .inr (0, [.int nr0, .int nr1, .int nr2, .int nr3, .int nr4, .int nr5, .int nr6, .int nr7, .int nr8, .int nr9, .int nr10, .int nr11, .int (bB nrb)])), (q4s, .inr (3, [.ref q4sn, .ref q4st, .int nsm])), (q4sn, .inl (cyI, 120, .inl u_4_0)), (q4st, .inl (cyI, 120, .inl u_4_1)), (q4z, .inr (3, [.ref q4zn, .ref q4zt, .int nzm])), (q4zn, .inl (cyI, 120, .inl u_4_2)), (q4zt, .inl (cyI, 120, .inl u_4_3))]) (ws' := [(qM, .inr (7, [.ref qT, .ref qQ, .ref qR, .ref qD, .ref qN, .ref q4, .ref q1, .ref q2, .ref q3, .int (if 4 < (ud + 1) then 4 else (ud + 1))])), (qN, .inr (5, [.ref qNp, .ref qNs, .ref qNz, .int nk])), (qNp, .inr (2, [.ref qNpl, .ref qNpr, .int nv])), (qNpl, .inr (0, [.int nl0, .int nl1, .int nl2, .int nl3, .int nl4, .int nl5, .int nl6, .int nl7, .int nl8, .int nl9, .int nl10, .int nl11, .int (bB nlb)])), (qNpr, .inr (0, [.int nr0, .int nr1, .int nr2, .int nr3, .int nr4, .int nr5, .int nr6, .int nr7, .int nr8, .int nr9, .int nr10, .int nr11, .int (bB nrb)])), (qNs, .inr (3, [.ref qNsn, .ref qNst, .int nsm])), (qNsn, .inl (cyI, 120, .inl nsf)), (qNst, .inl (cyI, 120, .inl nsg)), (qNz, .inr (3, [.ref qNzn, .ref qNzt, .int nzm])), (qNzn, .inl (cyI, 120, .inl nzf)), (qNzt, .inl (cyI, 120, .inl nzg)), (q4, .inr (5, [.ref q4p, .ref q4s, .ref q4z, .int nk])), (q4p, .inr (2, [.ref q4pl, .ref q4pr, .int nv])), (q4pl, .inr (0, [.int nl0, .int nl1, .int nl2, .int nl3, .int nl4, .int nl5, .int nl6, .int nl7, .int nl8, .int nl9, .int nl10, .int nl11, .int (bB nlb)])), (q4pr, .inr (0, [.int nr0, .int nr1, .int nr2, .int nr3, .int nr4, .int nr5, .int nr6, .int nr7, .int nr8, .int nr9, .int nr10, .int nr11, .int (bB nrb)])), (q4s, .inr (3, [.ref q4sn, .ref q4st, .int nsm])), (q4sn, .inl (cyI, 120, .inl u_4_0)), (q4st, .inl (cyI, 120, .inl u_4_1)), (q4z, .inr (3, [.ref q4zn, .ref q4zt, .int nzm])), (q4zn, .inl (cyI, 120, .inl u_4_2)), (q4zt, .inl (cyI, 120, .inl u_4_3))]) (nn := 21) (ci := 7) (q0 := 0) X Y (c_keepForUndo l D cyC cyI qM qT qQ qR qD qN q1 q2 q3 q4 ud nk qNp nv qNpl nl0 nl1 nl2 nl3 nl4 nl5 nl6 nl7 nl8 nl9 nl10 nl11 nlb qNpr nr0 nr1 nr2 nr3 nr4 nr5 nr6 nr7 nr8 nr9 nr10 nr11 nrb qNs qNsn qNst nsm nsf nsg qNz qNzn qNzt nzm nzf nzg fk q4p fv q4pl fl0 fl1 fl2 fl3 fl4 fl5 fl6 fl7 fl8 fl9 fl10 fl11 flb q4pr fr0 fr1 fr2 fr3 fr4 fr5 fr6 fr7 fr8 fr9 fr10 fr11 frb q4s q4sn q4st fsm fsf fsg q4z q4zn q4zt fzm fzf fzg u_4_0 u_4_1 u_4_2 u_4_3 hr_4) gX7_load_X7_keepForUndo rfl ⟨rfl, rfl⟩ hd_X7_keepForUndo ⟨(Nat.le_of_ble_eq_true rfl), (Nat.le_of_ble_eq_true rfl)⟩ rfl rfl rfl [0, 1, 2, 3, 4, 5, 6, 7, 8, 9, 10, 11, 12, 13, 14, 15, 16, 17, 18, 19, 20] [] rfl rfl rfl rfl rfl rfl (by decide) rfl rfl hl.1 (Nat.le_of_ble_eq_true rfl) ⟨Nat.zero_le _, Nat.zero_le _⟩ dX7_load_43 (fun H locs Y => ?_)
        refine lv_aload_n hx hb dX7_load_46 rfl (lv_at hl 1 rfl) ?_
        refine bGet (v := .ref qN) (T := TX7) (N := 10) (ci := 7) X Y i_X7_load_X7 0 rfl rfl 4 (Nat.le_of_ble_eq_true rfl) f_X7_load_36 rfl rfl dX7_load_47 ?_
        refine bGet (v := .ref qNp) (T := TX5) (N := 4) (ci := 5) X Y i_X7_load_X5 1 rfl rfl 0 (Nat.le_of_ble_eq_true rfl) f_X7_load_95 rfl rfl dX7_load_50 ?_
        refine lv_iload_n hx hb dX7_load_53 rfl (lv_at hl 2 rfl) ?_
        refine bVR0 (As := [.int 0]) (rest := []) (wc := [(qNp, .inr (2, [.ref qNpl, .ref qNpr, .int nv]))]) (ci := 2) (q0 := 2) X Y (c_side0 l D cyC cyI qNp qNpl qNpr nv) gX7_load_X2_side rfl ⟨rfl, rfl⟩ hd_X2_side ⟨(Nat.le_of_ble_eq_true rfl), (Nat.le_of_ble_eq_true rfl)⟩ rfl rfl rfl [2] rfl rfl rfl rfl hl.1 (Nat.le_of_ble_eq_true rfl) ⟨Nat.zero_le _, Nat.zero_le _⟩ dX7_load_54 (fun H locs Y => ?_)
        refine lv_iload_n hx hb dX7_load_57 rfl (lv_at hl 3 rfl) ?_
        refine bPut (T := TX0) (N := 13) (ci := 0) (ws' := [(qM, .inr (7, [.ref qT, .ref qQ, .ref qR, .ref qD, .ref qN, .ref q4, .ref q1, .ref q2, .ref q3, .int (if 4 < (ud + 1) then 4 else (ud + 1))])), (qN, .inr (5, [.ref qNp, .ref qNs, .ref qNz, .int nk])), (qNp, .inr (2, [.ref qNpl, .ref qNpr, .int nv])), (qNpl, .inr (0, [.int nl0, .int nl1, .int nl2, .int m, .int nl4, .int nl5, .int nl6, .int nl7, .int nl8, .int nl9, .int nl10, .int nl11, .int (bB nlb)])), (qNpr, .inr (0, [.int nr0, .int nr1, .int nr2, .int nr3, .int nr4, .int nr5, .int nr6, .int nr7, .int nr8, .int nr9, .int nr10, .int nr11, .int (bB nrb)])), (qNs, .inr (3, [.ref qNsn, .ref qNst, .int nsm])), (qNsn, .inl (cyI, 120, .inl nsf)), (qNst, .inl (cyI, 120, .inl nsg)), (qNz, .inr (3, [.ref qNzn, .ref qNzt, .int nzm])), (qNzn, .inl (cyI, 120, .inl nzf)), (qNzt, .inl (cyI, 120, .inl nzg)), (q4, .inr (5, [.ref q4p, .ref q4s, .ref q4z, .int nk])), (q4p, .inr (2, [.ref q4pl, .ref q4pr, .int nv])), (q4pl, .inr (0, [.int nl0, .int nl1, .int nl2, .int nl3, .int nl4, .int nl5, .int nl6, .int nl7, .int nl8, .int nl9, .int nl10, .int nl11, .int (bB nlb)])), (q4pr, .inr (0, [.int nr0, .int nr1, .int nr2, .int nr3, .int nr4, .int nr5, .int nr6, .int nr7, .int nr8, .int nr9, .int nr10, .int nr11, .int (bB nrb)])), (q4s, .inr (3, [.ref q4sn, .ref q4st, .int nsm])), (q4sn, .inl (cyI, 120, .inl u_4_0)), (q4st, .inl (cyI, 120, .inl u_4_1)), (q4z, .inr (3, [.ref q4zn, .ref q4zt, .int nzm])), (q4zn, .inl (cyI, 120, .inl u_4_2)), (q4zt, .inl (cyI, 120, .inl u_4_3))]) X Y i_X7_load_X0 tyX0 tyX0_ok nmX0 3 rfl rfl 3 (Nat.le_of_ble_eq_true rfl) f_X7_load_126 rfl rfl rfl rfl (Nat.le_of_ble_eq_true rfl) rfl dX7_load_58 (fun H locs Y => ?_)
        refine lv_iload_n hx hb dX7_load_61 rfl (lv_at hl 0 rfl) ?_
        have h9 := (Prod.mk.inj hu).1; replace hu := (Prod.mk.inj hu).2; subst h9
        have h9 := (Prod.mk.inj hu).1; replace hu := (Prod.mk.inj hu).2; subst h9
        have h9 := (Prod.mk.inj hu).1; replace hu := (Prod.mk.inj hu).2; subst h9
        have h9 := (Prod.mk.inj hu).1; replace hu := (Prod.mk.inj hu).2; subst h9
        subst hu
        exact bEndI X Y hr hlk dX7_load_62 rfl rfl
      · have c_3 : nl3 = m := c_3
        exact absurd c_3 h2_
    · have c_2 := bB_f c_2
      exact absurd h1_ c_2
def s_load_0_no (m : Int32) : Int32 :=
  if (s_isCrane 0) = true then
    if (s_isWithin m 0 99) = true then
      (-2)
    else
      (-1)
  else
    (-1)
set_option maxHeartbeats 4000000 in
set_option maxRecDepth 100000 in
theorem c_load_0_no (l : Launch) (D : va_G) (cyC cyI : ClassId) (qM : Nat) (qT : Nat) (qQ : Nat) (qR : Nat) (qD : Nat) (qN : Nat) (q1 : Nat) (q2 : Nat) (q3 : Nat) (q4 : Nat) (ud : Int32) (nk : Int32) (qNp : Nat) (nv : Int32) (qNpl : Nat) (nl0 : Int32) (nl1 : Int32) (nl2 : Int32) (nl3 : Int32) (nl4 : Int32) (nl5 : Int32) (nl6 : Int32) (nl7 : Int32) (nl8 : Int32) (nl9 : Int32) (nl10 : Int32) (nl11 : Int32) (nlb : Bool) (qNpr : Nat) (nr0 : Int32) (nr1 : Int32) (nr2 : Int32) (nr3 : Int32) (nr4 : Int32) (nr5 : Int32) (nr6 : Int32) (nr7 : Int32) (nr8 : Int32) (nr9 : Int32) (nr10 : Int32) (nr11 : Int32) (nrb : Bool) (qNs : Nat) (qNz : Nat) (m : Int32) (o0 : Int32) (hu : s_load_0_no m = o0) (hbad : ((s_isCrane 0) = true) → ((s_isWithin m 0 99) = true) → ¬ (¬ (nl3 = m))) : CI l yX7_load wsX7_load { frames := 1, cells := 0, slots := 0, locals := 22 } D cyC cyI [.ref qM, .int 0, .int m] [(qM, .inr (7, [.ref qT, .ref qQ, .ref qR, .ref qD, .ref qN, .ref q1, .ref q2, .ref q3, .ref q4, .int ud])), (qN, .inr (5, [.ref qNp, .ref qNs, .ref qNz, .int nk])), (qNp, .inr (2, [.ref qNpl, .ref qNpr, .int nv])), (qNpl, .inr (0, [.int nl0, .int nl1, .int nl2, .int nl3, .int nl4, .int nl5, .int nl6, .int nl7, .int nl8, .int nl9, .int nl10, .int nl11, .int (bB nlb)])), (qNpr, .inr (0, [.int nr0, .int nr1, .int nr2, .int nr3, .int nr4, .int nr5, .int nr6, .int nr7, .int nr8, .int nr9, .int nr10, .int nr11, .int (bB nrb)]))] o0 [(qM, .inr (7, [.ref qT, .ref qQ, .ref qR, .ref qD, .ref qN, .ref q1, .ref q2, .ref q3, .ref q4, .int ud])), (qN, .inr (5, [.ref qNp, .ref qNs, .ref qNz, .int nk])), (qNp, .inr (2, [.ref qNpl, .ref qNpr, .int nv])), (qNpl, .inr (0, [.int nl0, .int nl1, .int nl2, .int nl3, .int nl4, .int nl5, .int nl6, .int nl7, .int nl8, .int nl9, .int nl10, .int nl11, .int (bB nlb)])), (qNpr, .inr (0, [.int nr0, .int nr1, .int nr2, .int nr3, .int nr4, .int nr5, .int nr6, .int nr7, .int nr8, .int nr9, .int nr10, .int nr11, .int (bB nrb)]))] := by
  refine CI.of (cc := cX7_load) (n := 4) (ret := (some .int)) (by decide +kernel) rfl (Nat.le_of_ble_eq_true rfl) ?_
  intro p_ e_ s_ m_ bl_ me_ cd_ A_ ls X Y hr hlk hl
  have hx := X.1.1
  have hb := X.1.2.1
  have hl : lv_has ls 4 [(0, .ref qM), (1, .int 0), (2, .int m)] := hl
  unfold s_load_0_no at hu
  refine lv_iload_n hx hb dX7_load_0 rfl (lv_at hl 1 rfl) ?_
  refine bSI (As := [.int 0]) (rest := []) X Y (c_isCrane l D cyC cyI 0 (s_isCrane 0) rfl) gX7_load_X7_isCrane rfl ⟨rfl, rfl⟩ hd_X7_isCrane.2 ⟨(Nat.le_of_ble_eq_true rfl), (Nat.le_of_ble_eq_true rfl)⟩ rfl rfl hl.1 (Nat.le_of_ble_eq_true rfl) ⟨Nat.zero_le _, Nat.zero_le _⟩ dX7_load_1 (fun H locs Y => ?_)
  refine lv_if_eq (tgt := 17) hx hb dX7_load_4 (by decide) (fun c_1 => ?_) (fun c_1 => ?_)
  · have c_1 := bB_f c_1
    rw [if_neg c_1] at hu
    refine lv_iconst (v := (-1)) hx hb dX7_load_17 (by decide) ?_
    subst hu
    exact bEndI X Y hr hlk dX7_load_18 rfl rfl
  · have c_1 := bB_t c_1
    rw [if_pos c_1] at hu
    refine lv_iload_n hx hb dX7_load_7 rfl (lv_at hl 2 rfl) ?_
    refine lv_iconst (v := 0) hx hb dX7_load_8 (by decide) ?_
    refine lv_bipush (v := 99) hx hb dX7_load_9 (by decide) ?_
    refine bSI (As := [.int m, .int 0, .int 99]) (rest := []) X Y (c_isWithin l D cyC cyI m 0 99 (s_isWithin m 0 99) rfl) gX7_load_X7_isWithin rfl ⟨rfl, rfl⟩ hd_X7_isWithin.2 ⟨(Nat.le_of_ble_eq_true rfl), (Nat.le_of_ble_eq_true rfl)⟩ rfl rfl hl.1 (Nat.le_of_ble_eq_true rfl) ⟨Nat.zero_le _, Nat.zero_le _⟩ dX7_load_11 (fun H locs Y => ?_)
    refine lv_if_ne (tgt := 19) hx hb dX7_load_14 (by decide) (fun c_2 => ?_) (fun c_2 => ?_)
    · have c_2 := bB_t c_2
      rw [if_pos c_2] at hu
      refine lv_aload_n hx hb dX7_load_19 rfl (lv_at hl 0 rfl) ?_
      refine bGet (v := .ref qN) (T := TX7) (N := 10) (ci := 7) X Y i_X7_load_X7 0 rfl rfl 4 (Nat.le_of_ble_eq_true rfl) f_X7_load_36 rfl rfl dX7_load_20 ?_
      refine bGet (v := .ref qNp) (T := TX5) (N := 4) (ci := 5) X Y i_X7_load_X5 1 rfl rfl 0 (Nat.le_of_ble_eq_true rfl) f_X7_load_95 rfl rfl dX7_load_23 ?_
      refine lv_iload_n hx hb dX7_load_26 rfl (lv_at hl 1 rfl) ?_
      refine bVR0 (As := [.int 0]) (rest := []) (wc := [(qNp, .inr (2, [.ref qNpl, .ref qNpr, .int nv]))]) (ci := 2) (q0 := 2) X Y (c_side0 l D cyC cyI qNp qNpl qNpr nv) gX7_load_X2_side rfl ⟨rfl, rfl⟩ hd_X2_side ⟨(Nat.le_of_ble_eq_true rfl), (Nat.le_of_ble_eq_true rfl)⟩ rfl rfl rfl [2] rfl rfl rfl rfl hl.1 (Nat.le_of_ble_eq_true rfl) ⟨Nat.zero_le _, Nat.zero_le _⟩ dX7_load_27 (fun H locs Y => ?_)
      refine bGet (v := .int nl3) (T := TX0) (N := 13) (ci := 0) X Y i_X7_load_X0 3 rfl rfl 3 (Nat.le_of_ble_eq_true rfl) f_X7_load_126 rfl rfl dX7_load_30 ?_
      refine lv_istore_n (lv' := [(3, .int nl3), (0, .ref qM), (1, .int 0), (2, .int m)]) hx hb dX7_load_33 rfl hl (by decide) rfl (fun ls hl => ?_)
      refine lv_iload_n hx hb dX7_load_34 rfl (lv_at hl 0 rfl) ?_
      refine lv_iload_n hx hb dX7_load_35 rfl (lv_at hl 3 rfl) ?_
      refine lv_icmp_ne (tgt := 42) hx hb dX7_load_36 (by decide) (fun c_3 => ?_) (fun c_3 => ?_)
      · have c_3 : ¬ (nl3 = m) := c_3
        exact absurd c_3 (hbad c_1 c_2)
      · have c_3 : nl3 = m := c_3
        refine lv_bipush (v := (-2)) hx hb dX7_load_39 (by decide) ?_
        subst hu
        exact bEndI X Y hr hlk dX7_load_41 rfl rfl
    · have c_2 := bB_f c_2
      rw [if_neg c_2] at hu
      refine lv_iconst (v := (-1)) hx hb dX7_load_17 (by decide) ?_
      subst hu
      exact bEndI X Y hr hlk dX7_load_18 rfl rfl
def s_target_1_ok (nv : Int32) (nl7 : Int32) (nr7 : Int32) (nsm : Int32) (nsf : Nat → Int32) (nsg : Nat → Int32) (nzm : Int32) (nzf : Nat → Int32) (nzg : Nat → Int32) (fsf : Nat → Int32) (fsg : Nat → Int32) (fzf : Nat → Int32) (fzg : Nat → Int32) (rp : Int32) : Int32 × Int32 × Int32 × (Nat → Int32) × (Nat → Int32) × (Nat → Int32) × (Nat → Int32) :=
  match s_keepForUndo nsm nsf nsg nzm nzf nzg fsf fsg fzf fzg with
  | (u_4_0, u_4_1, u_4_2, u_4_3) =>
    match s_aim nv nl7 nr7 1 rp with
    | (u_5_0, u_5_1) =>
      (nr7, u_5_0, u_5_1, u_4_0, u_4_1, u_4_2, u_4_3)
set_option maxHeartbeats 4000000 in
set_option maxRecDepth 100000 in
theorem c_target_1_ok (l : Launch) (D : va_G) (cyC cyI : ClassId) (qM : Nat) (qT : Nat) (qQ : Nat) (qR : Nat) (qD : Nat) (qN : Nat) (q1 : Nat) (q2 : Nat) (q3 : Nat) (q4 : Nat) (ud : Int32) (nk : Int32) (qNp : Nat) (nv : Int32) (qNpl : Nat) (nl0 : Int32) (nl1 : Int32) (nl2 : Int32) (nl3 : Int32) (nl4 : Int32) (nl5 : Int32) (nl6 : Int32) (nl7 : Int32) (nl8 : Int32) (nl9 : Int32) (nl10 : Int32) (nl11 : Int32) (nlb : Bool) (qNpr : Nat) (nr0 : Int32) (nr1 : Int32) (nr2 : Int32) (nr3 : Int32) (nr4 : Int32) (nr5 : Int32) (nr6 : Int32) (nr7 : Int32) (nr8 : Int32) (nr9 : Int32) (nr10 : Int32) (nr11 : Int32) (nrb : Bool) (qNs : Nat) (qNsn : Nat) (qNst : Nat) (nsm : Int32) (nsf : Nat → Int32) (nsg : Nat → Int32) (qNz : Nat) (qNzn : Nat) (qNzt : Nat) (nzm : Int32) (nzf : Nat → Int32) (nzg : Nat → Int32) (fk : Int32) (q4p : Nat) (fv : Int32) (q4pl : Nat) (fl0 : Int32) (fl1 : Int32) (fl2 : Int32) (fl3 : Int32) (fl4 : Int32) (fl5 : Int32) (fl6 : Int32) (fl7 : Int32) (fl8 : Int32) (fl9 : Int32) (fl10 : Int32) (fl11 : Int32) (flb : Bool) (q4pr : Nat) (fr0 : Int32) (fr1 : Int32) (fr2 : Int32) (fr3 : Int32) (fr4 : Int32) (fr5 : Int32) (fr6 : Int32) (fr7 : Int32) (fr8 : Int32) (fr9 : Int32) (fr10 : Int32) (fr11 : Int32) (frb : Bool) (q4s : Nat) (q4sn : Nat) (q4st : Nat) (fsm : Int32) (fsf : Nat → Int32) (fsg : Nat → Int32) (q4z : Nat) (q4zn : Nat) (q4zt : Nat) (fzm : Int32) (fzf : Nat → Int32) (fzg : Nat → Int32) (rp : Int32) (o0 : Int32) (o1 : Int32) (o2 : Int32) (o3 : Nat → Int32) (o4 : Nat → Int32) (o5 : Nat → Int32) (o6 : Nat → Int32) (hu : s_target_1_ok nv nl7 nr7 nsm nsf nsg nzm nzf nzg fsf fsg fzf fzg rp = (o0, o1, o2, o3, o4, o5, o6)) (h0_ : (s_isCrane 1) = true) (h1_ : (s_isRope rp) = true) (h2_ : ¬ ((s_aimsAt nv nl7 nr7 1 rp) = true)) : CI l yX7_target wsX7_target { frames := 4, cells := 0, slots := 0, locals := 87 } D cyC cyI [.ref qM, .int 1, .int rp] [(qM, .inr (7, [.ref qT, .ref qQ, .ref qR, .ref qD, .ref qN, .ref q1, .ref q2, .ref q3, .ref q4, .int ud])), (qN, .inr (5, [.ref qNp, .ref qNs, .ref qNz, .int nk])), (qNp, .inr (2, [.ref qNpl, .ref qNpr, .int nv])), (qNpl, .inr (0, [.int nl0, .int nl1, .int nl2, .int nl3, .int nl4, .int nl5, .int nl6, .int nl7, .int nl8, .int nl9, .int nl10, .int nl11, .int (bB nlb)])), (qNpr, .inr (0, [.int nr0, .int nr1, .int nr2, .int nr3, .int nr4, .int nr5, .int nr6, .int nr7, .int nr8, .int nr9, .int nr10, .int nr11, .int (bB nrb)])), (qNs, .inr (3, [.ref qNsn, .ref qNst, .int nsm])), (qNsn, .inl (cyI, 120, .inl nsf)), (qNst, .inl (cyI, 120, .inl nsg)), (qNz, .inr (3, [.ref qNzn, .ref qNzt, .int nzm])), (qNzn, .inl (cyI, 120, .inl nzf)), (qNzt, .inl (cyI, 120, .inl nzg)), (q4, .inr (5, [.ref q4p, .ref q4s, .ref q4z, .int fk])), (q4p, .inr (2, [.ref q4pl, .ref q4pr, .int fv])), (q4pl, .inr (0, [.int fl0, .int fl1, .int fl2, .int fl3, .int fl4, .int fl5, .int fl6, .int fl7, .int fl8, .int fl9, .int fl10, .int fl11, .int (bB flb)])), (q4pr, .inr (0, [.int fr0, .int fr1, .int fr2, .int fr3, .int fr4, .int fr5, .int fr6, .int fr7, .int fr8, .int fr9, .int fr10, .int fr11, .int (bB frb)])), (q4s, .inr (3, [.ref q4sn, .ref q4st, .int fsm])), (q4sn, .inl (cyI, 120, .inl fsf)), (q4st, .inl (cyI, 120, .inl fsg)), (q4z, .inr (3, [.ref q4zn, .ref q4zt, .int fzm])), (q4zn, .inl (cyI, 120, .inl fzf)), (q4zt, .inl (cyI, 120, .inl fzg))] o0 [(qM, .inr (7, [.ref qT, .ref qQ, .ref qR, .ref qD, .ref qN, .ref q4, .ref q1, .ref q2, .ref q3, .int (if 4 < (ud + 1) then 4 else (ud + 1))])), (qN, .inr (5, [.ref qNp, .ref qNs, .ref qNz, .int nk])), (qNp, .inr (2, [.ref qNpl, .ref qNpr, .int nv])), (qNpl, .inr (0, [.int nl0, .int nl1, .int nl2, .int nl3, .int nl4, .int nl5, .int nl6, .int o1, .int nl8, .int nl9, .int nl10, .int nl11, .int (bB nlb)])), (qNpr, .inr (0, [.int nr0, .int nr1, .int nr2, .int nr3, .int nr4, .int nr5, .int nr6, .int o2, .int nr8, .int nr9, .int nr10, .int nr11, .int (bB nrb)])), (qNs, .inr (3, [.ref qNsn, .ref qNst, .int nsm])), (qNsn, .inl (cyI, 120, .inl nsf)), (qNst, .inl (cyI, 120, .inl nsg)), (qNz, .inr (3, [.ref qNzn, .ref qNzt, .int nzm])), (qNzn, .inl (cyI, 120, .inl nzf)), (qNzt, .inl (cyI, 120, .inl nzg)), (q4, .inr (5, [.ref q4p, .ref q4s, .ref q4z, .int nk])), (q4p, .inr (2, [.ref q4pl, .ref q4pr, .int nv])), (q4pl, .inr (0, [.int nl0, .int nl1, .int nl2, .int nl3, .int nl4, .int nl5, .int nl6, .int nl7, .int nl8, .int nl9, .int nl10, .int nl11, .int (bB nlb)])), (q4pr, .inr (0, [.int nr0, .int nr1, .int nr2, .int nr3, .int nr4, .int nr5, .int nr6, .int nr7, .int nr8, .int nr9, .int nr10, .int nr11, .int (bB nrb)])), (q4s, .inr (3, [.ref q4sn, .ref q4st, .int nsm])), (q4sn, .inl (cyI, 120, .inl o3)), (q4st, .inl (cyI, 120, .inl o4)), (q4z, .inr (3, [.ref q4zn, .ref q4zt, .int nzm])), (q4zn, .inl (cyI, 120, .inl o5)), (q4zt, .inl (cyI, 120, .inl o6))] := by
  refine CI.of (cc := cX7_target) (n := 4) (ret := (some .int)) (by decide +kernel) rfl (Nat.le_of_ble_eq_true rfl) ?_
  intro p_ e_ s_ m_ bl_ me_ cd_ A_ ls X Y hr hlk hl
  have hx := X.1.1
  have hb := X.1.2.1
  have hl : lv_has ls 4 [(0, .ref qM), (1, .int 1), (2, .int rp)] := hl
  unfold s_target_1_ok at hu
  refine lv_iload_n hx hb dX7_target_0 rfl (lv_at hl 1 rfl) ?_
  refine bSI (As := [.int 1]) (rest := []) X Y (c_isCrane l D cyC cyI 1 (s_isCrane 1) rfl) gX7_target_X7_isCrane rfl ⟨rfl, rfl⟩ hd_X7_isCrane.2 ⟨(Nat.le_of_ble_eq_true rfl), (Nat.le_of_ble_eq_true rfl)⟩ rfl rfl hl.1 (Nat.le_of_ble_eq_true rfl) ⟨Nat.zero_le _, Nat.zero_le _⟩ dX7_target_1 (fun H locs Y => ?_)
  refine lv_if_eq (tgt := 14) hx hb dX7_target_4 (by decide) (fun c_1 => ?_) (fun c_1 => ?_)
  · have c_1 := bB_f c_1
    exact absurd h0_ c_1
  · have c_1 := bB_t c_1
    refine lv_iload_n hx hb dX7_target_7 rfl (lv_at hl 2 rfl) ?_
    refine bSI (As := [.int rp]) (rest := []) X Y (c_isRope l D cyC cyI rp (s_isRope rp) rfl) gX7_target_X7_isRope rfl ⟨rfl, rfl⟩ hd_X7_isRope.2 ⟨(Nat.le_of_ble_eq_true rfl), (Nat.le_of_ble_eq_true rfl)⟩ rfl rfl hl.1 (Nat.le_of_ble_eq_true rfl) ⟨Nat.zero_le _, Nat.zero_le _⟩ dX7_target_8 (fun H locs Y => ?_)
    refine lv_if_ne (tgt := 16) hx hb dX7_target_11 (by decide) (fun c_2 => ?_) (fun c_2 => ?_)
    · have c_2 := bB_t c_2
      refine lv_aload_n hx hb dX7_target_16 rfl (lv_at hl 0 rfl) ?_
      refine bGet (v := .ref qN) (T := TX7) (N := 10) (ci := 7) X Y i_X7_target_X7 0 rfl rfl 4 (Nat.le_of_ble_eq_true rfl) f_X7_target_36 rfl rfl dX7_target_17 ?_
      refine bGet (v := .ref qNp) (T := TX5) (N := 4) (ci := 5) X Y i_X7_target_X5 1 rfl rfl 0 (Nat.le_of_ble_eq_true rfl) f_X7_target_95 rfl rfl dX7_target_20 ?_
      refine lv_iload_n hx hb dX7_target_23 rfl (lv_at hl 1 rfl) ?_
      refine lv_iload_n hx hb dX7_target_24 rfl (lv_at hl 2 rfl) ?_
      refine bVI0 (As := [.int 1, .int rp]) (rest := []) (wc := [(qNp, .inr (2, [.ref qNpl, .ref qNpr, .int nv])), (qNpl, .inr (0, [.int nl0, .int nl1, .int nl2, .int nl3, .int nl4, .int nl5, .int nl6, .int nl7, .int nl8, .int nl9, .int nl10, .int nl11, .int (bB nlb)])), (qNpr, .inr (0, [.int nr0, .int nr1, .int nr2, .int nr3, .int nr4, .int nr5, .int nr6, .int nr7, .int nr8, .int nr9, .int nr10, .int nr11, .int (bB nrb)]))]) (ci := 2) (q0 := 2) X Y (c_aimsAt l D cyC cyI qNp nv qNpl nl0 nl1 nl2 nl3 nl4 nl5 nl6 nl7 nl8 nl9 nl10 nl11 nlb qNpr nr0 nr1 nr2 nr3 nr4 nr5 nr6 nr7 nr8 nr9 nr10 nr11 nrb 1 rp (s_aimsAt nv nl7 nr7 1 rp) rfl) gX7_target_X2_aimsAt rfl ⟨rfl, rfl⟩ hd_X2_aimsAt ⟨(Nat.le_of_ble_eq_true rfl), (Nat.le_of_ble_eq_true rfl)⟩ rfl rfl rfl [2, 3, 4] rfl rfl rfl rfl hl.1 (Nat.le_of_ble_eq_true rfl) ⟨Nat.zero_le _, Nat.zero_le _⟩ dX7_target_25 (fun H locs Y => ?_)
      refine lv_if_eq (tgt := 34) hx hb dX7_target_28 (by decide) (fun c_3 => ?_) (fun c_3 => ?_)
      · have c_3 := bB_f c_3
        refine lv_aload_n hx hb dX7_target_34 rfl (lv_at hl 0 rfl) ?_
        obtain ⟨u_4_0, u_4_1, u_4_2, u_4_3, hr_4⟩ := bEx4 (s_keepForUndo nsm nsf nsg nzm nzf nzg fsf fsg fzf fzg)
        rw [hr_4] at hu
        dsimp only at hu
        refine bVV (As := []) (rest := []) (wc := [(qM, .inr (7, [.ref qT, .ref qQ, .ref qR, .ref qD, .ref qN, .ref q1, .ref q2, .ref q3, .ref q4, .int ud])), (qN, .inr (5, [.ref qNp, .ref qNs, .ref qNz, .int nk])), (qNp, .inr (2, [.ref qNpl, .ref qNpr, .int nv])), (qNpl, .inr (0, [.int nl0, .int nl1, .int nl2, .int nl3, .int nl4, .int nl5, .int nl6, .int nl7, .int nl8, .int nl9, .int nl10, .int nl11, .int (bB nlb)])), (qNpr, .inr (0, [.int nr0, .int nr1, .int nr2, .int nr3, .int nr4, .int nr5, .int nr6, .int nr7, .int nr8, .int nr9, .int nr10, .int nr11, .int (bB nrb)])), (qNs, .inr (3, [.ref qNsn, .ref qNst, .int nsm])), (qNsn, .inl (cyI, 120, .inl nsf)), (qNst, .inl (cyI, 120, .inl nsg)), (qNz, .inr (3, [.ref qNzn, .ref qNzt, .int nzm])), (qNzn, .inl (cyI, 120, .inl nzf)), (qNzt, .inl (cyI, 120, .inl nzg)), (q4, .inr (5, [.ref q4p, .ref q4s, .ref q4z, .int fk])), (q4p, .inr (2, [.ref q4pl, .ref q4pr, .int fv])), (q4pl, .inr (0, [.int fl0, .int fl1, .int fl2, .int fl3, .int fl4, .int fl5, .int fl6, .int fl7, .int fl8, .int fl9, .int fl10, .int fl11, .int (bB flb)])), (q4pr, .inr (0, [.int fr0, .int fr1, .int fr2, .int fr3, .int fr4, .int fr5, .int fr6, .int fr7, .int fr8, .int fr9, .int fr10, .int fr11, .int (bB frb)])), (q4s, .inr (3, [.ref q4sn, .ref q4st, .int fsm])), (q4sn, .inl (cyI, 120, .inl fsf)), (q4st, .inl (cyI, 120, .inl fsg)), (q4z, .inr (3, [.ref q4zn, .ref q4zt, .int fzm])), (q4zn, .inl (cyI, 120, .inl fzf)), (q4zt, .inl (cyI, 120, .inl fzg))]) (w1 := [(qM, .inr (7, [.ref qT, .ref qQ, .ref qR, .ref qD, .ref qN, .ref q4, .ref q1, .ref q2, .ref q3, .int (if 4 < (ud + 1) then 4 else (ud + 1))])), (qN, .inr (5, [.ref qNp, .ref qNs, .ref qNz, .int nk])), (qNp, .inr (2, [.ref qNpl, .ref qNpr, .int nv])), (qNpl, .inr (0, [.int nl0, .int nl1, .int nl2, .int nl3, .int nl4, .int nl5, .int nl6, .int nl7, .int nl8, .int nl9, .int nl10, .int nl11, .int (bB nlb)])), (qNpr, .inr (0, [.int nr0, .int nr1, .int nr2, .int nr3, .int nr4, .int nr5, .int nr6, .int nr7, .int nr8, .int nr9, .int nr10, .int nr11, .int (bB nrb)])), (qNs, .inr (3, [.ref qNsn, .ref qNst, .int nsm])), (qNsn, .inl (cyI, 120, .inl nsf)), (qNst, .inl (cyI, 120, .inl nsg)), (qNz, .inr (3, [.ref qNzn, .ref qNzt, .int nzm])), (qNzn, .inl (cyI, 120, .inl nzf)), (qNzt, .inl (cyI, 120, .inl nzg)), (q4, .inr (5, [.ref q4p, .ref q4s, .ref q4z, .int nk])), (q4p, .inr (2, [.ref q4pl, .ref q4pr, .int nv])), (q4pl, .inr (0, [.int nl0, .int nl1, .int nl2, .int nl3, .int nl4, .int nl5, .int nl6, .int nl7, .int nl8, .int nl9, .int nl10, .int nl11, .int (bB nlb)])), (q4pr, .inr (0, [.int nr0, .int nr1, .int nr2, .int nr3, .int nr4, .int nr5, .int nr6, .int nr7, .int nr8, .int nr9, .int nr10, .int nr11, .int (bB nrb)])), (q4s, .inr (3, [.ref q4sn, .ref q4st, .int nsm])), (q4sn, .inl (cyI, 120, .inl u_4_0)), (q4st, .inl (cyI, 120, .inl u_4_1)), (q4z, .inr (3, [.ref q4zn, .ref q4zt, .int nzm])), (q4zn, .inl (cyI, 120, .inl u_4_2)), (q4zt, .inl (cyI, 120, .inl u_4_3))]) (ws' := [(qM, .inr (7, [.ref qT, .ref qQ, .ref qR, .ref qD, .ref qN, .ref q4, .ref q1, .ref q2, .ref q3, .int (if 4 < (ud + 1) then 4 else (ud + 1))])), (qN, .inr (5, [.ref qNp, .ref qNs, .ref qNz, .int nk])), (qNp, .inr (2, [.ref qNpl, .ref qNpr, .int nv])), (qNpl, .inr (0, [.int nl0, .int nl1, .int nl2, .int nl3, .int nl4, .int nl5, .int nl6, .int nl7, .int nl8, .int nl9, .int nl10, .int nl11, .int (bB nlb)])), (qNpr, .inr (0, [.int nr0, .int nr1, .int nr2, .int nr3, .int nr4, .int nr5, .int nr6, .int nr7, .int nr8, .int nr9, .int nr10, .int nr11, .int (bB nrb)])), (qNs, .inr (3, [.ref qNsn, .ref qNst, .int nsm])), (qNsn, .inl (cyI, 120, .inl nsf)), (qNst, .inl (cyI, 120, .inl nsg)), (qNz, .inr (3, [.ref qNzn, .ref qNzt, .int nzm])), (qNzn, .inl (cyI, 120, .inl nzf)), (qNzt, .inl (cyI, 120, .inl nzg)), (q4, .inr (5, [.ref q4p, .ref q4s, .ref q4z, .int nk])), (q4p, .inr (2, [.ref q4pl, .ref q4pr, .int nv])), (q4pl, .inr (0, [.int nl0, .int nl1, .int nl2, .int nl3, .int nl4, .int nl5, .int nl6, .int nl7, .int nl8, .int nl9, .int nl10, .int nl11, .int (bB nlb)])), (q4pr, .inr (0, [.int nr0, .int nr1, .int nr2, .int nr3, .int nr4, .int nr5, .int nr6, .int nr7, .int nr8, .int nr9, .int nr10, .int nr11, .int (bB nrb)])), (q4s, .inr (3, [.ref q4sn, .ref q4st, .int nsm])), (q4sn, .inl (cyI, 120, .inl u_4_0)), (q4st, .inl (cyI, 120, .inl u_4_1)), (q4z, .inr (3, [.ref q4zn, .ref q4zt, .int nzm])), (q4zn, .inl (cyI, 120, .inl u_4_2)), (q4zt, .inl (cyI, 120, .inl u_4_3))]) (nn := 21) (ci := 7) (q0 := 0) X Y (c_keepForUndo l D cyC cyI qM qT qQ qR qD qN q1 q2 q3 q4 ud nk qNp nv qNpl nl0 nl1 nl2 nl3 nl4 nl5 nl6 nl7 nl8 nl9 nl10 nl11 nlb qNpr nr0 nr1 nr2 nr3 nr4 nr5 nr6 nr7 nr8 nr9 nr10 nr11 nrb qNs qNsn qNst nsm nsf nsg qNz qNzn qNzt nzm nzf nzg fk q4p fv q4pl fl0 fl1 fl2 fl3 fl4 fl5 fl6 fl7 fl8 fl9 fl10 fl11 flb q4pr fr0 fr1 fr2 fr3 fr4 fr5 fr6 fr7 fr8 fr9 fr10 fr11 frb q4s q4sn q4st fsm fsf fsg q4z q4zn q4zt fzm fzf fzg u_4_0 u_4_1 u_4_2 u_4_3 hr_4) gX7_target_X7_keepForUndo rfl ⟨rfl, rfl⟩ hd_X7_keepForUndo ⟨(Nat.le_of_ble_eq_true rfl), (Nat.le_of_ble_eq_true rfl)⟩ rfl rfl rfl [0, 1, 2, 3, 4, 5, 6, 7, 8, 9, 10, 11, 12, 13, 14, 15, 16, 17, 18, 19, 20] [] rfl rfl rfl rfl rfl rfl (by decide) rfl rfl hl.1 (Nat.le_of_ble_eq_true rfl) ⟨Nat.zero_le _, Nat.zero_le _⟩ dX7_target_35 (fun H locs Y => ?_)
        refine lv_aload_n hx hb dX7_target_38 rfl (lv_at hl 0 rfl) ?_
        refine bGet (v := .ref qN) (T := TX7) (N := 10) (ci := 7) X Y i_X7_target_X7 0 rfl rfl 4 (Nat.le_of_ble_eq_true rfl) f_X7_target_36 rfl rfl dX7_target_39 ?_
        refine bGet (v := .ref qNp) (T := TX5) (N := 4) (ci := 5) X Y i_X7_target_X5 1 rfl rfl 0 (Nat.le_of_ble_eq_true rfl) f_X7_target_95 rfl rfl dX7_target_42 ?_
        refine lv_iload_n hx hb dX7_target_45 rfl (lv_at hl 1 rfl) ?_
        refine bVR0 (As := [.int 1]) (rest := []) (wc := [(qNp, .inr (2, [.ref qNpl, .ref qNpr, .int nv]))]) (ci := 2) (q0 := 2) X Y (c_side1 l D cyC cyI qNp qNpl qNpr nv) gX7_target_X2_side rfl ⟨rfl, rfl⟩ hd_X2_side ⟨(Nat.le_of_ble_eq_true rfl), (Nat.le_of_ble_eq_true rfl)⟩ rfl rfl rfl [2] rfl rfl rfl rfl hl.1 (Nat.le_of_ble_eq_true rfl) ⟨Nat.zero_le _, Nat.zero_le _⟩ dX7_target_46 (fun H locs Y => ?_)
        refine bGet (v := .int nr7) (T := TX0) (N := 13) (ci := 0) X Y i_X7_target_X0 4 rfl rfl 7 (Nat.le_of_ble_eq_true rfl) f_X7_target_117 rfl rfl dX7_target_49 ?_
        refine lv_istore_n (lv' := [(3, .int nr7), (0, .ref qM), (1, .int 1), (2, .int rp)]) hx hb dX7_target_52 rfl hl (by decide) rfl (fun ls hl => ?_)
        refine lv_aload_n hx hb dX7_target_53 rfl (lv_at hl 1 rfl) ?_
        refine bGet (v := .ref qN) (T := TX7) (N := 10) (ci := 7) X Y i_X7_target_X7 0 rfl rfl 4 (Nat.le_of_ble_eq_true rfl) f_X7_target_36 rfl rfl dX7_target_54 ?_
        refine bGet (v := .ref qNp) (T := TX5) (N := 4) (ci := 5) X Y i_X7_target_X5 1 rfl rfl 0 (Nat.le_of_ble_eq_true rfl) f_X7_target_95 rfl rfl dX7_target_57 ?_
        refine lv_iload_n hx hb dX7_target_60 rfl (lv_at hl 2 rfl) ?_
        refine lv_iload_n hx hb dX7_target_61 rfl (lv_at hl 3 rfl) ?_
        obtain ⟨u_5_0, u_5_1, hr_5⟩ := bEx2 (s_aim nv nl7 nr7 1 rp)
        rw [hr_5] at hu
        dsimp only at hu
        refine bVV (As := [.int 1, .int rp]) (rest := []) (wc := [(qNp, .inr (2, [.ref qNpl, .ref qNpr, .int nv])), (qNpl, .inr (0, [.int nl0, .int nl1, .int nl2, .int nl3, .int nl4, .int nl5, .int nl6, .int nl7, .int nl8, .int nl9, .int nl10, .int nl11, .int (bB nlb)])), (qNpr, .inr (0, [.int nr0, .int nr1, .int nr2, .int nr3, .int nr4, .int nr5, .int nr6, .int nr7, .int nr8, .int nr9, .int nr10, .int nr11, .int (bB nrb)]))]) (w1 := [(qNp, .inr (2, [.ref qNpl, .ref qNpr, .int nv])), (qNpl, .inr (0, [.int nl0, .int nl1, .int nl2, .int nl3, .int nl4, .int nl5, .int nl6, .int u_5_0, .int nl8, .int nl9, .int nl10, .int nl11, .int (bB nlb)])), (qNpr, .inr (0, [.int nr0, .int nr1, .int nr2, .int nr3, .int nr4, .int nr5, .int nr6, .int u_5_1, .int nr8, .int nr9, .int nr10, .int nr11, .int (bB nrb)]))]) (ws' := [(qM, .inr (7, [.ref qT, .ref qQ, .ref qR, .ref qD, .ref qN, .ref q4, .ref q1, .ref q2, .ref q3, .int (if 4 < (ud + 1) then 4 else (ud + 1))])), (qN, .inr (5, [.ref qNp, .ref qNs, .ref qNz, .int nk])), (qNp, .inr (2, [.ref qNpl, .ref qNpr, .int nv])), (qNpl, .inr (0, [.int nl0, .int nl1, .int nl2, .int nl3, .int nl4, .int nl5, .int nl6, .int u_5_0, .int nl8, .int nl9, .int nl10, .int nl11, .int (bB nlb)])), (qNpr, .inr (0, [.int nr0, .int nr1, .int nr2, .int nr3, .int nr4, .int nr5, .int nr6, .int u_5_1, .int nr8, .int nr9, .int nr10, .int nr11, .int (bB nrb)])), (qNs, .inr (3, [.ref qNsn, .ref qNst, .int nsm])), (qNsn, .inl (cyI, 120, .inl nsf)), (qNst, .inl (cyI, 120, .inl nsg)), (qNz, .inr (3, [.ref qNzn, .ref qNzt, .int nzm])), (qNzn, .inl (cyI, 120, .inl nzf)), (qNzt, .inl (cyI, 120, .inl nzg)), (q4, .inr (5, [.ref q4p, .ref q4s, .ref q4z, .int nk])), (q4p, .inr (2, [.ref q4pl, .ref q4pr, .int nv])), (q4pl, .inr (0, [.int nl0, .int nl1, .int nl2, .int nl3, .int nl4, .int nl5, .int nl6, .int nl7, .int nl8, .int nl9, .int nl10, .int nl11, .int (bB nlb)])), (q4pr, .inr (0, [.int nr0, .int nr1, .int nr2, .int nr3, .int nr4, .int nr5, .int nr6, .int nr7, .int nr8, .int nr9, .int nr10, .int nr11, .int (bB nrb)])), (q4s, .inr (3, [.ref q4sn, .ref q4st, .int nsm])), (q4sn, .inl (cyI, 120, .inl u_4_0)), (q4st, .inl (cyI, 120, .inl u_4_1)), (q4z, .inr (3, [.ref q4zn, .ref q4zt, .int nzm])), (q4zn, .inl (cyI, 120, .inl u_4_2)), (q4zt, .inl (cyI, 120, .inl u_4_3))]) (nn := 21) (ci := 2) (q0 := 2) X Y (c_aim l D cyC cyI qNp nv qNpl nl0 nl1 nl2 nl3 nl4 nl5 nl6 nl7 nl8 nl9 nl10 nl11 nlb qNpr nr0 nr1 nr2 nr3 nr4 nr5 nr6 nr7 nr8 nr9 nr10 nr11 nrb 1 rp u_5_0 u_5_1 hr_5) gX7_target_X2_aim rfl ⟨rfl, rfl⟩ hd_X2_aim ⟨(Nat.le_of_ble_eq_true rfl), (Nat.le_of_ble_eq_true rfl)⟩ rfl rfl rfl [2, 3, 4] [0, 1, 5, 6, 7, 8, 9, 10, 11, 12, 13, 14, 15, 16, 17, 18, 19, 20] rfl rfl rfl rfl rfl rfl (by decide) rfl rfl hl.1 (Nat.le_of_ble_eq_true rfl) ⟨Nat.zero_le _, Nat.zero_le _⟩ dX7_target_62 (fun H locs Y => ?_)
        refine lv_iload_n hx hb dX7_target_65 rfl (lv_at hl 0 rfl) ?_
        have h9 := (Prod.mk.inj hu).1; replace hu := (Prod.mk.inj hu).2; subst h9
        have h9 := (Prod.mk.inj hu).1; replace hu := (Prod.mk.inj hu).2; subst h9
        have h9 := (Prod.mk.inj hu).1; replace hu := (Prod.mk.inj hu).2; subst h9
        have h9 := (Prod.mk.inj hu).1; replace hu := (Prod.mk.inj hu).2; subst h9
        have h9 := (Prod.mk.inj hu).1; replace hu := (Prod.mk.inj hu).2; subst h9
        have h9 := (Prod.mk.inj hu).1; replace hu := (Prod.mk.inj hu).2; subst h9
        subst hu
        exact bEndI X Y hr hlk dX7_target_66 rfl rfl
      · have c_3 := bB_t c_3
        exact absurd c_3 h2_
    · have c_2 := bB_f c_2
      exact absurd h1_ c_2
def s_target_1_no (rp : Int32) : Int32 :=
  if (s_isCrane 1) = true then
    if (s_isRope rp) = true then
      (-2)
    else
      (-1)
  else
    (-1)
set_option maxHeartbeats 4000000 in
set_option maxRecDepth 100000 in
theorem c_target_1_no (l : Launch) (D : va_G) (cyC cyI : ClassId) (qM : Nat) (qT : Nat) (qQ : Nat) (qR : Nat) (qD : Nat) (qN : Nat) (q1 : Nat) (q2 : Nat) (q3 : Nat) (q4 : Nat) (ud : Int32) (nk : Int32) (qNp : Nat) (nv : Int32) (qNpl : Nat) (nl0 : Int32) (nl1 : Int32) (nl2 : Int32) (nl3 : Int32) (nl4 : Int32) (nl5 : Int32) (nl6 : Int32) (nl7 : Int32) (nl8 : Int32) (nl9 : Int32) (nl10 : Int32) (nl11 : Int32) (nlb : Bool) (qNpr : Nat) (nr0 : Int32) (nr1 : Int32) (nr2 : Int32) (nr3 : Int32) (nr4 : Int32) (nr5 : Int32) (nr6 : Int32) (nr7 : Int32) (nr8 : Int32) (nr9 : Int32) (nr10 : Int32) (nr11 : Int32) (nrb : Bool) (qNs : Nat) (qNz : Nat) (rp : Int32) (o0 : Int32) (hu : s_target_1_no rp = o0) (hbad : ((s_isCrane 1) = true) → ((s_isRope rp) = true) → ¬ (¬ ((s_aimsAt nv nl7 nr7 1 rp) = true))) : CI l yX7_target wsX7_target { frames := 3, cells := 0, slots := 0, locals := 63 } D cyC cyI [.ref qM, .int 1, .int rp] [(qM, .inr (7, [.ref qT, .ref qQ, .ref qR, .ref qD, .ref qN, .ref q1, .ref q2, .ref q3, .ref q4, .int ud])), (qN, .inr (5, [.ref qNp, .ref qNs, .ref qNz, .int nk])), (qNp, .inr (2, [.ref qNpl, .ref qNpr, .int nv])), (qNpl, .inr (0, [.int nl0, .int nl1, .int nl2, .int nl3, .int nl4, .int nl5, .int nl6, .int nl7, .int nl8, .int nl9, .int nl10, .int nl11, .int (bB nlb)])), (qNpr, .inr (0, [.int nr0, .int nr1, .int nr2, .int nr3, .int nr4, .int nr5, .int nr6, .int nr7, .int nr8, .int nr9, .int nr10, .int nr11, .int (bB nrb)]))] o0 [(qM, .inr (7, [.ref qT, .ref qQ, .ref qR, .ref qD, .ref qN, .ref q1, .ref q2, .ref q3, .ref q4, .int ud])), (qN, .inr (5, [.ref qNp, .ref qNs, .ref qNz, .int nk])), (qNp, .inr (2, [.ref qNpl, .ref qNpr, .int nv])), (qNpl, .inr (0, [.int nl0, .int nl1, .int nl2, .int nl3, .int nl4, .int nl5, .int nl6, .int nl7, .int nl8, .int nl9, .int nl10, .int nl11, .int (bB nlb)])), (qNpr, .inr (0, [.int nr0, .int nr1, .int nr2, .int nr3, .int nr4, .int nr5, .int nr6, .int nr7, .int nr8, .int nr9, .int nr10, .int nr11, .int (bB nrb)]))] := by
  refine CI.of (cc := cX7_target) (n := 4) (ret := (some .int)) (by decide +kernel) rfl (Nat.le_of_ble_eq_true rfl) ?_
  intro p_ e_ s_ m_ bl_ me_ cd_ A_ ls X Y hr hlk hl
  have hx := X.1.1
  have hb := X.1.2.1
  have hl : lv_has ls 4 [(0, .ref qM), (1, .int 1), (2, .int rp)] := hl
  unfold s_target_1_no at hu
  refine lv_iload_n hx hb dX7_target_0 rfl (lv_at hl 1 rfl) ?_
  refine bSI (As := [.int 1]) (rest := []) X Y (c_isCrane l D cyC cyI 1 (s_isCrane 1) rfl) gX7_target_X7_isCrane rfl ⟨rfl, rfl⟩ hd_X7_isCrane.2 ⟨(Nat.le_of_ble_eq_true rfl), (Nat.le_of_ble_eq_true rfl)⟩ rfl rfl hl.1 (Nat.le_of_ble_eq_true rfl) ⟨Nat.zero_le _, Nat.zero_le _⟩ dX7_target_1 (fun H locs Y => ?_)
  refine lv_if_eq (tgt := 14) hx hb dX7_target_4 (by decide) (fun c_1 => ?_) (fun c_1 => ?_)
  · have c_1 := bB_f c_1
    rw [if_neg c_1] at hu
    refine lv_iconst (v := (-1)) hx hb dX7_target_14 (by decide) ?_
    subst hu
    exact bEndI X Y hr hlk dX7_target_15 rfl rfl
  · have c_1 := bB_t c_1
    rw [if_pos c_1] at hu
    refine lv_iload_n hx hb dX7_target_7 rfl (lv_at hl 2 rfl) ?_
    refine bSI (As := [.int rp]) (rest := []) X Y (c_isRope l D cyC cyI rp (s_isRope rp) rfl) gX7_target_X7_isRope rfl ⟨rfl, rfl⟩ hd_X7_isRope.2 ⟨(Nat.le_of_ble_eq_true rfl), (Nat.le_of_ble_eq_true rfl)⟩ rfl rfl hl.1 (Nat.le_of_ble_eq_true rfl) ⟨Nat.zero_le _, Nat.zero_le _⟩ dX7_target_8 (fun H locs Y => ?_)
    refine lv_if_ne (tgt := 16) hx hb dX7_target_11 (by decide) (fun c_2 => ?_) (fun c_2 => ?_)
    · have c_2 := bB_t c_2
      rw [if_pos c_2] at hu
      refine lv_aload_n hx hb dX7_target_16 rfl (lv_at hl 0 rfl) ?_
      refine bGet (v := .ref qN) (T := TX7) (N := 10) (ci := 7) X Y i_X7_target_X7 0 rfl rfl 4 (Nat.le_of_ble_eq_true rfl) f_X7_target_36 rfl rfl dX7_target_17 ?_
      refine bGet (v := .ref qNp) (T := TX5) (N := 4) (ci := 5) X Y i_X7_target_X5 1 rfl rfl 0 (Nat.le_of_ble_eq_true rfl) f_X7_target_95 rfl rfl dX7_target_20 ?_
      refine lv_iload_n hx hb dX7_target_23 rfl (lv_at hl 1 rfl) ?_
      refine lv_iload_n hx hb dX7_target_24 rfl (lv_at hl 2 rfl) ?_
      refine bVI0 (As := [.int 1, .int rp]) (rest := []) (wc := [(qNp, .inr (2, [.ref qNpl, .ref qNpr, .int nv])), (qNpl, .inr (0, [.int nl0, .int nl1, .int nl2, .int nl3, .int nl4, .int nl5, .int nl6, .int nl7, .int nl8, .int nl9, .int nl10, .int nl11, .int (bB nlb)])), (qNpr, .inr (0, [.int nr0, .int nr1, .int nr2, .int nr3, .int nr4, .int nr5, .int nr6, .int nr7, .int nr8, .int nr9, .int nr10, .int nr11, .int (bB nrb)]))]) (ci := 2) (q0 := 2) X Y (c_aimsAt l D cyC cyI qNp nv qNpl nl0 nl1 nl2 nl3 nl4 nl5 nl6 nl7 nl8 nl9 nl10 nl11 nlb qNpr nr0 nr1 nr2 nr3 nr4 nr5 nr6 nr7 nr8 nr9 nr10 nr11 nrb 1 rp (s_aimsAt nv nl7 nr7 1 rp) rfl) gX7_target_X2_aimsAt rfl ⟨rfl, rfl⟩ hd_X2_aimsAt ⟨(Nat.le_of_ble_eq_true rfl), (Nat.le_of_ble_eq_true rfl)⟩ rfl rfl rfl [2, 3, 4] rfl rfl rfl rfl hl.1 (Nat.le_of_ble_eq_true rfl) ⟨Nat.zero_le _, Nat.zero_le _⟩ dX7_target_25 (fun H locs Y => ?_)
      refine lv_if_eq (tgt := 34) hx hb dX7_target_28 (by decide) (fun c_3 => ?_) (fun c_3 => ?_)
      · have c_3 := bB_f c_3
        exact absurd c_3 (hbad c_1 c_2)
      · have c_3 := bB_t c_3
        refine lv_bipush (v := (-2)) hx hb dX7_target_31 (by decide) ?_
        subst hu
        exact bEndI X Y hr hlk dX7_target_33 rfl rfl
    · have c_2 := bB_f c_2
      rw [if_neg c_2] at hu
      refine lv_iconst (v := (-1)) hx hb dX7_target_14 (by decide) ?_
      subst hu
      exact bEndI X Y hr hlk dX7_target_15 rfl rfl
def s_load_1_ok (nr3 : Int32) (nsm : Int32) (nsf : Nat → Int32) (nsg : Nat → Int32) (nzm : Int32) (nzf : Nat → Int32) (nzg : Nat → Int32) (fsf : Nat → Int32) (fsg : Nat → Int32) (fzf : Nat → Int32) (fzg : Nat → Int32) : Int32 × (Nat → Int32) × (Nat → Int32) × (Nat → Int32) × (Nat → Int32) :=
  match s_keepForUndo nsm nsf nsg nzm nzf nzg fsf fsg fzf fzg with
  | (u_4_0, u_4_1, u_4_2, u_4_3) =>
    (nr3, u_4_0, u_4_1, u_4_2, u_4_3)
set_option maxHeartbeats 4000000 in
set_option maxRecDepth 100000 in
theorem c_load_1_ok (l : Launch) (D : va_G) (cyC cyI : ClassId) (qM : Nat) (qT : Nat) (qQ : Nat) (qR : Nat) (qD : Nat) (qN : Nat) (q1 : Nat) (q2 : Nat) (q3 : Nat) (q4 : Nat) (ud : Int32) (nk : Int32) (qNp : Nat) (nv : Int32) (qNpl : Nat) (nl0 : Int32) (nl1 : Int32) (nl2 : Int32) (nl3 : Int32) (nl4 : Int32) (nl5 : Int32) (nl6 : Int32) (nl7 : Int32) (nl8 : Int32) (nl9 : Int32) (nl10 : Int32) (nl11 : Int32) (nlb : Bool) (qNpr : Nat) (nr0 : Int32) (nr1 : Int32) (nr2 : Int32) (nr3 : Int32) (nr4 : Int32) (nr5 : Int32) (nr6 : Int32) (nr7 : Int32) (nr8 : Int32) (nr9 : Int32) (nr10 : Int32) (nr11 : Int32) (nrb : Bool) (qNs : Nat) (qNsn : Nat) (qNst : Nat) (nsm : Int32) (nsf : Nat → Int32) (nsg : Nat → Int32) (qNz : Nat) (qNzn : Nat) (qNzt : Nat) (nzm : Int32) (nzf : Nat → Int32) (nzg : Nat → Int32) (fk : Int32) (q4p : Nat) (fv : Int32) (q4pl : Nat) (fl0 : Int32) (fl1 : Int32) (fl2 : Int32) (fl3 : Int32) (fl4 : Int32) (fl5 : Int32) (fl6 : Int32) (fl7 : Int32) (fl8 : Int32) (fl9 : Int32) (fl10 : Int32) (fl11 : Int32) (flb : Bool) (q4pr : Nat) (fr0 : Int32) (fr1 : Int32) (fr2 : Int32) (fr3 : Int32) (fr4 : Int32) (fr5 : Int32) (fr6 : Int32) (fr7 : Int32) (fr8 : Int32) (fr9 : Int32) (fr10 : Int32) (fr11 : Int32) (frb : Bool) (q4s : Nat) (q4sn : Nat) (q4st : Nat) (fsm : Int32) (fsf : Nat → Int32) (fsg : Nat → Int32) (q4z : Nat) (q4zn : Nat) (q4zt : Nat) (fzm : Int32) (fzf : Nat → Int32) (fzg : Nat → Int32) (m : Int32) (o0 : Int32) (o1 : Nat → Int32) (o2 : Nat → Int32) (o3 : Nat → Int32) (o4 : Nat → Int32) (hu : s_load_1_ok nr3 nsm nsf nsg nzm nzf nzg fsf fsg fzf fzg = (o0, o1, o2, o3, o4)) (h0_ : (s_isCrane 1) = true) (h1_ : (s_isWithin m 0 99) = true) (h2_ : ¬ (nr3 = m)) : CI l yX7_load wsX7_load { frames := 4, cells := 0, slots := 0, locals := 87 } D cyC cyI [.ref qM, .int 1, .int m] [(qM, .inr (7, [.ref qT, .ref qQ, .ref qR, .ref qD, .ref qN, .ref q1, .ref q2, .ref q3, .ref q4, .int ud])), (qN, .inr (5, [.ref qNp, .ref qNs, .ref qNz, .int nk])), (qNp, .inr (2, [.ref qNpl, .ref qNpr, .int nv])), (qNpl, .inr (0, [.int nl0, .int nl1, .int nl2, .int nl3, .int nl4, .int nl5, .int nl6, .int nl7, .int nl8, .int nl9, .int nl10, .int nl11, .int (bB nlb)])), (qNpr, .inr (0, [.int nr0, .int nr1, .int nr2, .int nr3, .int nr4, .int nr5, .int nr6, .int nr7, .int nr8, .int nr9, .int nr10, .int nr11, .int (bB nrb)])), (qNs, .inr (3, [.ref qNsn, .ref qNst, .int nsm])), (qNsn, .inl (cyI, 120, .inl nsf)), (qNst, .inl (cyI, 120, .inl nsg)), (qNz, .inr (3, [.ref qNzn, .ref qNzt, .int nzm])), (qNzn, .inl (cyI, 120, .inl nzf)), (qNzt, .inl (cyI, 120, .inl nzg)), (q4, .inr (5, [.ref q4p, .ref q4s, .ref q4z, .int fk])), (q4p, .inr (2, [.ref q4pl, .ref q4pr, .int fv])), (q4pl, .inr (0, [.int fl0, .int fl1, .int fl2, .int fl3, .int fl4, .int fl5, .int fl6, .int fl7, .int fl8, .int fl9, .int fl10, .int fl11, .int (bB flb)])), (q4pr, .inr (0, [.int fr0, .int fr1, .int fr2, .int fr3, .int fr4, .int fr5, .int fr6, .int fr7, .int fr8, .int fr9, .int fr10, .int fr11, .int (bB frb)])), (q4s, .inr (3, [.ref q4sn, .ref q4st, .int fsm])), (q4sn, .inl (cyI, 120, .inl fsf)), (q4st, .inl (cyI, 120, .inl fsg)), (q4z, .inr (3, [.ref q4zn, .ref q4zt, .int fzm])), (q4zn, .inl (cyI, 120, .inl fzf)), (q4zt, .inl (cyI, 120, .inl fzg))] o0 [(qM, .inr (7, [.ref qT, .ref qQ, .ref qR, .ref qD, .ref qN, .ref q4, .ref q1, .ref q2, .ref q3, .int (if 4 < (ud + 1) then 4 else (ud + 1))])), (qN, .inr (5, [.ref qNp, .ref qNs, .ref qNz, .int nk])), (qNp, .inr (2, [.ref qNpl, .ref qNpr, .int nv])), (qNpl, .inr (0, [.int nl0, .int nl1, .int nl2, .int nl3, .int nl4, .int nl5, .int nl6, .int nl7, .int nl8, .int nl9, .int nl10, .int nl11, .int (bB nlb)])), (qNpr, .inr (0, [.int nr0, .int nr1, .int nr2, .int m, .int nr4, .int nr5, .int nr6, .int nr7, .int nr8, .int nr9, .int nr10, .int nr11, .int (bB nrb)])), (qNs, .inr (3, [.ref qNsn, .ref qNst, .int nsm])), (qNsn, .inl (cyI, 120, .inl nsf)), (qNst, .inl (cyI, 120, .inl nsg)), (qNz, .inr (3, [.ref qNzn, .ref qNzt, .int nzm])), (qNzn, .inl (cyI, 120, .inl nzf)), (qNzt, .inl (cyI, 120, .inl nzg)), (q4, .inr (5, [.ref q4p, .ref q4s, .ref q4z, .int nk])), (q4p, .inr (2, [.ref q4pl, .ref q4pr, .int nv])), (q4pl, .inr (0, [.int nl0, .int nl1, .int nl2, .int nl3, .int nl4, .int nl5, .int nl6, .int nl7, .int nl8, .int nl9, .int nl10, .int nl11, .int (bB nlb)])), (q4pr, .inr (0, [.int nr0, .int nr1, .int nr2, .int nr3, .int nr4, .int nr5, .int nr6, .int nr7, .int nr8, .int nr9, .int nr10, .int nr11, .int (bB nrb)])), (q4s, .inr (3, [.ref q4sn, .ref q4st, .int nsm])), (q4sn, .inl (cyI, 120, .inl o1)), (q4st, .inl (cyI, 120, .inl o2)), (q4z, .inr (3, [.ref q4zn, .ref q4zt, .int nzm])), (q4zn, .inl (cyI, 120, .inl o3)), (q4zt, .inl (cyI, 120, .inl o4))] := by
  refine CI.of (cc := cX7_load) (n := 4) (ret := (some .int)) (by decide +kernel) rfl (Nat.le_of_ble_eq_true rfl) ?_
  intro p_ e_ s_ m_ bl_ me_ cd_ A_ ls X Y hr hlk hl
  have hx := X.1.1
  have hb := X.1.2.1
  have hl : lv_has ls 4 [(0, .ref qM), (1, .int 1), (2, .int m)] := hl
  unfold s_load_1_ok at hu
  refine lv_iload_n hx hb dX7_load_0 rfl (lv_at hl 1 rfl) ?_
  refine bSI (As := [.int 1]) (rest := []) X Y (c_isCrane l D cyC cyI 1 (s_isCrane 1) rfl) gX7_load_X7_isCrane rfl ⟨rfl, rfl⟩ hd_X7_isCrane.2 ⟨(Nat.le_of_ble_eq_true rfl), (Nat.le_of_ble_eq_true rfl)⟩ rfl rfl hl.1 (Nat.le_of_ble_eq_true rfl) ⟨Nat.zero_le _, Nat.zero_le _⟩ dX7_load_1 (fun H locs Y => ?_)
  refine lv_if_eq (tgt := 17) hx hb dX7_load_4 (by decide) (fun c_1 => ?_) (fun c_1 => ?_)
  · have c_1 := bB_f c_1
    exact absurd h0_ c_1
  · have c_1 := bB_t c_1
    refine lv_iload_n hx hb dX7_load_7 rfl (lv_at hl 2 rfl) ?_
    refine lv_iconst (v := 0) hx hb dX7_load_8 (by decide) ?_
    refine lv_bipush (v := 99) hx hb dX7_load_9 (by decide) ?_
    refine bSI (As := [.int m, .int 0, .int 99]) (rest := []) X Y (c_isWithin l D cyC cyI m 0 99 (s_isWithin m 0 99) rfl) gX7_load_X7_isWithin rfl ⟨rfl, rfl⟩ hd_X7_isWithin.2 ⟨(Nat.le_of_ble_eq_true rfl), (Nat.le_of_ble_eq_true rfl)⟩ rfl rfl hl.1 (Nat.le_of_ble_eq_true rfl) ⟨Nat.zero_le _, Nat.zero_le _⟩ dX7_load_11 (fun H locs Y => ?_)
    refine lv_if_ne (tgt := 19) hx hb dX7_load_14 (by decide) (fun c_2 => ?_) (fun c_2 => ?_)
    · have c_2 := bB_t c_2
      refine lv_aload_n hx hb dX7_load_19 rfl (lv_at hl 0 rfl) ?_
      refine bGet (v := .ref qN) (T := TX7) (N := 10) (ci := 7) X Y i_X7_load_X7 0 rfl rfl 4 (Nat.le_of_ble_eq_true rfl) f_X7_load_36 rfl rfl dX7_load_20 ?_
      refine bGet (v := .ref qNp) (T := TX5) (N := 4) (ci := 5) X Y i_X7_load_X5 1 rfl rfl 0 (Nat.le_of_ble_eq_true rfl) f_X7_load_95 rfl rfl dX7_load_23 ?_
      refine lv_iload_n hx hb dX7_load_26 rfl (lv_at hl 1 rfl) ?_
      refine bVR0 (As := [.int 1]) (rest := []) (wc := [(qNp, .inr (2, [.ref qNpl, .ref qNpr, .int nv]))]) (ci := 2) (q0 := 2) X Y (c_side1 l D cyC cyI qNp qNpl qNpr nv) gX7_load_X2_side rfl ⟨rfl, rfl⟩ hd_X2_side ⟨(Nat.le_of_ble_eq_true rfl), (Nat.le_of_ble_eq_true rfl)⟩ rfl rfl rfl [2] rfl rfl rfl rfl hl.1 (Nat.le_of_ble_eq_true rfl) ⟨Nat.zero_le _, Nat.zero_le _⟩ dX7_load_27 (fun H locs Y => ?_)
      refine bGet (v := .int nr3) (T := TX0) (N := 13) (ci := 0) X Y i_X7_load_X0 4 rfl rfl 3 (Nat.le_of_ble_eq_true rfl) f_X7_load_126 rfl rfl dX7_load_30 ?_
      refine lv_istore_n (lv' := [(3, .int nr3), (0, .ref qM), (1, .int 1), (2, .int m)]) hx hb dX7_load_33 rfl hl (by decide) rfl (fun ls hl => ?_)
      refine lv_iload_n hx hb dX7_load_34 rfl (lv_at hl 0 rfl) ?_
      refine lv_iload_n hx hb dX7_load_35 rfl (lv_at hl 3 rfl) ?_
      refine lv_icmp_ne (tgt := 42) hx hb dX7_load_36 (by decide) (fun c_3 => ?_) (fun c_3 => ?_)
      · have c_3 : ¬ (nr3 = m) := c_3
        refine lv_aload_n hx hb dX7_load_42 rfl (lv_at hl 1 rfl) ?_
        obtain ⟨u_4_0, u_4_1, u_4_2, u_4_3, hr_4⟩ := bEx4 (s_keepForUndo nsm nsf nsg nzm nzf nzg fsf fsg fzf fzg)
        rw [hr_4] at hu
        dsimp only at hu
        refine bVV (As := []) (rest := []) (wc := [(qM, .inr (7, [.ref qT, .ref qQ, .ref qR, .ref qD, .ref qN, .ref q1, .ref q2, .ref q3, .ref q4, .int ud])), (qN, .inr (5, [.ref qNp, .ref qNs, .ref qNz, .int nk])), (qNp, .inr (2, [.ref qNpl, .ref qNpr, .int nv])), (qNpl, .inr (0, [.int nl0, .int nl1, .int nl2, .int nl3, .int nl4, .int nl5, .int nl6, .int nl7, .int nl8, .int nl9, .int nl10, .int nl11, .int (bB nlb)])), (qNpr, .inr (0, [.int nr0, .int nr1, .int nr2, .int nr3, .int nr4, .int nr5, .int nr6, .int nr7, .int nr8, .int nr9, .int nr10, .int nr11, .int (bB nrb)])), (qNs, .inr (3, [.ref qNsn, .ref qNst, .int nsm])), (qNsn, .inl (cyI, 120, .inl nsf)), (qNst, .inl (cyI, 120, .inl nsg)), (qNz, .inr (3, [.ref qNzn, .ref qNzt, .int nzm])), (qNzn, .inl (cyI, 120, .inl nzf)), (qNzt, .inl (cyI, 120, .inl nzg)), (q4, .inr (5, [.ref q4p, .ref q4s, .ref q4z, .int fk])), (q4p, .inr (2, [.ref q4pl, .ref q4pr, .int fv])), (q4pl, .inr (0, [.int fl0, .int fl1, .int fl2, .int fl3, .int fl4, .int fl5, .int fl6, .int fl7, .int fl8, .int fl9, .int fl10, .int fl11, .int (bB flb)])), (q4pr, .inr (0, [.int fr0, .int fr1, .int fr2, .int fr3, .int fr4, .int fr5, .int fr6, .int fr7, .int fr8, .int fr9, .int fr10, .int fr11, .int (bB frb)])), (q4s, .inr (3, [.ref q4sn, .ref q4st, .int fsm])), (q4sn, .inl (cyI, 120, .inl fsf)), (q4st, .inl (cyI, 120, .inl fsg)), (q4z, .inr (3, [.ref q4zn, .ref q4zt, .int fzm])), (q4zn, .inl (cyI, 120, .inl fzf)), (q4zt, .inl (cyI, 120, .inl fzg))]) (w1 := [(qM, .inr (7, [.ref qT, .ref qQ, .ref qR, .ref qD, .ref qN, .ref q4, .ref q1, .ref q2, .ref q3, .int (if 4 < (ud + 1) then 4 else (ud + 1))])), (qN, .inr (5, [.ref qNp, .ref qNs, .ref qNz, .int nk])), (qNp, .inr (2, [.ref qNpl, .ref qNpr, .int nv])), (qNpl, .inr (0, [.int nl0, .int nl1, .int nl2, .int nl3, .int nl4, .int nl5, .int nl6, .int nl7, .int nl8, .int nl9, .int nl10, .int nl11, .int (bB nlb)])), (qNpr, .inr (0, [.int nr0, .int nr1, .int nr2, .int nr3, .int nr4, .int nr5, .int nr6, .int nr7, .int nr8, .int nr9, .int nr10, .int nr11, .int (bB nrb)])), (qNs, .inr (3, [.ref qNsn, .ref qNst, .int nsm])), (qNsn, .inl (cyI, 120, .inl nsf)), (qNst, .inl (cyI, 120, .inl nsg)), (qNz, .inr (3, [.ref qNzn, .ref qNzt, .int nzm])), (qNzn, .inl (cyI, 120, .inl nzf)), (qNzt, .inl (cyI, 120, .inl nzg)), (q4, .inr (5, [.ref q4p, .ref q4s, .ref q4z, .int nk])), (q4p, .inr (2, [.ref q4pl, .ref q4pr, .int nv])), (q4pl, .inr (0, [.int nl0, .int nl1, .int nl2, .int nl3, .int nl4, .int nl5, .int nl6, .int nl7, .int nl8, .int nl9, .int nl10, .int nl11, .int (bB nlb)])), (q4pr, .inr (0, [.int nr0, .int nr1, .int nr2, .int nr3, .int nr4, .int nr5, .int nr6, .int nr7, .int nr8, .int nr9, .int nr10, .int nr11, .int (bB nrb)])), (q4s, .inr (3, [.ref q4sn, .ref q4st, .int nsm])), (q4sn, .inl (cyI, 120, .inl u_4_0)), (q4st, .inl (cyI, 120, .inl u_4_1)), (q4z, .inr (3, [.ref q4zn, .ref q4zt, .int nzm])), (q4zn, .inl (cyI, 120, .inl u_4_2)), (q4zt, .inl (cyI, 120, .inl u_4_3))]) (ws' := [(qM, .inr (7, [.ref qT, .ref qQ, .ref qR, .ref qD, .ref qN, .ref q4, .ref q1, .ref q2, .ref q3, .int (if 4 < (ud + 1) then 4 else (ud + 1))])), (qN, .inr (5, [.ref qNp, .ref qNs, .ref qNz, .int nk])), (qNp, .inr (2, [.ref qNpl, .ref qNpr, .int nv])), (qNpl, .inr (0, [.int nl0, .int nl1, .int nl2, .int nl3, .int nl4, .int nl5, .int nl6, .int nl7, .int nl8, .int nl9, .int nl10, .int nl11, .int (bB nlb)])), (qNpr, .inr (0, [.int nr0, .int nr1, .int nr2, .int nr3, .int nr4, .int nr5, .int nr6, .int nr7, .int nr8, .int nr9, .int nr10, .int nr11, .int (bB nrb)])), (qNs, .inr (3, [.ref qNsn, .ref qNst, .int nsm])), (qNsn, .inl (cyI, 120, .inl nsf)), (qNst, .inl (cyI, 120, .inl nsg)), (qNz, .inr (3, [.ref qNzn, .ref qNzt, .int nzm])), (qNzn, .inl (cyI, 120, .inl nzf)), (qNzt, .inl (cyI, 120, .inl nzg)), (q4, .inr (5, [.ref q4p, .ref q4s, .ref q4z, .int nk])), (q4p, .inr (2, [.ref q4pl, .ref q4pr, .int nv])), (q4pl, .inr (0, [.int nl0, .int nl1, .int nl2, .int nl3, .int nl4, .int nl5, .int nl6, .int nl7, .int nl8, .int nl9, .int nl10, .int nl11, .int (bB nlb)])), (q4pr, .inr (0, [.int nr0, .int nr1, .int nr2, .int nr3, .int nr4, .int nr5, .int nr6, .int nr7, .int nr8, .int nr9, .int nr10, .int nr11, .int (bB nrb)])), (q4s, .inr (3, [.ref q4sn, .ref q4st, .int nsm])), (q4sn, .inl (cyI, 120, .inl u_4_0)), (q4st, .inl (cyI, 120, .inl u_4_1)), (q4z, .inr (3, [.ref q4zn, .ref q4zt, .int nzm])), (q4zn, .inl (cyI, 120, .inl u_4_2)), (q4zt, .inl (cyI, 120, .inl u_4_3))]) (nn := 21) (ci := 7) (q0 := 0) X Y (c_keepForUndo l D cyC cyI qM qT qQ qR qD qN q1 q2 q3 q4 ud nk qNp nv qNpl nl0 nl1 nl2 nl3 nl4 nl5 nl6 nl7 nl8 nl9 nl10 nl11 nlb qNpr nr0 nr1 nr2 nr3 nr4 nr5 nr6 nr7 nr8 nr9 nr10 nr11 nrb qNs qNsn qNst nsm nsf nsg qNz qNzn qNzt nzm nzf nzg fk q4p fv q4pl fl0 fl1 fl2 fl3 fl4 fl5 fl6 fl7 fl8 fl9 fl10 fl11 flb q4pr fr0 fr1 fr2 fr3 fr4 fr5 fr6 fr7 fr8 fr9 fr10 fr11 frb q4s q4sn q4st fsm fsf fsg q4z q4zn q4zt fzm fzf fzg u_4_0 u_4_1 u_4_2 u_4_3 hr_4) gX7_load_X7_keepForUndo rfl ⟨rfl, rfl⟩ hd_X7_keepForUndo ⟨(Nat.le_of_ble_eq_true rfl), (Nat.le_of_ble_eq_true rfl)⟩ rfl rfl rfl [0, 1, 2, 3, 4, 5, 6, 7, 8, 9, 10, 11, 12, 13, 14, 15, 16, 17, 18, 19, 20] [] rfl rfl rfl rfl rfl rfl (by decide) rfl rfl hl.1 (Nat.le_of_ble_eq_true rfl) ⟨Nat.zero_le _, Nat.zero_le _⟩ dX7_load_43 (fun H locs Y => ?_)
        refine lv_aload_n hx hb dX7_load_46 rfl (lv_at hl 1 rfl) ?_
        refine bGet (v := .ref qN) (T := TX7) (N := 10) (ci := 7) X Y i_X7_load_X7 0 rfl rfl 4 (Nat.le_of_ble_eq_true rfl) f_X7_load_36 rfl rfl dX7_load_47 ?_
        refine bGet (v := .ref qNp) (T := TX5) (N := 4) (ci := 5) X Y i_X7_load_X5 1 rfl rfl 0 (Nat.le_of_ble_eq_true rfl) f_X7_load_95 rfl rfl dX7_load_50 ?_
        refine lv_iload_n hx hb dX7_load_53 rfl (lv_at hl 2 rfl) ?_
        refine bVR0 (As := [.int 1]) (rest := []) (wc := [(qNp, .inr (2, [.ref qNpl, .ref qNpr, .int nv]))]) (ci := 2) (q0 := 2) X Y (c_side1 l D cyC cyI qNp qNpl qNpr nv) gX7_load_X2_side rfl ⟨rfl, rfl⟩ hd_X2_side ⟨(Nat.le_of_ble_eq_true rfl), (Nat.le_of_ble_eq_true rfl)⟩ rfl rfl rfl [2] rfl rfl rfl rfl hl.1 (Nat.le_of_ble_eq_true rfl) ⟨Nat.zero_le _, Nat.zero_le _⟩ dX7_load_54 (fun H locs Y => ?_)
        refine lv_iload_n hx hb dX7_load_57 rfl (lv_at hl 3 rfl) ?_
        refine bPut (T := TX0) (N := 13) (ci := 0) (ws' := [(qM, .inr (7, [.ref qT, .ref qQ, .ref qR, .ref qD, .ref qN, .ref q4, .ref q1, .ref q2, .ref q3, .int (if 4 < (ud + 1) then 4 else (ud + 1))])), (qN, .inr (5, [.ref qNp, .ref qNs, .ref qNz, .int nk])), (qNp, .inr (2, [.ref qNpl, .ref qNpr, .int nv])), (qNpl, .inr (0, [.int nl0, .int nl1, .int nl2, .int nl3, .int nl4, .int nl5, .int nl6, .int nl7, .int nl8, .int nl9, .int nl10, .int nl11, .int (bB nlb)])), (qNpr, .inr (0, [.int nr0, .int nr1, .int nr2, .int m, .int nr4, .int nr5, .int nr6, .int nr7, .int nr8, .int nr9, .int nr10, .int nr11, .int (bB nrb)])), (qNs, .inr (3, [.ref qNsn, .ref qNst, .int nsm])), (qNsn, .inl (cyI, 120, .inl nsf)), (qNst, .inl (cyI, 120, .inl nsg)), (qNz, .inr (3, [.ref qNzn, .ref qNzt, .int nzm])), (qNzn, .inl (cyI, 120, .inl nzf)), (qNzt, .inl (cyI, 120, .inl nzg)), (q4, .inr (5, [.ref q4p, .ref q4s, .ref q4z, .int nk])), (q4p, .inr (2, [.ref q4pl, .ref q4pr, .int nv])), (q4pl, .inr (0, [.int nl0, .int nl1, .int nl2, .int nl3, .int nl4, .int nl5, .int nl6, .int nl7, .int nl8, .int nl9, .int nl10, .int nl11, .int (bB nlb)])), (q4pr, .inr (0, [.int nr0, .int nr1, .int nr2, .int nr3, .int nr4, .int nr5, .int nr6, .int nr7, .int nr8, .int nr9, .int nr10, .int nr11, .int (bB nrb)])), (q4s, .inr (3, [.ref q4sn, .ref q4st, .int nsm])), (q4sn, .inl (cyI, 120, .inl u_4_0)), (q4st, .inl (cyI, 120, .inl u_4_1)), (q4z, .inr (3, [.ref q4zn, .ref q4zt, .int nzm])), (q4zn, .inl (cyI, 120, .inl u_4_2)), (q4zt, .inl (cyI, 120, .inl u_4_3))]) X Y i_X7_load_X0 tyX0 tyX0_ok nmX0 4 rfl rfl 3 (Nat.le_of_ble_eq_true rfl) f_X7_load_126 rfl rfl rfl rfl (Nat.le_of_ble_eq_true rfl) rfl dX7_load_58 (fun H locs Y => ?_)
        refine lv_iload_n hx hb dX7_load_61 rfl (lv_at hl 0 rfl) ?_
        have h9 := (Prod.mk.inj hu).1; replace hu := (Prod.mk.inj hu).2; subst h9
        have h9 := (Prod.mk.inj hu).1; replace hu := (Prod.mk.inj hu).2; subst h9
        have h9 := (Prod.mk.inj hu).1; replace hu := (Prod.mk.inj hu).2; subst h9
        have h9 := (Prod.mk.inj hu).1; replace hu := (Prod.mk.inj hu).2; subst h9
        subst hu
        exact bEndI X Y hr hlk dX7_load_62 rfl rfl
      · have c_3 : nr3 = m := c_3
        exact absurd c_3 h2_
    · have c_2 := bB_f c_2
      exact absurd h1_ c_2
def s_load_1_no (m : Int32) : Int32 :=
  if (s_isCrane 1) = true then
    if (s_isWithin m 0 99) = true then
      (-2)
    else
      (-1)
  else
    (-1)
set_option maxHeartbeats 4000000 in
set_option maxRecDepth 100000 in
theorem c_load_1_no (l : Launch) (D : va_G) (cyC cyI : ClassId) (qM : Nat) (qT : Nat) (qQ : Nat) (qR : Nat) (qD : Nat) (qN : Nat) (q1 : Nat) (q2 : Nat) (q3 : Nat) (q4 : Nat) (ud : Int32) (nk : Int32) (qNp : Nat) (nv : Int32) (qNpl : Nat) (nl0 : Int32) (nl1 : Int32) (nl2 : Int32) (nl3 : Int32) (nl4 : Int32) (nl5 : Int32) (nl6 : Int32) (nl7 : Int32) (nl8 : Int32) (nl9 : Int32) (nl10 : Int32) (nl11 : Int32) (nlb : Bool) (qNpr : Nat) (nr0 : Int32) (nr1 : Int32) (nr2 : Int32) (nr3 : Int32) (nr4 : Int32) (nr5 : Int32) (nr6 : Int32) (nr7 : Int32) (nr8 : Int32) (nr9 : Int32) (nr10 : Int32) (nr11 : Int32) (nrb : Bool) (qNs : Nat) (qNz : Nat) (m : Int32) (o0 : Int32) (hu : s_load_1_no m = o0) (hbad : ((s_isCrane 1) = true) → ((s_isWithin m 0 99) = true) → ¬ (¬ (nr3 = m))) : CI l yX7_load wsX7_load { frames := 1, cells := 0, slots := 0, locals := 22 } D cyC cyI [.ref qM, .int 1, .int m] [(qM, .inr (7, [.ref qT, .ref qQ, .ref qR, .ref qD, .ref qN, .ref q1, .ref q2, .ref q3, .ref q4, .int ud])), (qN, .inr (5, [.ref qNp, .ref qNs, .ref qNz, .int nk])), (qNp, .inr (2, [.ref qNpl, .ref qNpr, .int nv])), (qNpl, .inr (0, [.int nl0, .int nl1, .int nl2, .int nl3, .int nl4, .int nl5, .int nl6, .int nl7, .int nl8, .int nl9, .int nl10, .int nl11, .int (bB nlb)])), (qNpr, .inr (0, [.int nr0, .int nr1, .int nr2, .int nr3, .int nr4, .int nr5, .int nr6, .int nr7, .int nr8, .int nr9, .int nr10, .int nr11, .int (bB nrb)]))] o0 [(qM, .inr (7, [.ref qT, .ref qQ, .ref qR, .ref qD, .ref qN, .ref q1, .ref q2, .ref q3, .ref q4, .int ud])), (qN, .inr (5, [.ref qNp, .ref qNs, .ref qNz, .int nk])), (qNp, .inr (2, [.ref qNpl, .ref qNpr, .int nv])), (qNpl, .inr (0, [.int nl0, .int nl1, .int nl2, .int nl3, .int nl4, .int nl5, .int nl6, .int nl7, .int nl8, .int nl9, .int nl10, .int nl11, .int (bB nlb)])), (qNpr, .inr (0, [.int nr0, .int nr1, .int nr2, .int nr3, .int nr4, .int nr5, .int nr6, .int nr7, .int nr8, .int nr9, .int nr10, .int nr11, .int (bB nrb)]))] := by
  refine CI.of (cc := cX7_load) (n := 4) (ret := (some .int)) (by decide +kernel) rfl (Nat.le_of_ble_eq_true rfl) ?_
  intro p_ e_ s_ m_ bl_ me_ cd_ A_ ls X Y hr hlk hl
  have hx := X.1.1
  have hb := X.1.2.1
  have hl : lv_has ls 4 [(0, .ref qM), (1, .int 1), (2, .int m)] := hl
  unfold s_load_1_no at hu
  refine lv_iload_n hx hb dX7_load_0 rfl (lv_at hl 1 rfl) ?_
  refine bSI (As := [.int 1]) (rest := []) X Y (c_isCrane l D cyC cyI 1 (s_isCrane 1) rfl) gX7_load_X7_isCrane rfl ⟨rfl, rfl⟩ hd_X7_isCrane.2 ⟨(Nat.le_of_ble_eq_true rfl), (Nat.le_of_ble_eq_true rfl)⟩ rfl rfl hl.1 (Nat.le_of_ble_eq_true rfl) ⟨Nat.zero_le _, Nat.zero_le _⟩ dX7_load_1 (fun H locs Y => ?_)
  refine lv_if_eq (tgt := 17) hx hb dX7_load_4 (by decide) (fun c_1 => ?_) (fun c_1 => ?_)
  · have c_1 := bB_f c_1
    rw [if_neg c_1] at hu
    refine lv_iconst (v := (-1)) hx hb dX7_load_17 (by decide) ?_
    subst hu
    exact bEndI X Y hr hlk dX7_load_18 rfl rfl
  · have c_1 := bB_t c_1
    rw [if_pos c_1] at hu
    refine lv_iload_n hx hb dX7_load_7 rfl (lv_at hl 2 rfl) ?_
    refine lv_iconst (v := 0) hx hb dX7_load_8 (by decide) ?_
    refine lv_bipush (v := 99) hx hb dX7_load_9 (by decide) ?_
    refine bSI (As := [.int m, .int 0, .int 99]) (rest := []) X Y (c_isWithin l D cyC cyI m 0 99 (s_isWithin m 0 99) rfl) gX7_load_X7_isWithin rfl ⟨rfl, rfl⟩ hd_X7_isWithin.2 ⟨(Nat.le_of_ble_eq_true rfl), (Nat.le_of_ble_eq_true rfl)⟩ rfl rfl hl.1 (Nat.le_of_ble_eq_true rfl) ⟨Nat.zero_le _, Nat.zero_le _⟩ dX7_load_11 (fun H locs Y => ?_)
    refine lv_if_ne (tgt := 19) hx hb dX7_load_14 (by decide) (fun c_2 => ?_) (fun c_2 => ?_)
    · have c_2 := bB_t c_2
      rw [if_pos c_2] at hu
      refine lv_aload_n hx hb dX7_load_19 rfl (lv_at hl 0 rfl) ?_
      refine bGet (v := .ref qN) (T := TX7) (N := 10) (ci := 7) X Y i_X7_load_X7 0 rfl rfl 4 (Nat.le_of_ble_eq_true rfl) f_X7_load_36 rfl rfl dX7_load_20 ?_
      refine bGet (v := .ref qNp) (T := TX5) (N := 4) (ci := 5) X Y i_X7_load_X5 1 rfl rfl 0 (Nat.le_of_ble_eq_true rfl) f_X7_load_95 rfl rfl dX7_load_23 ?_
      refine lv_iload_n hx hb dX7_load_26 rfl (lv_at hl 1 rfl) ?_
      refine bVR0 (As := [.int 1]) (rest := []) (wc := [(qNp, .inr (2, [.ref qNpl, .ref qNpr, .int nv]))]) (ci := 2) (q0 := 2) X Y (c_side1 l D cyC cyI qNp qNpl qNpr nv) gX7_load_X2_side rfl ⟨rfl, rfl⟩ hd_X2_side ⟨(Nat.le_of_ble_eq_true rfl), (Nat.le_of_ble_eq_true rfl)⟩ rfl rfl rfl [2] rfl rfl rfl rfl hl.1 (Nat.le_of_ble_eq_true rfl) ⟨Nat.zero_le _, Nat.zero_le _⟩ dX7_load_27 (fun H locs Y => ?_)
      refine bGet (v := .int nr3) (T := TX0) (N := 13) (ci := 0) X Y i_X7_load_X0 4 rfl rfl 3 (Nat.le_of_ble_eq_true rfl) f_X7_load_126 rfl rfl dX7_load_30 ?_
      refine lv_istore_n (lv' := [(3, .int nr3), (0, .ref qM), (1, .int 1), (2, .int m)]) hx hb dX7_load_33 rfl hl (by decide) rfl (fun ls hl => ?_)
      refine lv_iload_n hx hb dX7_load_34 rfl (lv_at hl 0 rfl) ?_
      refine lv_iload_n hx hb dX7_load_35 rfl (lv_at hl 3 rfl) ?_
      refine lv_icmp_ne (tgt := 42) hx hb dX7_load_36 (by decide) (fun c_3 => ?_) (fun c_3 => ?_)
      · have c_3 : ¬ (nr3 = m) := c_3
        exact absurd c_3 (hbad c_1 c_2)
      · have c_3 : nr3 = m := c_3
        refine lv_bipush (v := (-2)) hx hb dX7_load_39 (by decide) ?_
        subst hu
        exact bEndI X Y hr hlk dX7_load_41 rfl rfl
    · have c_2 := bB_f c_2
      rw [if_neg c_2] at hu
      refine lv_iconst (v := (-1)) hx hb dX7_load_17 (by decide) ?_
      subst hu
      exact bEndI X Y hr hlk dX7_load_18 rfl rfl
def s_target_b : Int32 :=
  (-1)
set_option maxHeartbeats 4000000 in
set_option maxRecDepth 100000 in
theorem c_target_b (l : Launch) (D : va_G) (cyC cyI : ClassId) (qM : Nat) (qT : Nat) (qQ : Nat) (qR : Nat) (qD : Nat) (qN : Nat) (q1 : Nat) (q2 : Nat) (q3 : Nat) (q4 : Nat) (ud : Int32) (c : Int32) (rp : Int32) (o0 : Int32) (hu : s_target_b = o0) (hc0 : ¬ c = 0) (hc1 : ¬ c = 1) : CI l yX7_target wsX7_target { frames := 1, cells := 0, slots := 0, locals := 20 } D cyC cyI [.ref qM, .int c, .int rp] [(qM, .inr (7, [.ref qT, .ref qQ, .ref qR, .ref qD, .ref qN, .ref q1, .ref q2, .ref q3, .ref q4, .int ud]))] o0 [(qM, .inr (7, [.ref qT, .ref qQ, .ref qR, .ref qD, .ref qN, .ref q1, .ref q2, .ref q3, .ref q4, .int ud]))] := by
  refine CI.of (cc := cX7_target) (n := 4) (ret := (some .int)) (by decide +kernel) rfl (Nat.le_of_ble_eq_true rfl) ?_
  intro p_ e_ s_ m_ bl_ me_ cd_ A_ ls X Y hr hlk hl
  have hx := X.1.1
  have hb := X.1.2.1
  have hl : lv_has ls 4 [(0, .ref qM), (1, .int c), (2, .int rp)] := hl
  unfold s_target_b at hu
  refine lv_iload_n hx hb dX7_target_0 rfl (lv_at hl 1 rfl) ?_
  refine bSI (As := [.int c]) (rest := []) X Y (c_isCrane l D cyC cyI c (s_isCrane c) rfl) gX7_target_X7_isCrane rfl ⟨rfl, rfl⟩ hd_X7_isCrane.2 ⟨(Nat.le_of_ble_eq_true rfl), (Nat.le_of_ble_eq_true rfl)⟩ rfl rfl hl.1 (Nat.le_of_ble_eq_true rfl) ⟨Nat.zero_le _, Nat.zero_le _⟩ dX7_target_1 (fun H locs Y => ?_)
  refine lv_if_eq (tgt := 14) hx hb dX7_target_4 (by decide) (fun c_1 => ?_) (fun c_1 => ?_)
  · have c_1 := bB_f c_1
    refine lv_iconst (v := (-1)) hx hb dX7_target_14 (by decide) ?_
    subst hu
    exact bEndI X Y hr hlk dX7_target_15 rfl rfl
  · have c_1 := bB_t c_1
    exact absurd c_1 (isCrane_no hc0 hc1)
def s_load_b : Int32 :=
  (-1)
set_option maxHeartbeats 4000000 in
set_option maxRecDepth 100000 in
theorem c_load_b (l : Launch) (D : va_G) (cyC cyI : ClassId) (qM : Nat) (qT : Nat) (qQ : Nat) (qR : Nat) (qD : Nat) (qN : Nat) (q1 : Nat) (q2 : Nat) (q3 : Nat) (q4 : Nat) (ud : Int32) (c : Int32) (m : Int32) (o0 : Int32) (hu : s_load_b = o0) (hc0 : ¬ c = 0) (hc1 : ¬ c = 1) : CI l yX7_load wsX7_load { frames := 1, cells := 0, slots := 0, locals := 20 } D cyC cyI [.ref qM, .int c, .int m] [(qM, .inr (7, [.ref qT, .ref qQ, .ref qR, .ref qD, .ref qN, .ref q1, .ref q2, .ref q3, .ref q4, .int ud]))] o0 [(qM, .inr (7, [.ref qT, .ref qQ, .ref qR, .ref qD, .ref qN, .ref q1, .ref q2, .ref q3, .ref q4, .int ud]))] := by
  refine CI.of (cc := cX7_load) (n := 4) (ret := (some .int)) (by decide +kernel) rfl (Nat.le_of_ble_eq_true rfl) ?_
  intro p_ e_ s_ m_ bl_ me_ cd_ A_ ls X Y hr hlk hl
  have hx := X.1.1
  have hb := X.1.2.1
  have hl : lv_has ls 4 [(0, .ref qM), (1, .int c), (2, .int m)] := hl
  unfold s_load_b at hu
  refine lv_iload_n hx hb dX7_load_0 rfl (lv_at hl 1 rfl) ?_
  refine bSI (As := [.int c]) (rest := []) X Y (c_isCrane l D cyC cyI c (s_isCrane c) rfl) gX7_load_X7_isCrane rfl ⟨rfl, rfl⟩ hd_X7_isCrane.2 ⟨(Nat.le_of_ble_eq_true rfl), (Nat.le_of_ble_eq_true rfl)⟩ rfl rfl hl.1 (Nat.le_of_ble_eq_true rfl) ⟨Nat.zero_le _, Nat.zero_le _⟩ dX7_load_1 (fun H locs Y => ?_)
  refine lv_if_eq (tgt := 17) hx hb dX7_load_4 (by decide) (fun c_1 => ?_) (fun c_1 => ?_)
  · have c_1 := bB_f c_1
    refine lv_iconst (v := (-1)) hx hb dX7_load_17 (by decide) ?_
    subst hu
    exact bEndI X Y hr hlk dX7_load_18 rfl rfl
  · have c_1 := bB_t c_1
    exact absurd c_1 (isCrane_no hc0 hc1)
theorem i_X7_tick_X7 : ∀ w ∈ wsX70, w ∈ wsX7_tick := by decide +kernel
theorem f_X7_tick_36 : Cond.fieldLink RX7 36 "SwingCranes" "now" "LSwingCranes$Story;" ∈ wsX7_tick := by decide +kernel
theorem i_X7_tick_X5 : ∀ w ∈ wsX50, w ∈ wsX7_tick := by decide +kernel
theorem f_X7_tick_132 : Cond.fieldLink RX7 132 "SwingCranes$Story" "ticks" "I" ∈ wsX7_tick := by decide +kernel
theorem f_X7_tick_26 : Cond.fieldLink RX7 26 "SwingCranes" "rules" "LSwingCranes$Layout;" ∈ wsX7_tick := by decide +kernel
theorem hd_X5_goOn : bD1 yX5_goOn RX5 1 := by decide +kernel
def g_tick (nv : Int32) (nl3 : Int32) (nl7 : Int32) (nr3 : Int32) (nr7 : Int32) (r0 : Int32) (r1 : Int32) (r2 : Int32) (r3 : Int32) (r4 : Int32) (tn : Int32) : Nat → Nat → Int32 → Int32 → Int32 → Int32 → Int32 → Int32 → Int32 → Int32 → Int32 → Int32 → Int32 → Int32 → Int32 → Bool → Int32 → Int32 → Int32 → Int32 → Int32 → Int32 → Int32 → Int32 → Int32 → Int32 → Bool → Int32 → (Nat → Int32) → (Nat → Int32) → Int32 → (Nat → Int32) → (Nat → Int32) → (Nat → Int32) → (Nat → Int32) → (Nat → Int32) → (Nat → Int32) → Int32 × Int32 × Int32 × Int32 × Int32 × Int32 × Int32 × Int32 × Int32 × Int32 × Int32 × Int32 × Int32 × Bool × Int32 × Int32 × Int32 × Int32 × Int32 × Int32 × Int32 × Int32 × Int32 × Int32 × Bool × Int32 × (Nat → Int32) × (Nat → Int32) × Int32 × (Nat → Int32) × (Nat → Int32) × (Nat → Int32) × (Nat → Int32) × (Nat → Int32) × (Nat → Int32)
  | 0, _, _, _, _, _, _, _, _, _, _, _, _, _, _, _, _, _, _, _, _, _, _, _, _, _, _, _, _, _, _, _, _, _, _, _, _ => (0, 0, 0, 0, 0, 0, 0, 0, 0, 0, 0, 0, 0, false, 0, 0, 0, 0, 0, 0, 0, 0, 0, 0, false, 0, fun _ => 0, fun _ => 0, 0, fun _ => 0, fun _ => 0, fun _ => 0, fun _ => 0, fun _ => 0, fun _ => 0)
  | n_ + 1, j, br, u9, wk, wl0, wl1, wl2, wl4, wl5, wl6, wl8, wl9, wl10, wl11, wlb, wr0, wr1, wr2, wr4, wr5, wr6, wr8, wr9, wr10, wr11, wrb, wsm, wsf, wsg, wzm, wzf, wzg, v0, v1, v2, v3 =>
    if tn ≤ nI j then
      (br, u9, wk, wl0, wl1, wl2, wl4, wl5, wl6, wl8, wl9, wl10, wl11, wlb, wr0, wr1, wr2, wr4, wr5, wr6, wr8, wr9, wr10, wr11, wrb, wsm, wsf, wsg, wzm, wzf, wzg, v0, v1, v2, v3)
    else
      match s_storyGoOn nv wl0 wl1 wl2 nl3 wl4 wl5 wl6 nl7 wl8 wl9 wl10 wl11 wr0 wr1 wr2 nr3 wr4 wr5 wr6 nr7 wr8 wr9 wr10 wr11 wsm wsf wsg wzm wzf wzg r0 r1 r2 r3 r4 with
      | (u_2_0, u_2_1, u_2_2, u_2_3, u_2_4, u_2_5, u_2_6, u_2_7, u_2_8, u_2_9, u_2_10, u_2_11, u_2_12, u_2_13, u_2_14, u_2_15, u_2_16, u_2_17, u_2_18, u_2_19, u_2_20, u_2_21, u_2_22, u_2_23, u_2_24) =>
        g_tick nv nl3 nl7 nr3 nr7 r0 r1 r2 r3 r4 tn n_ (j + 1) (br + u_2_0) u9 (wk + 1) u_2_1 u_2_2 u_2_3 u_2_4 u_2_5 u_2_6 (wl8 - 1) u_2_7 (wl10 - 1) u_2_8 u_2_9 u_2_10 u_2_11 u_2_12 u_2_13 u_2_14 u_2_15 (wr8 - 1) u_2_16 (wr10 - 1) u_2_17 u_2_18 u_2_19 u_2_20 u_2_21 u_2_22 u_2_23 u_2_24 v0 v1 v2 v3
def s_tick_ok (ud : Int32) (nk : Int32) (nv : Int32) (nl0 : Int32) (nl1 : Int32) (nl2 : Int32) (nl3 : Int32) (nl4 : Int32) (nl5 : Int32) (nl6 : Int32) (nl7 : Int32) (nl8 : Int32) (nl9 : Int32) (nl10 : Int32) (nl11 : Int32) (nlb : Bool) (nr0 : Int32) (nr1 : Int32) (nr2 : Int32) (nr3 : Int32) (nr4 : Int32) (nr5 : Int32) (nr6 : Int32) (nr7 : Int32) (nr8 : Int32) (nr9 : Int32) (nr10 : Int32) (nr11 : Int32) (nrb : Bool) (nsm : Int32) (nsf : Nat → Int32) (nsg : Nat → Int32) (nzm : Int32) (nzf : Nat → Int32) (nzg : Nat → Int32) (fsf : Nat → Int32) (fsg : Nat → Int32) (fzf : Nat → Int32) (fzg : Nat → Int32) (r0 : Int32) (r1 : Int32) (r2 : Int32) (r3 : Int32) (r4 : Int32) (tn : Int32) : Int32 × Int32 × Int32 × Int32 × Int32 × Int32 × Int32 × Int32 × Int32 × Int32 × Int32 × Int32 × Int32 × Bool × Int32 × Int32 × Int32 × Int32 × Int32 × Int32 × Int32 × Int32 × Int32 × Int32 × Bool × Int32 × (Nat → Int32) × (Nat → Int32) × Int32 × (Nat → Int32) × (Nat → Int32) × (Nat → Int32) × (Nat → Int32) × (Nat → Int32) × (Nat → Int32) :=
  match s_keepForUndo nsm nsf nsg nzm nzf nzg fsf fsg fzf fzg with
  | (u_3_0, u_3_1, u_3_2, u_3_3) =>
    g_tick nv nl3 nl7 nr3 nr7 r0 r1 r2 r3 r4 tn (61) 0 0 (if 4 < (ud + 1) then 4 else (ud + 1)) nk nl0 nl1 nl2 nl4 nl5 nl6 nl8 nl9 nl10 nl11 nlb nr0 nr1 nr2 nr4 nr5 nr6 nr8 nr9 nr10 nr11 nrb nsm nsf nsg nzm nzf nzg u_3_0 u_3_1 u_3_2 u_3_3
set_option maxHeartbeats 4000000 in
set_option maxRecDepth 100000 in
theorem lp_tick {p_ : Program} {e_ : Env} {s_ : State} {m_ : MethodId} {bl_ : List Frame} {me_ : Method} {cd_ : Code} {A_ : Nat → Prop} (l : Launch) (D : va_G) (cyC cyI : ClassId) (qM : Nat) (qT : Nat) (qQ : Nat) (qR : Nat) (qD : Nat) (qN : Nat) (q1 : Nat) (q2 : Nat) (q3 : Nat) (q4 : Nat) (ud : Int32) (nk : Int32) (qNp : Nat) (nv : Int32) (qNpl : Nat) (nl0 : Int32) (nl1 : Int32) (nl2 : Int32) (nl3 : Int32) (nl4 : Int32) (nl5 : Int32) (nl6 : Int32) (nl7 : Int32) (nl8 : Int32) (nl9 : Int32) (nl10 : Int32) (nl11 : Int32) (nlb : Bool) (qNpr : Nat) (nr0 : Int32) (nr1 : Int32) (nr2 : Int32) (nr3 : Int32) (nr4 : Int32) (nr5 : Int32) (nr6 : Int32) (nr7 : Int32) (nr8 : Int32) (nr9 : Int32) (nr10 : Int32) (nr11 : Int32) (nrb : Bool) (qNs : Nat) (qNsn : Nat) (qNst : Nat) (nsm : Int32) (nsf : Nat → Int32) (nsg : Nat → Int32) (qNz : Nat) (qNzn : Nat) (qNzt : Nat) (nzm : Int32) (nzf : Nat → Int32) (nzg : Nat → Int32) (fk : Int32) (q4p : Nat) (fv : Int32) (q4pl : Nat) (fl0 : Int32) (fl1 : Int32) (fl2 : Int32) (fl3 : Int32) (fl4 : Int32) (fl5 : Int32) (fl6 : Int32) (fl7 : Int32) (fl8 : Int32) (fl9 : Int32) (fl10 : Int32) (fl11 : Int32) (flb : Bool) (q4pr : Nat) (fr0 : Int32) (fr1 : Int32) (fr2 : Int32) (fr3 : Int32) (fr4 : Int32) (fr5 : Int32) (fr6 : Int32) (fr7 : Int32) (fr8 : Int32) (fr9 : Int32) (fr10 : Int32) (fr11 : Int32) (frb : Bool) (q4s : Nat) (q4sn : Nat) (q4st : Nat) (fsm : Int32) (fsf : Nat → Int32) (fsg : Nat → Int32) (q4z : Nat) (q4zn : Nat) (q4zt : Nat) (fzm : Int32) (fzf : Nat → Int32) (fzg : Nat → Int32) (qRl : Nat) (qRr : Nat) (r0 : Int32) (r1 : Int32) (r2 : Int32) (r3 : Int32) (r4 : Int32) (tn : Int32) (o0 : Int32) (o1 : Int32) (o2 : Int32) (o3 : Int32) (o4 : Int32) (o5 : Int32) (o6 : Int32) (o7 : Int32) (o8 : Int32) (o9 : Int32) (o10 : Int32) (o11 : Int32) (o12 : Int32) (o13 : Bool) (o14 : Int32) (o15 : Int32) (o16 : Int32) (o17 : Int32) (o18 : Int32) (o19 : Int32) (o20 : Int32) (o21 : Int32) (o22 : Int32) (o23 : Int32) (o24 : Bool) (o25 : Int32) (o26 : Nat → Int32) (o27 : Nat → Int32) (o28 : Int32) (o29 : Nat → Int32) (o30 : Nat → Int32) (o31 : Nat → Int32) (o32 : Nat → Int32) (o33 : Nat → Int32) (o34 : Nat → Int32) (X : bX p_ s_ m_ ([.ref qM, .int tn] : List Value).toArray cd_ cX7_tick 4 wsX7_tick yX7_tick.cls D cyC cyI) (hr : me_.sig.returnType = (some .int)) (hlk : me_.locks = false) (h0_ : (s_isWithin tn 1 60) = true) (h1_ : nk + tn ≤ 9999) : ∀ (n_ : Nat) (j : Nat) (br : Int32) (u9 : Int32) (wk : Int32) (wl0 : Int32) (wl1 : Int32) (wl2 : Int32) (wl4 : Int32) (wl5 : Int32) (wl6 : Int32) (wl8 : Int32) (wl9 : Int32) (wl10 : Int32) (wl11 : Int32) (wlb : Bool) (wr0 : Int32) (wr1 : Int32) (wr2 : Int32) (wr4 : Int32) (wr5 : Int32) (wr6 : Int32) (wr8 : Int32) (wr9 : Int32) (wr10 : Int32) (wr11 : Int32) (wrb : Bool) (wsm : Int32) (wsf : Nat → Int32) (wsg : Nat → Int32) (wzm : Int32) (wzf : Nat → Int32) (wzg : Nat → Int32) (v0 : Nat → Int32) (v1 : Nat → Int32) (v2 : Nat → Int32) (v3 : Nat → Int32) (hN : 61 ≤ j + n_) (hJ : j ≤ 60) (hK : tn ≤ nI 60) (hu : g_tick nv nl3 nl7 nr3 nr7 r0 r1 r2 r3 r4 tn n_ j br u9 wk wl0 wl1 wl2 wl4 wl5 wl6 wl8 wl9 wl10 wl11 wlb wr0 wr1 wr2 wr4 wr5 wr6 wr8 wr9 wr10 wr11 wrb wsm wsf wsg wzm wzf wzg v0 v1 v2 v3 = (o0, o1, o2, o3, o4, o5, o6, o7, o8, o9, o10, o11, o12, o13, o14, o15, o16, o17, o18, o19, o20, o21, o22, o23, o24, o25, o26, o27, o28, o29, o30, o31, o32, o33, o34)) (ls : Array Slot) (H : Heap) (locs : List Loc), lv_has ls 4 [(0, .ref qM), (1, .int tn), (2, .int br), (3, .int (nI j))] → bY D A_ s_.heap [(qM, .inr (7, [.ref qT, .ref qQ, .ref qR, .ref qD, .ref qN, .ref q4, .ref q1, .ref q2, .ref q3, .int u9])), (qN, .inr (5, [.ref qNp, .ref qNs, .ref qNz, .int wk])), (qNp, .inr (2, [.ref qNpl, .ref qNpr, .int nv])), (qNpl, .inr (0, [.int wl0, .int wl1, .int wl2, .int nl3, .int wl4, .int wl5, .int wl6, .int nl7, .int wl8, .int wl9, .int wl10, .int wl11, .int (bB wlb)])), (qNpr, .inr (0, [.int wr0, .int wr1, .int wr2, .int nr3, .int wr4, .int wr5, .int wr6, .int nr7, .int wr8, .int wr9, .int wr10, .int wr11, .int (bB wrb)])), (qNs, .inr (3, [.ref qNsn, .ref qNst, .int wsm])), (qNsn, .inl (cyI, 120, .inl wsf)), (qNst, .inl (cyI, 120, .inl wsg)), (qNz, .inr (3, [.ref qNzn, .ref qNzt, .int wzm])), (qNzn, .inl (cyI, 120, .inl wzf)), (qNzt, .inl (cyI, 120, .inl wzg)), (q4, .inr (5, [.ref q4p, .ref q4s, .ref q4z, .int nk])), (q4p, .inr (2, [.ref q4pl, .ref q4pr, .int nv])), (q4pl, .inr (0, [.int nl0, .int nl1, .int nl2, .int nl3, .int nl4, .int nl5, .int nl6, .int nl7, .int nl8, .int nl9, .int nl10, .int nl11, .int (bB nlb)])), (q4pr, .inr (0, [.int nr0, .int nr1, .int nr2, .int nr3, .int nr4, .int nr5, .int nr6, .int nr7, .int nr8, .int nr9, .int nr10, .int nr11, .int (bB nrb)])), (q4s, .inr (3, [.ref q4sn, .ref q4st, .int nsm])), (q4sn, .inl (cyI, 120, .inl v0)), (q4st, .inl (cyI, 120, .inl v1)), (q4z, .inr (3, [.ref q4zn, .ref q4zt, .int nzm])), (q4zn, .inl (cyI, 120, .inl v2)), (q4zt, .inl (cyI, 120, .inl v3)), (qR, .inr (1, [.int r0, .int r1, .int r2, .int r3, .int r4, .ref qRl, .ref qRr]))] H locs → W p_ l e_ ({ frames := 6, cells := 0, slots := 0, locals := 130 } : Room) s_ m_ ([.ref qM, .int tn] : List Value).toArray bl_ me_ cd_ H locs 0 0 (bQI bl_ ([.ref qM, .int tn] : List Value).toArray s_ D [(qM, .inr (7, [.ref qT, .ref qQ, .ref qR, .ref qD, .ref qN, .ref q4, .ref q1, .ref q2, .ref q3, .int o1])), (qN, .inr (5, [.ref qNp, .ref qNs, .ref qNz, .int o2])), (qNp, .inr (2, [.ref qNpl, .ref qNpr, .int nv])), (qNpl, .inr (0, [.int o3, .int o4, .int o5, .int nl3, .int o6, .int o7, .int o8, .int nl7, .int o9, .int o10, .int o11, .int o12, .int (bB o13)])), (qNpr, .inr (0, [.int o14, .int o15, .int o16, .int nr3, .int o17, .int o18, .int o19, .int nr7, .int o20, .int o21, .int o22, .int o23, .int (bB o24)])), (qNs, .inr (3, [.ref qNsn, .ref qNst, .int o25])), (qNsn, .inl (cyI, 120, .inl o26)), (qNst, .inl (cyI, 120, .inl o27)), (qNz, .inr (3, [.ref qNzn, .ref qNzt, .int o28])), (qNzn, .inl (cyI, 120, .inl o29)), (qNzt, .inl (cyI, 120, .inl o30)), (q4, .inr (5, [.ref q4p, .ref q4s, .ref q4z, .int nk])), (q4p, .inr (2, [.ref q4pl, .ref q4pr, .int nv])), (q4pl, .inr (0, [.int nl0, .int nl1, .int nl2, .int nl3, .int nl4, .int nl5, .int nl6, .int nl7, .int nl8, .int nl9, .int nl10, .int nl11, .int (bB nlb)])), (q4pr, .inr (0, [.int nr0, .int nr1, .int nr2, .int nr3, .int nr4, .int nr5, .int nr6, .int nr7, .int nr8, .int nr9, .int nr10, .int nr11, .int (bB nrb)])), (q4s, .inr (3, [.ref q4sn, .ref q4st, .int nsm])), (q4sn, .inl (cyI, 120, .inl o31)), (q4st, .inl (cyI, 120, .inl o32)), (q4z, .inr (3, [.ref q4zn, .ref q4zt, .int nzm])), (q4zn, .inl (cyI, 120, .inl o33)), (q4zt, .inl (cyI, 120, .inl o34)), (qR, .inr (1, [.int r0, .int r1, .int r2, .int r3, .int r4, .ref qRl, .ref qRr]))] o0 A_) (F0 m_ 38 ls []) := by
  intro n_
  induction n_ with
  | zero =>
    intro j br u9 wk wl0 wl1 wl2 wl4 wl5 wl6 wl8 wl9 wl10 wl11 wlb wr0 wr1 wr2 wr4 wr5 wr6 wr8 wr9 wr10 wr11 wrb wsm wsf wsg wzm wzf wzg v0 v1 v2 v3 hN hJ hK hu ls H locs hl Y
    exfalso; omega
  | succ n_ ih =>
    intro j br u9 wk wl0 wl1 wl2 wl4 wl5 wl6 wl8 wl9 wl10 wl11 wlb wr0 wr1 wr2 wr4 wr5 wr6 wr8 wr9 wr10 wr11 wrb wsm wsf wsg wzm wzf wzg v0 v1 v2 v3 hN hJ hK hu ls H locs hl Y
    have hx := X.1.1
    have hb := X.1.2.1
    rw [g_tick] at hu
    refine lv_iload_n hx hb dX7_tick_38 rfl (lv_at hl 3 rfl) ?_
    refine lv_iload_n hx hb dX7_tick_39 rfl (lv_at hl 1 rfl) ?_
    refine lv_icmp_ge (tgt := 63) hx hb dX7_tick_40 (by decide) (fun c_1 => ?_) (fun c_1 => ?_)
    · have c_1 : tn ≤ nI j := c_1
      rw [if_pos c_1] at hu
      refine lv_iload_n hx hb dX7_tick_63 rfl (lv_at hl 2 rfl) ?_
      have h9 := (Prod.mk.inj hu).1; replace hu := (Prod.mk.inj hu).2; subst h9
      have h9 := (Prod.mk.inj hu).1; replace hu := (Prod.mk.inj hu).2; subst h9
      have h9 := (Prod.mk.inj hu).1; replace hu := (Prod.mk.inj hu).2; subst h9
      have h9 := (Prod.mk.inj hu).1; replace hu := (Prod.mk.inj hu).2; subst h9
      have h9 := (Prod.mk.inj hu).1; replace hu := (Prod.mk.inj hu).2; subst h9
      have h9 := (Prod.mk.inj hu).1; replace hu := (Prod.mk.inj hu).2; subst h9
      have h9 := (Prod.mk.inj hu).1; replace hu := (Prod.mk.inj hu).2; subst h9
      have h9 := (Prod.mk.inj hu).1; replace hu := (Prod.mk.inj hu).2; subst h9
      have h9 := (Prod.mk.inj hu).1; replace hu := (Prod.mk.inj hu).2; subst h9
      have h9 := (Prod.mk.inj hu).1; replace hu := (Prod.mk.inj hu).2; subst h9
      have h9 := (Prod.mk.inj hu).1; replace hu := (Prod.mk.inj hu).2; subst h9
      have h9 := (Prod.mk.inj hu).1; replace hu := (Prod.mk.inj hu).2; subst h9
      have h9 := (Prod.mk.inj hu).1; replace hu := (Prod.mk.inj hu).2; subst h9
      have h9 := (Prod.mk.inj hu).1; replace hu := (Prod.mk.inj hu).2; subst h9
      have h9 := (Prod.mk.inj hu).1; replace hu := (Prod.mk.inj hu).2; subst h9
      have h9 := (Prod.mk.inj hu).1; replace hu := (Prod.mk.inj hu).2; subst h9
      have h9 := (Prod.mk.inj hu).1; replace hu := (Prod.mk.inj hu).2; subst h9
      have h9 := (Prod.mk.inj hu).1; replace hu := (Prod.mk.inj hu).2; subst h9
      have h9 := (Prod.mk.inj hu).1; replace hu := (Prod.mk.inj hu).2; subst h9
      have h9 := (Prod.mk.inj hu).1; replace hu := (Prod.mk.inj hu).2; subst h9
      have h9 := (Prod.mk.inj hu).1; replace hu := (Prod.mk.inj hu).2; subst h9
      have h9 := (Prod.mk.inj hu).1; replace hu := (Prod.mk.inj hu).2; subst h9
      have h9 := (Prod.mk.inj hu).1; replace hu := (Prod.mk.inj hu).2; subst h9
      have h9 := (Prod.mk.inj hu).1; replace hu := (Prod.mk.inj hu).2; subst h9
      have h9 := (Prod.mk.inj hu).1; replace hu := (Prod.mk.inj hu).2; subst h9
      have h9 := (Prod.mk.inj hu).1; replace hu := (Prod.mk.inj hu).2; subst h9
      have h9 := (Prod.mk.inj hu).1; replace hu := (Prod.mk.inj hu).2; subst h9
      have h9 := (Prod.mk.inj hu).1; replace hu := (Prod.mk.inj hu).2; subst h9
      have h9 := (Prod.mk.inj hu).1; replace hu := (Prod.mk.inj hu).2; subst h9
      have h9 := (Prod.mk.inj hu).1; replace hu := (Prod.mk.inj hu).2; subst h9
      have h9 := (Prod.mk.inj hu).1; replace hu := (Prod.mk.inj hu).2; subst h9
      have h9 := (Prod.mk.inj hu).1; replace hu := (Prod.mk.inj hu).2; subst h9
      have h9 := (Prod.mk.inj hu).1; replace hu := (Prod.mk.inj hu).2; subst h9
      have h9 := (Prod.mk.inj hu).1; replace hu := (Prod.mk.inj hu).2; subst h9
      subst hu
      exact bEndI X Y hr hlk dX7_tick_64 rfl rfl
    · have c_1 : ¬ (tn ≤ nI j) := c_1
      rw [if_neg c_1] at hu
      refine lv_iload_n hx hb dX7_tick_43 rfl (lv_at hl 2 rfl) ?_
      refine lv_aload_n hx hb dX7_tick_44 rfl (lv_at hl 0 rfl) ?_
      refine bGet (v := .ref qN) (T := TX7) (N := 10) (ci := 7) X Y i_X7_tick_X7 0 rfl rfl 4 (Nat.le_of_ble_eq_true rfl) f_X7_tick_36 rfl rfl dX7_tick_45 ?_
      refine lv_aload_n hx hb dX7_tick_48 rfl (lv_at hl 0 rfl) ?_
      refine bGet (v := .ref qR) (T := TX7) (N := 10) (ci := 7) X Y i_X7_tick_X7 0 rfl rfl 2 (Nat.le_of_ble_eq_true rfl) f_X7_tick_26 rfl rfl dX7_tick_49 ?_
      obtain ⟨u_2_0, u_2_1, u_2_2, u_2_3, u_2_4, u_2_5, u_2_6, u_2_7, u_2_8, u_2_9, u_2_10, u_2_11, u_2_12, u_2_13, u_2_14, u_2_15, u_2_16, u_2_17, u_2_18, u_2_19, u_2_20, u_2_21, u_2_22, u_2_23, u_2_24, hr_2⟩ := bEx25 (s_storyGoOn nv wl0 wl1 wl2 nl3 wl4 wl5 wl6 nl7 wl8 wl9 wl10 wl11 wr0 wr1 wr2 nr3 wr4 wr5 wr6 nr7 wr8 wr9 wr10 wr11 wsm wsf wsg wzm wzf wzg r0 r1 r2 r3 r4)
      rw [hr_2] at hu
      dsimp only at hu
      refine bVI (As := [.ref qR]) (rest := [.int br]) (wc := [(qN, .inr (5, [.ref qNp, .ref qNs, .ref qNz, .int wk])), (qNp, .inr (2, [.ref qNpl, .ref qNpr, .int nv])), (qNpl, .inr (0, [.int wl0, .int wl1, .int wl2, .int nl3, .int wl4, .int wl5, .int wl6, .int nl7, .int wl8, .int wl9, .int wl10, .int wl11, .int (bB wlb)])), (qNpr, .inr (0, [.int wr0, .int wr1, .int wr2, .int nr3, .int wr4, .int wr5, .int wr6, .int nr7, .int wr8, .int wr9, .int wr10, .int wr11, .int (bB wrb)])), (qNs, .inr (3, [.ref qNsn, .ref qNst, .int wsm])), (qNsn, .inl (cyI, 120, .inl wsf)), (qNst, .inl (cyI, 120, .inl wsg)), (qNz, .inr (3, [.ref qNzn, .ref qNzt, .int wzm])), (qNzn, .inl (cyI, 120, .inl wzf)), (qNzt, .inl (cyI, 120, .inl wzg)), (qR, .inr (1, [.int r0, .int r1, .int r2, .int r3, .int r4, .ref qRl, .ref qRr]))]) (w1 := [(qN, .inr (5, [.ref qNp, .ref qNs, .ref qNz, .int (wk + 1)])), (qNp, .inr (2, [.ref qNpl, .ref qNpr, .int nv])), (qNpl, .inr (0, [.int u_2_1, .int u_2_2, .int u_2_3, .int nl3, .int u_2_4, .int u_2_5, .int u_2_6, .int nl7, .int (wl8 - 1), .int u_2_7, .int (wl10 - 1), .int u_2_8, .int (bB u_2_9)])), (qNpr, .inr (0, [.int u_2_10, .int u_2_11, .int u_2_12, .int nr3, .int u_2_13, .int u_2_14, .int u_2_15, .int nr7, .int (wr8 - 1), .int u_2_16, .int (wr10 - 1), .int u_2_17, .int (bB u_2_18)])), (qNs, .inr (3, [.ref qNsn, .ref qNst, .int u_2_19])), (qNsn, .inl (cyI, 120, .inl u_2_20)), (qNst, .inl (cyI, 120, .inl u_2_21)), (qNz, .inr (3, [.ref qNzn, .ref qNzt, .int u_2_22])), (qNzn, .inl (cyI, 120, .inl u_2_23)), (qNzt, .inl (cyI, 120, .inl u_2_24)), (qR, .inr (1, [.int r0, .int r1, .int r2, .int r3, .int r4, .ref qRl, .ref qRr]))]) (ws' := [(qM, .inr (7, [.ref qT, .ref qQ, .ref qR, .ref qD, .ref qN, .ref q4, .ref q1, .ref q2, .ref q3, .int u9])), (qN, .inr (5, [.ref qNp, .ref qNs, .ref qNz, .int (wk + 1)])), (qNp, .inr (2, [.ref qNpl, .ref qNpr, .int nv])), (qNpl, .inr (0, [.int u_2_1, .int u_2_2, .int u_2_3, .int nl3, .int u_2_4, .int u_2_5, .int u_2_6, .int nl7, .int (wl8 - 1), .int u_2_7, .int (wl10 - 1), .int u_2_8, .int (bB u_2_9)])), (qNpr, .inr (0, [.int u_2_10, .int u_2_11, .int u_2_12, .int nr3, .int u_2_13, .int u_2_14, .int u_2_15, .int nr7, .int (wr8 - 1), .int u_2_16, .int (wr10 - 1), .int u_2_17, .int (bB u_2_18)])), (qNs, .inr (3, [.ref qNsn, .ref qNst, .int u_2_19])), (qNsn, .inl (cyI, 120, .inl u_2_20)), (qNst, .inl (cyI, 120, .inl u_2_21)), (qNz, .inr (3, [.ref qNzn, .ref qNzt, .int u_2_22])), (qNzn, .inl (cyI, 120, .inl u_2_23)), (qNzt, .inl (cyI, 120, .inl u_2_24)), (q4, .inr (5, [.ref q4p, .ref q4s, .ref q4z, .int nk])), (q4p, .inr (2, [.ref q4pl, .ref q4pr, .int nv])), (q4pl, .inr (0, [.int nl0, .int nl1, .int nl2, .int nl3, .int nl4, .int nl5, .int nl6, .int nl7, .int nl8, .int nl9, .int nl10, .int nl11, .int (bB nlb)])), (q4pr, .inr (0, [.int nr0, .int nr1, .int nr2, .int nr3, .int nr4, .int nr5, .int nr6, .int nr7, .int nr8, .int nr9, .int nr10, .int nr11, .int (bB nrb)])), (q4s, .inr (3, [.ref q4sn, .ref q4st, .int nsm])), (q4sn, .inl (cyI, 120, .inl v0)), (q4st, .inl (cyI, 120, .inl v1)), (q4z, .inr (3, [.ref q4zn, .ref q4zt, .int nzm])), (q4zn, .inl (cyI, 120, .inl v2)), (q4zt, .inl (cyI, 120, .inl v3)), (qR, .inr (1, [.int r0, .int r1, .int r2, .int r3, .int r4, .ref qRl, .ref qRr]))]) (nn := 22) (ci := 5) (q0 := 1) X Y (c_storyGoOn l D cyC cyI qN wk qNp nv qNpl wl0 wl1 wl2 nl3 wl4 wl5 wl6 nl7 wl8 wl9 wl10 wl11 wlb qNpr wr0 wr1 wr2 nr3 wr4 wr5 wr6 nr7 wr8 wr9 wr10 wr11 wrb qNs qNsn qNst wsm wsf wsg qNz qNzn qNzt wzm wzf wzg qR qRl qRr r0 r1 r2 r3 r4 u_2_0 u_2_1 u_2_2 u_2_3 u_2_4 u_2_5 u_2_6 u_2_7 u_2_8 u_2_9 u_2_10 u_2_11 u_2_12 u_2_13 u_2_14 u_2_15 u_2_16 u_2_17 u_2_18 u_2_19 u_2_20 u_2_21 u_2_22 u_2_23 u_2_24 hr_2) gX7_tick_X5_goOn rfl ⟨rfl, rfl⟩ hd_X5_goOn ⟨(Nat.le_of_ble_eq_true rfl), (Nat.le_of_ble_eq_true rfl)⟩ rfl rfl rfl [1, 2, 3, 4, 5, 6, 7, 8, 9, 10, 21] [0, 11, 12, 13, 14, 15, 16, 17, 18, 19, 20] rfl rfl rfl rfl rfl rfl (by decide) rfl rfl hl.1 (Nat.le_of_ble_eq_true rfl) ⟨Nat.zero_le _, Nat.zero_le _⟩ dX7_tick_52 (fun H locs Y => ?_)
      refine bAdd (v := br + u_2_0) X dX7_tick_55 rfl ?_
      refine lv_istore_n (lv' := [(2, .int (br + u_2_0)), (0, .ref qM), (1, .int tn), (3, .int (nI j))]) hx hb dX7_tick_56 rfl hl (by decide) rfl (fun ls hl => ?_)
      refine lv_iinc (v := nI (j + 1)) (lv' := [(3, .int (nI (j + 1))), (2, .int (br + u_2_0)), (0, .ref qM), (1, .int tn)]) hx hb dX7_tick_57 hl (k := 3) rfl (nI_inc _) (by decide) rfl (fun ls hl => ?_)
      refine lv_goto (tgt := 38) hx hb dX7_tick_60 (by decide) ?_
      exact ih (j + 1) (br + u_2_0) u9 (wk + 1) u_2_1 u_2_2 u_2_3 u_2_4 u_2_5 u_2_6 (wl8 - 1) u_2_7 (wl10 - 1) u_2_8 u_2_9 u_2_10 u_2_11 u_2_12 u_2_13 u_2_14 u_2_15 (wr8 - 1) u_2_16 (wr10 - 1) u_2_17 u_2_18 u_2_19 u_2_20 u_2_21 u_2_22 u_2_23 u_2_24 v0 v1 v2 v3 (by omega) (by have := bNleS (by omega) (by decide) hK c_1; omega) hK hu _ _ _ (lv_sub hl [2, 3, 1, 0] rfl) Y
set_option maxHeartbeats 4000000 in
set_option maxRecDepth 100000 in
theorem c_tick_ok (l : Launch) (D : va_G) (cyC cyI : ClassId) (qM : Nat) (qT : Nat) (qQ : Nat) (qR : Nat) (qD : Nat) (qN : Nat) (q1 : Nat) (q2 : Nat) (q3 : Nat) (q4 : Nat) (ud : Int32) (nk : Int32) (qNp : Nat) (nv : Int32) (qNpl : Nat) (nl0 : Int32) (nl1 : Int32) (nl2 : Int32) (nl3 : Int32) (nl4 : Int32) (nl5 : Int32) (nl6 : Int32) (nl7 : Int32) (nl8 : Int32) (nl9 : Int32) (nl10 : Int32) (nl11 : Int32) (nlb : Bool) (qNpr : Nat) (nr0 : Int32) (nr1 : Int32) (nr2 : Int32) (nr3 : Int32) (nr4 : Int32) (nr5 : Int32) (nr6 : Int32) (nr7 : Int32) (nr8 : Int32) (nr9 : Int32) (nr10 : Int32) (nr11 : Int32) (nrb : Bool) (qNs : Nat) (qNsn : Nat) (qNst : Nat) (nsm : Int32) (nsf : Nat → Int32) (nsg : Nat → Int32) (qNz : Nat) (qNzn : Nat) (qNzt : Nat) (nzm : Int32) (nzf : Nat → Int32) (nzg : Nat → Int32) (fk : Int32) (q4p : Nat) (fv : Int32) (q4pl : Nat) (fl0 : Int32) (fl1 : Int32) (fl2 : Int32) (fl3 : Int32) (fl4 : Int32) (fl5 : Int32) (fl6 : Int32) (fl7 : Int32) (fl8 : Int32) (fl9 : Int32) (fl10 : Int32) (fl11 : Int32) (flb : Bool) (q4pr : Nat) (fr0 : Int32) (fr1 : Int32) (fr2 : Int32) (fr3 : Int32) (fr4 : Int32) (fr5 : Int32) (fr6 : Int32) (fr7 : Int32) (fr8 : Int32) (fr9 : Int32) (fr10 : Int32) (fr11 : Int32) (frb : Bool) (q4s : Nat) (q4sn : Nat) (q4st : Nat) (fsm : Int32) (fsf : Nat → Int32) (fsg : Nat → Int32) (q4z : Nat) (q4zn : Nat) (q4zt : Nat) (fzm : Int32) (fzf : Nat → Int32) (fzg : Nat → Int32) (qRl : Nat) (qRr : Nat) (r0 : Int32) (r1 : Int32) (r2 : Int32) (r3 : Int32) (r4 : Int32) (tn : Int32) (o0 : Int32) (o1 : Int32) (o2 : Int32) (o3 : Int32) (o4 : Int32) (o5 : Int32) (o6 : Int32) (o7 : Int32) (o8 : Int32) (o9 : Int32) (o10 : Int32) (o11 : Int32) (o12 : Int32) (o13 : Bool) (o14 : Int32) (o15 : Int32) (o16 : Int32) (o17 : Int32) (o18 : Int32) (o19 : Int32) (o20 : Int32) (o21 : Int32) (o22 : Int32) (o23 : Int32) (o24 : Bool) (o25 : Int32) (o26 : Nat → Int32) (o27 : Nat → Int32) (o28 : Int32) (o29 : Nat → Int32) (o30 : Nat → Int32) (o31 : Nat → Int32) (o32 : Nat → Int32) (o33 : Nat → Int32) (o34 : Nat → Int32) (hu : s_tick_ok ud nk nv nl0 nl1 nl2 nl3 nl4 nl5 nl6 nl7 nl8 nl9 nl10 nl11 nlb nr0 nr1 nr2 nr3 nr4 nr5 nr6 nr7 nr8 nr9 nr10 nr11 nrb nsm nsf nsg nzm nzf nzg fsf fsg fzf fzg r0 r1 r2 r3 r4 tn = (o0, o1, o2, o3, o4, o5, o6, o7, o8, o9, o10, o11, o12, o13, o14, o15, o16, o17, o18, o19, o20, o21, o22, o23, o24, o25, o26, o27, o28, o29, o30, o31, o32, o33, o34)) (h0_ : (s_isWithin tn 1 60) = true) (h1_ : nk + tn ≤ 9999) : CI l yX7_tick wsX7_tick { frames := 6, cells := 0, slots := 0, locals := 130 } D cyC cyI [.ref qM, .int tn] [(qM, .inr (7, [.ref qT, .ref qQ, .ref qR, .ref qD, .ref qN, .ref q1, .ref q2, .ref q3, .ref q4, .int ud])), (qN, .inr (5, [.ref qNp, .ref qNs, .ref qNz, .int nk])), (qNp, .inr (2, [.ref qNpl, .ref qNpr, .int nv])), (qNpl, .inr (0, [.int nl0, .int nl1, .int nl2, .int nl3, .int nl4, .int nl5, .int nl6, .int nl7, .int nl8, .int nl9, .int nl10, .int nl11, .int (bB nlb)])), (qNpr, .inr (0, [.int nr0, .int nr1, .int nr2, .int nr3, .int nr4, .int nr5, .int nr6, .int nr7, .int nr8, .int nr9, .int nr10, .int nr11, .int (bB nrb)])), (qNs, .inr (3, [.ref qNsn, .ref qNst, .int nsm])), (qNsn, .inl (cyI, 120, .inl nsf)), (qNst, .inl (cyI, 120, .inl nsg)), (qNz, .inr (3, [.ref qNzn, .ref qNzt, .int nzm])), (qNzn, .inl (cyI, 120, .inl nzf)), (qNzt, .inl (cyI, 120, .inl nzg)), (q4, .inr (5, [.ref q4p, .ref q4s, .ref q4z, .int fk])), (q4p, .inr (2, [.ref q4pl, .ref q4pr, .int fv])), (q4pl, .inr (0, [.int fl0, .int fl1, .int fl2, .int fl3, .int fl4, .int fl5, .int fl6, .int fl7, .int fl8, .int fl9, .int fl10, .int fl11, .int (bB flb)])), (q4pr, .inr (0, [.int fr0, .int fr1, .int fr2, .int fr3, .int fr4, .int fr5, .int fr6, .int fr7, .int fr8, .int fr9, .int fr10, .int fr11, .int (bB frb)])), (q4s, .inr (3, [.ref q4sn, .ref q4st, .int fsm])), (q4sn, .inl (cyI, 120, .inl fsf)), (q4st, .inl (cyI, 120, .inl fsg)), (q4z, .inr (3, [.ref q4zn, .ref q4zt, .int fzm])), (q4zn, .inl (cyI, 120, .inl fzf)), (q4zt, .inl (cyI, 120, .inl fzg)), (qR, .inr (1, [.int r0, .int r1, .int r2, .int r3, .int r4, .ref qRl, .ref qRr]))] o0 [(qM, .inr (7, [.ref qT, .ref qQ, .ref qR, .ref qD, .ref qN, .ref q4, .ref q1, .ref q2, .ref q3, .int o1])), (qN, .inr (5, [.ref qNp, .ref qNs, .ref qNz, .int o2])), (qNp, .inr (2, [.ref qNpl, .ref qNpr, .int nv])), (qNpl, .inr (0, [.int o3, .int o4, .int o5, .int nl3, .int o6, .int o7, .int o8, .int nl7, .int o9, .int o10, .int o11, .int o12, .int (bB o13)])), (qNpr, .inr (0, [.int o14, .int o15, .int o16, .int nr3, .int o17, .int o18, .int o19, .int nr7, .int o20, .int o21, .int o22, .int o23, .int (bB o24)])), (qNs, .inr (3, [.ref qNsn, .ref qNst, .int o25])), (qNsn, .inl (cyI, 120, .inl o26)), (qNst, .inl (cyI, 120, .inl o27)), (qNz, .inr (3, [.ref qNzn, .ref qNzt, .int o28])), (qNzn, .inl (cyI, 120, .inl o29)), (qNzt, .inl (cyI, 120, .inl o30)), (q4, .inr (5, [.ref q4p, .ref q4s, .ref q4z, .int nk])), (q4p, .inr (2, [.ref q4pl, .ref q4pr, .int nv])), (q4pl, .inr (0, [.int nl0, .int nl1, .int nl2, .int nl3, .int nl4, .int nl5, .int nl6, .int nl7, .int nl8, .int nl9, .int nl10, .int nl11, .int (bB nlb)])), (q4pr, .inr (0, [.int nr0, .int nr1, .int nr2, .int nr3, .int nr4, .int nr5, .int nr6, .int nr7, .int nr8, .int nr9, .int nr10, .int nr11, .int (bB nrb)])), (q4s, .inr (3, [.ref q4sn, .ref q4st, .int nsm])), (q4sn, .inl (cyI, 120, .inl o31)), (q4st, .inl (cyI, 120, .inl o32)), (q4z, .inr (3, [.ref q4zn, .ref q4zt, .int nzm])), (q4zn, .inl (cyI, 120, .inl o33)), (q4zt, .inl (cyI, 120, .inl o34)), (qR, .inr (1, [.int r0, .int r1, .int r2, .int r3, .int r4, .ref qRl, .ref qRr]))] := by
  refine CI.of (cc := cX7_tick) (n := 4) (ret := (some .int)) (by decide +kernel) rfl (Nat.le_of_ble_eq_true rfl) ?_
  intro p_ e_ s_ m_ bl_ me_ cd_ A_ ls X Y hr hlk hl
  have hx := X.1.1
  have hb := X.1.2.1
  have hl : lv_has ls 4 [(0, .ref qM), (1, .int tn)] := hl
  unfold s_tick_ok at hu
  refine lv_iload_n hx hb dX7_tick_0 rfl (lv_at hl 1 rfl) ?_
  refine lv_iconst (v := 1) hx hb dX7_tick_1 (by decide) ?_
  refine lv_bipush (v := 60) hx hb dX7_tick_2 (by decide) ?_
  refine bSI (As := [.int tn, .int 1, .int 60]) (rest := []) X Y (c_isWithin l D cyC cyI tn 1 60 (s_isWithin tn 1 60) rfl) gX7_tick_X7_isWithin rfl ⟨rfl, rfl⟩ hd_X7_isWithin.2 ⟨(Nat.le_of_ble_eq_true rfl), (Nat.le_of_ble_eq_true rfl)⟩ rfl rfl hl.1 (Nat.le_of_ble_eq_true rfl) ⟨Nat.zero_le _, Nat.zero_le _⟩ dX7_tick_4 (fun H locs Y => ?_)
  refine lv_if_ne (tgt := 12) hx hb dX7_tick_7 (by decide) (fun c_1 => ?_) (fun c_1 => ?_)
  · have c_1 := bB_t c_1
    refine lv_aload_n hx hb dX7_tick_12 rfl (lv_at hl 0 rfl) ?_
    refine bGet (v := .ref qN) (T := TX7) (N := 10) (ci := 7) X Y i_X7_tick_X7 0 rfl rfl 4 (Nat.le_of_ble_eq_true rfl) f_X7_tick_36 rfl rfl dX7_tick_13 ?_
    refine bGet (v := .int nk) (T := TX5) (N := 4) (ci := 5) X Y i_X7_tick_X5 1 rfl rfl 3 (Nat.le_of_ble_eq_true rfl) f_X7_tick_132 rfl rfl dX7_tick_16 ?_
    refine lv_iload_n hx hb dX7_tick_19 rfl (lv_at hl 1 rfl) ?_
    refine bAdd (v := nk + tn) X dX7_tick_20 rfl ?_
    refine lv_sipush (v := 9999) hx hb dX7_tick_21 (by decide) ?_
    refine lv_icmp_le (tgt := 30) hx hb dX7_tick_24 (by decide) (fun c_2 => ?_) (fun c_2 => ?_)
    · have c_2 : nk + tn ≤ 9999 := c_2
      refine lv_aload_n hx hb dX7_tick_30 rfl (lv_at hl 0 rfl) ?_
      obtain ⟨u_3_0, u_3_1, u_3_2, u_3_3, hr_3⟩ := bEx4 (s_keepForUndo nsm nsf nsg nzm nzf nzg fsf fsg fzf fzg)
      rw [hr_3] at hu
      dsimp only at hu
      refine bVV (As := []) (rest := []) (wc := [(qM, .inr (7, [.ref qT, .ref qQ, .ref qR, .ref qD, .ref qN, .ref q1, .ref q2, .ref q3, .ref q4, .int ud])), (qN, .inr (5, [.ref qNp, .ref qNs, .ref qNz, .int nk])), (qNp, .inr (2, [.ref qNpl, .ref qNpr, .int nv])), (qNpl, .inr (0, [.int nl0, .int nl1, .int nl2, .int nl3, .int nl4, .int nl5, .int nl6, .int nl7, .int nl8, .int nl9, .int nl10, .int nl11, .int (bB nlb)])), (qNpr, .inr (0, [.int nr0, .int nr1, .int nr2, .int nr3, .int nr4, .int nr5, .int nr6, .int nr7, .int nr8, .int nr9, .int nr10, .int nr11, .int (bB nrb)])), (qNs, .inr (3, [.ref qNsn, .ref qNst, .int nsm])), (qNsn, .inl (cyI, 120, .inl nsf)), (qNst, .inl (cyI, 120, .inl nsg)), (qNz, .inr (3, [.ref qNzn, .ref qNzt, .int nzm])), (qNzn, .inl (cyI, 120, .inl nzf)), (qNzt, .inl (cyI, 120, .inl nzg)), (q4, .inr (5, [.ref q4p, .ref q4s, .ref q4z, .int fk])), (q4p, .inr (2, [.ref q4pl, .ref q4pr, .int fv])), (q4pl, .inr (0, [.int fl0, .int fl1, .int fl2, .int fl3, .int fl4, .int fl5, .int fl6, .int fl7, .int fl8, .int fl9, .int fl10, .int fl11, .int (bB flb)])), (q4pr, .inr (0, [.int fr0, .int fr1, .int fr2, .int fr3, .int fr4, .int fr5, .int fr6, .int fr7, .int fr8, .int fr9, .int fr10, .int fr11, .int (bB frb)])), (q4s, .inr (3, [.ref q4sn, .ref q4st, .int fsm])), (q4sn, .inl (cyI, 120, .inl fsf)), (q4st, .inl (cyI, 120, .inl fsg)), (q4z, .inr (3, [.ref q4zn, .ref q4zt, .int fzm])), (q4zn, .inl (cyI, 120, .inl fzf)), (q4zt, .inl (cyI, 120, .inl fzg))]) (w1 := [(qM, .inr (7, [.ref qT, .ref qQ, .ref qR, .ref qD, .ref qN, .ref q4, .ref q1, .ref q2, .ref q3, .int (if 4 < (ud + 1) then 4 else (ud + 1))])), (qN, .inr (5, [.ref qNp, .ref qNs, .ref qNz, .int nk])), (qNp, .inr (2, [.ref qNpl, .ref qNpr, .int nv])), (qNpl, .inr (0, [.int nl0, .int nl1, .int nl2, .int nl3, .int nl4, .int nl5, .int nl6, .int nl7, .int nl8, .int nl9, .int nl10, .int nl11, .int (bB nlb)])), (qNpr, .inr (0, [.int nr0, .int nr1, .int nr2, .int nr3, .int nr4, .int nr5, .int nr6, .int nr7, .int nr8, .int nr9, .int nr10, .int nr11, .int (bB nrb)])), (qNs, .inr (3, [.ref qNsn, .ref qNst, .int nsm])), (qNsn, .inl (cyI, 120, .inl nsf)), (qNst, .inl (cyI, 120, .inl nsg)), (qNz, .inr (3, [.ref qNzn, .ref qNzt, .int nzm])), (qNzn, .inl (cyI, 120, .inl nzf)), (qNzt, .inl (cyI, 120, .inl nzg)), (q4, .inr (5, [.ref q4p, .ref q4s, .ref q4z, .int nk])), (q4p, .inr (2, [.ref q4pl, .ref q4pr, .int nv])), (q4pl, .inr (0, [.int nl0, .int nl1, .int nl2, .int nl3, .int nl4, .int nl5, .int nl6, .int nl7, .int nl8, .int nl9, .int nl10, .int nl11, .int (bB nlb)])), (q4pr, .inr (0, [.int nr0, .int nr1, .int nr2, .int nr3, .int nr4, .int nr5, .int nr6, .int nr7, .int nr8, .int nr9, .int nr10, .int nr11, .int (bB nrb)])), (q4s, .inr (3, [.ref q4sn, .ref q4st, .int nsm])), (q4sn, .inl (cyI, 120, .inl u_3_0)), (q4st, .inl (cyI, 120, .inl u_3_1)), (q4z, .inr (3, [.ref q4zn, .ref q4zt, .int nzm])), (q4zn, .inl (cyI, 120, .inl u_3_2)), (q4zt, .inl (cyI, 120, .inl u_3_3))]) (ws' := [(qM, .inr (7, [.ref qT, .ref qQ, .ref qR, .ref qD, .ref qN, .ref q4, .ref q1, .ref q2, .ref q3, .int (if 4 < (ud + 1) then 4 else (ud + 1))])), (qN, .inr (5, [.ref qNp, .ref qNs, .ref qNz, .int nk])), (qNp, .inr (2, [.ref qNpl, .ref qNpr, .int nv])), (qNpl, .inr (0, [.int nl0, .int nl1, .int nl2, .int nl3, .int nl4, .int nl5, .int nl6, .int nl7, .int nl8, .int nl9, .int nl10, .int nl11, .int (bB nlb)])), (qNpr, .inr (0, [.int nr0, .int nr1, .int nr2, .int nr3, .int nr4, .int nr5, .int nr6, .int nr7, .int nr8, .int nr9, .int nr10, .int nr11, .int (bB nrb)])), (qNs, .inr (3, [.ref qNsn, .ref qNst, .int nsm])), (qNsn, .inl (cyI, 120, .inl nsf)), (qNst, .inl (cyI, 120, .inl nsg)), (qNz, .inr (3, [.ref qNzn, .ref qNzt, .int nzm])), (qNzn, .inl (cyI, 120, .inl nzf)), (qNzt, .inl (cyI, 120, .inl nzg)), (q4, .inr (5, [.ref q4p, .ref q4s, .ref q4z, .int nk])), (q4p, .inr (2, [.ref q4pl, .ref q4pr, .int nv])), (q4pl, .inr (0, [.int nl0, .int nl1, .int nl2, .int nl3, .int nl4, .int nl5, .int nl6, .int nl7, .int nl8, .int nl9, .int nl10, .int nl11, .int (bB nlb)])), (q4pr, .inr (0, [.int nr0, .int nr1, .int nr2, .int nr3, .int nr4, .int nr5, .int nr6, .int nr7, .int nr8, .int nr9, .int nr10, .int nr11, .int (bB nrb)])), (q4s, .inr (3, [.ref q4sn, .ref q4st, .int nsm])), (q4sn, .inl (cyI, 120, .inl u_3_0)), (q4st, .inl (cyI, 120, .inl u_3_1)), (q4z, .inr (3, [.ref q4zn, .ref q4zt, .int nzm])), (q4zn, .inl (cyI, 120, .inl u_3_2)), (q4zt, .inl (cyI, 120, .inl u_3_3)), (qR, .inr (1, [.int r0, .int r1, .int r2, .int r3, .int r4, .ref qRl, .ref qRr]))]) (nn := 22) (ci := 7) (q0 := 0) X Y (c_keepForUndo l D cyC cyI qM qT qQ qR qD qN q1 q2 q3 q4 ud nk qNp nv qNpl nl0 nl1 nl2 nl3 nl4 nl5 nl6 nl7 nl8 nl9 nl10 nl11 nlb qNpr nr0 nr1 nr2 nr3 nr4 nr5 nr6 nr7 nr8 nr9 nr10 nr11 nrb qNs qNsn qNst nsm nsf nsg qNz qNzn qNzt nzm nzf nzg fk q4p fv q4pl fl0 fl1 fl2 fl3 fl4 fl5 fl6 fl7 fl8 fl9 fl10 fl11 flb q4pr fr0 fr1 fr2 fr3 fr4 fr5 fr6 fr7 fr8 fr9 fr10 fr11 frb q4s q4sn q4st fsm fsf fsg q4z q4zn q4zt fzm fzf fzg u_3_0 u_3_1 u_3_2 u_3_3 hr_3) gX7_tick_X7_keepForUndo rfl ⟨rfl, rfl⟩ hd_X7_keepForUndo ⟨(Nat.le_of_ble_eq_true rfl), (Nat.le_of_ble_eq_true rfl)⟩ rfl rfl rfl [0, 1, 2, 3, 4, 5, 6, 7, 8, 9, 10, 11, 12, 13, 14, 15, 16, 17, 18, 19, 20] [21] rfl rfl rfl rfl rfl rfl (by decide) rfl rfl hl.1 (Nat.le_of_ble_eq_true rfl) ⟨Nat.zero_le _, Nat.zero_le _⟩ dX7_tick_31 (fun H locs Y => ?_)
      refine lv_iconst (v := 0) hx hb dX7_tick_34 (by decide) ?_
      refine lv_istore_n (lv' := [(2, .int 0), (0, .ref qM), (1, .int tn)]) hx hb dX7_tick_35 rfl hl (by decide) rfl (fun ls hl => ?_)
      refine lv_iconst (v := 0) hx hb dX7_tick_36 (by decide) ?_
      refine lv_istore_n (lv' := [(3, .int 0), (2, .int 0), (0, .ref qM), (1, .int tn)]) hx hb dX7_tick_37 rfl hl (by decide) rfl (fun ls hl => ?_)
      exact lp_tick l D cyC cyI qM qT qQ qR qD qN q1 q2 q3 q4 ud nk qNp nv qNpl nl0 nl1 nl2 nl3 nl4 nl5 nl6 nl7 nl8 nl9 nl10 nl11 nlb qNpr nr0 nr1 nr2 nr3 nr4 nr5 nr6 nr7 nr8 nr9 nr10 nr11 nrb qNs qNsn qNst nsm nsf nsg qNz qNzn qNzt nzm nzf nzg fk q4p fv q4pl fl0 fl1 fl2 fl3 fl4 fl5 fl6 fl7 fl8 fl9 fl10 fl11 flb q4pr fr0 fr1 fr2 fr3 fr4 fr5 fr6 fr7 fr8 fr9 fr10 fr11 frb q4s q4sn q4st fsm fsf fsg q4z q4zn q4zt fzm fzf fzg qRl qRr r0 r1 r2 r3 r4 tn o0 o1 o2 o3 o4 o5 o6 o7 o8 o9 o10 o11 o12 o13 o14 o15 o16 o17 o18 o19 o20 o21 o22 o23 o24 o25 o26 o27 o28 o29 o30 o31 o32 o33 o34 X hr hlk h0_ h1_ (61) 0 0 (if 4 < (ud + 1) then 4 else (ud + 1)) nk nl0 nl1 nl2 nl4 nl5 nl6 nl8 nl9 nl10 nl11 nlb nr0 nr1 nr2 nr4 nr5 nr6 nr8 nr9 nr10 nr11 nrb nsm nsf nsg nzm nzf nzg u_3_0 u_3_1 u_3_2 u_3_3 (by omega) (by omega) (isWithin_hi h0_) hu _ _ _ (lv_sub hl [2, 3, 1, 0] rfl) Y
    · have c_2 : ¬ (nk + tn ≤ 9999) := c_2
      exact absurd h1_ c_2
  · have c_1 := bB_f c_1
    exact absurd h0_ c_1
def s_tick_no (tn : Int32) : Int32 :=
  if (s_isWithin tn 1 60) = true then
    (-2)
  else
    (-1)
set_option maxHeartbeats 4000000 in
set_option maxRecDepth 100000 in
theorem c_tick_no (l : Launch) (D : va_G) (cyC cyI : ClassId) (qM : Nat) (qT : Nat) (qQ : Nat) (qR : Nat) (qD : Nat) (qN : Nat) (q1 : Nat) (q2 : Nat) (q3 : Nat) (q4 : Nat) (ud : Int32) (nk : Int32) (qNp : Nat) (nv : Int32) (qNpl : Nat) (nl0 : Int32) (nl1 : Int32) (nl2 : Int32) (nl3 : Int32) (nl4 : Int32) (nl5 : Int32) (nl6 : Int32) (nl7 : Int32) (nl8 : Int32) (nl9 : Int32) (nl10 : Int32) (nl11 : Int32) (nlb : Bool) (qNpr : Nat) (nr0 : Int32) (nr1 : Int32) (nr2 : Int32) (nr3 : Int32) (nr4 : Int32) (nr5 : Int32) (nr6 : Int32) (nr7 : Int32) (nr8 : Int32) (nr9 : Int32) (nr10 : Int32) (nr11 : Int32) (nrb : Bool) (qNs : Nat) (qNz : Nat) (tn : Int32) (o0 : Int32) (hu : s_tick_no tn = o0) (hbad : ((s_isWithin tn 1 60) = true) → ¬ (nk + tn ≤ 9999)) : CI l yX7_tick wsX7_tick { frames := 1, cells := 0, slots := 0, locals := 22 } D cyC cyI [.ref qM, .int tn] [(qM, .inr (7, [.ref qT, .ref qQ, .ref qR, .ref qD, .ref qN, .ref q1, .ref q2, .ref q3, .ref q4, .int ud])), (qN, .inr (5, [.ref qNp, .ref qNs, .ref qNz, .int nk])), (qNp, .inr (2, [.ref qNpl, .ref qNpr, .int nv])), (qNpl, .inr (0, [.int nl0, .int nl1, .int nl2, .int nl3, .int nl4, .int nl5, .int nl6, .int nl7, .int nl8, .int nl9, .int nl10, .int nl11, .int (bB nlb)])), (qNpr, .inr (0, [.int nr0, .int nr1, .int nr2, .int nr3, .int nr4, .int nr5, .int nr6, .int nr7, .int nr8, .int nr9, .int nr10, .int nr11, .int (bB nrb)]))] o0 [(qM, .inr (7, [.ref qT, .ref qQ, .ref qR, .ref qD, .ref qN, .ref q1, .ref q2, .ref q3, .ref q4, .int ud])), (qN, .inr (5, [.ref qNp, .ref qNs, .ref qNz, .int nk])), (qNp, .inr (2, [.ref qNpl, .ref qNpr, .int nv])), (qNpl, .inr (0, [.int nl0, .int nl1, .int nl2, .int nl3, .int nl4, .int nl5, .int nl6, .int nl7, .int nl8, .int nl9, .int nl10, .int nl11, .int (bB nlb)])), (qNpr, .inr (0, [.int nr0, .int nr1, .int nr2, .int nr3, .int nr4, .int nr5, .int nr6, .int nr7, .int nr8, .int nr9, .int nr10, .int nr11, .int (bB nrb)]))] := by
  refine CI.of (cc := cX7_tick) (n := 4) (ret := (some .int)) (by decide +kernel) rfl (Nat.le_of_ble_eq_true rfl) ?_
  intro p_ e_ s_ m_ bl_ me_ cd_ A_ ls X Y hr hlk hl
  have hx := X.1.1
  have hb := X.1.2.1
  have hl : lv_has ls 4 [(0, .ref qM), (1, .int tn)] := hl
  unfold s_tick_no at hu
  refine lv_iload_n hx hb dX7_tick_0 rfl (lv_at hl 1 rfl) ?_
  refine lv_iconst (v := 1) hx hb dX7_tick_1 (by decide) ?_
  refine lv_bipush (v := 60) hx hb dX7_tick_2 (by decide) ?_
  refine bSI (As := [.int tn, .int 1, .int 60]) (rest := []) X Y (c_isWithin l D cyC cyI tn 1 60 (s_isWithin tn 1 60) rfl) gX7_tick_X7_isWithin rfl ⟨rfl, rfl⟩ hd_X7_isWithin.2 ⟨(Nat.le_of_ble_eq_true rfl), (Nat.le_of_ble_eq_true rfl)⟩ rfl rfl hl.1 (Nat.le_of_ble_eq_true rfl) ⟨Nat.zero_le _, Nat.zero_le _⟩ dX7_tick_4 (fun H locs Y => ?_)
  refine lv_if_ne (tgt := 12) hx hb dX7_tick_7 (by decide) (fun c_1 => ?_) (fun c_1 => ?_)
  · have c_1 := bB_t c_1
    rw [if_pos c_1] at hu
    refine lv_aload_n hx hb dX7_tick_12 rfl (lv_at hl 0 rfl) ?_
    refine bGet (v := .ref qN) (T := TX7) (N := 10) (ci := 7) X Y i_X7_tick_X7 0 rfl rfl 4 (Nat.le_of_ble_eq_true rfl) f_X7_tick_36 rfl rfl dX7_tick_13 ?_
    refine bGet (v := .int nk) (T := TX5) (N := 4) (ci := 5) X Y i_X7_tick_X5 1 rfl rfl 3 (Nat.le_of_ble_eq_true rfl) f_X7_tick_132 rfl rfl dX7_tick_16 ?_
    refine lv_iload_n hx hb dX7_tick_19 rfl (lv_at hl 1 rfl) ?_
    refine bAdd (v := nk + tn) X dX7_tick_20 rfl ?_
    refine lv_sipush (v := 9999) hx hb dX7_tick_21 (by decide) ?_
    refine lv_icmp_le (tgt := 30) hx hb dX7_tick_24 (by decide) (fun c_2 => ?_) (fun c_2 => ?_)
    · have c_2 : nk + tn ≤ 9999 := c_2
      exact absurd c_2 (hbad c_1)
    · have c_2 : ¬ (nk + tn ≤ 9999) := c_2
      refine lv_bipush (v := (-2)) hx hb dX7_tick_27 (by decide) ?_
      subst hu
      exact bEndI X Y hr hlk dX7_tick_29 rfl rfl
  · have c_1 := bB_f c_1
    rw [if_neg c_1] at hu
    refine lv_iconst (v := (-1)) hx hb dX7_tick_10 (by decide) ?_
    subst hu
    exact bEndI X Y hr hlk dX7_tick_11 rfl rfl
theorem i_X7_undo_X7 : ∀ w ∈ wsX70, w ∈ wsX7_undo := by decide +kernel
theorem f_X7_undo_79 : Cond.fieldLink RX7 79 "SwingCranes" "undoable" "I" ∈ wsX7_undo := by decide +kernel
theorem f_X7_undo_36 : Cond.fieldLink RX7 36 "SwingCranes" "now" "LSwingCranes$Story;" ∈ wsX7_undo := by decide +kernel
theorem f_X7_undo_40 : Cond.fieldLink RX7 40 "SwingCranes" "firstBack" "LSwingCranes$Story;" ∈ wsX7_undo := by decide +kernel
theorem f_X7_undo_43 : Cond.fieldLink RX7 43 "SwingCranes" "secondBack" "LSwingCranes$Story;" ∈ wsX7_undo := by decide +kernel
theorem f_X7_undo_46 : Cond.fieldLink RX7 46 "SwingCranes" "thirdBack" "LSwingCranes$Story;" ∈ wsX7_undo := by decide +kernel
theorem f_X7_undo_49 : Cond.fieldLink RX7 49 "SwingCranes" "fourthBack" "LSwingCranes$Story;" ∈ wsX7_undo := by decide +kernel
def s_undo_ok (ud : Int32) : Int32 :=
  ud - 1
set_option maxHeartbeats 4000000 in
set_option maxRecDepth 100000 in
theorem c_undo_ok (l : Launch) (D : va_G) (cyC cyI : ClassId) (qM : Nat) (qT : Nat) (qQ : Nat) (qR : Nat) (qD : Nat) (qN : Nat) (q1 : Nat) (q2 : Nat) (q3 : Nat) (q4 : Nat) (ud : Int32) (o0 : Int32) (hu : s_undo_ok ud = o0) (h0_ : 1 ≤ ud) : CI l yX7_undo wsX7_undo { frames := 0, cells := 0, slots := 0, locals := 0 } D cyC cyI [.ref qM] [(qM, .inr (7, [.ref qT, .ref qQ, .ref qR, .ref qD, .ref qN, .ref q1, .ref q2, .ref q3, .ref q4, .int ud]))] o0 [(qM, .inr (7, [.ref qT, .ref qQ, .ref qR, .ref qD, .ref q1, .ref q2, .ref q3, .ref q4, .ref qN, .int (ud - 1)]))] := by
  refine CI.of (cc := cX7_undo) (n := 2) (ret := (some .int)) (by decide +kernel) rfl (Nat.le_of_ble_eq_true rfl) ?_
  intro p_ e_ s_ m_ bl_ me_ cd_ A_ ls X Y hr hlk hl
  have hx := X.1.1
  have hb := X.1.2.1
  have hl : lv_has ls 2 [(0, .ref qM)] := hl
  unfold s_undo_ok at hu
  refine lv_aload_n hx hb dX7_undo_0 rfl (lv_at hl 0 rfl) ?_
  refine bGet (v := .int ud) (T := TX7) (N := 10) (ci := 7) X Y i_X7_undo_X7 0 rfl rfl 9 (Nat.le_of_ble_eq_true rfl) f_X7_undo_79 rfl rfl dX7_undo_1 ?_
  refine lv_iconst (v := 1) hx hb dX7_undo_4 (by decide) ?_
  refine lv_icmp_ge (tgt := 11) hx hb dX7_undo_5 (by decide) (fun c_1 => ?_) (fun c_1 => ?_)
  · have c_1 : 1 ≤ ud := c_1
    refine lv_aload_n hx hb dX7_undo_11 rfl (lv_at hl 0 rfl) ?_
    refine bGet (v := .ref qN) (T := TX7) (N := 10) (ci := 7) X Y i_X7_undo_X7 0 rfl rfl 4 (Nat.le_of_ble_eq_true rfl) f_X7_undo_36 rfl rfl dX7_undo_12 ?_
    refine lv_astore_n (lv' := [(1, .ref qN), (0, .ref qM)]) hx hb dX7_undo_15 rfl hl (by decide) rfl (fun ls hl => ?_)
    refine lv_aload_n hx hb dX7_undo_16 rfl (lv_at hl 1 rfl) ?_
    refine lv_aload_n hx hb dX7_undo_17 rfl (lv_at hl 1 rfl) ?_
    refine bGet (v := .ref q1) (T := TX7) (N := 10) (ci := 7) X Y i_X7_undo_X7 0 rfl rfl 5 (Nat.le_of_ble_eq_true rfl) f_X7_undo_40 rfl rfl dX7_undo_18 ?_
    refine bPut (T := TX7) (N := 10) (ci := 7) (ws' := [(qM, .inr (7, [.ref qT, .ref qQ, .ref qR, .ref qD, .ref q1, .ref q1, .ref q2, .ref q3, .ref q4, .int ud]))]) X Y i_X7_undo_X7 tyX7 tyX7_ok nmX7 0 rfl rfl 4 (Nat.le_of_ble_eq_true rfl) f_X7_undo_36 rfl rfl rfl rfl (Nat.le_of_ble_eq_true rfl) rfl dX7_undo_21 (fun H locs Y => ?_)
    refine lv_aload_n hx hb dX7_undo_24 rfl (lv_at hl 1 rfl) ?_
    refine lv_aload_n hx hb dX7_undo_25 rfl (lv_at hl 1 rfl) ?_
    refine bGet (v := .ref q2) (T := TX7) (N := 10) (ci := 7) X Y i_X7_undo_X7 0 rfl rfl 6 (Nat.le_of_ble_eq_true rfl) f_X7_undo_43 rfl rfl dX7_undo_26 ?_
    refine bPut (T := TX7) (N := 10) (ci := 7) (ws' := [(qM, .inr (7, [.ref qT, .ref qQ, .ref qR, .ref qD, .ref q1, .ref q2, .ref q2, .ref q3, .ref q4, .int ud]))]) X Y i_X7_undo_X7 tyX7 tyX7_ok nmX7 0 rfl rfl 5 (Nat.le_of_ble_eq_true rfl) f_X7_undo_40 rfl rfl rfl rfl (Nat.le_of_ble_eq_true rfl) rfl dX7_undo_29 (fun H locs Y => ?_)
    refine lv_aload_n hx hb dX7_undo_32 rfl (lv_at hl 1 rfl) ?_
    refine lv_aload_n hx hb dX7_undo_33 rfl (lv_at hl 1 rfl) ?_
    refine bGet (v := .ref q3) (T := TX7) (N := 10) (ci := 7) X Y i_X7_undo_X7 0 rfl rfl 7 (Nat.le_of_ble_eq_true rfl) f_X7_undo_46 rfl rfl dX7_undo_34 ?_
    refine bPut (T := TX7) (N := 10) (ci := 7) (ws' := [(qM, .inr (7, [.ref qT, .ref qQ, .ref qR, .ref qD, .ref q1, .ref q2, .ref q3, .ref q3, .ref q4, .int ud]))]) X Y i_X7_undo_X7 tyX7 tyX7_ok nmX7 0 rfl rfl 6 (Nat.le_of_ble_eq_true rfl) f_X7_undo_43 rfl rfl rfl rfl (Nat.le_of_ble_eq_true rfl) rfl dX7_undo_37 (fun H locs Y => ?_)
    refine lv_aload_n hx hb dX7_undo_40 rfl (lv_at hl 1 rfl) ?_
    refine lv_aload_n hx hb dX7_undo_41 rfl (lv_at hl 1 rfl) ?_
    refine bGet (v := .ref q4) (T := TX7) (N := 10) (ci := 7) X Y i_X7_undo_X7 0 rfl rfl 8 (Nat.le_of_ble_eq_true rfl) f_X7_undo_49 rfl rfl dX7_undo_42 ?_
    refine bPut (T := TX7) (N := 10) (ci := 7) (ws' := [(qM, .inr (7, [.ref qT, .ref qQ, .ref qR, .ref qD, .ref q1, .ref q2, .ref q3, .ref q4, .ref q4, .int ud]))]) X Y i_X7_undo_X7 tyX7 tyX7_ok nmX7 0 rfl rfl 7 (Nat.le_of_ble_eq_true rfl) f_X7_undo_46 rfl rfl rfl rfl (Nat.le_of_ble_eq_true rfl) rfl dX7_undo_45 (fun H locs Y => ?_)
    refine lv_aload_n hx hb dX7_undo_48 rfl (lv_at hl 1 rfl) ?_
    refine lv_aload_n hx hb dX7_undo_49 rfl (lv_at hl 0 rfl) ?_
    refine bPut (T := TX7) (N := 10) (ci := 7) (ws' := [(qM, .inr (7, [.ref qT, .ref qQ, .ref qR, .ref qD, .ref q1, .ref q2, .ref q3, .ref q4, .ref qN, .int ud]))]) X Y i_X7_undo_X7 tyX7 tyX7_ok nmX7 0 rfl rfl 8 (Nat.le_of_ble_eq_true rfl) f_X7_undo_49 rfl rfl rfl rfl (Nat.le_of_ble_eq_true rfl) rfl dX7_undo_50 (fun H locs Y => ?_)
    refine lv_aload_n hx hb dX7_undo_53 rfl (lv_at hl 1 rfl) ?_
    refine lv_dup hx hb dX7_undo_54 rfl ?_
    refine bGet (v := .int ud) (T := TX7) (N := 10) (ci := 7) X Y i_X7_undo_X7 0 rfl rfl 9 (Nat.le_of_ble_eq_true rfl) f_X7_undo_79 rfl rfl dX7_undo_55 ?_
    refine lv_iconst (v := 1) hx hb dX7_undo_58 (by decide) ?_
    refine bSub (v := ud - 1) X dX7_undo_59 rfl ?_
    refine bPut (T := TX7) (N := 10) (ci := 7) (ws' := [(qM, .inr (7, [.ref qT, .ref qQ, .ref qR, .ref qD, .ref q1, .ref q2, .ref q3, .ref q4, .ref qN, .int (ud - 1)]))]) X Y i_X7_undo_X7 tyX7 tyX7_ok nmX7 0 rfl rfl 9 (Nat.le_of_ble_eq_true rfl) f_X7_undo_79 rfl rfl rfl rfl (Nat.le_of_ble_eq_true rfl) rfl dX7_undo_60 (fun H locs Y => ?_)
    refine lv_aload_n hx hb dX7_undo_63 rfl (lv_at hl 1 rfl) ?_
    refine bGet (v := .int (ud - 1)) (T := TX7) (N := 10) (ci := 7) X Y i_X7_undo_X7 0 rfl rfl 9 (Nat.le_of_ble_eq_true rfl) f_X7_undo_79 rfl rfl dX7_undo_64 ?_
    subst hu
    exact bEndI X Y hr hlk dX7_undo_67 rfl rfl
  · have c_1 : ¬ (1 ≤ ud) := c_1
    exact absurd h0_ c_1
def s_undo_no : Int32 :=
  (-2)
set_option maxHeartbeats 4000000 in
set_option maxRecDepth 100000 in
theorem c_undo_no (l : Launch) (D : va_G) (cyC cyI : ClassId) (qM : Nat) (qT : Nat) (qQ : Nat) (qR : Nat) (qD : Nat) (qN : Nat) (q1 : Nat) (q2 : Nat) (q3 : Nat) (q4 : Nat) (ud : Int32) (o0 : Int32) (hu : s_undo_no = o0) (hbad : ¬ (1 ≤ ud)) : CI l yX7_undo wsX7_undo { frames := 0, cells := 0, slots := 0, locals := 0 } D cyC cyI [.ref qM] [(qM, .inr (7, [.ref qT, .ref qQ, .ref qR, .ref qD, .ref qN, .ref q1, .ref q2, .ref q3, .ref q4, .int ud]))] o0 [(qM, .inr (7, [.ref qT, .ref qQ, .ref qR, .ref qD, .ref qN, .ref q1, .ref q2, .ref q3, .ref q4, .int ud]))] := by
  refine CI.of (cc := cX7_undo) (n := 2) (ret := (some .int)) (by decide +kernel) rfl (Nat.le_of_ble_eq_true rfl) ?_
  intro p_ e_ s_ m_ bl_ me_ cd_ A_ ls X Y hr hlk hl
  have hx := X.1.1
  have hb := X.1.2.1
  have hl : lv_has ls 2 [(0, .ref qM)] := hl
  unfold s_undo_no at hu
  refine lv_aload_n hx hb dX7_undo_0 rfl (lv_at hl 0 rfl) ?_
  refine bGet (v := .int ud) (T := TX7) (N := 10) (ci := 7) X Y i_X7_undo_X7 0 rfl rfl 9 (Nat.le_of_ble_eq_true rfl) f_X7_undo_79 rfl rfl dX7_undo_1 ?_
  refine lv_iconst (v := 1) hx hb dX7_undo_4 (by decide) ?_
  refine lv_icmp_ge (tgt := 11) hx hb dX7_undo_5 (by decide) (fun c_1 => ?_) (fun c_1 => ?_)
  · have c_1 : 1 ≤ ud := c_1
    exact absurd c_1 (hbad)
  · have c_1 : ¬ (1 ≤ ud) := c_1
    refine lv_bipush (v := (-2)) hx hb dX7_undo_8 (by decide) ?_
    subst hu
    exact bEndI X Y hr hlk dX7_undo_10 rfl rfl
theorem i_X7_couple_X7 : ∀ w ∈ wsX70, w ∈ wsX7_couple := by decide +kernel
theorem f_X7_couple_36 : Cond.fieldLink RX7 36 "SwingCranes" "now" "LSwingCranes$Story;" ∈ wsX7_couple := by decide +kernel
theorem i_X7_couple_X5 : ∀ w ∈ wsX50, w ∈ wsX7_couple := by decide +kernel
theorem f_X7_couple_95 : Cond.fieldLink RX7 95 "SwingCranes$Story" "pair" "LSwingCranes$Pair;" ∈ wsX7_couple := by decide +kernel
theorem i_X7_couple_X2 : ∀ w ∈ wsX20, w ∈ wsX7_couple := by decide +kernel
theorem f_X7_couple_129 : Cond.fieldLink RX7 129 "SwingCranes$Pair" "level" "I" ∈ wsX7_couple := by decide +kernel
def s_coupleOff_ok (nv : Int32) (nsm : Int32) (nsf : Nat → Int32) (nsg : Nat → Int32) (nzm : Int32) (nzf : Nat → Int32) (nzg : Nat → Int32) (fsf : Nat → Int32) (fsg : Nat → Int32) (fzf : Nat → Int32) (fzg : Nat → Int32) : Int32 × (Nat → Int32) × (Nat → Int32) × (Nat → Int32) × (Nat → Int32) :=
  match s_keepForUndo nsm nsf nsg nzm nzf nzg fsf fsg fzf fzg with
  | (u_4_0, u_4_1, u_4_2, u_4_3) =>
    (nv, u_4_0, u_4_1, u_4_2, u_4_3)
set_option maxHeartbeats 4000000 in
set_option maxRecDepth 100000 in
theorem c_coupleOff_ok (l : Launch) (D : va_G) (cyC cyI : ClassId) (qM : Nat) (qT : Nat) (qQ : Nat) (qR : Nat) (qD : Nat) (qN : Nat) (q1 : Nat) (q2 : Nat) (q3 : Nat) (q4 : Nat) (ud : Int32) (nk : Int32) (qNp : Nat) (nv : Int32) (qNpl : Nat) (nl0 : Int32) (nl1 : Int32) (nl2 : Int32) (nl3 : Int32) (nl4 : Int32) (nl5 : Int32) (nl6 : Int32) (nl7 : Int32) (nl8 : Int32) (nl9 : Int32) (nl10 : Int32) (nl11 : Int32) (nlb : Bool) (qNpr : Nat) (nr0 : Int32) (nr1 : Int32) (nr2 : Int32) (nr3 : Int32) (nr4 : Int32) (nr5 : Int32) (nr6 : Int32) (nr7 : Int32) (nr8 : Int32) (nr9 : Int32) (nr10 : Int32) (nr11 : Int32) (nrb : Bool) (qNs : Nat) (qNsn : Nat) (qNst : Nat) (nsm : Int32) (nsf : Nat → Int32) (nsg : Nat → Int32) (qNz : Nat) (qNzn : Nat) (qNzt : Nat) (nzm : Int32) (nzf : Nat → Int32) (nzg : Nat → Int32) (fk : Int32) (q4p : Nat) (fv : Int32) (q4pl : Nat) (fl0 : Int32) (fl1 : Int32) (fl2 : Int32) (fl3 : Int32) (fl4 : Int32) (fl5 : Int32) (fl6 : Int32) (fl7 : Int32) (fl8 : Int32) (fl9 : Int32) (fl10 : Int32) (fl11 : Int32) (flb : Bool) (q4pr : Nat) (fr0 : Int32) (fr1 : Int32) (fr2 : Int32) (fr3 : Int32) (fr4 : Int32) (fr5 : Int32) (fr6 : Int32) (fr7 : Int32) (fr8 : Int32) (fr9 : Int32) (fr10 : Int32) (fr11 : Int32) (frb : Bool) (q4s : Nat) (q4sn : Nat) (q4st : Nat) (fsm : Int32) (fsf : Nat → Int32) (fsg : Nat → Int32) (q4z : Nat) (q4zn : Nat) (q4zt : Nat) (fzm : Int32) (fzf : Nat → Int32) (fzg : Nat → Int32) (lv : Int32) (o0 : Int32) (o1 : Nat → Int32) (o2 : Nat → Int32) (o3 : Nat → Int32) (o4 : Nat → Int32) (hu : s_coupleOff_ok nv nsm nsf nsg nzm nzf nzg fsf fsg fzf fzg = (o0, o1, o2, o3, o4)) (h0_ : (s_isWithin lv (-1) 20) = true) (h1_ : ¬ (0 ≤ lv)) (h2_ : ¬ (nv = (-4))) : CI l yX7_couple wsX7_couple { frames := 4, cells := 0, slots := 0, locals := 87 } D cyC cyI [.ref qM, .int lv] [(qM, .inr (7, [.ref qT, .ref qQ, .ref qR, .ref qD, .ref qN, .ref q1, .ref q2, .ref q3, .ref q4, .int ud])), (qN, .inr (5, [.ref qNp, .ref qNs, .ref qNz, .int nk])), (qNp, .inr (2, [.ref qNpl, .ref qNpr, .int nv])), (qNpl, .inr (0, [.int nl0, .int nl1, .int nl2, .int nl3, .int nl4, .int nl5, .int nl6, .int nl7, .int nl8, .int nl9, .int nl10, .int nl11, .int (bB nlb)])), (qNpr, .inr (0, [.int nr0, .int nr1, .int nr2, .int nr3, .int nr4, .int nr5, .int nr6, .int nr7, .int nr8, .int nr9, .int nr10, .int nr11, .int (bB nrb)])), (qNs, .inr (3, [.ref qNsn, .ref qNst, .int nsm])), (qNsn, .inl (cyI, 120, .inl nsf)), (qNst, .inl (cyI, 120, .inl nsg)), (qNz, .inr (3, [.ref qNzn, .ref qNzt, .int nzm])), (qNzn, .inl (cyI, 120, .inl nzf)), (qNzt, .inl (cyI, 120, .inl nzg)), (q4, .inr (5, [.ref q4p, .ref q4s, .ref q4z, .int fk])), (q4p, .inr (2, [.ref q4pl, .ref q4pr, .int fv])), (q4pl, .inr (0, [.int fl0, .int fl1, .int fl2, .int fl3, .int fl4, .int fl5, .int fl6, .int fl7, .int fl8, .int fl9, .int fl10, .int fl11, .int (bB flb)])), (q4pr, .inr (0, [.int fr0, .int fr1, .int fr2, .int fr3, .int fr4, .int fr5, .int fr6, .int fr7, .int fr8, .int fr9, .int fr10, .int fr11, .int (bB frb)])), (q4s, .inr (3, [.ref q4sn, .ref q4st, .int fsm])), (q4sn, .inl (cyI, 120, .inl fsf)), (q4st, .inl (cyI, 120, .inl fsg)), (q4z, .inr (3, [.ref q4zn, .ref q4zt, .int fzm])), (q4zn, .inl (cyI, 120, .inl fzf)), (q4zt, .inl (cyI, 120, .inl fzg))] o0 [(qM, .inr (7, [.ref qT, .ref qQ, .ref qR, .ref qD, .ref qN, .ref q4, .ref q1, .ref q2, .ref q3, .int (if 4 < (ud + 1) then 4 else (ud + 1))])), (qN, .inr (5, [.ref qNp, .ref qNs, .ref qNz, .int nk])), (qNp, .inr (2, [.ref qNpl, .ref qNpr, .int (-4)])), (qNpl, .inr (0, [.int nl0, .int nl1, .int nl2, .int nl3, .int nl4, .int nl5, .int nl6, .int nl7, .int nl8, .int nl9, .int nl10, .int nl11, .int (bB nlb)])), (qNpr, .inr (0, [.int nr0, .int nr1, .int nr2, .int nr3, .int nr4, .int nr5, .int nr6, .int nr7, .int nr8, .int nr9, .int nr10, .int nr11, .int (bB nrb)])), (qNs, .inr (3, [.ref qNsn, .ref qNst, .int nsm])), (qNsn, .inl (cyI, 120, .inl nsf)), (qNst, .inl (cyI, 120, .inl nsg)), (qNz, .inr (3, [.ref qNzn, .ref qNzt, .int nzm])), (qNzn, .inl (cyI, 120, .inl nzf)), (qNzt, .inl (cyI, 120, .inl nzg)), (q4, .inr (5, [.ref q4p, .ref q4s, .ref q4z, .int nk])), (q4p, .inr (2, [.ref q4pl, .ref q4pr, .int nv])), (q4pl, .inr (0, [.int nl0, .int nl1, .int nl2, .int nl3, .int nl4, .int nl5, .int nl6, .int nl7, .int nl8, .int nl9, .int nl10, .int nl11, .int (bB nlb)])), (q4pr, .inr (0, [.int nr0, .int nr1, .int nr2, .int nr3, .int nr4, .int nr5, .int nr6, .int nr7, .int nr8, .int nr9, .int nr10, .int nr11, .int (bB nrb)])), (q4s, .inr (3, [.ref q4sn, .ref q4st, .int nsm])), (q4sn, .inl (cyI, 120, .inl o1)), (q4st, .inl (cyI, 120, .inl o2)), (q4z, .inr (3, [.ref q4zn, .ref q4zt, .int nzm])), (q4zn, .inl (cyI, 120, .inl o3)), (q4zt, .inl (cyI, 120, .inl o4))] := by
  refine CI.of (cc := cX7_couple) (n := 4) (ret := (some .int)) (by decide +kernel) rfl (Nat.le_of_ble_eq_true rfl) ?_
  intro p_ e_ s_ m_ bl_ me_ cd_ A_ ls X Y hr hlk hl
  have hx := X.1.1
  have hb := X.1.2.1
  have hl : lv_has ls 4 [(0, .ref qM), (1, .int lv)] := hl
  unfold s_coupleOff_ok at hu
  refine lv_iload_n hx hb dX7_couple_0 rfl (lv_at hl 1 rfl) ?_
  refine lv_iconst (v := (-1)) hx hb dX7_couple_1 (by decide) ?_
  refine lv_bipush (v := 20) hx hb dX7_couple_2 (by decide) ?_
  refine bSI (As := [.int lv, .int (-1), .int 20]) (rest := []) X Y (c_isWithin l D cyC cyI lv (-1) 20 (s_isWithin lv (-1) 20) rfl) gX7_couple_X7_isWithin rfl ⟨rfl, rfl⟩ hd_X7_isWithin.2 ⟨(Nat.le_of_ble_eq_true rfl), (Nat.le_of_ble_eq_true rfl)⟩ rfl rfl hl.1 (Nat.le_of_ble_eq_true rfl) ⟨Nat.zero_le _, Nat.zero_le _⟩ dX7_couple_4 (fun H locs Y => ?_)
  refine lv_if_ne (tgt := 12) hx hb dX7_couple_7 (by decide) (fun c_1 => ?_) (fun c_1 => ?_)
  · have c_1 := bB_t c_1
    refine lv_aload_n hx hb dX7_couple_12 rfl (lv_at hl 0 rfl) ?_
    refine bGet (v := .ref qN) (T := TX7) (N := 10) (ci := 7) X Y i_X7_couple_X7 0 rfl rfl 4 (Nat.le_of_ble_eq_true rfl) f_X7_couple_36 rfl rfl dX7_couple_13 ?_
    refine bGet (v := .ref qNp) (T := TX5) (N := 4) (ci := 5) X Y i_X7_couple_X5 1 rfl rfl 0 (Nat.le_of_ble_eq_true rfl) f_X7_couple_95 rfl rfl dX7_couple_16 ?_
    refine bGet (v := .int nv) (T := TX2) (N := 3) (ci := 2) X Y i_X7_couple_X2 2 rfl rfl 2 (Nat.le_of_ble_eq_true rfl) f_X7_couple_129 rfl rfl dX7_couple_19 ?_
    refine lv_istore_n (lv' := [(2, .int nv), (0, .ref qM), (1, .int lv)]) hx hb dX7_couple_22 rfl hl (by decide) rfl (fun ls hl => ?_)
    refine lv_iload_n hx hb dX7_couple_23 rfl (lv_at hl 2 rfl) ?_
    refine lv_if_ge (tgt := 32) hx hb dX7_couple_24 (by decide) (fun c_2 => ?_) (fun c_2 => ?_)
    · have c_2 : 0 ≤ lv := c_2
      exact absurd c_2 h1_
    · have c_2 : ¬ (0 ≤ lv) := c_2
      refine lv_bipush (v := (-4)) hx hb dX7_couple_27 (by decide) ?_
      refine lv_goto (tgt := 33) hx hb dX7_couple_29 (by decide) ?_
      refine lv_istore_n (lv' := [(3, .int (-4)), (2, .int nv), (0, .ref qM), (1, .int lv)]) hx hb dX7_couple_33 rfl hl (by decide) rfl (fun ls hl => ?_)
      refine lv_iload_n hx hb dX7_couple_34 rfl (lv_at hl 1 rfl) ?_
      refine lv_iload_n hx hb dX7_couple_35 rfl (lv_at hl 0 rfl) ?_
      refine lv_icmp_ne (tgt := 42) hx hb dX7_couple_36 (by decide) (fun c_3 => ?_) (fun c_3 => ?_)
      · have c_3 : ¬ (nv = (-4)) := c_3
        refine lv_aload_n hx hb dX7_couple_42 rfl (lv_at hl 2 rfl) ?_
        obtain ⟨u_4_0, u_4_1, u_4_2, u_4_3, hr_4⟩ := bEx4 (s_keepForUndo nsm nsf nsg nzm nzf nzg fsf fsg fzf fzg)
        rw [hr_4] at hu
        dsimp only at hu
        refine bVV (As := []) (rest := []) (wc := [(qM, .inr (7, [.ref qT, .ref qQ, .ref qR, .ref qD, .ref qN, .ref q1, .ref q2, .ref q3, .ref q4, .int ud])), (qN, .inr (5, [.ref qNp, .ref qNs, .ref qNz, .int nk])), (qNp, .inr (2, [.ref qNpl, .ref qNpr, .int nv])), (qNpl, .inr (0, [.int nl0, .int nl1, .int nl2, .int nl3, .int nl4, .int nl5, .int nl6, .int nl7, .int nl8, .int nl9, .int nl10, .int nl11, .int (bB nlb)])), (qNpr, .inr (0, [.int nr0, .int nr1, .int nr2, .int nr3, .int nr4, .int nr5, .int nr6, .int nr7, .int nr8, .int nr9, .int nr10, .int nr11, .int (bB nrb)])), (qNs, .inr (3, [.ref qNsn, .ref qNst, .int nsm])), (qNsn, .inl (cyI, 120, .inl nsf)), (qNst, .inl (cyI, 120, .inl nsg)), (qNz, .inr (3, [.ref qNzn, .ref qNzt, .int nzm])), (qNzn, .inl (cyI, 120, .inl nzf)), (qNzt, .inl (cyI, 120, .inl nzg)), (q4, .inr (5, [.ref q4p, .ref q4s, .ref q4z, .int fk])), (q4p, .inr (2, [.ref q4pl, .ref q4pr, .int fv])), (q4pl, .inr (0, [.int fl0, .int fl1, .int fl2, .int fl3, .int fl4, .int fl5, .int fl6, .int fl7, .int fl8, .int fl9, .int fl10, .int fl11, .int (bB flb)])), (q4pr, .inr (0, [.int fr0, .int fr1, .int fr2, .int fr3, .int fr4, .int fr5, .int fr6, .int fr7, .int fr8, .int fr9, .int fr10, .int fr11, .int (bB frb)])), (q4s, .inr (3, [.ref q4sn, .ref q4st, .int fsm])), (q4sn, .inl (cyI, 120, .inl fsf)), (q4st, .inl (cyI, 120, .inl fsg)), (q4z, .inr (3, [.ref q4zn, .ref q4zt, .int fzm])), (q4zn, .inl (cyI, 120, .inl fzf)), (q4zt, .inl (cyI, 120, .inl fzg))]) (w1 := [(qM, .inr (7, [.ref qT, .ref qQ, .ref qR, .ref qD, .ref qN, .ref q4, .ref q1, .ref q2, .ref q3, .int (if 4 < (ud + 1) then 4 else (ud + 1))])), (qN, .inr (5, [.ref qNp, .ref qNs, .ref qNz, .int nk])), (qNp, .inr (2, [.ref qNpl, .ref qNpr, .int nv])), (qNpl, .inr (0, [.int nl0, .int nl1, .int nl2, .int nl3, .int nl4, .int nl5, .int nl6, .int nl7, .int nl8, .int nl9, .int nl10, .int nl11, .int (bB nlb)])), (qNpr, .inr (0, [.int nr0, .int nr1, .int nr2, .int nr3, .int nr4, .int nr5, .int nr6, .int nr7, .int nr8, .int nr9, .int nr10, .int nr11, .int (bB nrb)])), (qNs, .inr (3, [.ref qNsn, .ref qNst, .int nsm])), (qNsn, .inl (cyI, 120, .inl nsf)), (qNst, .inl (cyI, 120, .inl nsg)), (qNz, .inr (3, [.ref qNzn, .ref qNzt, .int nzm])), (qNzn, .inl (cyI, 120, .inl nzf)), (qNzt, .inl (cyI, 120, .inl nzg)), (q4, .inr (5, [.ref q4p, .ref q4s, .ref q4z, .int nk])), (q4p, .inr (2, [.ref q4pl, .ref q4pr, .int nv])), (q4pl, .inr (0, [.int nl0, .int nl1, .int nl2, .int nl3, .int nl4, .int nl5, .int nl6, .int nl7, .int nl8, .int nl9, .int nl10, .int nl11, .int (bB nlb)])), (q4pr, .inr (0, [.int nr0, .int nr1, .int nr2, .int nr3, .int nr4, .int nr5, .int nr6, .int nr7, .int nr8, .int nr9, .int nr10, .int nr11, .int (bB nrb)])), (q4s, .inr (3, [.ref q4sn, .ref q4st, .int nsm])), (q4sn, .inl (cyI, 120, .inl u_4_0)), (q4st, .inl (cyI, 120, .inl u_4_1)), (q4z, .inr (3, [.ref q4zn, .ref q4zt, .int nzm])), (q4zn, .inl (cyI, 120, .inl u_4_2)), (q4zt, .inl (cyI, 120, .inl u_4_3))]) (ws' := [(qM, .inr (7, [.ref qT, .ref qQ, .ref qR, .ref qD, .ref qN, .ref q4, .ref q1, .ref q2, .ref q3, .int (if 4 < (ud + 1) then 4 else (ud + 1))])), (qN, .inr (5, [.ref qNp, .ref qNs, .ref qNz, .int nk])), (qNp, .inr (2, [.ref qNpl, .ref qNpr, .int nv])), (qNpl, .inr (0, [.int nl0, .int nl1, .int nl2, .int nl3, .int nl4, .int nl5, .int nl6, .int nl7, .int nl8, .int nl9, .int nl10, .int nl11, .int (bB nlb)])), (qNpr, .inr (0, [.int nr0, .int nr1, .int nr2, .int nr3, .int nr4, .int nr5, .int nr6, .int nr7, .int nr8, .int nr9, .int nr10, .int nr11, .int (bB nrb)])), (qNs, .inr (3, [.ref qNsn, .ref qNst, .int nsm])), (qNsn, .inl (cyI, 120, .inl nsf)), (qNst, .inl (cyI, 120, .inl nsg)), (qNz, .inr (3, [.ref qNzn, .ref qNzt, .int nzm])), (qNzn, .inl (cyI, 120, .inl nzf)), (qNzt, .inl (cyI, 120, .inl nzg)), (q4, .inr (5, [.ref q4p, .ref q4s, .ref q4z, .int nk])), (q4p, .inr (2, [.ref q4pl, .ref q4pr, .int nv])), (q4pl, .inr (0, [.int nl0, .int nl1, .int nl2, .int nl3, .int nl4, .int nl5, .int nl6, .int nl7, .int nl8, .int nl9, .int nl10, .int nl11, .int (bB nlb)])), (q4pr, .inr (0, [.int nr0, .int nr1, .int nr2, .int nr3, .int nr4, .int nr5, .int nr6, .int nr7, .int nr8, .int nr9, .int nr10, .int nr11, .int (bB nrb)])), (q4s, .inr (3, [.ref q4sn, .ref q4st, .int nsm])), (q4sn, .inl (cyI, 120, .inl u_4_0)), (q4st, .inl (cyI, 120, .inl u_4_1)), (q4z, .inr (3, [.ref q4zn, .ref q4zt, .int nzm])), (q4zn, .inl (cyI, 120, .inl u_4_2)), (q4zt, .inl (cyI, 120, .inl u_4_3))]) (nn := 21) (ci := 7) (q0 := 0) X Y (c_keepForUndo l D cyC cyI qM qT qQ qR qD qN q1 q2 q3 q4 ud nk qNp nv qNpl nl0 nl1 nl2 nl3 nl4 nl5 nl6 nl7 nl8 nl9 nl10 nl11 nlb qNpr nr0 nr1 nr2 nr3 nr4 nr5 nr6 nr7 nr8 nr9 nr10 nr11 nrb qNs qNsn qNst nsm nsf nsg qNz qNzn qNzt nzm nzf nzg fk q4p fv q4pl fl0 fl1 fl2 fl3 fl4 fl5 fl6 fl7 fl8 fl9 fl10 fl11 flb q4pr fr0 fr1 fr2 fr3 fr4 fr5 fr6 fr7 fr8 fr9 fr10 fr11 frb q4s q4sn q4st fsm fsf fsg q4z q4zn q4zt fzm fzf fzg u_4_0 u_4_1 u_4_2 u_4_3 hr_4) gX7_couple_X7_keepForUndo rfl ⟨rfl, rfl⟩ hd_X7_keepForUndo ⟨(Nat.le_of_ble_eq_true rfl), (Nat.le_of_ble_eq_true rfl)⟩ rfl rfl rfl [0, 1, 2, 3, 4, 5, 6, 7, 8, 9, 10, 11, 12, 13, 14, 15, 16, 17, 18, 19, 20] [] rfl rfl rfl rfl rfl rfl (by decide) rfl rfl hl.1 (Nat.le_of_ble_eq_true rfl) ⟨Nat.zero_le _, Nat.zero_le _⟩ dX7_couple_43 (fun H locs Y => ?_)
        refine lv_aload_n hx hb dX7_couple_46 rfl (lv_at hl 2 rfl) ?_
        refine bGet (v := .ref qN) (T := TX7) (N := 10) (ci := 7) X Y i_X7_couple_X7 0 rfl rfl 4 (Nat.le_of_ble_eq_true rfl) f_X7_couple_36 rfl rfl dX7_couple_47 ?_
        refine bGet (v := .ref qNp) (T := TX5) (N := 4) (ci := 5) X Y i_X7_couple_X5 1 rfl rfl 0 (Nat.le_of_ble_eq_true rfl) f_X7_couple_95 rfl rfl dX7_couple_50 ?_
        refine lv_iload_n hx hb dX7_couple_53 rfl (lv_at hl 0 rfl) ?_
        refine bPut (T := TX2) (N := 3) (ci := 2) (ws' := [(qM, .inr (7, [.ref qT, .ref qQ, .ref qR, .ref qD, .ref qN, .ref q4, .ref q1, .ref q2, .ref q3, .int (if 4 < (ud + 1) then 4 else (ud + 1))])), (qN, .inr (5, [.ref qNp, .ref qNs, .ref qNz, .int nk])), (qNp, .inr (2, [.ref qNpl, .ref qNpr, .int (-4)])), (qNpl, .inr (0, [.int nl0, .int nl1, .int nl2, .int nl3, .int nl4, .int nl5, .int nl6, .int nl7, .int nl8, .int nl9, .int nl10, .int nl11, .int (bB nlb)])), (qNpr, .inr (0, [.int nr0, .int nr1, .int nr2, .int nr3, .int nr4, .int nr5, .int nr6, .int nr7, .int nr8, .int nr9, .int nr10, .int nr11, .int (bB nrb)])), (qNs, .inr (3, [.ref qNsn, .ref qNst, .int nsm])), (qNsn, .inl (cyI, 120, .inl nsf)), (qNst, .inl (cyI, 120, .inl nsg)), (qNz, .inr (3, [.ref qNzn, .ref qNzt, .int nzm])), (qNzn, .inl (cyI, 120, .inl nzf)), (qNzt, .inl (cyI, 120, .inl nzg)), (q4, .inr (5, [.ref q4p, .ref q4s, .ref q4z, .int nk])), (q4p, .inr (2, [.ref q4pl, .ref q4pr, .int nv])), (q4pl, .inr (0, [.int nl0, .int nl1, .int nl2, .int nl3, .int nl4, .int nl5, .int nl6, .int nl7, .int nl8, .int nl9, .int nl10, .int nl11, .int (bB nlb)])), (q4pr, .inr (0, [.int nr0, .int nr1, .int nr2, .int nr3, .int nr4, .int nr5, .int nr6, .int nr7, .int nr8, .int nr9, .int nr10, .int nr11, .int (bB nrb)])), (q4s, .inr (3, [.ref q4sn, .ref q4st, .int nsm])), (q4sn, .inl (cyI, 120, .inl u_4_0)), (q4st, .inl (cyI, 120, .inl u_4_1)), (q4z, .inr (3, [.ref q4zn, .ref q4zt, .int nzm])), (q4zn, .inl (cyI, 120, .inl u_4_2)), (q4zt, .inl (cyI, 120, .inl u_4_3))]) X Y i_X7_couple_X2 tyX2 tyX2_ok nmX2 2 rfl rfl 2 (Nat.le_of_ble_eq_true rfl) f_X7_couple_129 rfl rfl rfl rfl (Nat.le_of_ble_eq_true rfl) rfl dX7_couple_54 (fun H locs Y => ?_)
        refine lv_iload_n hx hb dX7_couple_57 rfl (lv_at hl 1 rfl) ?_
        have h9 := (Prod.mk.inj hu).1; replace hu := (Prod.mk.inj hu).2; subst h9
        have h9 := (Prod.mk.inj hu).1; replace hu := (Prod.mk.inj hu).2; subst h9
        have h9 := (Prod.mk.inj hu).1; replace hu := (Prod.mk.inj hu).2; subst h9
        have h9 := (Prod.mk.inj hu).1; replace hu := (Prod.mk.inj hu).2; subst h9
        subst hu
        exact bEndI X Y hr hlk dX7_couple_58 rfl rfl
      · have c_3 : nv = (-4) := c_3
        exact absurd c_3 h2_
  · have c_1 := bB_f c_1
    exact absurd h0_ c_1
def s_coupleOff_no (lv : Int32) : Int32 :=
  if (s_isWithin lv (-1) 20) = true then
    (-2)
  else
    (-1)
set_option maxHeartbeats 4000000 in
set_option maxRecDepth 100000 in
theorem c_coupleOff_no (l : Launch) (D : va_G) (cyC cyI : ClassId) (qM : Nat) (qT : Nat) (qQ : Nat) (qR : Nat) (qD : Nat) (qN : Nat) (q1 : Nat) (q2 : Nat) (q3 : Nat) (q4 : Nat) (ud : Int32) (nk : Int32) (qNp : Nat) (nv : Int32) (qNpl : Nat) (nl0 : Int32) (nl1 : Int32) (nl2 : Int32) (nl3 : Int32) (nl4 : Int32) (nl5 : Int32) (nl6 : Int32) (nl7 : Int32) (nl8 : Int32) (nl9 : Int32) (nl10 : Int32) (nl11 : Int32) (nlb : Bool) (qNpr : Nat) (nr0 : Int32) (nr1 : Int32) (nr2 : Int32) (nr3 : Int32) (nr4 : Int32) (nr5 : Int32) (nr6 : Int32) (nr7 : Int32) (nr8 : Int32) (nr9 : Int32) (nr10 : Int32) (nr11 : Int32) (nrb : Bool) (qNs : Nat) (qNz : Nat) (lv : Int32) (o0 : Int32) (hu : s_coupleOff_no lv = o0) (h1_ : ¬ (0 ≤ lv)) (hbad : ((s_isWithin lv (-1) 20) = true) → ¬ (¬ (nv = (-4)))) : CI l yX7_couple wsX7_couple { frames := 1, cells := 0, slots := 0, locals := 22 } D cyC cyI [.ref qM, .int lv] [(qM, .inr (7, [.ref qT, .ref qQ, .ref qR, .ref qD, .ref qN, .ref q1, .ref q2, .ref q3, .ref q4, .int ud])), (qN, .inr (5, [.ref qNp, .ref qNs, .ref qNz, .int nk])), (qNp, .inr (2, [.ref qNpl, .ref qNpr, .int nv])), (qNpl, .inr (0, [.int nl0, .int nl1, .int nl2, .int nl3, .int nl4, .int nl5, .int nl6, .int nl7, .int nl8, .int nl9, .int nl10, .int nl11, .int (bB nlb)])), (qNpr, .inr (0, [.int nr0, .int nr1, .int nr2, .int nr3, .int nr4, .int nr5, .int nr6, .int nr7, .int nr8, .int nr9, .int nr10, .int nr11, .int (bB nrb)]))] o0 [(qM, .inr (7, [.ref qT, .ref qQ, .ref qR, .ref qD, .ref qN, .ref q1, .ref q2, .ref q3, .ref q4, .int ud])), (qN, .inr (5, [.ref qNp, .ref qNs, .ref qNz, .int nk])), (qNp, .inr (2, [.ref qNpl, .ref qNpr, .int nv])), (qNpl, .inr (0, [.int nl0, .int nl1, .int nl2, .int nl3, .int nl4, .int nl5, .int nl6, .int nl7, .int nl8, .int nl9, .int nl10, .int nl11, .int (bB nlb)])), (qNpr, .inr (0, [.int nr0, .int nr1, .int nr2, .int nr3, .int nr4, .int nr5, .int nr6, .int nr7, .int nr8, .int nr9, .int nr10, .int nr11, .int (bB nrb)]))] := by
  refine CI.of (cc := cX7_couple) (n := 4) (ret := (some .int)) (by decide +kernel) rfl (Nat.le_of_ble_eq_true rfl) ?_
  intro p_ e_ s_ m_ bl_ me_ cd_ A_ ls X Y hr hlk hl
  have hx := X.1.1
  have hb := X.1.2.1
  have hl : lv_has ls 4 [(0, .ref qM), (1, .int lv)] := hl
  unfold s_coupleOff_no at hu
  refine lv_iload_n hx hb dX7_couple_0 rfl (lv_at hl 1 rfl) ?_
  refine lv_iconst (v := (-1)) hx hb dX7_couple_1 (by decide) ?_
  refine lv_bipush (v := 20) hx hb dX7_couple_2 (by decide) ?_
  refine bSI (As := [.int lv, .int (-1), .int 20]) (rest := []) X Y (c_isWithin l D cyC cyI lv (-1) 20 (s_isWithin lv (-1) 20) rfl) gX7_couple_X7_isWithin rfl ⟨rfl, rfl⟩ hd_X7_isWithin.2 ⟨(Nat.le_of_ble_eq_true rfl), (Nat.le_of_ble_eq_true rfl)⟩ rfl rfl hl.1 (Nat.le_of_ble_eq_true rfl) ⟨Nat.zero_le _, Nat.zero_le _⟩ dX7_couple_4 (fun H locs Y => ?_)
  refine lv_if_ne (tgt := 12) hx hb dX7_couple_7 (by decide) (fun c_1 => ?_) (fun c_1 => ?_)
  · have c_1 := bB_t c_1
    rw [if_pos c_1] at hu
    refine lv_aload_n hx hb dX7_couple_12 rfl (lv_at hl 0 rfl) ?_
    refine bGet (v := .ref qN) (T := TX7) (N := 10) (ci := 7) X Y i_X7_couple_X7 0 rfl rfl 4 (Nat.le_of_ble_eq_true rfl) f_X7_couple_36 rfl rfl dX7_couple_13 ?_
    refine bGet (v := .ref qNp) (T := TX5) (N := 4) (ci := 5) X Y i_X7_couple_X5 1 rfl rfl 0 (Nat.le_of_ble_eq_true rfl) f_X7_couple_95 rfl rfl dX7_couple_16 ?_
    refine bGet (v := .int nv) (T := TX2) (N := 3) (ci := 2) X Y i_X7_couple_X2 2 rfl rfl 2 (Nat.le_of_ble_eq_true rfl) f_X7_couple_129 rfl rfl dX7_couple_19 ?_
    refine lv_istore_n (lv' := [(2, .int nv), (0, .ref qM), (1, .int lv)]) hx hb dX7_couple_22 rfl hl (by decide) rfl (fun ls hl => ?_)
    refine lv_iload_n hx hb dX7_couple_23 rfl (lv_at hl 2 rfl) ?_
    refine lv_if_ge (tgt := 32) hx hb dX7_couple_24 (by decide) (fun c_2 => ?_) (fun c_2 => ?_)
    · have c_2 : 0 ≤ lv := c_2
      exact absurd c_2 h1_
    · have c_2 : ¬ (0 ≤ lv) := c_2
      refine lv_bipush (v := (-4)) hx hb dX7_couple_27 (by decide) ?_
      refine lv_goto (tgt := 33) hx hb dX7_couple_29 (by decide) ?_
      refine lv_istore_n (lv' := [(3, .int (-4)), (2, .int nv), (0, .ref qM), (1, .int lv)]) hx hb dX7_couple_33 rfl hl (by decide) rfl (fun ls hl => ?_)
      refine lv_iload_n hx hb dX7_couple_34 rfl (lv_at hl 1 rfl) ?_
      refine lv_iload_n hx hb dX7_couple_35 rfl (lv_at hl 0 rfl) ?_
      refine lv_icmp_ne (tgt := 42) hx hb dX7_couple_36 (by decide) (fun c_3 => ?_) (fun c_3 => ?_)
      · have c_3 : ¬ (nv = (-4)) := c_3
        exact absurd c_3 (hbad c_1)
      · have c_3 : nv = (-4) := c_3
        refine lv_bipush (v := (-2)) hx hb dX7_couple_39 (by decide) ?_
        subst hu
        exact bEndI X Y hr hlk dX7_couple_41 rfl rfl
  · have c_1 := bB_f c_1
    rw [if_neg c_1] at hu
    refine lv_iconst (v := (-1)) hx hb dX7_couple_10 (by decide) ?_
    subst hu
    exact bEndI X Y hr hlk dX7_couple_11 rfl rfl
def s_coupleOn_ok (nv : Int32) (nsm : Int32) (nsf : Nat → Int32) (nsg : Nat → Int32) (nzm : Int32) (nzf : Nat → Int32) (nzg : Nat → Int32) (fsf : Nat → Int32) (fsg : Nat → Int32) (fzf : Nat → Int32) (fzg : Nat → Int32) : Int32 × (Nat → Int32) × (Nat → Int32) × (Nat → Int32) × (Nat → Int32) :=
  match s_keepForUndo nsm nsf nsg nzm nzf nzg fsf fsg fzf fzg with
  | (u_4_0, u_4_1, u_4_2, u_4_3) =>
    (nv, u_4_0, u_4_1, u_4_2, u_4_3)
set_option maxHeartbeats 4000000 in
set_option maxRecDepth 100000 in
theorem c_coupleOn_ok (l : Launch) (D : va_G) (cyC cyI : ClassId) (qM : Nat) (qT : Nat) (qQ : Nat) (qR : Nat) (qD : Nat) (qN : Nat) (q1 : Nat) (q2 : Nat) (q3 : Nat) (q4 : Nat) (ud : Int32) (nk : Int32) (qNp : Nat) (nv : Int32) (qNpl : Nat) (nl0 : Int32) (nl1 : Int32) (nl2 : Int32) (nl3 : Int32) (nl4 : Int32) (nl5 : Int32) (nl6 : Int32) (nl7 : Int32) (nl8 : Int32) (nl9 : Int32) (nl10 : Int32) (nl11 : Int32) (nlb : Bool) (qNpr : Nat) (nr0 : Int32) (nr1 : Int32) (nr2 : Int32) (nr3 : Int32) (nr4 : Int32) (nr5 : Int32) (nr6 : Int32) (nr7 : Int32) (nr8 : Int32) (nr9 : Int32) (nr10 : Int32) (nr11 : Int32) (nrb : Bool) (qNs : Nat) (qNsn : Nat) (qNst : Nat) (nsm : Int32) (nsf : Nat → Int32) (nsg : Nat → Int32) (qNz : Nat) (qNzn : Nat) (qNzt : Nat) (nzm : Int32) (nzf : Nat → Int32) (nzg : Nat → Int32) (fk : Int32) (q4p : Nat) (fv : Int32) (q4pl : Nat) (fl0 : Int32) (fl1 : Int32) (fl2 : Int32) (fl3 : Int32) (fl4 : Int32) (fl5 : Int32) (fl6 : Int32) (fl7 : Int32) (fl8 : Int32) (fl9 : Int32) (fl10 : Int32) (fl11 : Int32) (flb : Bool) (q4pr : Nat) (fr0 : Int32) (fr1 : Int32) (fr2 : Int32) (fr3 : Int32) (fr4 : Int32) (fr5 : Int32) (fr6 : Int32) (fr7 : Int32) (fr8 : Int32) (fr9 : Int32) (fr10 : Int32) (fr11 : Int32) (frb : Bool) (q4s : Nat) (q4sn : Nat) (q4st : Nat) (fsm : Int32) (fsf : Nat → Int32) (fsg : Nat → Int32) (q4z : Nat) (q4zn : Nat) (q4zt : Nat) (fzm : Int32) (fzf : Nat → Int32) (fzg : Nat → Int32) (lv : Int32) (o0 : Int32) (o1 : Nat → Int32) (o2 : Nat → Int32) (o3 : Nat → Int32) (o4 : Nat → Int32) (hu : s_coupleOn_ok nv nsm nsf nsg nzm nzf nzg fsf fsg fzf fzg = (o0, o1, o2, o3, o4)) (h0_ : (s_isWithin lv (-1) 20) = true) (h1_ : 0 ≤ lv) (h2_ : ¬ (nv = lv)) : CI l yX7_couple wsX7_couple { frames := 4, cells := 0, slots := 0, locals := 87 } D cyC cyI [.ref qM, .int lv] [(qM, .inr (7, [.ref qT, .ref qQ, .ref qR, .ref qD, .ref qN, .ref q1, .ref q2, .ref q3, .ref q4, .int ud])), (qN, .inr (5, [.ref qNp, .ref qNs, .ref qNz, .int nk])), (qNp, .inr (2, [.ref qNpl, .ref qNpr, .int nv])), (qNpl, .inr (0, [.int nl0, .int nl1, .int nl2, .int nl3, .int nl4, .int nl5, .int nl6, .int nl7, .int nl8, .int nl9, .int nl10, .int nl11, .int (bB nlb)])), (qNpr, .inr (0, [.int nr0, .int nr1, .int nr2, .int nr3, .int nr4, .int nr5, .int nr6, .int nr7, .int nr8, .int nr9, .int nr10, .int nr11, .int (bB nrb)])), (qNs, .inr (3, [.ref qNsn, .ref qNst, .int nsm])), (qNsn, .inl (cyI, 120, .inl nsf)), (qNst, .inl (cyI, 120, .inl nsg)), (qNz, .inr (3, [.ref qNzn, .ref qNzt, .int nzm])), (qNzn, .inl (cyI, 120, .inl nzf)), (qNzt, .inl (cyI, 120, .inl nzg)), (q4, .inr (5, [.ref q4p, .ref q4s, .ref q4z, .int fk])), (q4p, .inr (2, [.ref q4pl, .ref q4pr, .int fv])), (q4pl, .inr (0, [.int fl0, .int fl1, .int fl2, .int fl3, .int fl4, .int fl5, .int fl6, .int fl7, .int fl8, .int fl9, .int fl10, .int fl11, .int (bB flb)])), (q4pr, .inr (0, [.int fr0, .int fr1, .int fr2, .int fr3, .int fr4, .int fr5, .int fr6, .int fr7, .int fr8, .int fr9, .int fr10, .int fr11, .int (bB frb)])), (q4s, .inr (3, [.ref q4sn, .ref q4st, .int fsm])), (q4sn, .inl (cyI, 120, .inl fsf)), (q4st, .inl (cyI, 120, .inl fsg)), (q4z, .inr (3, [.ref q4zn, .ref q4zt, .int fzm])), (q4zn, .inl (cyI, 120, .inl fzf)), (q4zt, .inl (cyI, 120, .inl fzg))] o0 [(qM, .inr (7, [.ref qT, .ref qQ, .ref qR, .ref qD, .ref qN, .ref q4, .ref q1, .ref q2, .ref q3, .int (if 4 < (ud + 1) then 4 else (ud + 1))])), (qN, .inr (5, [.ref qNp, .ref qNs, .ref qNz, .int nk])), (qNp, .inr (2, [.ref qNpl, .ref qNpr, .int lv])), (qNpl, .inr (0, [.int nl0, .int nl1, .int nl2, .int nl3, .int nl4, .int nl5, .int nl6, .int nl7, .int nl8, .int nl9, .int nl10, .int nl11, .int (bB nlb)])), (qNpr, .inr (0, [.int nr0, .int nr1, .int nr2, .int nr3, .int nr4, .int nr5, .int nr6, .int nr7, .int nr8, .int nr9, .int nr10, .int nr11, .int (bB nrb)])), (qNs, .inr (3, [.ref qNsn, .ref qNst, .int nsm])), (qNsn, .inl (cyI, 120, .inl nsf)), (qNst, .inl (cyI, 120, .inl nsg)), (qNz, .inr (3, [.ref qNzn, .ref qNzt, .int nzm])), (qNzn, .inl (cyI, 120, .inl nzf)), (qNzt, .inl (cyI, 120, .inl nzg)), (q4, .inr (5, [.ref q4p, .ref q4s, .ref q4z, .int nk])), (q4p, .inr (2, [.ref q4pl, .ref q4pr, .int nv])), (q4pl, .inr (0, [.int nl0, .int nl1, .int nl2, .int nl3, .int nl4, .int nl5, .int nl6, .int nl7, .int nl8, .int nl9, .int nl10, .int nl11, .int (bB nlb)])), (q4pr, .inr (0, [.int nr0, .int nr1, .int nr2, .int nr3, .int nr4, .int nr5, .int nr6, .int nr7, .int nr8, .int nr9, .int nr10, .int nr11, .int (bB nrb)])), (q4s, .inr (3, [.ref q4sn, .ref q4st, .int nsm])), (q4sn, .inl (cyI, 120, .inl o1)), (q4st, .inl (cyI, 120, .inl o2)), (q4z, .inr (3, [.ref q4zn, .ref q4zt, .int nzm])), (q4zn, .inl (cyI, 120, .inl o3)), (q4zt, .inl (cyI, 120, .inl o4))] := by
  refine CI.of (cc := cX7_couple) (n := 4) (ret := (some .int)) (by decide +kernel) rfl (Nat.le_of_ble_eq_true rfl) ?_
  intro p_ e_ s_ m_ bl_ me_ cd_ A_ ls X Y hr hlk hl
  have hx := X.1.1
  have hb := X.1.2.1
  have hl : lv_has ls 4 [(0, .ref qM), (1, .int lv)] := hl
  unfold s_coupleOn_ok at hu
  refine lv_iload_n hx hb dX7_couple_0 rfl (lv_at hl 1 rfl) ?_
  refine lv_iconst (v := (-1)) hx hb dX7_couple_1 (by decide) ?_
  refine lv_bipush (v := 20) hx hb dX7_couple_2 (by decide) ?_
  refine bSI (As := [.int lv, .int (-1), .int 20]) (rest := []) X Y (c_isWithin l D cyC cyI lv (-1) 20 (s_isWithin lv (-1) 20) rfl) gX7_couple_X7_isWithin rfl ⟨rfl, rfl⟩ hd_X7_isWithin.2 ⟨(Nat.le_of_ble_eq_true rfl), (Nat.le_of_ble_eq_true rfl)⟩ rfl rfl hl.1 (Nat.le_of_ble_eq_true rfl) ⟨Nat.zero_le _, Nat.zero_le _⟩ dX7_couple_4 (fun H locs Y => ?_)
  refine lv_if_ne (tgt := 12) hx hb dX7_couple_7 (by decide) (fun c_1 => ?_) (fun c_1 => ?_)
  · have c_1 := bB_t c_1
    refine lv_aload_n hx hb dX7_couple_12 rfl (lv_at hl 0 rfl) ?_
    refine bGet (v := .ref qN) (T := TX7) (N := 10) (ci := 7) X Y i_X7_couple_X7 0 rfl rfl 4 (Nat.le_of_ble_eq_true rfl) f_X7_couple_36 rfl rfl dX7_couple_13 ?_
    refine bGet (v := .ref qNp) (T := TX5) (N := 4) (ci := 5) X Y i_X7_couple_X5 1 rfl rfl 0 (Nat.le_of_ble_eq_true rfl) f_X7_couple_95 rfl rfl dX7_couple_16 ?_
    refine bGet (v := .int nv) (T := TX2) (N := 3) (ci := 2) X Y i_X7_couple_X2 2 rfl rfl 2 (Nat.le_of_ble_eq_true rfl) f_X7_couple_129 rfl rfl dX7_couple_19 ?_
    refine lv_istore_n (lv' := [(2, .int nv), (0, .ref qM), (1, .int lv)]) hx hb dX7_couple_22 rfl hl (by decide) rfl (fun ls hl => ?_)
    refine lv_iload_n hx hb dX7_couple_23 rfl (lv_at hl 2 rfl) ?_
    refine lv_if_ge (tgt := 32) hx hb dX7_couple_24 (by decide) (fun c_2 => ?_) (fun c_2 => ?_)
    · have c_2 : 0 ≤ lv := c_2
      refine lv_iload_n hx hb dX7_couple_32 rfl (lv_at hl 2 rfl) ?_
      refine lv_istore_n (lv' := [(3, .int lv), (2, .int nv), (0, .ref qM), (1, .int lv)]) hx hb dX7_couple_33 rfl hl (by decide) rfl (fun ls hl => ?_)
      refine lv_iload_n hx hb dX7_couple_34 rfl (lv_at hl 1 rfl) ?_
      refine lv_iload_n hx hb dX7_couple_35 rfl (lv_at hl 0 rfl) ?_
      refine lv_icmp_ne (tgt := 42) hx hb dX7_couple_36 (by decide) (fun c_3 => ?_) (fun c_3 => ?_)
      · have c_3 : ¬ (nv = lv) := c_3
        refine lv_aload_n hx hb dX7_couple_42 rfl (lv_at hl 2 rfl) ?_
        obtain ⟨u_4_0, u_4_1, u_4_2, u_4_3, hr_4⟩ := bEx4 (s_keepForUndo nsm nsf nsg nzm nzf nzg fsf fsg fzf fzg)
        rw [hr_4] at hu
        dsimp only at hu
        refine bVV (As := []) (rest := []) (wc := [(qM, .inr (7, [.ref qT, .ref qQ, .ref qR, .ref qD, .ref qN, .ref q1, .ref q2, .ref q3, .ref q4, .int ud])), (qN, .inr (5, [.ref qNp, .ref qNs, .ref qNz, .int nk])), (qNp, .inr (2, [.ref qNpl, .ref qNpr, .int nv])), (qNpl, .inr (0, [.int nl0, .int nl1, .int nl2, .int nl3, .int nl4, .int nl5, .int nl6, .int nl7, .int nl8, .int nl9, .int nl10, .int nl11, .int (bB nlb)])), (qNpr, .inr (0, [.int nr0, .int nr1, .int nr2, .int nr3, .int nr4, .int nr5, .int nr6, .int nr7, .int nr8, .int nr9, .int nr10, .int nr11, .int (bB nrb)])), (qNs, .inr (3, [.ref qNsn, .ref qNst, .int nsm])), (qNsn, .inl (cyI, 120, .inl nsf)), (qNst, .inl (cyI, 120, .inl nsg)), (qNz, .inr (3, [.ref qNzn, .ref qNzt, .int nzm])), (qNzn, .inl (cyI, 120, .inl nzf)), (qNzt, .inl (cyI, 120, .inl nzg)), (q4, .inr (5, [.ref q4p, .ref q4s, .ref q4z, .int fk])), (q4p, .inr (2, [.ref q4pl, .ref q4pr, .int fv])), (q4pl, .inr (0, [.int fl0, .int fl1, .int fl2, .int fl3, .int fl4, .int fl5, .int fl6, .int fl7, .int fl8, .int fl9, .int fl10, .int fl11, .int (bB flb)])), (q4pr, .inr (0, [.int fr0, .int fr1, .int fr2, .int fr3, .int fr4, .int fr5, .int fr6, .int fr7, .int fr8, .int fr9, .int fr10, .int fr11, .int (bB frb)])), (q4s, .inr (3, [.ref q4sn, .ref q4st, .int fsm])), (q4sn, .inl (cyI, 120, .inl fsf)), (q4st, .inl (cyI, 120, .inl fsg)), (q4z, .inr (3, [.ref q4zn, .ref q4zt, .int fzm])), (q4zn, .inl (cyI, 120, .inl fzf)), (q4zt, .inl (cyI, 120, .inl fzg))]) (w1 := [(qM, .inr (7, [.ref qT, .ref qQ, .ref qR, .ref qD, .ref qN, .ref q4, .ref q1, .ref q2, .ref q3, .int (if 4 < (ud + 1) then 4 else (ud + 1))])), (qN, .inr (5, [.ref qNp, .ref qNs, .ref qNz, .int nk])), (qNp, .inr (2, [.ref qNpl, .ref qNpr, .int nv])), (qNpl, .inr (0, [.int nl0, .int nl1, .int nl2, .int nl3, .int nl4, .int nl5, .int nl6, .int nl7, .int nl8, .int nl9, .int nl10, .int nl11, .int (bB nlb)])), (qNpr, .inr (0, [.int nr0, .int nr1, .int nr2, .int nr3, .int nr4, .int nr5, .int nr6, .int nr7, .int nr8, .int nr9, .int nr10, .int nr11, .int (bB nrb)])), (qNs, .inr (3, [.ref qNsn, .ref qNst, .int nsm])), (qNsn, .inl (cyI, 120, .inl nsf)), (qNst, .inl (cyI, 120, .inl nsg)), (qNz, .inr (3, [.ref qNzn, .ref qNzt, .int nzm])), (qNzn, .inl (cyI, 120, .inl nzf)), (qNzt, .inl (cyI, 120, .inl nzg)), (q4, .inr (5, [.ref q4p, .ref q4s, .ref q4z, .int nk])), (q4p, .inr (2, [.ref q4pl, .ref q4pr, .int nv])), (q4pl, .inr (0, [.int nl0, .int nl1, .int nl2, .int nl3, .int nl4, .int nl5, .int nl6, .int nl7, .int nl8, .int nl9, .int nl10, .int nl11, .int (bB nlb)])), (q4pr, .inr (0, [.int nr0, .int nr1, .int nr2, .int nr3, .int nr4, .int nr5, .int nr6, .int nr7, .int nr8, .int nr9, .int nr10, .int nr11, .int (bB nrb)])), (q4s, .inr (3, [.ref q4sn, .ref q4st, .int nsm])), (q4sn, .inl (cyI, 120, .inl u_4_0)), (q4st, .inl (cyI, 120, .inl u_4_1)), (q4z, .inr (3, [.ref q4zn, .ref q4zt, .int nzm])), (q4zn, .inl (cyI, 120, .inl u_4_2)), (q4zt, .inl (cyI, 120, .inl u_4_3))]) (ws' := [(qM, .inr (7, [.ref qT, .ref qQ, .ref qR, .ref qD, .ref qN, .ref q4, .ref q1, .ref q2, .ref q3, .int (if 4 < (ud + 1) then 4 else (ud + 1))])), (qN, .inr (5, [.ref qNp, .ref qNs, .ref qNz, .int nk])), (qNp, .inr (2, [.ref qNpl, .ref qNpr, .int nv])), (qNpl, .inr (0, [.int nl0, .int nl1, .int nl2, .int nl3, .int nl4, .int nl5, .int nl6, .int nl7, .int nl8, .int nl9, .int nl10, .int nl11, .int (bB nlb)])), (qNpr, .inr (0, [.int nr0, .int nr1, .int nr2, .int nr3, .int nr4, .int nr5, .int nr6, .int nr7, .int nr8, .int nr9, .int nr10, .int nr11, .int (bB nrb)])), (qNs, .inr (3, [.ref qNsn, .ref qNst, .int nsm])), (qNsn, .inl (cyI, 120, .inl nsf)), (qNst, .inl (cyI, 120, .inl nsg)), (qNz, .inr (3, [.ref qNzn, .ref qNzt, .int nzm])), (qNzn, .inl (cyI, 120, .inl nzf)), (qNzt, .inl (cyI, 120, .inl nzg)), (q4, .inr (5, [.ref q4p, .ref q4s, .ref q4z, .int nk])), (q4p, .inr (2, [.ref q4pl, .ref q4pr, .int nv])), (q4pl, .inr (0, [.int nl0, .int nl1, .int nl2, .int nl3, .int nl4, .int nl5, .int nl6, .int nl7, .int nl8, .int nl9, .int nl10, .int nl11, .int (bB nlb)])), (q4pr, .inr (0, [.int nr0, .int nr1, .int nr2, .int nr3, .int nr4, .int nr5, .int nr6, .int nr7, .int nr8, .int nr9, .int nr10, .int nr11, .int (bB nrb)])), (q4s, .inr (3, [.ref q4sn, .ref q4st, .int nsm])), (q4sn, .inl (cyI, 120, .inl u_4_0)), (q4st, .inl (cyI, 120, .inl u_4_1)), (q4z, .inr (3, [.ref q4zn, .ref q4zt, .int nzm])), (q4zn, .inl (cyI, 120, .inl u_4_2)), (q4zt, .inl (cyI, 120, .inl u_4_3))]) (nn := 21) (ci := 7) (q0 := 0) X Y (c_keepForUndo l D cyC cyI qM qT qQ qR qD qN q1 q2 q3 q4 ud nk qNp nv qNpl nl0 nl1 nl2 nl3 nl4 nl5 nl6 nl7 nl8 nl9 nl10 nl11 nlb qNpr nr0 nr1 nr2 nr3 nr4 nr5 nr6 nr7 nr8 nr9 nr10 nr11 nrb qNs qNsn qNst nsm nsf nsg qNz qNzn qNzt nzm nzf nzg fk q4p fv q4pl fl0 fl1 fl2 fl3 fl4 fl5 fl6 fl7 fl8 fl9 fl10 fl11 flb q4pr fr0 fr1 fr2 fr3 fr4 fr5 fr6 fr7 fr8 fr9 fr10 fr11 frb q4s q4sn q4st fsm fsf fsg q4z q4zn q4zt fzm fzf fzg u_4_0 u_4_1 u_4_2 u_4_3 hr_4) gX7_couple_X7_keepForUndo rfl ⟨rfl, rfl⟩ hd_X7_keepForUndo ⟨(Nat.le_of_ble_eq_true rfl), (Nat.le_of_ble_eq_true rfl)⟩ rfl rfl rfl [0, 1, 2, 3, 4, 5, 6, 7, 8, 9, 10, 11, 12, 13, 14, 15, 16, 17, 18, 19, 20] [] rfl rfl rfl rfl rfl rfl (by decide) rfl rfl hl.1 (Nat.le_of_ble_eq_true rfl) ⟨Nat.zero_le _, Nat.zero_le _⟩ dX7_couple_43 (fun H locs Y => ?_)
        refine lv_aload_n hx hb dX7_couple_46 rfl (lv_at hl 2 rfl) ?_
        refine bGet (v := .ref qN) (T := TX7) (N := 10) (ci := 7) X Y i_X7_couple_X7 0 rfl rfl 4 (Nat.le_of_ble_eq_true rfl) f_X7_couple_36 rfl rfl dX7_couple_47 ?_
        refine bGet (v := .ref qNp) (T := TX5) (N := 4) (ci := 5) X Y i_X7_couple_X5 1 rfl rfl 0 (Nat.le_of_ble_eq_true rfl) f_X7_couple_95 rfl rfl dX7_couple_50 ?_
        refine lv_iload_n hx hb dX7_couple_53 rfl (lv_at hl 0 rfl) ?_
        refine bPut (T := TX2) (N := 3) (ci := 2) (ws' := [(qM, .inr (7, [.ref qT, .ref qQ, .ref qR, .ref qD, .ref qN, .ref q4, .ref q1, .ref q2, .ref q3, .int (if 4 < (ud + 1) then 4 else (ud + 1))])), (qN, .inr (5, [.ref qNp, .ref qNs, .ref qNz, .int nk])), (qNp, .inr (2, [.ref qNpl, .ref qNpr, .int lv])), (qNpl, .inr (0, [.int nl0, .int nl1, .int nl2, .int nl3, .int nl4, .int nl5, .int nl6, .int nl7, .int nl8, .int nl9, .int nl10, .int nl11, .int (bB nlb)])), (qNpr, .inr (0, [.int nr0, .int nr1, .int nr2, .int nr3, .int nr4, .int nr5, .int nr6, .int nr7, .int nr8, .int nr9, .int nr10, .int nr11, .int (bB nrb)])), (qNs, .inr (3, [.ref qNsn, .ref qNst, .int nsm])), (qNsn, .inl (cyI, 120, .inl nsf)), (qNst, .inl (cyI, 120, .inl nsg)), (qNz, .inr (3, [.ref qNzn, .ref qNzt, .int nzm])), (qNzn, .inl (cyI, 120, .inl nzf)), (qNzt, .inl (cyI, 120, .inl nzg)), (q4, .inr (5, [.ref q4p, .ref q4s, .ref q4z, .int nk])), (q4p, .inr (2, [.ref q4pl, .ref q4pr, .int nv])), (q4pl, .inr (0, [.int nl0, .int nl1, .int nl2, .int nl3, .int nl4, .int nl5, .int nl6, .int nl7, .int nl8, .int nl9, .int nl10, .int nl11, .int (bB nlb)])), (q4pr, .inr (0, [.int nr0, .int nr1, .int nr2, .int nr3, .int nr4, .int nr5, .int nr6, .int nr7, .int nr8, .int nr9, .int nr10, .int nr11, .int (bB nrb)])), (q4s, .inr (3, [.ref q4sn, .ref q4st, .int nsm])), (q4sn, .inl (cyI, 120, .inl u_4_0)), (q4st, .inl (cyI, 120, .inl u_4_1)), (q4z, .inr (3, [.ref q4zn, .ref q4zt, .int nzm])), (q4zn, .inl (cyI, 120, .inl u_4_2)), (q4zt, .inl (cyI, 120, .inl u_4_3))]) X Y i_X7_couple_X2 tyX2 tyX2_ok nmX2 2 rfl rfl 2 (Nat.le_of_ble_eq_true rfl) f_X7_couple_129 rfl rfl rfl rfl (Nat.le_of_ble_eq_true rfl) rfl dX7_couple_54 (fun H locs Y => ?_)
        refine lv_iload_n hx hb dX7_couple_57 rfl (lv_at hl 1 rfl) ?_
        have h9 := (Prod.mk.inj hu).1; replace hu := (Prod.mk.inj hu).2; subst h9
        have h9 := (Prod.mk.inj hu).1; replace hu := (Prod.mk.inj hu).2; subst h9
        have h9 := (Prod.mk.inj hu).1; replace hu := (Prod.mk.inj hu).2; subst h9
        have h9 := (Prod.mk.inj hu).1; replace hu := (Prod.mk.inj hu).2; subst h9
        subst hu
        exact bEndI X Y hr hlk dX7_couple_58 rfl rfl
      · have c_3 : nv = lv := c_3
        exact absurd c_3 h2_
    · have c_2 : ¬ (0 ≤ lv) := c_2
      exact absurd h1_ c_2
  · have c_1 := bB_f c_1
    exact absurd h0_ c_1
def s_coupleOn_no (lv : Int32) : Int32 :=
  if (s_isWithin lv (-1) 20) = true then
    (-2)
  else
    (-1)
set_option maxHeartbeats 4000000 in
set_option maxRecDepth 100000 in
theorem c_coupleOn_no (l : Launch) (D : va_G) (cyC cyI : ClassId) (qM : Nat) (qT : Nat) (qQ : Nat) (qR : Nat) (qD : Nat) (qN : Nat) (q1 : Nat) (q2 : Nat) (q3 : Nat) (q4 : Nat) (ud : Int32) (nk : Int32) (qNp : Nat) (nv : Int32) (qNpl : Nat) (nl0 : Int32) (nl1 : Int32) (nl2 : Int32) (nl3 : Int32) (nl4 : Int32) (nl5 : Int32) (nl6 : Int32) (nl7 : Int32) (nl8 : Int32) (nl9 : Int32) (nl10 : Int32) (nl11 : Int32) (nlb : Bool) (qNpr : Nat) (nr0 : Int32) (nr1 : Int32) (nr2 : Int32) (nr3 : Int32) (nr4 : Int32) (nr5 : Int32) (nr6 : Int32) (nr7 : Int32) (nr8 : Int32) (nr9 : Int32) (nr10 : Int32) (nr11 : Int32) (nrb : Bool) (qNs : Nat) (qNz : Nat) (lv : Int32) (o0 : Int32) (hu : s_coupleOn_no lv = o0) (h1_ : 0 ≤ lv) (hbad : ((s_isWithin lv (-1) 20) = true) → ¬ (¬ (nv = lv))) : CI l yX7_couple wsX7_couple { frames := 1, cells := 0, slots := 0, locals := 22 } D cyC cyI [.ref qM, .int lv] [(qM, .inr (7, [.ref qT, .ref qQ, .ref qR, .ref qD, .ref qN, .ref q1, .ref q2, .ref q3, .ref q4, .int ud])), (qN, .inr (5, [.ref qNp, .ref qNs, .ref qNz, .int nk])), (qNp, .inr (2, [.ref qNpl, .ref qNpr, .int nv])), (qNpl, .inr (0, [.int nl0, .int nl1, .int nl2, .int nl3, .int nl4, .int nl5, .int nl6, .int nl7, .int nl8, .int nl9, .int nl10, .int nl11, .int (bB nlb)])), (qNpr, .inr (0, [.int nr0, .int nr1, .int nr2, .int nr3, .int nr4, .int nr5, .int nr6, .int nr7, .int nr8, .int nr9, .int nr10, .int nr11, .int (bB nrb)]))] o0 [(qM, .inr (7, [.ref qT, .ref qQ, .ref qR, .ref qD, .ref qN, .ref q1, .ref q2, .ref q3, .ref q4, .int ud])), (qN, .inr (5, [.ref qNp, .ref qNs, .ref qNz, .int nk])), (qNp, .inr (2, [.ref qNpl, .ref qNpr, .int nv])), (qNpl, .inr (0, [.int nl0, .int nl1, .int nl2, .int nl3, .int nl4, .int nl5, .int nl6, .int nl7, .int nl8, .int nl9, .int nl10, .int nl11, .int (bB nlb)])), (qNpr, .inr (0, [.int nr0, .int nr1, .int nr2, .int nr3, .int nr4, .int nr5, .int nr6, .int nr7, .int nr8, .int nr9, .int nr10, .int nr11, .int (bB nrb)]))] := by
  refine CI.of (cc := cX7_couple) (n := 4) (ret := (some .int)) (by decide +kernel) rfl (Nat.le_of_ble_eq_true rfl) ?_
  intro p_ e_ s_ m_ bl_ me_ cd_ A_ ls X Y hr hlk hl
  have hx := X.1.1
  have hb := X.1.2.1
  have hl : lv_has ls 4 [(0, .ref qM), (1, .int lv)] := hl
  unfold s_coupleOn_no at hu
  refine lv_iload_n hx hb dX7_couple_0 rfl (lv_at hl 1 rfl) ?_
  refine lv_iconst (v := (-1)) hx hb dX7_couple_1 (by decide) ?_
  refine lv_bipush (v := 20) hx hb dX7_couple_2 (by decide) ?_
  refine bSI (As := [.int lv, .int (-1), .int 20]) (rest := []) X Y (c_isWithin l D cyC cyI lv (-1) 20 (s_isWithin lv (-1) 20) rfl) gX7_couple_X7_isWithin rfl ⟨rfl, rfl⟩ hd_X7_isWithin.2 ⟨(Nat.le_of_ble_eq_true rfl), (Nat.le_of_ble_eq_true rfl)⟩ rfl rfl hl.1 (Nat.le_of_ble_eq_true rfl) ⟨Nat.zero_le _, Nat.zero_le _⟩ dX7_couple_4 (fun H locs Y => ?_)
  refine lv_if_ne (tgt := 12) hx hb dX7_couple_7 (by decide) (fun c_1 => ?_) (fun c_1 => ?_)
  · have c_1 := bB_t c_1
    rw [if_pos c_1] at hu
    refine lv_aload_n hx hb dX7_couple_12 rfl (lv_at hl 0 rfl) ?_
    refine bGet (v := .ref qN) (T := TX7) (N := 10) (ci := 7) X Y i_X7_couple_X7 0 rfl rfl 4 (Nat.le_of_ble_eq_true rfl) f_X7_couple_36 rfl rfl dX7_couple_13 ?_
    refine bGet (v := .ref qNp) (T := TX5) (N := 4) (ci := 5) X Y i_X7_couple_X5 1 rfl rfl 0 (Nat.le_of_ble_eq_true rfl) f_X7_couple_95 rfl rfl dX7_couple_16 ?_
    refine bGet (v := .int nv) (T := TX2) (N := 3) (ci := 2) X Y i_X7_couple_X2 2 rfl rfl 2 (Nat.le_of_ble_eq_true rfl) f_X7_couple_129 rfl rfl dX7_couple_19 ?_
    refine lv_istore_n (lv' := [(2, .int nv), (0, .ref qM), (1, .int lv)]) hx hb dX7_couple_22 rfl hl (by decide) rfl (fun ls hl => ?_)
    refine lv_iload_n hx hb dX7_couple_23 rfl (lv_at hl 2 rfl) ?_
    refine lv_if_ge (tgt := 32) hx hb dX7_couple_24 (by decide) (fun c_2 => ?_) (fun c_2 => ?_)
    · have c_2 : 0 ≤ lv := c_2
      refine lv_iload_n hx hb dX7_couple_32 rfl (lv_at hl 2 rfl) ?_
      refine lv_istore_n (lv' := [(3, .int lv), (2, .int nv), (0, .ref qM), (1, .int lv)]) hx hb dX7_couple_33 rfl hl (by decide) rfl (fun ls hl => ?_)
      refine lv_iload_n hx hb dX7_couple_34 rfl (lv_at hl 1 rfl) ?_
      refine lv_iload_n hx hb dX7_couple_35 rfl (lv_at hl 0 rfl) ?_
      refine lv_icmp_ne (tgt := 42) hx hb dX7_couple_36 (by decide) (fun c_3 => ?_) (fun c_3 => ?_)
      · have c_3 : ¬ (nv = lv) := c_3
        exact absurd c_3 (hbad c_1)
      · have c_3 : nv = lv := c_3
        refine lv_bipush (v := (-2)) hx hb dX7_couple_39 (by decide) ?_
        subst hu
        exact bEndI X Y hr hlk dX7_couple_41 rfl rfl
    · have c_2 : ¬ (0 ≤ lv) := c_2
      exact absurd h1_ c_2
  · have c_1 := bB_f c_1
    rw [if_neg c_1] at hu
    refine lv_iconst (v := (-1)) hx hb dX7_couple_10 (by decide) ?_
    subst hu
    exact bEndI X Y hr hlk dX7_couple_11 rfl rfl
