/-! what can be seen of a class: the law's `whole` -/
def cntV (r : Nat → Int32) (n : Sto) (ud xn k : Int32) : Int32 := s_count ud (n.1 0) (n.1 1) (n.1 2) (n.1 14) (r 0) (r 1) (r 2) (r 3) (r 4) xn k
def crV (r : Nat → Int32) (n : Sto) (c : Nat) (k : Int32) : Int32 := match c with
  | 0 => s_crane_0 (n.1 2) (n.1 3) (n.1 4) (n.1 5) (n.1 6) (n.1 7) (n.1 8) (n.1 9) (n.1 11) (n.1 13) (r 2) (r 3) k
  | _ => s_crane_1 (n.1 14) (n.1 15) (n.1 16) (n.1 17) (n.1 18) (n.1 19) (n.1 20) (n.1 21) (n.1 23) (n.1 25) (r 2) (r 3) k
def stV (n : Sto) (c : Nat) (k w : Int32) : Int32 := match c with
  | 0 => s_stepOf_0 (n.1 10) (n.1 11) (n.1 12) (n.1 13) k w
  | _ => s_stepOf_1 (n.1 22) (n.1 23) (n.1 24) (n.1 25) k w
def spV (n : Sto) (c : Nat) (k w : Int32) : Int32 := match c with
  | 0 => s_spot_0 (n.1 26) (n.2.2 0) (n.2.2 1) k w
  | _ => s_spot_1 (n.1 27) (n.2.2 2) (n.2.2 3) k w
def mmV (n : Sto) (c : Nat) : Nat := match c with
  | 0 => (n.1 26).toInt.toNat
  | _ => (n.1 27).toInt.toNat
def mnV (n : Sto) (c : Nat) : Int32 := match c with
  | 0 => n.1 26
  | _ => n.1 27
def whA (r : Nat → Int32) (n : Sto) : Nat → Int64
  | 0 => 3
  | k + 1 => 31 * whA r n k + (cntV r n 0 0 (nI k)).toInt64
def whB (r : Nat → Int32) (n : Sto) (c : Nat) (h : Int64) : Nat → Int64
  | 0 => h
  | k + 1 => 31 * whB r n c h k + (crV r n c (nI k)).toInt64
def whC (n : Sto) (c : Nat) (h : Int64) : Nat → Int64
  | 0 => h
  | k + 1 => 31 * (31 * whC n c h k + (stV n c (nI k) 0).toInt64) + (stV n c (nI k) 1).toInt64
def whD (n : Sto) (c : Nat) (h : Int64) : Nat → Int64
  | 0 => h
  | k + 1 => 31 * (31 * (31 * whD n c h k + (spV n c (nI k) 0).toInt64) + (spV n c (nI k) 1).toInt64) + (spV n c (nI k) 2).toInt64
def whP (r : Nat → Int32) (n : Sto) : Nat → Int64
  | 0 => whA r n 7
  | c + 1 => whD n c (whC n c (whB r n c (whP r n c) 13) 2) (mmV n c)
def wh (r : Nat → Int32) (n : Sto) : Int64 := whP r n 2
/-- how many spots a crane has, in bounds -/
def MmO (n : Sto) : Prop := ∀ c, c < 2 → mnV n c = nI (mmV n c) ∧ mmV n c ≤ 120
theorem OkP_mm {sm : Int32} {sf sg : Nat → Int32} {tk : Int} (h : OkP sm sf sg tk) : sm = nI sm.toInt.toNat ∧ sm.toInt.toNat ≤ 120 := by
  obtain ⟨mm, h1, h2, -⟩ := h
  have e : sm.toInt = mm := by rw [h2, nIt (by omega)]
  rw [e]
  exact ⟨h2, by omega⟩
theorem OkS_mm {r : Nat → Int32} {n : Sto} (h : OkS r n) : MmO n := by
  obtain ⟨-, -, h3, h4⟩ := h
  intro c hc
  rcases (show c = 0 ∨ c = 1 by omega) with rfl | rfl
  · exact OkP_mm h3
  · exact OkP_mm h4
theorem whA_s (r : Nat → Int32) (n : Sto) (k : Nat) : 31 * whA r n k + (cntV r n 0 0 (nI k)).toInt64 = whA r n (k + 1) := by rw [whA]
theorem whB_s (r : Nat → Int32) (n : Sto) (c : Nat) (h : Int64) (k : Nat) : 31 * whB r n c h k + (crV r n c (nI k)).toInt64 = whB r n c h (k + 1) := by rw [whB]
theorem whC_s (n : Sto) (c : Nat) (h : Int64) (k : Nat) : 31 * (31 * whC n c h k + (stV n c (nI k) 0).toInt64) + (stV n c (nI k) 1).toInt64 = whC n c h (k + 1) := by rw [whC]
theorem whD_s (n : Sto) (c : Nat) (h : Int64) (k : Nat) : 31 * (31 * (31 * whD n c h k + (spV n c (nI k) 0).toInt64) + (spV n c (nI k) 1).toInt64) + (spV n c (nI k) 2).toInt64 = whD n c h (k + 1) := by rw [whD]
section QQ
variable {l : Launch} {D : va_G} {cyC cyI : ClassId} {Q : Nat → Nat} {r : Nat → Int32} {S : Nat → Sto} {ud : Int32} {T : List Int32} {wa : va_W}
theorem q_cnt (h : QW cyC cyI Q r S ud T wa) (k : Int32) (o : Int32) (ho : cntV r (S 0) ud (nI T.length) k = o) : KI l D cyC cyI yX7_count wsX7_count 1 21 [.ref (Q 0), .int k] wa o (QW cyC cyI Q r S ud T) := k_count h k o ho
theorem q_cnt7 (h : QW cyC cyI Q r S ud T wa) (k : Nat) (hk : k < 7) : KI l D cyC cyI yX7_count wsX7_count 1 21 [.ref (Q 0), .int (nI k)] wa (cntV r (S 0) 0 0 (nI k)) (QW cyC cyI Q r S ud T) := by
  refine k_count h (nI k) _ ?_
  rcases (show k = 0 ∨ k = 1 ∨ k = 2 ∨ k = 3 ∨ k = 4 ∨ k = 5 ∨ k = 6 by omega) with rfl | rfl | rfl | rfl | rfl | rfl | rfl <;> rfl
theorem q_cr (h : QW cyC cyI Q r S ud T wa) (c : Nat) (hc : c < 2) (k : Int32) : KI l D cyC cyI yX7_crane wsX7_crane 2 40 [.ref (Q 0), .int (nI c), .int k] wa (crV r (S 0) c k) (QW cyC cyI Q r S ud T) := by
  rcases (show c = 0 ∨ c = 1 by omega) with rfl | rfl
  · exact k_crane_0 h k _ rfl
  · exact k_crane_1 h k _ rfl
theorem q_st (h : QW cyC cyI Q r S ud T wa) (c : Nat) (hc : c < 2) (k w : Int32) : KI l D cyC cyI yX7_stepOf wsX7_stepOf 2 42 [.ref (Q 0), .int (nI c), .int k, .int w] wa (stV (S 0) c k w) (QW cyC cyI Q r S ud T) := by
  rcases (show c = 0 ∨ c = 1 by omega) with rfl | rfl
  · exact k_stepOf_0 h k w _ rfl
  · exact k_stepOf_1 h k w _ rfl
theorem q_sp (h : QW cyC cyI Q r S ud T wa) (c : Nat) (hc : c < 2) (k w : Int32) : KI l D cyC cyI yX7_spot wsX7_spot 2 42 [.ref (Q 0), .int (nI c), .int k, .int w] wa (spV (S 0) c k w) (QW cyC cyI Q r S ud T) := by
  rcases (show c = 0 ∨ c = 1 by omega) with rfl | rfl
  · exact k_spot_0 h k w _ rfl
  · exact k_spot_1 h k w _ rfl
theorem q_spm (h : QW cyC cyI Q r S ud T wa) (hm : MmO (S 0)) (c : Nat) (hc : c < 2) : KI l D cyC cyI yX7_spot wsX7_spot 2 42 [.ref (Q 0), .int (nI c), .int (-1), .int 0] wa (nI (mmV (S 0) c)) (QW cyC cyI Q r S ud T) := by
  rw [← (hm c hc).1]
  rcases (show c = 0 ∨ c = 1 by omega) with rfl | rfl
  · exact k_spot_0 h (-1) 0 _ rfl
  · exact k_spot_1 h (-1) 0 _ rfl
end QQ
theorem hdq_X7_spot : bD1 yX7_spot RX7 3 := by decide +kernel
theorem k_L_whole_41 : Cond.constantLong RL 41 (31) ∈ wsL_whole := by decide +kernel
theorem hdq_X7_stepOf : bD1 yX7_stepOf RX7 3 := by decide +kernel
theorem hdq_X7_crane : bD1 yX7_crane RX7 2 := by decide +kernel
theorem hdq_X7_count : bD1 yX7_count RX7 1 := by decide +kernel
set_option maxHeartbeats 4000000 in
set_option maxRecDepth 100000 in
theorem lp_wD {p_ : Program} {e_ : Env} {s_ : State} {m_ : MethodId} {bl_ : List Frame} {me_ : Method} {cd_ : Code} {A_ : Nat → Prop} (l : Launch) (D : va_G) (cyC cyI : ClassId) (sb sL : Nat) (xs : Nat → Int32) {Q : Nat → Nat} {r : Nat → Int32} {S : Nat → Sto} {ud : Int32} {T : List Int32} {wc : va_W} (hm : MmO (S 0)) (c : Nat) (hc2 : c < 2) (h0 : Int64) (X : qX p_ s_ m_ ([.ref (Q 0)] : List Value).toArray cd_ cL_whole 6 wsL_whole yL_whole.cls D cyC cyI sb sL xs A_) (hr : me_.sig.returnType = (some .long)) (hlk : me_.locks = false) (kk : ∀ (wa : va_W) (H : Heap) (locs : List Loc) (ls : Array Slot), QW cyC cyI Q r S ud T wa → wPerm wc wa → lv_has ls 6 [(0, .ref (Q 0)), (1, .long (whD (S 0) c h0 (mmV (S 0) c))), (3, .int (nI c))] → bY D A_ s_.heap ([] ++ wa) H locs → W p_ l e_ ({ frames := 3, cells := 0, slots := 0, locals := 66 } : Room) s_ m_ ([.ref (Q 0)] : List Value).toArray bl_ me_ cd_ H locs 0 0 (qQL bl_ ([.ref (Q 0)] : List Value).toArray s_ D wc (fun rv w1 => rv = wh r (S 0) ∧ QW cyC cyI Q r S ud T w1) 0 0 A_) (F0 m_ 167 ls [])) : ∀ (n k : Nat), 121 ≤ k + n → k ≤ mmV (S 0) c → ∀ (wa : va_W) (H : Heap) (locs : List Loc) (ls : Array Slot), QW cyC cyI Q r S ud T wa → wPerm wc wa → lv_has ls 6 [(0, .ref (Q 0)), (1, .long (whD (S 0) c h0 k)), (3, .int (nI c)), (4, .int (nI k))] → bY D A_ s_.heap ([] ++ wa) H locs → W p_ l e_ ({ frames := 3, cells := 0, slots := 0, locals := 66 } : Room) s_ m_ ([.ref (Q 0)] : List Value).toArray bl_ me_ cd_ H locs 0 0 (qQL bl_ ([.ref (Q 0)] : List Value).toArray s_ D wc (fun rv w1 => rv = wh r (S 0) ∧ QW cyC cyI Q r S ud T w1) 0 0 A_) (F0 m_ 117 ls []) := by
  have hx := X.1.1.1
  have hb := X.1.1.2.1
  have h120 := (hm c hc2).2
  intro n
  induction n with
  | zero => intro k h1 h2; omega
  | succ n ih =>
    intro k h1 h2 wa H locs ls hI hW hl Y
    refine lv_iload hx hb dL_whole_117 (lv_at hl 3 rfl) ?_
    refine lv_aload_n hx hb dL_whole_119 rfl (lv_at hl 0 rfl) ?_
    refine lv_iload_n hx hb dL_whole_120 rfl (lv_at hl 2 rfl) ?_
    refine lv_iconst (v := (-1)) hx hb dL_whole_121 (by decide) ?_
    refine lv_iconst (v := 0) hx hb dL_whole_122 (by decide) ?_
    refine qVI (al := []) (As := [.int (nI c), .int (-1), .int 0]) (rest := [.int (nI k)]) X Y (q_spm hI hm c hc2) gL_whole_X7_spot rfl hdq_X7_spot ⟨Nat.le_of_ble_eq_true rfl, Nat.le_of_ble_eq_true rfl⟩ hI.head rfl rfl hl.1 (Nat.le_of_ble_eq_true rfl) ⟨Nat.le_of_ble_eq_true rfl, Nat.le_of_ble_eq_true rfl⟩ dL_whole_123 (fun wa_1 H locs hI_1 hw_1 Y => ?_)
    have hW_1 := hW.trans hw_1
    refine lv_icmp_ge (tgt := 167) hx hb dL_whole_126 (by decide) (fun c_2 => ?_) (fun c_2 => ?_)
    · have c_2 : (nI (mmV (S 0) c)) ≤ (nI k) := c_2
      have hkz : mmV (S 0) c ≤ k := Nat.le_of_not_lt (fun q => nI_ge q (by omega) c_2)
      have hke : k = mmV (S 0) c := by omega
      subst hke
      exact kk _ _ _ _ hI_1 hW_1 (lv_sub hl [0, 1, 2] rfl) Y
    · have c_2 : ¬ ((nI (mmV (S 0) c)) ≤ (nI k)) := c_2
      have hkb : k < mmV (S 0) c := (bLtN (by omega) (by omega)).mp (bLtN2 c_2)
      refine lv_iconst (v := 0) hx hb dL_whole_129 (by decide) ?_
      refine lv_istore (lv' := [(5, .int 0), (0, .ref (Q 0)), (1, .long (whD (S 0) c h0 k)), (3, .int (nI c)), (4, .int (nI k))]) hx hb dL_whole_130 hl (by decide) rfl (fun ls hl => ?_)
      refine lv_iload hx hb dL_whole_132 (lv_at hl 0 rfl) ?_
      refine lv_iconst (v := 3) hx hb dL_whole_134 (by decide) ?_
      refine lv_icmp_ge (tgt := 161) hx hb dL_whole_135 (by decide) (fun c_ => absurd c_ (by decide)) (fun _ => ?_)
      refine lv_ldc2 (v := 31) hx hb X.1.1.2.2.2.1 (X.1.1.2.2.2.2 _ k_L_whole_41) dL_whole_138 ?_
      refine lv_lload_n hx hb dL_whole_141 rfl (lv_at hl 2 rfl) ?_
      refine lv_lmul hx hb dL_whole_142 ?_
      refine lv_aload_n hx hb dL_whole_143 rfl (lv_at hl 1 rfl) ?_
      refine lv_iload_n hx hb dL_whole_144 rfl (lv_at hl 3 rfl) ?_
      refine lv_iload hx hb dL_whole_145 (lv_at hl 4 rfl) ?_
      refine lv_iload hx hb dL_whole_147 (lv_at hl 0 rfl) ?_
      refine qVI (al := []) (As := [.int (nI c), .int (nI k), .int 0]) (rest := [.long (31 * (whD (S 0) c h0 k))]) X Y (q_sp hI_1 c hc2 (nI k) 0) gL_whole_X7_spot rfl hdq_X7_spot ⟨Nat.le_of_ble_eq_true rfl, Nat.le_of_ble_eq_true rfl⟩ hI_1.head rfl rfl hl.1 (Nat.le_of_ble_eq_true rfl) ⟨Nat.le_of_ble_eq_true rfl, Nat.le_of_ble_eq_true rfl⟩ dL_whole_149 (fun wa_3 H locs hI_3 hw_3 Y => ?_)
      have hW_3 := hW_1.trans hw_3
      refine lv_i2l (v := (spV (S 0) c (nI k) 0).toInt64) hx hb dL_whole_152 rfl ?_
      refine lv_ladd hx hb dL_whole_153 ?_
      refine lv_lstore_n (lv' := [(1, .long ((31 * (whD (S 0) c h0 k)) + ((spV (S 0) c (nI k) 0).toInt64))), (5, .int 0), (0, .ref (Q 0)), (3, .int (nI c)), (4, .int (nI k))]) hx hb dL_whole_154 rfl hl (by decide) rfl (fun ls hl => ?_)
      refine lv_iinc (v := 1) (lv' := [(5, .int 1), (1, .long ((31 * (whD (S 0) c h0 k)) + ((spV (S 0) c (nI k) 0).toInt64))), (0, .ref (Q 0)), (3, .int (nI c)), (4, .int (nI k))]) hx hb dL_whole_155 hl (k := 1) rfl (by decide) (by decide) rfl (fun ls hl => ?_)
      refine lv_goto (tgt := 132) hx hb dL_whole_158 (by decide) ?_
      refine lv_iload hx hb dL_whole_132 (lv_at hl 0 rfl) ?_
      refine lv_iconst (v := 3) hx hb dL_whole_134 (by decide) ?_
      refine lv_icmp_ge (tgt := 161) hx hb dL_whole_135 (by decide) (fun c_ => absurd c_ (by decide)) (fun _ => ?_)
      refine lv_ldc2 (v := 31) hx hb X.1.1.2.2.2.1 (X.1.1.2.2.2.2 _ k_L_whole_41) dL_whole_138 ?_
      refine lv_lload_n hx hb dL_whole_141 rfl (lv_at hl 1 rfl) ?_
      refine lv_lmul hx hb dL_whole_142 ?_
      refine lv_aload_n hx hb dL_whole_143 rfl (lv_at hl 2 rfl) ?_
      refine lv_iload_n hx hb dL_whole_144 rfl (lv_at hl 3 rfl) ?_
      refine lv_iload hx hb dL_whole_145 (lv_at hl 4 rfl) ?_
      refine lv_iload hx hb dL_whole_147 (lv_at hl 0 rfl) ?_
      refine qVI (al := []) (As := [.int (nI c), .int (nI k), .int 1]) (rest := [.long (31 * ((31 * (whD (S 0) c h0 k)) + ((spV (S 0) c (nI k) 0).toInt64)))]) X Y (q_sp hI_3 c hc2 (nI k) 1) gL_whole_X7_spot rfl hdq_X7_spot ⟨Nat.le_of_ble_eq_true rfl, Nat.le_of_ble_eq_true rfl⟩ hI_3.head rfl rfl hl.1 (Nat.le_of_ble_eq_true rfl) ⟨Nat.le_of_ble_eq_true rfl, Nat.le_of_ble_eq_true rfl⟩ dL_whole_149 (fun wa_4 H locs hI_4 hw_4 Y => ?_)
      have hW_4 := hW_3.trans hw_4
      refine lv_i2l (v := (spV (S 0) c (nI k) 1).toInt64) hx hb dL_whole_152 rfl ?_
      refine lv_ladd hx hb dL_whole_153 ?_
      refine lv_lstore_n (lv' := [(1, .long ((31 * ((31 * (whD (S 0) c h0 k)) + ((spV (S 0) c (nI k) 0).toInt64))) + ((spV (S 0) c (nI k) 1).toInt64))), (5, .int 1), (0, .ref (Q 0)), (3, .int (nI c)), (4, .int (nI k))]) hx hb dL_whole_154 rfl hl (by decide) rfl (fun ls hl => ?_)
      refine lv_iinc (v := 2) (lv' := [(5, .int 2), (1, .long ((31 * ((31 * (whD (S 0) c h0 k)) + ((spV (S 0) c (nI k) 0).toInt64))) + ((spV (S 0) c (nI k) 1).toInt64))), (0, .ref (Q 0)), (3, .int (nI c)), (4, .int (nI k))]) hx hb dL_whole_155 hl (k := 1) rfl (by decide) (by decide) rfl (fun ls hl => ?_)
      refine lv_goto (tgt := 132) hx hb dL_whole_158 (by decide) ?_
      refine lv_iload hx hb dL_whole_132 (lv_at hl 0 rfl) ?_
      refine lv_iconst (v := 3) hx hb dL_whole_134 (by decide) ?_
      refine lv_icmp_ge (tgt := 161) hx hb dL_whole_135 (by decide) (fun c_ => absurd c_ (by decide)) (fun _ => ?_)
      refine lv_ldc2 (v := 31) hx hb X.1.1.2.2.2.1 (X.1.1.2.2.2.2 _ k_L_whole_41) dL_whole_138 ?_
      refine lv_lload_n hx hb dL_whole_141 rfl (lv_at hl 1 rfl) ?_
      refine lv_lmul hx hb dL_whole_142 ?_
      refine lv_aload_n hx hb dL_whole_143 rfl (lv_at hl 2 rfl) ?_
      refine lv_iload_n hx hb dL_whole_144 rfl (lv_at hl 3 rfl) ?_
      refine lv_iload hx hb dL_whole_145 (lv_at hl 4 rfl) ?_
      refine lv_iload hx hb dL_whole_147 (lv_at hl 0 rfl) ?_
      refine qVI (al := []) (As := [.int (nI c), .int (nI k), .int 2]) (rest := [.long (31 * ((31 * ((31 * (whD (S 0) c h0 k)) + ((spV (S 0) c (nI k) 0).toInt64))) + ((spV (S 0) c (nI k) 1).toInt64)))]) X Y (q_sp hI_4 c hc2 (nI k) 2) gL_whole_X7_spot rfl hdq_X7_spot ⟨Nat.le_of_ble_eq_true rfl, Nat.le_of_ble_eq_true rfl⟩ hI_4.head rfl rfl hl.1 (Nat.le_of_ble_eq_true rfl) ⟨Nat.le_of_ble_eq_true rfl, Nat.le_of_ble_eq_true rfl⟩ dL_whole_149 (fun wa_5 H locs hI_5 hw_5 Y => ?_)
      have hW_5 := hW_4.trans hw_5
      refine lv_i2l (v := (spV (S 0) c (nI k) 2).toInt64) hx hb dL_whole_152 rfl ?_
      refine lv_ladd hx hb dL_whole_153 ?_
      refine lv_lstore_n (lv' := [(1, .long ((31 * ((31 * ((31 * (whD (S 0) c h0 k)) + ((spV (S 0) c (nI k) 0).toInt64))) + ((spV (S 0) c (nI k) 1).toInt64))) + ((spV (S 0) c (nI k) 2).toInt64))), (5, .int 2), (0, .ref (Q 0)), (3, .int (nI c)), (4, .int (nI k))]) hx hb dL_whole_154 rfl hl (by decide) rfl (fun ls hl => ?_)
      refine lv_iinc (v := 3) (lv' := [(5, .int 3), (1, .long ((31 * ((31 * ((31 * (whD (S 0) c h0 k)) + ((spV (S 0) c (nI k) 0).toInt64))) + ((spV (S 0) c (nI k) 1).toInt64))) + ((spV (S 0) c (nI k) 2).toInt64))), (0, .ref (Q 0)), (3, .int (nI c)), (4, .int (nI k))]) hx hb dL_whole_155 hl (k := 1) rfl (by decide) (by decide) rfl (fun ls hl => ?_)
      refine lv_goto (tgt := 132) hx hb dL_whole_158 (by decide) ?_
      refine lv_iload hx hb dL_whole_132 (lv_at hl 0 rfl) ?_
      refine lv_iconst (v := 3) hx hb dL_whole_134 (by decide) ?_
      refine lv_icmp_ge (tgt := 161) hx hb dL_whole_135 (by decide) (fun _ => ?_) (fun c_ => absurd (by decide) c_)
      refine lv_iinc (v := nI (k + 1)) (lv' := [(4, .int (nI (k + 1))), (5, .int 3), (1, .long ((31 * ((31 * ((31 * (whD (S 0) c h0 k)) + ((spV (S 0) c (nI k) 0).toInt64))) + ((spV (S 0) c (nI k) 1).toInt64))) + ((spV (S 0) c (nI k) 2).toInt64))), (0, .ref (Q 0)), (3, .int (nI c))]) hx hb dL_whole_161 hl (k := 4) rfl (nI_inc _) (by decide) rfl (fun ls hl => ?_)
      refine lv_goto (tgt := 117) hx hb dL_whole_164 (by decide) ?_
      rw [whD_s] at hl
      exact ih (k + 1) (by omega) (by omega) _ _ _ _ hI_5 hW_5 (lv_sub hl [3, 2, 4, 0] rfl) Y
set_option maxHeartbeats 4000000 in
set_option maxRecDepth 100000 in
theorem lp_wC {p_ : Program} {e_ : Env} {s_ : State} {m_ : MethodId} {bl_ : List Frame} {me_ : Method} {cd_ : Code} {A_ : Nat → Prop} (l : Launch) (D : va_G) (cyC cyI : ClassId) (sb sL : Nat) (xs : Nat → Int32) {Q : Nat → Nat} {r : Nat → Int32} {S : Nat → Sto} {ud : Int32} {T : List Int32} {wc : va_W} (hm : MmO (S 0)) (c : Nat) (hc2 : c < 2) (h0 : Int64) (X : qX p_ s_ m_ ([.ref (Q 0)] : List Value).toArray cd_ cL_whole 6 wsL_whole yL_whole.cls D cyC cyI sb sL xs A_) (hr : me_.sig.returnType = (some .long)) (hlk : me_.locks = false) (kk : ∀ (wa : va_W) (H : Heap) (locs : List Loc) (ls : Array Slot), QW cyC cyI Q r S ud T wa → wPerm wc wa → lv_has ls 6 [(0, .ref (Q 0)), (1, .long (whC (S 0) c h0 2)), (3, .int (nI c))] → bY D A_ s_.heap ([] ++ wa) H locs → W p_ l e_ ({ frames := 3, cells := 0, slots := 0, locals := 66 } : Room) s_ m_ ([.ref (Q 0)] : List Value).toArray bl_ me_ cd_ H locs 0 0 (qQL bl_ ([.ref (Q 0)] : List Value).toArray s_ D wc (fun rv w1 => rv = wh r (S 0) ∧ QW cyC cyI Q r S ud T w1) 0 0 A_) (F0 m_ 114 ls [])) : ∀ (n k : Nat), 3 ≤ k + n → k ≤ 2 → ∀ (wa : va_W) (H : Heap) (locs : List Loc) (ls : Array Slot), QW cyC cyI Q r S ud T wa → wPerm wc wa → lv_has ls 6 [(0, .ref (Q 0)), (1, .long (whC (S 0) c h0 k)), (3, .int (nI c)), (4, .int (nI k))] → bY D A_ s_.heap ([] ++ wa) H locs → W p_ l e_ ({ frames := 3, cells := 0, slots := 0, locals := 66 } : Room) s_ m_ ([.ref (Q 0)] : List Value).toArray bl_ me_ cd_ H locs 0 0 (qQL bl_ ([.ref (Q 0)] : List Value).toArray s_ D wc (fun rv w1 => rv = wh r (S 0) ∧ QW cyC cyI Q r S ud T w1) 0 0 A_) (F0 m_ 72 ls []) := by
  have hx := X.1.1.1
  have hb := X.1.1.2.1
  intro n
  induction n with
  | zero => intro k h1 h2; omega
  | succ n ih =>
    intro k h1 h2 wa H locs ls hI hW hl Y
    refine lv_iload hx hb dL_whole_72 (lv_at hl 3 rfl) ?_
    refine lv_iconst (v := 2) hx hb dL_whole_74 (by decide) ?_
    refine lv_icmp_ge (tgt := 114) hx hb dL_whole_75 (by decide) (fun c_1 => ?_) (fun c_1 => ?_)
    · have c_1 : 2 ≤ (nI k) := c_1
      have hkz : 2 ≤ k := Nat.le_of_not_lt (fun q => nI_ge q (by omega) c_1)
      have hke : k = 2 := by omega
      subst hke
      exact kk _ _ _ _ hI hW (lv_sub hl [0, 1, 2] rfl) Y
    · have c_1 : ¬ (2 ≤ (nI k)) := c_1
      have hkb : k < 2 := (bLtN (by omega) (by omega)).mp (bLtN2 c_1)
      refine lv_ldc2 (v := 31) hx hb X.1.1.2.2.2.1 (X.1.1.2.2.2.2 _ k_L_whole_41) dL_whole_78 ?_
      refine lv_ldc2 (v := 31) hx hb X.1.1.2.2.2.1 (X.1.1.2.2.2.2 _ k_L_whole_41) dL_whole_81 ?_
      refine lv_lload_n hx hb dL_whole_84 rfl (lv_at hl 1 rfl) ?_
      refine lv_lmul hx hb dL_whole_85 ?_
      refine lv_aload_n hx hb dL_whole_86 rfl (lv_at hl 0 rfl) ?_
      refine lv_iload_n hx hb dL_whole_87 rfl (lv_at hl 2 rfl) ?_
      refine lv_iload hx hb dL_whole_88 (lv_at hl 3 rfl) ?_
      refine lv_iconst (v := 0) hx hb dL_whole_90 (by decide) ?_
      refine qVI (al := []) (As := [.int (nI c), .int (nI k), .int 0]) (rest := [.long (31 * (whC (S 0) c h0 k)), .long 31]) X Y (q_st hI c hc2 (nI k) 0) gL_whole_X7_stepOf rfl hdq_X7_stepOf ⟨Nat.le_of_ble_eq_true rfl, Nat.le_of_ble_eq_true rfl⟩ hI.head rfl rfl hl.1 (Nat.le_of_ble_eq_true rfl) ⟨Nat.le_of_ble_eq_true rfl, Nat.le_of_ble_eq_true rfl⟩ dL_whole_91 (fun wa_2 H locs hI_2 hw_2 Y => ?_)
      have hW_2 := hW.trans hw_2
      refine lv_i2l (v := (stV (S 0) c (nI k) 0).toInt64) hx hb dL_whole_94 rfl ?_
      refine lv_ladd hx hb dL_whole_95 ?_
      refine lv_lmul hx hb dL_whole_96 ?_
      refine lv_aload_n hx hb dL_whole_97 rfl (lv_at hl 0 rfl) ?_
      refine lv_iload_n hx hb dL_whole_98 rfl (lv_at hl 2 rfl) ?_
      refine lv_iload hx hb dL_whole_99 (lv_at hl 3 rfl) ?_
      refine lv_iconst (v := 1) hx hb dL_whole_101 (by decide) ?_
      refine qVI (al := []) (As := [.int (nI c), .int (nI k), .int 1]) (rest := [.long (31 * ((31 * (whC (S 0) c h0 k)) + ((stV (S 0) c (nI k) 0).toInt64)))]) X Y (q_st hI_2 c hc2 (nI k) 1) gL_whole_X7_stepOf rfl hdq_X7_stepOf ⟨Nat.le_of_ble_eq_true rfl, Nat.le_of_ble_eq_true rfl⟩ hI_2.head rfl rfl hl.1 (Nat.le_of_ble_eq_true rfl) ⟨Nat.le_of_ble_eq_true rfl, Nat.le_of_ble_eq_true rfl⟩ dL_whole_102 (fun wa_3 H locs hI_3 hw_3 Y => ?_)
      have hW_3 := hW_2.trans hw_3
      refine lv_i2l (v := (stV (S 0) c (nI k) 1).toInt64) hx hb dL_whole_105 rfl ?_
      refine lv_ladd hx hb dL_whole_106 ?_
      refine lv_lstore_n (lv' := [(1, .long ((31 * ((31 * (whC (S 0) c h0 k)) + ((stV (S 0) c (nI k) 0).toInt64))) + ((stV (S 0) c (nI k) 1).toInt64))), (0, .ref (Q 0)), (3, .int (nI c)), (4, .int (nI k))]) hx hb dL_whole_107 rfl hl (by decide) rfl (fun ls hl => ?_)
      refine lv_iinc (v := nI (k + 1)) (lv' := [(4, .int (nI (k + 1))), (1, .long ((31 * ((31 * (whC (S 0) c h0 k)) + ((stV (S 0) c (nI k) 0).toInt64))) + ((stV (S 0) c (nI k) 1).toInt64))), (0, .ref (Q 0)), (3, .int (nI c))]) hx hb dL_whole_108 hl (k := 3) rfl (nI_inc _) (by decide) rfl (fun ls hl => ?_)
      refine lv_goto (tgt := 72) hx hb dL_whole_111 (by decide) ?_
      rw [whC_s] at hl
      exact ih (k + 1) (by omega) (by omega) _ _ _ _ hI_3 hW_3 (lv_sub hl [2, 1, 3, 0] rfl) Y
set_option maxHeartbeats 4000000 in
set_option maxRecDepth 100000 in
theorem lp_wB {p_ : Program} {e_ : Env} {s_ : State} {m_ : MethodId} {bl_ : List Frame} {me_ : Method} {cd_ : Code} {A_ : Nat → Prop} (l : Launch) (D : va_G) (cyC cyI : ClassId) (sb sL : Nat) (xs : Nat → Int32) {Q : Nat → Nat} {r : Nat → Int32} {S : Nat → Sto} {ud : Int32} {T : List Int32} {wc : va_W} (hm : MmO (S 0)) (c : Nat) (hc2 : c < 2) (h0 : Int64) (X : qX p_ s_ m_ ([.ref (Q 0)] : List Value).toArray cd_ cL_whole 6 wsL_whole yL_whole.cls D cyC cyI sb sL xs A_) (hr : me_.sig.returnType = (some .long)) (hlk : me_.locks = false) (kk : ∀ (wa : va_W) (H : Heap) (locs : List Loc) (ls : Array Slot), QW cyC cyI Q r S ud T wa → wPerm wc wa → lv_has ls 6 [(0, .ref (Q 0)), (1, .long (whB r (S 0) c h0 13)), (3, .int (nI c))] → bY D A_ s_.heap ([] ++ wa) H locs → W p_ l e_ ({ frames := 3, cells := 0, slots := 0, locals := 66 } : Room) s_ m_ ([.ref (Q 0)] : List Value).toArray bl_ me_ cd_ H locs 0 0 (qQL bl_ ([.ref (Q 0)] : List Value).toArray s_ D wc (fun rv w1 => rv = wh r (S 0) ∧ QW cyC cyI Q r S ud T w1) 0 0 A_) (F0 m_ 69 ls [])) : ∀ (n k : Nat), 14 ≤ k + n → k ≤ 13 → ∀ (wa : va_W) (H : Heap) (locs : List Loc) (ls : Array Slot), QW cyC cyI Q r S ud T wa → wPerm wc wa → lv_has ls 6 [(0, .ref (Q 0)), (1, .long (whB r (S 0) c h0 k)), (3, .int (nI c)), (4, .int (nI k))] → bY D A_ s_.heap ([] ++ wa) H locs → W p_ l e_ ({ frames := 3, cells := 0, slots := 0, locals := 66 } : Room) s_ m_ ([.ref (Q 0)] : List Value).toArray bl_ me_ cd_ H locs 0 0 (qQL bl_ ([.ref (Q 0)] : List Value).toArray s_ D wc (fun rv w1 => rv = wh r (S 0) ∧ QW cyC cyI Q r S ud T w1) 0 0 A_) (F0 m_ 41 ls []) := by
  have hx := X.1.1.1
  have hb := X.1.1.2.1
  intro n
  induction n with
  | zero => intro k h1 h2; omega
  | succ n ih =>
    intro k h1 h2 wa H locs ls hI hW hl Y
    refine lv_iload hx hb dL_whole_41 (lv_at hl 3 rfl) ?_
    refine lv_bipush (v := 13) hx hb dL_whole_43 (by decide) ?_
    refine lv_icmp_ge (tgt := 69) hx hb dL_whole_45 (by decide) (fun c_1 => ?_) (fun c_1 => ?_)
    · have c_1 : 13 ≤ (nI k) := c_1
      have hkz : 13 ≤ k := Nat.le_of_not_lt (fun q => nI_ge q (by omega) c_1)
      have hke : k = 13 := by omega
      subst hke
      exact kk _ _ _ _ hI hW (lv_sub hl [0, 1, 2] rfl) Y
    · have c_1 : ¬ (13 ≤ (nI k)) := c_1
      have hkb : k < 13 := (bLtN (by omega) (by omega)).mp (bLtN2 c_1)
      refine lv_ldc2 (v := 31) hx hb X.1.1.2.2.2.1 (X.1.1.2.2.2.2 _ k_L_whole_41) dL_whole_48 ?_
      refine lv_lload_n hx hb dL_whole_51 rfl (lv_at hl 1 rfl) ?_
      refine lv_lmul hx hb dL_whole_52 ?_
      refine lv_aload_n hx hb dL_whole_53 rfl (lv_at hl 0 rfl) ?_
      refine lv_iload_n hx hb dL_whole_54 rfl (lv_at hl 2 rfl) ?_
      refine lv_iload hx hb dL_whole_55 (lv_at hl 3 rfl) ?_
      refine qVI (al := []) (As := [.int (nI c), .int (nI k)]) (rest := [.long (31 * (whB r (S 0) c h0 k))]) X Y (q_cr hI c hc2 (nI k)) gL_whole_X7_crane rfl hdq_X7_crane ⟨Nat.le_of_ble_eq_true rfl, Nat.le_of_ble_eq_true rfl⟩ hI.head rfl rfl hl.1 (Nat.le_of_ble_eq_true rfl) ⟨Nat.le_of_ble_eq_true rfl, Nat.le_of_ble_eq_true rfl⟩ dL_whole_57 (fun wa_2 H locs hI_2 hw_2 Y => ?_)
      have hW_2 := hW.trans hw_2
      refine lv_i2l (v := (crV r (S 0) c (nI k)).toInt64) hx hb dL_whole_60 rfl ?_
      refine lv_ladd hx hb dL_whole_61 ?_
      refine lv_lstore_n (lv' := [(1, .long ((31 * (whB r (S 0) c h0 k)) + ((crV r (S 0) c (nI k)).toInt64))), (0, .ref (Q 0)), (3, .int (nI c)), (4, .int (nI k))]) hx hb dL_whole_62 rfl hl (by decide) rfl (fun ls hl => ?_)
      refine lv_iinc (v := nI (k + 1)) (lv' := [(4, .int (nI (k + 1))), (1, .long ((31 * (whB r (S 0) c h0 k)) + ((crV r (S 0) c (nI k)).toInt64))), (0, .ref (Q 0)), (3, .int (nI c))]) hx hb dL_whole_63 hl (k := 3) rfl (nI_inc _) (by decide) rfl (fun ls hl => ?_)
      refine lv_goto (tgt := 41) hx hb dL_whole_66 (by decide) ?_
      rw [whB_s] at hl
      exact ih (k + 1) (by omega) (by omega) _ _ _ _ hI_2 hW_2 (lv_sub hl [2, 1, 3, 0] rfl) Y
set_option maxHeartbeats 4000000 in
set_option maxRecDepth 100000 in
theorem lp_wA {p_ : Program} {e_ : Env} {s_ : State} {m_ : MethodId} {bl_ : List Frame} {me_ : Method} {cd_ : Code} {A_ : Nat → Prop} (l : Launch) (D : va_G) (cyC cyI : ClassId) (sb sL : Nat) (xs : Nat → Int32) {Q : Nat → Nat} {r : Nat → Int32} {S : Nat → Sto} {ud : Int32} {T : List Int32} {wc : va_W} (hm : MmO (S 0))  (X : qX p_ s_ m_ ([.ref (Q 0)] : List Value).toArray cd_ cL_whole 6 wsL_whole yL_whole.cls D cyC cyI sb sL xs A_) (hr : me_.sig.returnType = (some .long)) (hlk : me_.locks = false) (kk : ∀ (wa : va_W) (H : Heap) (locs : List Loc) (ls : Array Slot), QW cyC cyI Q r S ud T wa → wPerm wc wa → lv_has ls 6 [(0, .ref (Q 0)), (1, .long (whA r (S 0) 7))] → bY D A_ s_.heap ([] ++ wa) H locs → W p_ l e_ ({ frames := 3, cells := 0, slots := 0, locals := 66 } : Room) s_ m_ ([.ref (Q 0)] : List Value).toArray bl_ me_ cd_ H locs 0 0 (qQL bl_ ([.ref (Q 0)] : List Value).toArray s_ D wc (fun rv w1 => rv = wh r (S 0) ∧ QW cyC cyI Q r S ud T w1) 0 0 A_) (F0 m_ 31 ls [])) : ∀ (n k : Nat), 8 ≤ k + n → k ≤ 7 → ∀ (wa : va_W) (H : Heap) (locs : List Loc) (ls : Array Slot), QW cyC cyI Q r S ud T wa → wPerm wc wa → lv_has ls 6 [(0, .ref (Q 0)), (1, .long (whA r (S 0) k)), (3, .int (nI k))] → bY D A_ s_.heap ([] ++ wa) H locs → W p_ l e_ ({ frames := 3, cells := 0, slots := 0, locals := 66 } : Room) s_ m_ ([.ref (Q 0)] : List Value).toArray bl_ me_ cd_ H locs 0 0 (qQL bl_ ([.ref (Q 0)] : List Value).toArray s_ D wc (fun rv w1 => rv = wh r (S 0) ∧ QW cyC cyI Q r S ud T w1) 0 0 A_) (F0 m_ 6 ls []) := by
  have hx := X.1.1.1
  have hb := X.1.1.2.1
  intro n
  induction n with
  | zero => intro k h1 h2; omega
  | succ n ih =>
    intro k h1 h2 wa H locs ls hI hW hl Y
    refine lv_iload_n hx hb dL_whole_6 rfl (lv_at hl 2 rfl) ?_
    refine lv_bipush (v := 7) hx hb dL_whole_7 (by decide) ?_
    refine lv_icmp_ge (tgt := 31) hx hb dL_whole_9 (by decide) (fun c_1 => ?_) (fun c_1 => ?_)
    · have c_1 : 7 ≤ (nI k) := c_1
      have hkz : 7 ≤ k := Nat.le_of_not_lt (fun q => nI_ge q (by omega) c_1)
      have hke : k = 7 := by omega
      subst hke
      exact kk _ _ _ _ hI hW (lv_sub hl [0, 1] rfl) Y
    · have c_1 : ¬ (7 ≤ (nI k)) := c_1
      have hk7 : k < 7 := (bLtN (by omega) (by decide)).mp (bLtN2 c_1)
      refine lv_ldc2 (v := 31) hx hb X.1.1.2.2.2.1 (X.1.1.2.2.2.2 _ k_L_whole_41) dL_whole_12 ?_
      refine lv_lload_n hx hb dL_whole_15 rfl (lv_at hl 1 rfl) ?_
      refine lv_lmul hx hb dL_whole_16 ?_
      refine lv_aload_n hx hb dL_whole_17 rfl (lv_at hl 0 rfl) ?_
      refine lv_iload_n hx hb dL_whole_18 rfl (lv_at hl 2 rfl) ?_
      refine qVI (al := []) (As := [.int (nI k)]) (rest := [.long (31 * (whA r (S 0) k))]) X Y (q_cnt7 hI k hk7) gL_whole_X7_count rfl hdq_X7_count ⟨Nat.le_of_ble_eq_true rfl, Nat.le_of_ble_eq_true rfl⟩ hI.head rfl rfl hl.1 (Nat.le_of_ble_eq_true rfl) ⟨Nat.le_of_ble_eq_true rfl, Nat.le_of_ble_eq_true rfl⟩ dL_whole_19 (fun wa_2 H locs hI_2 hw_2 Y => ?_)
      have hW_2 := hW.trans hw_2
      refine lv_i2l (v := (cntV r (S 0) 0 0 (nI k)).toInt64) hx hb dL_whole_22 rfl ?_
      refine lv_ladd hx hb dL_whole_23 ?_
      refine lv_lstore_n (lv' := [(1, .long ((31 * (whA r (S 0) k)) + ((cntV r (S 0) 0 0 (nI k)).toInt64))), (0, .ref (Q 0)), (3, .int (nI k))]) hx hb dL_whole_24 rfl hl (by decide) rfl (fun ls hl => ?_)
      refine lv_iinc (v := nI (k + 1)) (lv' := [(3, .int (nI (k + 1))), (1, .long ((31 * (whA r (S 0) k)) + ((cntV r (S 0) 0 0 (nI k)).toInt64))), (0, .ref (Q 0))]) hx hb dL_whole_25 hl (k := 2) rfl (nI_inc _) (by decide) rfl (fun ls hl => ?_)
      refine lv_goto (tgt := 6) hx hb dL_whole_28 (by decide) ?_
      rw [whA_s] at hl
      exact ih (k + 1) (by omega) (by omega) _ _ _ _ hI_2 hW_2 (lv_sub hl [2, 1, 0] rfl) Y
set_option maxHeartbeats 4000000 in
set_option maxRecDepth 100000 in
theorem lp_wc {p_ : Program} {e_ : Env} {s_ : State} {m_ : MethodId} {bl_ : List Frame} {me_ : Method} {cd_ : Code} {A_ : Nat → Prop} (l : Launch) (D : va_G) (cyC cyI : ClassId) (sb sL : Nat) (xs : Nat → Int32) {Q : Nat → Nat} {r : Nat → Int32} {S : Nat → Sto} {ud : Int32} {T : List Int32} {wc : va_W} (hm : MmO (S 0)) (X : qX p_ s_ m_ ([.ref (Q 0)] : List Value).toArray cd_ cL_whole 6 wsL_whole yL_whole.cls D cyC cyI sb sL xs A_) (hr : me_.sig.returnType = (some .long)) (hlk : me_.locks = false) : ∀ (n c : Nat), 3 ≤ c + n → c ≤ 2 → ∀ (wa : va_W) (H : Heap) (locs : List Loc) (ls : Array Slot), QW cyC cyI Q r S ud T wa → wPerm wc wa → lv_has ls 6 [(0, .ref (Q 0)), (1, .long (whP r (S 0) c)), (3, .int (nI c))] → bY D A_ s_.heap ([] ++ wa) H locs → W p_ l e_ ({ frames := 3, cells := 0, slots := 0, locals := 66 } : Room) s_ m_ ([.ref (Q 0)] : List Value).toArray bl_ me_ cd_ H locs 0 0 (qQL bl_ ([.ref (Q 0)] : List Value).toArray s_ D wc (fun rv w1 => rv = wh r (S 0) ∧ QW cyC cyI Q r S ud T w1) 0 0 A_) (F0 m_ 33 ls []) := by
  have hx := X.1.1.1
  have hb := X.1.1.2.1
  intro n
  induction n with
  | zero => intro c h1 h2; omega
  | succ n ih =>
    intro c h1 h2 wa H locs ls hI hW hl Y
    refine lv_iload_n hx hb dL_whole_33 rfl (lv_at hl 2 rfl) ?_
    refine lv_iconst (v := 2) hx hb dL_whole_34 (by decide) ?_
    refine lv_icmp_ge (tgt := 173) hx hb dL_whole_35 (by decide) (fun c_1 => ?_) (fun c_1 => ?_)
    · have c_1 : 2 ≤ (nI c) := c_1
      refine lv_lload_n hx hb dL_whole_173 rfl (lv_at hl 1 rfl) ?_
      have hcz : 2 ≤ c := Nat.le_of_not_lt (fun q => nI_ge q (by omega) c_1)
      have hce : c = 2 := by omega
      subst hce
      exact qEndL X Y hr hlk dL_whole_174 (⟨rfl, hI⟩) hW (Nat.le_of_ble_eq_true rfl) (Nat.le_of_ble_eq_true rfl)
    · have c_1 : ¬ (2 ≤ (nI c)) := c_1
      have hc2 : c < 2 := (bLtN (by omega) (by decide)).mp (bLtN2 c_1)
      refine lv_iconst (v := 0) hx hb dL_whole_38 (by decide) ?_
      refine lv_istore (lv' := [(4, .int 0), (0, .ref (Q 0)), (1, .long (whP r (S 0) c)), (3, .int (nI c))]) hx hb dL_whole_39 hl (by decide) rfl (fun ls hl => ?_)
      have eh0 : whP r (S 0) c = whB r (S 0) c (whP r (S 0) c) 0 := by rw [whB]
      rw [eh0] at hl
      refine lp_wB l D cyC cyI sb sL xs hm c hc2 (whP r (S 0) c) X hr hlk ?_ 14 0 (by omega) (by omega) _ _ _ _ hI hW (lv_sub hl [1, 2, 3, 0] rfl) Y
      intro wa H locs ls hI hW hl Y
      refine lv_iconst (v := 0) hx hb dL_whole_69 (by decide) ?_
      refine lv_istore (lv' := [(4, .int 0), (0, .ref (Q 0)), (1, .long (whB r (S 0) c (whP r (S 0) c) 13)), (3, .int (nI c))]) hx hb dL_whole_70 hl (by decide) rfl (fun ls hl => ?_)
      have eh1 : (whB r (S 0) c (whP r (S 0) c) 13) = whC (S 0) c (whB r (S 0) c (whP r (S 0) c) 13) 0 := by rw [whC]
      rw [eh1] at hl
      refine lp_wC l D cyC cyI sb sL xs hm c hc2 (whB r (S 0) c (whP r (S 0) c) 13) X hr hlk ?_ 3 0 (by omega) (by omega) _ _ _ _ hI hW (lv_sub hl [1, 2, 3, 0] rfl) Y
      intro wa H locs ls hI hW hl Y
      refine lv_iconst (v := 0) hx hb dL_whole_114 (by decide) ?_
      refine lv_istore (lv' := [(4, .int 0), (0, .ref (Q 0)), (1, .long (whC (S 0) c (whB r (S 0) c (whP r (S 0) c) 13) 2)), (3, .int (nI c))]) hx hb dL_whole_115 hl (by decide) rfl (fun ls hl => ?_)
      have eh2 : (whC (S 0) c (whB r (S 0) c (whP r (S 0) c) 13) 2) = whD (S 0) c (whC (S 0) c (whB r (S 0) c (whP r (S 0) c) 13) 2) 0 := by rw [whD]
      rw [eh2] at hl
      refine lp_wD l D cyC cyI sb sL xs hm c hc2 (whC (S 0) c (whB r (S 0) c (whP r (S 0) c) 13) 2) X hr hlk ?_ 121 0 (by omega) (by omega) _ _ _ _ hI hW (lv_sub hl [1, 2, 3, 0] rfl) Y
      intro wa H locs ls hI hW hl Y
      have eh3 : whD (S 0) c (whC (S 0) c (whB r (S 0) c (whP r (S 0) c) 13) 2) (mmV (S 0) c) = whP r (S 0) (c + 1) := by rw [whP]
      rw [eh3] at hl
      refine lv_iinc (v := nI (c + 1)) (lv' := [(3, .int (nI (c + 1))), (0, .ref (Q 0)), (1, .long (whP r (S 0) (c + 1)))]) hx hb dL_whole_167 hl (k := 2) rfl (nI_inc _) (by decide) rfl (fun ls hl => ?_)
      refine lv_goto (tgt := 33) hx hb dL_whole_170 (by decide) ?_
      exact ih (c + 1) (by omega) (by omega) _ _ _ _ hI hW (lv_sub hl [1, 2, 0] rfl) Y
theorem k_L_whole_39 : Cond.constantLong RL 39 (3) ∈ wsL_whole := by decide +kernel
set_option maxHeartbeats 4000000 in
set_option maxRecDepth 100000 in
theorem c_whole (l : Launch) (D : va_G) (cyC cyI : ClassId) (sb sL : Nat) (xs : Nat → Int32) {Q : Nat → Nat} {r : Nat → Int32} {S : Nat → Sto} {ud : Int32} {T : List Int32} {wa : va_W} (hI : QW cyC cyI Q r S ud T wa) (hm : MmO (S 0)) : QL l yL_whole wsL_whole { frames := 3, cells := 0, slots := 0, locals := 66 } D cyC cyI sb sL xs [.ref (Q 0)] wa 0 0 (fun rv w1 => rv = wh r (S 0) ∧ QW cyC cyI Q r S ud T w1) := by
  refine QL.of (cc := cL_whole) (n := 6) (ret := (some .long)) (by decide +kernel) rfl (Nat.le_of_ble_eq_true rfl) ?_
  intro p_ e_ s_ m_ bl_ me_ cd_ A_ ls X Y hr hlk hl
  have hx := X.1.1.1
  have hb := X.1.1.2.1
  have hl : lv_has ls 6 [(0, .ref (Q 0))] := hl
  have Y : bY D A_ s_.heap ([] ++ wa) s_.heap [] := Y
  have hW := Y.wpR
  refine lv_ldc2 (v := 3) hx hb X.1.1.2.2.2.1 (X.1.1.2.2.2.2 _ k_L_whole_39) dL_whole_0 ?_
  refine lv_lstore_n (lv' := [(1, .long 3), (0, .ref (Q 0))]) hx hb dL_whole_3 rfl hl (by decide) rfl (fun ls hl => ?_)
  refine lv_iconst (v := 0) hx hb dL_whole_4 (by decide) ?_
  refine lv_istore_n (lv' := [(3, .int 0), (1, .long 3), (0, .ref (Q 0))]) hx hb dL_whole_5 rfl hl (by decide) rfl (fun ls hl => ?_)
  have eh4 : (3 : Int64) = whA r (S 0) 0 := by rw [whA]
  rw [eh4] at hl
  refine lp_wA l D cyC cyI sb sL xs hm X hr hlk ?_ 8 0 (by omega) (by omega) _ _ _ _ hI hW (lv_sub hl [2, 1, 0] rfl) Y
  intro wa H locs ls hI hW hl Y
  have eh5 : whA r (S 0) 7 = whP r (S 0) 0 := by rw [whP]
  rw [eh5] at hl
  refine lv_iconst (v := 0) hx hb dL_whole_31 (by decide) ?_
  refine lv_istore_n (lv' := [(3, .int 0), (0, .ref (Q 0)), (1, .long (whP r (S 0) 0))]) hx hb dL_whole_32 rfl hl (by decide) rfl (fun ls hl => ?_)
  exact lp_wc l D cyC cyI sb sL xs hm X hr hlk 3 0 (by omega) (by omega) _ _ _ _ hI hW (lv_sub hl [1, 2, 0] rfl) Y
