/-! the law's `undoes` -/
theorem bY.front {D : va_G} {A : Nat → Prop} {H0 : Heap} {wa : va_W} {x : Nat × va_E} {H : Heap} {locs : List Loc} (Y : bY D A H0 (wa ++ [x]) H locs) : bY D A H0 ([x] ++ wa) H locs := by
  have key : ∀ (j : Nat) (z : Nat × va_E), ([x] ++ wa)[j]? = some z → ∃ i, (wa ++ [x])[i]? = some z ∧ (i = if j = 0 then wa.length else j - 1) := by
    intro j z h
    rcases lGet h with a | ⟨a0, a⟩
    · have h3 := lLt a
      rw [show j = 0 by simp at h3; omega] at a ⊢
      cases a
      exact ⟨wa.length, lR (wa := wa) (k := 0) rfl, by simp⟩
    · refine ⟨j - 1, lL a, ?_⟩
      simp at a0
      rw [if_neg (by omega)]
  refine ⟨fun j z h => ?_, ⟨fun i j y z hi hj hyz => ?_, fun j z h => ?_⟩, Y.2.2⟩
  · obtain ⟨i, h1, -⟩ := key j z h
    exact Y.1 i z h1
  · obtain ⟨a, h1, h2⟩ := key i y hi
    obtain ⟨b, h3, h4⟩ := key j z hj
    have h5 := Y.2.1.1 a b y z h1 h3 hyz
    have l1 := lLt hi
    have l2 := lLt hj
    simp at l1 l2
    rw [h2, h4] at h5
    by_cases c1 : i = 0 <;> by_cases c2 : j = 0 <;> simp [c1, c2] at h5 ⊢ <;> omega
  · obtain ⟨i, h1, -⟩ := key j z h
    exact Y.2.1.2 i z h1
section JROWS
variable {p : Program} {l : Launch} {e : Env} {R : Room} {s : State} {m : MethodId} {args : Array Value} {below : List Frame} {meth : Method} {c : Code} {H : Heap} {locs : List Loc} {cells slots : Nat} {Q : State → Prop} {cc : ByteArray} {pc nL sb sL : Nat} {xs : Nat → Int32} {ls : Array Slot} {rest : List Value} {Ts : List Cond} {own : String} {D : va_G} {cyC cyI cyJ : ClassId} {A : Nat → Prop} {wa : va_W}
theorem qNewJ (X : qX p s m args c cc nL Ts own D cyC cyI sb sL xs A) (Y : bY D A s.heap wa H locs) (harr : Cond.arrayClass .long ∈ Ts) {k : Int32} {N : Nat} (hn : ¬ k < 0) (hN : k.toNatClampNeg = N) (hbytes : N * componentBytes .long ≤ 536870912) (hcells : cells + 1 ≤ R.cells) (hslots : slots + N ≤ R.slots) {c2 s2 : Nat} (h1 : cells + 1 = c2) (h2 : slots + N = s2) (hdg : decode cc pc = .ok (.newarray .long, 2))
    (kk : ∀ (q : Nat) (cyJ : ClassId) (H1 : Heap), va_K D vwCl (bT cyC cyI ++ [(cyJ, .long)]) s → bY D A s.heap ([(q, .inl (cyJ, N, .inr (.inl (fun _ => 0))))] ++ wa) H1 locs → W p l e R s m args below meth c H1 locs c2 s2 Q (F0 m (pc + 2) ls (.ref q :: rest))) : W p l e R s m args below meth c H locs cells slots Q (F0 m pc ls (.int k :: rest)) := by
  subst h1; subst h2
  exact va_newa X.1.1.1 X.1.1.2.1 (atype := .long) (X.1.1.2.2.2.2 _ harr) (ty := .long) rfl X.1.2.1 Y.1 Y.2.1 Y.2.2.1 Y.2.2.2 (a0 := (N, .inr (.inl (fun _ => 0)))) (fun cA => rfl) hn hN hbytes hcells hslots hdg (fun q cA H1 g1 g2 g3 g4 => kk q cA H1 g1 (bY.front ⟨g2, g3, g4, Y.2.2.2⟩))
theorem qLald (X : qX p s m args c cc nL Ts own D cyC cyI sb sL xs A) (hK : va_K D vwCl (bT cyC cyI ++ [(cyJ, .long)]) s) {q n : Nat} {f : Nat → Int64} (Y : bY D A s.heap ([(q, .inl (cyJ, n, .inr (.inl f)))] ++ wa) H locs) {i : Int32} {j : Nat} {v : Int64} (hin : vp_in i n) (hi : i.toNatClampNeg = j) (hv : f j = v) (hdg : decode cc pc = .ok (.laload, 1)) (kk : W p l e R s m args below meth c H locs cells slots Q (F0 m (pc + 1) ls (.long v :: rest))) : W p l e R s m args below meth c H locs cells slots Q (F0 m pc ls (.int i :: .ref q :: rest)) := by
  subst hi; subst hv
  exact va_lald X.1.1.1 X.1.1.2.1 hK Y.1 0 2 rfl rfl hin hdg kk
theorem qLast (X : qX p s m args c cc nL Ts own D cyC cyI sb sL xs A) (hK : va_K D vwCl (bT cyC cyI ++ [(cyJ, .long)]) s) {q n : Nat} {f : Nat → Int64} (Y : bY D A s.heap ([(q, .inl (cyJ, n, .inr (.inl f)))] ++ wa) H locs) {i : Int32} {j : Nat} {v : Int64} (hin : vp_in i n) (hi : i.toNatClampNeg = j) (hdg : decode cc pc = .ok (.lastore, 1)) (kk : ∀ (H1 : Heap) (locs1 : List Loc), bY D A s.heap ([(q, .inl (cyJ, n, .inr (.inl (vp_updL f j v))))] ++ wa) H1 locs1 → W p l e R s m args below meth c H1 locs1 cells slots Q (F0 m (pc + 1) ls rest)) : W p l e R s m args below meth c H locs cells slots Q (F0 m pc ls (.long v :: .int i :: .ref q :: rest)) := by
  subst hi
  exact va_last X.1.1.1 X.1.1.2.1 hK Y.1 Y.2.1 Y.2.2.1 0 2 rfl rfl hin hdg (fun H1 locs1 g1 g2 g3 => kk H1 locs1 ⟨g1, g2, g3, Y.2.2.2⟩)
theorem qCmp (hx : p.tables.exec = Jvm.exec) (hb : c.code = cc) {x y : Int64} (h : x = y) (hdg : decode cc pc = .ok (.lcmp, 1)) (kk : W p l e R s m args below meth c H locs cells slots Q (F0 m (pc + 1) ls (.int 0 :: rest))) : W p l e R s m args below meth c H locs cells slots Q (F0 m pc ls (.long y :: .long x :: rest)) := by
  refine W.lcmp hx hb hdg ?_
  have e : lg_cmp x y = 0 := by subst h; simp [lg_cmp]
  rw [e]
  exact kk
end JROWS
theorem and_nn (v : Int32) : 0 ≤ (v &&& 2147483647).toInt := by
  have h : (v &&& 2147483647).toBitVec.msb = false := by
    rw [Int32.toBitVec_and, BitVec.msb_and, show (2147483647 : Int32).toBitVec.msb = false by decide, Bool.and_false]
  rw [BitVec.msb_eq_toInt] at h
  have h2 := of_decide_eq_false h
  exact Int.not_lt.mp h2
theorem pt_b {v n : Int32} (hn : 1 ≤ n.toInt) : 0 ≤ (pt v n).toInt ∧ (pt v n).toInt < n.toInt := by
  have hk := and_nn v
  unfold pt
  generalize v &&& 2147483647 = k at *
  have hk2 := k.toInt_lt
  have h0 : n.toInt ≠ 0 := by omega
  have hn2 := n.toInt_lt
  have e2 : (k / n).toInt = k.toInt / n.toInt := by
    rw [Int32.toInt_div_of_ne_right _ _ (by intro q; rw [q] at hn; exact absurd hn (by decide))]
    exact Int.tdiv_eq_ediv_of_nonneg hk
  have d1 : 0 ≤ k.toInt / n.toInt := Int.ediv_nonneg hk (by omega)
  have d2 : k.toInt / n.toInt * n.toInt ≤ k.toInt := Int.ediv_mul_le _ h0
  have d3 : 0 ≤ k.toInt / n.toInt * n.toInt := Int.mul_nonneg d1 (by omega)
  have e3 : (k / n * n).toInt = k.toInt / n.toInt * n.toInt := by rw [Int32.toInt_mul, e2, bmodS (by omega) (by omega)]
  have e4 : (k - k / n * n).toInt = k.toInt - k.toInt / n.toInt * n.toInt := by rw [subI (by rw [e3]; omega) (by rw [e3]; omega), e3]
  have m1 := Int.emod_nonneg k.toInt h0
  have m2 := Int.emod_lt_of_pos k.toInt (show 0 < n.toInt by omega)
  have m3 := Int.emod_def k.toInt n.toInt
  rw [Int.mul_comm] at m3
  rw [e4]
  omega
theorem how7 {w : Int32} (h : 0 ≤ w.toInt ∧ w.toInt < 8) (a : 2 ≤ w) (b : ¬ w = 2) (c : 5 ≤ w) (d : ¬ w = 5) (e : ¬ w = 6) : w = 7 := by
  rw [leI, show (2 : Int32).toInt = 2 by decide] at a
  rw [leI, show (5 : Int32).toInt = 5 by decide] at c
  rw [eqI, show (5 : Int32).toInt = 5 by decide] at d
  rw [eqI, show (6 : Int32).toInt = 6 by decide] at e
  rw [eqI, show (7 : Int32).toInt = 7 by decide]
  omega
/-- a world that is well, whatever was told -/
def IW (cyC cyI : ClassId) (Q : Nat → Nat) (r : Nat → Int32) (T : List Int32) (w : va_W) : Prop := ∃ (S : Nat → Sto) (u : Nat), QW cyC cyI Q r S (nI u) T w ∧ u ≤ 4 ∧ ∀ i, i ≤ u → OkS r (S i)
def UI (cyC cyI : ClassId) (Q : Nat → Nat) (r : Nat → Int32) (T : List Int32) (u0 k : Nat) (S : Nat → Sto) (u mn : Nat) (fJ : Nat → Int64) (w : va_W) : Prop := QW cyC cyI Q r S (nI u) T w ∧ mn ≤ k ∧ u0 ≤ 4 ∧ u = (if u0 + mn < 4 then u0 + mn else 4) ∧ (∀ i, i ≤ u → OkS r (S i)) ∧ (∀ i, 1 ≤ i → i ≤ u → i ≤ mn → wh r (S i) = fJ (mn - i))
def UD (cyC cyI : ClassId) (Q : Nat → Nat) (r : Nat → Int32) (S : Nat → Sto) (u : Nat) (T : List Int32) (how rr : Int32) (w : va_W) : Prop := ((rr.toInt < 0 ∧ ¬ (how = 7 ∧ rr = -4)) ∧ QW cyC cyI Q r S (nI u) T w) ∨ ((0 ≤ rr.toInt ∨ (how = 7 ∧ rr = -4)) ∧ Done cyC cyI Q r S u T w)
theorem UD_of {cyC cyI : ClassId} {Q : Nat → Nat} {r : Nat → Int32} {S : Nat → Sto} {u : Nat} {T : List Int32} {rr : Int32} {w : va_W} (how : Int32) (h : Chg cyC cyI Q r S u T rr w) : UD cyC cyI Q r S u T how rr w := by
  rcases h with ⟨⟨h1, h2⟩, h3⟩ | ⟨h1, h2⟩
  · refine Or.inl ⟨⟨h1, fun q => ?_⟩, h3⟩
    rw [q.2] at h2
    exact absurd h2 (by decide)
  · exact Or.inr ⟨Or.inl h1, h2⟩
theorem UD_ofC {cyC cyI : ClassId} {Q : Nat → Nat} {r : Nat → Int32} {S : Nat → Sto} {u : Nat} {T : List Int32} {rr : Int32} {w : va_W} {how : Int32} (h7 : how = 7) (h : ChgC cyC cyI Q r S u T rr w) : UD cyC cyI Q r S u T how rr w := by
  rcases h with ⟨⟨h1, h2⟩, h3⟩ | ⟨h1, h2⟩
  · refine Or.inl ⟨⟨h1, fun q => ?_⟩, h3⟩
    rw [q.2] at h2
    exact absurd h2 (by decide)
  · rcases h1 with h1 | h1
    · exact Or.inr ⟨Or.inl h1, h2⟩
    · exact Or.inr ⟨Or.inr ⟨h7, h1⟩, h2⟩
theorem updL_ne {f : Nat → Int64} {i j : Nat} {x : Int64} (h : j ≠ i) : vp_updL f i x j = f j := by unfold vp_updL; rw [if_neg h]
theorem updL_eq {f : Nat → Int64} {i : Nat} {x : Int64} : vp_updL f i x i = x := by unfold vp_updL; rw [if_pos rfl]
theorem UI.refused {cyC cyI : ClassId} {Q : Nat → Nat} {r : Nat → Int32} {T : List Int32} {u0 k : Nat} {S : Nat → Sto} {u mn : Nat} {fJ : Nat → Int64} {w w2 : va_W} (h : UI cyC cyI Q r T u0 k S u mn fJ w) (hQ : QW cyC cyI Q r S (nI u) T w2) (x : Int64) : UI cyC cyI Q r T u0 (k + 1) S u mn (vp_updL fJ mn x) w2 := by
  obtain ⟨-, h1, h2, h3, h4, h5⟩ := h
  exact ⟨hQ, by omega, h2, h3, h4, fun i a b c => by rw [updL_ne (by omega)]; exact h5 i a b c⟩
theorem UI.done {cyC cyI : ClassId} {Q : Nat → Nat} {r : Nat → Int32} {T : List Int32} {u0 k : Nat} {S : Nat → Sto} {u mn : Nat} {fJ : Nat → Int64} {w w2 : va_W} (h : UI cyC cyI Q r T u0 k S u mn fJ w) {n' c : Sto} (hQ : QW cyC cyI Q r (pushS S n' c) (nI (if u < 4 then u + 1 else 4)) T w2) (hse : SE (S 0) c) (hn : OkS r n') : UI cyC cyI Q r T u0 (k + 1) (pushS S n' c) (if u < 4 then u + 1 else 4) (mn + 1) (vp_updL fJ mn (wh r (S 0))) w2 := by
  obtain ⟨-, h1, h2, h3, h4, h5⟩ := h
  have hu4 : u ≤ 4 := by rw [h3]; split <;> omega
  have ok0 := h4 0 (by omega)
  refine ⟨hQ, by omega, h2, ?_, fun i hi => ?_, fun i a b d => ?_⟩
  · rw [h3]
    by_cases q : u0 + mn < 4
    · rw [if_pos q, if_pos q]
      by_cases q2 : u0 + (mn + 1) < 4
      · rw [if_pos q2]; omega
      · rw [if_neg q2]; omega
    · rw [if_neg q, if_neg (by omega), if_neg (by omega)]
  · match i with
    | 0 => exact hn
    | 1 => exact OkS_of ok0 hse
    | i + 2 =>
      refine h4 (i + 1) ?_
      split at hi <;> omega
  · match i with
    | 0 => omega
    | 1 =>
      show wh r c = _
      rw [show mn + 1 - 1 = mn by omega, updL_eq]
      exact (wh_c hse (OkS_mm ok0)).symm
    | i + 2 =>
      show wh r (S (i + 1)) = _
      rw [show mn + 1 - (i + 2) = mn - (i + 1) by omega, updL_ne (by omega)]
      refine h5 (i + 1) (by omega) ?_ (by omega)
      split at b <;> omega
theorem UI.u4 {cyC cyI : ClassId} {Q : Nat → Nat} {r : Nat → Int32} {T : List Int32} {u0 k : Nat} {S : Nat → Sto} {u mn : Nat} {fJ : Nat → Int64} {w : va_W} (h : UI cyC cyI Q r T u0 k S u mn fJ w) : u ≤ 4 := by
  rw [h.2.2.2.1]; split <;> omega
theorem hdq_L_whole : bD1 yL_whole RL 1 := by decide +kernel
theorem hdq_L_holds : bD1 yL_holds RL 1 := by decide +kernel
theorem hdq_L_cell : bD1 yL_cell RL 2 := by decide +kernel
theorem hdq_L_part : bD1 yL_part RL 2 := by decide +kernel
theorem hdq_X7_couple : bD1 yX7_couple RX7 1 := by decide +kernel
theorem hdq_X7_load : bD1 yX7_load RX7 2 := by decide +kernel
theorem hdq_X7_target : bD1 yX7_target RX7 2 := by decide +kernel
theorem hdq_X7_shape : bD1 yX7_shape RX7 3 := by decide +kernel
theorem hdq_X7_command : bD1 yX7_command RX7 2 := by decide +kernel
theorem hdq_X7_tick : bD1 yX7_tick RX7 1 := by decide +kernel
theorem hdq_X7_undo : bD1 yX7_undo RX7 0 := by decide +kernel
theorem popS_lt {S : Nat → Sto} {i : Nat} (h : i ≤ 3) : popS S i = S (i + 1) := by
  rcases (show i = 0 ∨ i = 1 ∨ i = 2 ∨ i = 3 by omega) with rfl | rfl | rfl | rfl <;> rfl
theorem nI_sub {a b : Nat} (h : b ≤ a ∧ a ≤ 900) : nI a - nI b = nI (a - b) := by
  rw [eqI, subI (by rw [nIt (by omega), nIt (by omega)]; omega) (by rw [nIt (by omega), nIt (by omega)]; omega), nIt (by omega), nIt (by omega), nIt (by omega)]
  omega
set_option maxHeartbeats 4000000 in
set_option maxRecDepth 100000 in
theorem lp_u2 {p_ : Program} {e_ : Env} {s_ : State} {m_ : MethodId} {bl_ : List Frame} {me_ : Method} {cd_ : Code} {A_ : Nat → Prop} (l : Launch) (D : va_G) (cyC cyI : ClassId) (sb sL : Nat) (xs : Nat → Int32) {Q : Nat → Nat} {r : Nat → Int32} {T : List Int32} {wc : va_W} {cyJ : ClassId} (hsL : sL ≤ 260) (hKJ : va_K D vwCl (bT cyC cyI ++ [(cyJ, .long)]) s_) (f : Nat) (X : qX p_ s_ m_ ([.ref (Q 0), .ref sb, .int (nI f)] : List Value).toArray cd_ cL_undoes 14 wsL_undoes yL_undoes.cls D cyC cyI sb sL xs A_) (hr : me_.sig.returnType = (some .boolean)) (hlk : me_.locks = false) (u0 mn ku : Nat) (hku4 : ku ≤ 4) (hmn9 : mn ≤ 9) (fJ : Nat → Int64) (q : Nat) : ∀ (n k : Nat), 7 ≤ k + n → 1 ≤ k → k ≤ ku + 1 → ∀ (S : Nat → Sto) (wa : va_W) (H : Heap) (locs : List Loc) (ls : Array Slot), QW cyC cyI Q r S (nI (ku + 1 - k)) T wa → (∀ i, i ≤ ku + 1 - k → OkS r (S i)) → (∀ i, 1 ≤ i → i ≤ ku + 1 - k → i + (k - 1) ≤ mn → wh r (S i) = fJ (mn - (i + (k - 1)))) → wPerm wc wa → lv_has ls 14 [(0, .ref (Q 0)), (3, .ref q), (4, .int (nI mn)), (6, .int (nI ku)), (7, .int (nI k))] → bY D A_ s_.heap ([(q, .inl (cyJ, 12, .inr (.inl fJ)))] ++ wa) H locs → W p_ l e_ ({ frames := 7, cells := 1, slots := 12, locals := 153 } : Room) s_ m_ ([.ref (Q 0), .ref sb, .int (nI f)] : List Value).toArray bl_ me_ cd_ H locs 1 12 (qQI bl_ ([.ref (Q 0), .ref sb, .int (nI f)] : List Value).toArray s_ D wc (fun rv w1 => rv = 1 ∧ IW cyC cyI Q r T w1) 1 12 A_) (F0 m_ 375 ls []) := by
  have hx := X.1.1.1
  have hb := X.1.1.2.1
  intro n
  induction n with
  | zero => intro k h1 h2 h3; omega
  | succ n ih =>
    intro k h1 h2 h3 S wa H locs ls hI hokS hK2 hW hl Y
    refine lv_iload hx hb dL_undoes_375 (lv_at hl 4 rfl) ?_
    refine lv_iload hx hb dL_undoes_377 (lv_at hl 2 rfl) ?_
    refine lv_icmp_gt (tgt := 424) hx hb dL_undoes_379 (by decide) (fun c_1 => ?_) (fun c_1 => ?_)
    · have c_1 : (nI mn) < (nI k) := c_1
      refine lv_iconst (v := 1) hx hb dL_undoes_424 (by decide) ?_
      exact qEndZ X Y hr hlk dL_undoes_425 rfl (⟨rfl, S, ku + 1 - k, hI, by omega, hokS⟩) hW (Nat.le_of_ble_eq_true rfl) (Nat.le_of_ble_eq_true rfl)
    · have c_1 : ¬ ((nI mn) < (nI k)) := c_1
      have hk1 : k ≤ mn := Nat.le_of_not_lt (fun q => c_1 (nI_lt q (by omega)))
      refine lv_iload hx hb dL_undoes_382 (lv_at hl 4 rfl) ?_
      refine lv_iload hx hb dL_undoes_384 (lv_at hl 3 rfl) ?_
      refine lv_icmp_gt (tgt := 424) hx hb dL_undoes_386 (by decide) (fun c_2 => ?_) (fun c_2 => ?_)
      · have c_2 : (nI ku) < (nI k) := c_2
        refine lv_iconst (v := 1) hx hb dL_undoes_424 (by decide) ?_
        exact qEndZ X Y hr hlk dL_undoes_425 rfl (⟨rfl, S, ku + 1 - k, hI, by omega, hokS⟩) hW (Nat.le_of_ble_eq_true rfl) (Nat.le_of_ble_eq_true rfl)
      · have c_2 : ¬ ((nI ku) < (nI k)) := c_2
        have hk2 : k ≤ ku := Nat.le_of_not_lt (fun q => c_2 (nI_lt q (by omega)))
        have hmm2 : MmO (popS S 0) := OkS_mm (hokS 1 (by omega))
        refine lv_aload_n hx hb dL_undoes_389 rfl (lv_at hl 0 rfl) ?_
        refine qVI (al := [(q, .inl (cyJ, 12, .inr (.inl fJ)))]) (As := []) (rest := []) X Y (k_undo hI (by rw [leI, show (1 : Int32).toInt = 1 by decide, nIt (by omega)]; omega)) gL_undoes_X7_undo rfl hdq_X7_undo ⟨Nat.le_of_ble_eq_true rfl, Nat.le_of_ble_eq_true rfl⟩ hI.head rfl rfl hl.1 (Nat.le_of_ble_eq_true rfl) ⟨Nat.le_of_ble_eq_true rfl, Nat.le_of_ble_eq_true rfl⟩ dL_undoes_390 (fun wa_3 H locs hI_3 hw_3 Y => ?_)
        have hW_3 := hW.trans hw_3
        refine lv_iload hx hb dL_undoes_393 (lv_at hl 3 rfl) ?_
        refine lv_iload hx hb dL_undoes_395 (lv_at hl 4 rfl) ?_
        refine bSub (v := nI (ku - k)) X.1 dL_undoes_397 (nI_sub (by omega)) ?_
        refine lv_icmp_ne (tgt := 416) hx hb dL_undoes_398 (by decide) (fun c_4 => ?_) (fun c_4 => ?_)
        · exact absurd (by rw [eqI, subI (by rw [nIt (by omega), show (1 : Int32).toInt = 1 by decide]; omega) (by rw [nIt (by omega), show (1 : Int32).toInt = 1 by decide]; omega), nIt (by omega), nIt (by omega), show (1 : Int32).toInt = 1 by decide]; omega) (show ¬ ((nI (ku + 1 - k) - 1) = (nI (ku - k))) from c_4)
        · have c_4 : (nI (ku + 1 - k) - 1) = (nI (ku - k)) := c_4
          refine lv_aload_n hx hb dL_undoes_401 rfl (lv_at hl 0 rfl) ?_
          refine qSL (al := [(q, .inl (cyJ, 12, .inr (.inl fJ)))]) (wa := wa_3) (As := [.ref (Q 0)]) (rest := []) (c2 := 1) (s2 := 12) X Y (c_whole l D cyC cyI sb sL xs hI_3 hmm2) gL_undoes_L_whole rfl ⟨rfl, rfl⟩ hdq_L_whole.2 ⟨Nat.le_of_ble_eq_true rfl, Nat.le_of_ble_eq_true rfl⟩ rfl rfl rfl rfl hl.1 (Nat.le_of_ble_eq_true rfl) ⟨Nat.le_of_ble_eq_true rfl, Nat.le_of_ble_eq_true rfl⟩ dL_undoes_402 (fun r_6 wa_5 H locs hI_5 hw_5 Y => ?_)
          have hW_5 := hW_3.trans hw_5
          obtain ⟨er_6, hI_5⟩ := hI_5
          subst er_6
          refine lv_aload_n hx hb dL_undoes_405 rfl (lv_at hl 1 rfl) ?_
          refine lv_iload hx hb dL_undoes_406 (lv_at hl 2 rfl) ?_
          refine lv_iload hx hb dL_undoes_408 (lv_at hl 4 rfl) ?_
          refine bSub (v := nI (mn - k)) X.1 dL_undoes_410 (nI_sub (by omega)) ?_
          refine qLald (j := (mn - k)) (v := wh r (popS S 0)) X hKJ Y (bIn (by omega) (by decide)) (by rw [nI_clamp (by omega)]) (by show fJ (mn - k) = wh r (S 1); rw [hK2 1 (by omega) (by omega) (by omega)]; congr 1; omega) dL_undoes_411 ?_
          refine qCmp hx hb rfl dL_undoes_412 ?_
          refine lv_if_eq (tgt := 418) hx hb dL_undoes_413 (by decide) (fun _ => ?_) (fun c_ => absurd (by decide) c_)
          refine lv_iinc (v := nI (k + 1)) (lv' := [(7, .int (nI (k + 1))), (0, .ref (Q 0)), (3, .ref q), (4, .int (nI mn)), (6, .int (nI ku))]) hx hb dL_undoes_418 hl (k := 4) rfl (nI_inc _) (by decide) rfl (fun ls hl => ?_)
          refine lv_goto (tgt := 375) hx hb dL_undoes_421 (by decide) ?_
          have e8 : nI (ku + 1 - k) - 1 = nI (ku + 1 - (k + 1)) := by rw [eqI, subI (by rw [nIt (by omega), show (1 : Int32).toInt = 1 by decide]; omega) (by rw [nIt (by omega), show (1 : Int32).toInt = 1 by decide]; omega), nIt (by omega), nIt (by omega), show (1 : Int32).toInt = 1 by decide]; omega
          have hI9 := hI_5
          rw [e8] at hI9
          exact ih (k + 1) (by omega) (by omega) (by omega) (popS S) _ _ _ _ hI9 (fun i hi => by rw [popS_lt (by omega)]; exact hokS (i + 1) (by omega)) (fun i a b d => by rw [popS_lt (by omega), hK2 (i + 1) (by omega) (by omega) (by omega)]; congr 1; omega) hW_5 (lv_sub hl [1, 2, 3, 4, 0] rfl) Y
set_option maxHeartbeats 4000000 in
set_option maxRecDepth 100000 in
theorem ud_tail {p_ : Program} {e_ : Env} {s_ : State} {m_ : MethodId} {bl_ : List Frame} {me_ : Method} {cd_ : Code} {A_ : Nat → Prop} (l : Launch) (D : va_G) (cyC cyI : ClassId) (sb sL : Nat) (xs : Nat → Int32) {Q : Nat → Nat} {r : Nat → Int32} {T : List Int32} {wc : va_W} {cyJ : ClassId} (hsL : sL ≤ 260) (hKJ : va_K D vwCl (bT cyC cyI ++ [(cyJ, .long)]) s_) (f : Nat) (X : qX p_ s_ m_ ([.ref (Q 0), .ref sb, .int (nI f)] : List Value).toArray cd_ cL_undoes 14 wsL_undoes yL_undoes.cls D cyC cyI sb sL xs A_) (hr : me_.sig.returnType = (some .boolean)) (hlk : me_.locks = false) (u0 k : Nat) (S : Nat → Sto) (u mn : Nat) (fJ : Nat → Int64) (q : Nat) (rr how : Int32) {w0 wa : va_W} (hk9 : k < 9) (hUI : UI cyC cyI Q r T u0 k S u mn fJ w0) (hd : UD cyC cyI Q r S u T how rr wa) (kk : ∀ (S : Nat → Sto) (u mn : Nat) (fJ : Nat → Int64) (wa : va_W) (H : Heap) (locs : List Loc) (ls : Array Slot), UI cyC cyI Q r T u0 (k + 1) S u mn fJ wa → wPerm wc wa → lv_has ls 14 [(0, .ref (Q 0)), (1, .ref sb), (2, .int (nI f)), (3, .ref q), (4, .int (nI mn)), (5, .int (nI u0)), (6, .int (nI (k + 1)))] → bY D A_ s_.heap ([(q, .inl (cyJ, 12, .inr (.inl fJ)))] ++ wa) H locs → W p_ l e_ ({ frames := 7, cells := 1, slots := 12, locals := 153 } : Room) s_ m_ ([.ref (Q 0), .ref sb, .int (nI f)] : List Value).toArray bl_ me_ cd_ H locs 1 12 (qQI bl_ ([.ref (Q 0), .ref sb, .int (nI f)] : List Value).toArray s_ D wc (fun rv w1 => rv = 1 ∧ IW cyC cyI Q r T w1) 1 12 A_) (F0 m_ 19 ls [])) (H : Heap) (locs : List Loc) (ls : Array Slot) (hW : wPerm wc wa) (hl : lv_has ls 14 [(0, .ref (Q 0)), (1, .ref sb), (2, .int (nI f)), (3, .ref q), (4, .int (nI mn)), (5, .int (nI u0)), (6, .int (nI k)), (9, .int how), (10, .int (nI u))]) (Y : bY D A_ s_.heap ([(q, .inl (cyJ, 12, .inr (.inl (vp_updL fJ mn (wh r (S 0))))))] ++ wa) H locs) : W p_ l e_ ({ frames := 7, cells := 1, slots := 12, locals := 153 } : Room) s_ m_ ([.ref (Q 0), .ref sb, .int (nI f)] : List Value).toArray bl_ me_ cd_ H locs 1 12 (qQI bl_ ([.ref (Q 0), .ref sb, .int (nI f)] : List Value).toArray s_ D wc (fun rv w1 => rv = 1 ∧ IW cyC cyI Q r T w1) 1 12 A_) (F0 m_ 238 ls [.int rr]) := by
  have hx := X.1.1.1
  have hb := X.1.1.2.1
  have hu4 := hUI.u4
  have hmn := hUI.2.1
  have hok0 := hUI.2.2.2.2.1 0 (by omega)
  rcases hd with ⟨⟨h0, h7⟩, hI⟩ | ⟨h0, n', c, hI, hse, hn⟩
  · have hmm := OkS_mm hok0
    refine lv_istore (lv' := [(12, .int rr), (0, .ref (Q 0)), (1, .ref sb), (2, .int (nI f)), (3, .ref q), (4, .int (nI mn)), (5, .int (nI u0)), (6, .int (nI k)), (9, .int how), (10, .int (nI u))]) hx hb dL_undoes_238 hl (by decide) rfl (fun ls hl => ?_)
    refine lv_iload hx hb dL_undoes_240 (lv_at hl 0 rfl) ?_
    refine lv_if_ge (tgt := 259) hx hb dL_undoes_242 (by decide) (fun c_1 => ?_) (fun c_1 => ?_)
    · exact absurd (show 0 ≤ rr from c_1) (by rw [leI, zI]; omega)
    · have c_1 : ¬ (0 ≤ rr) := c_1
      refine lv_iload hx hb dL_undoes_245 (lv_at hl 8 rfl) ?_
      refine lv_bipush (v := 7) hx hb dL_undoes_247 (by decide) ?_
      refine lv_icmp_ne (tgt := 263) hx hb dL_undoes_249 (by decide) (fun c_2 => ?_) (fun c_2 => ?_)
      · have c_2 : ¬ (how = 7) := c_2
        refine lv_iconst (v := 0) hx hb dL_undoes_263 (by decide) ?_
        refine lv_istore (lv' := [(13, .int 0), (12, .int rr), (0, .ref (Q 0)), (1, .ref sb), (2, .int (nI f)), (3, .ref q), (4, .int (nI mn)), (5, .int (nI u0)), (6, .int (nI k)), (9, .int how), (10, .int (nI u))]) hx hb dL_undoes_264 hl (by decide) rfl (fun ls hl => ?_)
        refine lv_iload hx hb dL_undoes_266 (lv_at hl 0 rfl) ?_
        refine lv_if_ne (tgt := 296) hx hb dL_undoes_268 (by decide) (fun c_ => absurd (by decide) c_) (fun _ => ?_)
        refine lv_aload_n hx hb dL_undoes_271 rfl (lv_at hl 2 rfl) ?_
        refine qSL (al := [(q, .inl (cyJ, 12, .inr (.inl (vp_updL fJ mn (wh r (S 0))))))]) (wa := wa) (As := [.ref (Q 0)]) (rest := []) (c2 := 1) (s2 := 12) X Y (c_whole l D cyC cyI sb sL xs hI hmm) gL_undoes_L_whole rfl ⟨rfl, rfl⟩ hdq_L_whole.2 ⟨Nat.le_of_ble_eq_true rfl, Nat.le_of_ble_eq_true rfl⟩ rfl rfl rfl rfl hl.1 (Nat.le_of_ble_eq_true rfl) ⟨Nat.le_of_ble_eq_true rfl, Nat.le_of_ble_eq_true rfl⟩ dL_undoes_272 (fun r_4 wa_3 H locs hI_3 hw_3 Y => ?_)
        have hW_3 := hW.trans hw_3
        obtain ⟨er_4, hI_3⟩ := hI_3
        subst er_4
        refine lv_aload_n hx hb dL_undoes_275 rfl (lv_at hl 5 rfl) ?_
        refine lv_iload hx hb dL_undoes_276 (lv_at hl 6 rfl) ?_
        refine qLald (j := mn) (v := wh r (S 0)) X hKJ Y (bIn (by omega) (by decide)) (by rw [nI_clamp (by omega)]) updL_eq dL_undoes_278 ?_
        refine qCmp hx hb rfl dL_undoes_279 ?_
        refine lv_if_ne (tgt := 294) hx hb dL_undoes_280 (by decide) (fun c_ => absurd (by decide) c_) (fun _ => ?_)
        refine lv_aload_n hx hb dL_undoes_283 rfl (lv_at hl 2 rfl) ?_
        refine lv_bipush (v := 7) hx hb dL_undoes_284 (by decide) ?_
        refine qVI (al := [(q, .inl (cyJ, 12, .inr (.inl (vp_updL fJ mn (wh r (S 0))))))]) (As := [.int 7]) (rest := []) X Y (k_count hI_3 7 (nI u) rfl) gL_undoes_X7_count rfl hdq_X7_count ⟨Nat.le_of_ble_eq_true rfl, Nat.le_of_ble_eq_true rfl⟩ hI_3.head rfl rfl hl.1 (Nat.le_of_ble_eq_true rfl) ⟨Nat.le_of_ble_eq_true rfl, Nat.le_of_ble_eq_true rfl⟩ dL_undoes_286 (fun wa_5 H locs hI_5 hw_5 Y => ?_)
        have hW_5 := hW_3.trans hw_5
        refine lv_iload hx hb dL_undoes_289 (lv_at hl 10 rfl) ?_
        refine lv_icmp_eq (tgt := 324) hx hb dL_undoes_291 (by decide) (fun c_6 => ?_) (fun c_6 => ?_)
        · have c_6 : (nI u) = (nI u) := c_6
          refine lv_aload_n hx hb dL_undoes_324 rfl (lv_at hl 2 rfl) ?_
          refine qSI (al := [(q, .inl (cyJ, 12, .inr (.inl (vp_updL fJ mn (wh r (S 0))))))]) (wa := wa_5) (As := [.ref (Q 0)]) (rest := []) (c2 := 1) (s2 := 12) X Y (c_holds l D cyC cyI sb sL xs hI_5 hok0) gL_undoes_L_holds rfl ⟨rfl, rfl⟩ hdq_L_holds.2 ⟨Nat.le_of_ble_eq_true rfl, Nat.le_of_ble_eq_true rfl⟩ rfl rfl rfl rfl hl.1 (Nat.le_of_ble_eq_true rfl) ⟨Nat.le_of_ble_eq_true rfl, Nat.le_of_ble_eq_true rfl⟩ dL_undoes_325 (fun r_8 wa_7 H locs hI_7 hw_7 Y => ?_)
          have hW_7 := hW_5.trans hw_7
          obtain ⟨er_8, hI_7⟩ := hI_7
          subst er_8
          refine lv_if_ne (tgt := 333) hx hb dL_undoes_328 (by decide) (fun _ => ?_) (fun c_ => absurd c_ (by decide))
          refine lv_iinc (v := nI (k + 1)) (lv' := [(6, .int (nI (k + 1))), (13, .int 0), (12, .int rr), (0, .ref (Q 0)), (1, .ref sb), (2, .int (nI f)), (3, .ref q), (4, .int (nI mn)), (5, .int (nI u0)), (9, .int how), (10, .int (nI u))]) hx hb dL_undoes_333 hl (k := 8) rfl (nI_inc _) (by decide) rfl (fun ls hl => ?_)
          refine lv_goto (tgt := 19) hx hb dL_undoes_336 (by decide) ?_
          have eU := hUI.refused hI_7 (wh r (S 0))
          exact kk _ _ _ _ _ _ _ _ eU hW_7 (lv_sub hl [3, 4, 5, 6, 7, 8, 0] rfl) Y
        · exact absurd rfl (show ¬ ((nI u) = (nI u)) from c_6)
      · have c_2 : how = 7 := c_2
        refine lv_iload hx hb dL_undoes_252 (lv_at hl 0 rfl) ?_
        refine lv_bipush (v := (-4)) hx hb dL_undoes_254 (by decide) ?_
        refine lv_icmp_ne (tgt := 263) hx hb dL_undoes_256 (by decide) (fun c_9 => ?_) (fun c_9 => ?_)
        · have c_9 : ¬ (rr = (-4)) := c_9
          refine lv_iconst (v := 0) hx hb dL_undoes_263 (by decide) ?_
          refine lv_istore (lv' := [(13, .int 0), (12, .int rr), (0, .ref (Q 0)), (1, .ref sb), (2, .int (nI f)), (3, .ref q), (4, .int (nI mn)), (5, .int (nI u0)), (6, .int (nI k)), (9, .int how), (10, .int (nI u))]) hx hb dL_undoes_264 hl (by decide) rfl (fun ls hl => ?_)
          refine lv_iload hx hb dL_undoes_266 (lv_at hl 0 rfl) ?_
          refine lv_if_ne (tgt := 296) hx hb dL_undoes_268 (by decide) (fun c_ => absurd (by decide) c_) (fun _ => ?_)
          refine lv_aload_n hx hb dL_undoes_271 rfl (lv_at hl 2 rfl) ?_
          refine qSL (al := [(q, .inl (cyJ, 12, .inr (.inl (vp_updL fJ mn (wh r (S 0))))))]) (wa := wa) (As := [.ref (Q 0)]) (rest := []) (c2 := 1) (s2 := 12) X Y (c_whole l D cyC cyI sb sL xs hI hmm) gL_undoes_L_whole rfl ⟨rfl, rfl⟩ hdq_L_whole.2 ⟨Nat.le_of_ble_eq_true rfl, Nat.le_of_ble_eq_true rfl⟩ rfl rfl rfl rfl hl.1 (Nat.le_of_ble_eq_true rfl) ⟨Nat.le_of_ble_eq_true rfl, Nat.le_of_ble_eq_true rfl⟩ dL_undoes_272 (fun r_11 wa_10 H locs hI_10 hw_10 Y => ?_)
          have hW_10 := hW.trans hw_10
          obtain ⟨er_11, hI_10⟩ := hI_10
          subst er_11
          refine lv_aload_n hx hb dL_undoes_275 rfl (lv_at hl 5 rfl) ?_
          refine lv_iload hx hb dL_undoes_276 (lv_at hl 6 rfl) ?_
          refine qLald (j := mn) (v := wh r (S 0)) X hKJ Y (bIn (by omega) (by decide)) (by rw [nI_clamp (by omega)]) updL_eq dL_undoes_278 ?_
          refine qCmp hx hb rfl dL_undoes_279 ?_
          refine lv_if_ne (tgt := 294) hx hb dL_undoes_280 (by decide) (fun c_ => absurd (by decide) c_) (fun _ => ?_)
          refine lv_aload_n hx hb dL_undoes_283 rfl (lv_at hl 2 rfl) ?_
          refine lv_bipush (v := 7) hx hb dL_undoes_284 (by decide) ?_
          refine qVI (al := [(q, .inl (cyJ, 12, .inr (.inl (vp_updL fJ mn (wh r (S 0))))))]) (As := [.int 7]) (rest := []) X Y (k_count hI_10 7 (nI u) rfl) gL_undoes_X7_count rfl hdq_X7_count ⟨Nat.le_of_ble_eq_true rfl, Nat.le_of_ble_eq_true rfl⟩ hI_10.head rfl rfl hl.1 (Nat.le_of_ble_eq_true rfl) ⟨Nat.le_of_ble_eq_true rfl, Nat.le_of_ble_eq_true rfl⟩ dL_undoes_286 (fun wa_12 H locs hI_12 hw_12 Y => ?_)
          have hW_12 := hW_10.trans hw_12
          refine lv_iload hx hb dL_undoes_289 (lv_at hl 10 rfl) ?_
          refine lv_icmp_eq (tgt := 324) hx hb dL_undoes_291 (by decide) (fun c_13 => ?_) (fun c_13 => ?_)
          · have c_13 : (nI u) = (nI u) := c_13
            refine lv_aload_n hx hb dL_undoes_324 rfl (lv_at hl 2 rfl) ?_
            refine qSI (al := [(q, .inl (cyJ, 12, .inr (.inl (vp_updL fJ mn (wh r (S 0))))))]) (wa := wa_12) (As := [.ref (Q 0)]) (rest := []) (c2 := 1) (s2 := 12) X Y (c_holds l D cyC cyI sb sL xs hI_12 hok0) gL_undoes_L_holds rfl ⟨rfl, rfl⟩ hdq_L_holds.2 ⟨Nat.le_of_ble_eq_true rfl, Nat.le_of_ble_eq_true rfl⟩ rfl rfl rfl rfl hl.1 (Nat.le_of_ble_eq_true rfl) ⟨Nat.le_of_ble_eq_true rfl, Nat.le_of_ble_eq_true rfl⟩ dL_undoes_325 (fun r_15 wa_14 H locs hI_14 hw_14 Y => ?_)
            have hW_14 := hW_12.trans hw_14
            obtain ⟨er_15, hI_14⟩ := hI_14
            subst er_15
            refine lv_if_ne (tgt := 333) hx hb dL_undoes_328 (by decide) (fun _ => ?_) (fun c_ => absurd c_ (by decide))
            refine lv_iinc (v := nI (k + 1)) (lv' := [(6, .int (nI (k + 1))), (13, .int 0), (12, .int rr), (0, .ref (Q 0)), (1, .ref sb), (2, .int (nI f)), (3, .ref q), (4, .int (nI mn)), (5, .int (nI u0)), (9, .int how), (10, .int (nI u))]) hx hb dL_undoes_333 hl (k := 8) rfl (nI_inc _) (by decide) rfl (fun ls hl => ?_)
            refine lv_goto (tgt := 19) hx hb dL_undoes_336 (by decide) ?_
            have eU := hUI.refused hI_14 (wh r (S 0))
            exact kk _ _ _ _ _ _ _ _ eU hW_14 (lv_sub hl [3, 4, 5, 6, 7, 8, 0] rfl) Y
          · exact absurd rfl (show ¬ ((nI u) = (nI u)) from c_13)
        · exact absurd (show rr = (-4) from c_9) (fun z => h7 ⟨c_2, z⟩)
  · have hmm := OkS_mm hn
    have hd7 : ¬ (0 ≤ rr) → how = 7 ∧ rr = -4 := fun z => h0.resolve_left (fun y => z (by rw [leI, zI]; exact y))
    refine lv_istore (lv' := [(12, .int rr), (0, .ref (Q 0)), (1, .ref sb), (2, .int (nI f)), (3, .ref q), (4, .int (nI mn)), (5, .int (nI u0)), (6, .int (nI k)), (9, .int how), (10, .int (nI u))]) hx hb dL_undoes_238 hl (by decide) rfl (fun ls hl => ?_)
    refine lv_iload hx hb dL_undoes_240 (lv_at hl 0 rfl) ?_
    refine lv_if_ge (tgt := 259) hx hb dL_undoes_242 (by decide) (fun c_1 => ?_) (fun c_1 => ?_)
    · have c_1 : 0 ≤ rr := c_1
      refine lv_iconst (v := 1) hx hb dL_undoes_259 (by decide) ?_
      refine lv_goto (tgt := 264) hx hb dL_undoes_260 (by decide) ?_
      refine lv_istore (lv' := [(13, .int 1), (12, .int rr), (0, .ref (Q 0)), (1, .ref sb), (2, .int (nI f)), (3, .ref q), (4, .int (nI mn)), (5, .int (nI u0)), (6, .int (nI k)), (9, .int how), (10, .int (nI u))]) hx hb dL_undoes_264 hl (by decide) rfl (fun ls hl => ?_)
      refine lv_iload hx hb dL_undoes_266 (lv_at hl 0 rfl) ?_
      refine lv_if_ne (tgt := 296) hx hb dL_undoes_268 (by decide) (fun _ => ?_) (fun c_ => absurd c_ (by decide))
      refine lv_aload_n hx hb dL_undoes_296 rfl (lv_at hl 2 rfl) ?_
      refine lv_bipush (v := 7) hx hb dL_undoes_297 (by decide) ?_
      refine qVI (al := [(q, .inl (cyJ, 12, .inr (.inl (vp_updL fJ mn (wh r (S 0))))))]) (As := [.int 7]) (rest := []) X Y (k_count hI 7 (nI (if u < 4 then u + 1 else 4)) rfl) gL_undoes_X7_count rfl hdq_X7_count ⟨Nat.le_of_ble_eq_true rfl, Nat.le_of_ble_eq_true rfl⟩ hI.head rfl rfl hl.1 (Nat.le_of_ble_eq_true rfl) ⟨Nat.le_of_ble_eq_true rfl, Nat.le_of_ble_eq_true rfl⟩ dL_undoes_299 (fun wa_2 H locs hI_2 hw_2 Y => ?_)
      have hW_2 := hW.trans hw_2
      refine lv_iload hx hb dL_undoes_302 (lv_at hl 10 rfl) ?_
      refine lv_iconst (v := 4) hx hb dL_undoes_304 (by decide) ?_
      refine lv_icmp_ge (tgt := 315) hx hb dL_undoes_305 (by decide) (fun c_3 => ?_) (fun c_3 => ?_)
      · have c_3 : 4 ≤ (nI u) := c_3
        refine lv_iconst (v := 4) hx hb dL_undoes_315 (by decide) ?_
        refine lv_icmp_eq (tgt := 321) hx hb dL_undoes_316 (by decide) (fun c_4 => ?_) (fun c_4 => ?_)
        · have c_4 : (nI (if u < 4 then u + 1 else 4)) = 4 := c_4
          refine lv_iinc (v := nI (mn + 1)) (lv' := [(4, .int (nI (mn + 1))), (13, .int 1), (12, .int rr), (0, .ref (Q 0)), (1, .ref sb), (2, .int (nI f)), (3, .ref q), (5, .int (nI u0)), (6, .int (nI k)), (9, .int how), (10, .int (nI u))]) hx hb dL_undoes_321 hl (k := 6) rfl (nI_inc _) (by decide) rfl (fun ls hl => ?_)
          refine lv_aload_n hx hb dL_undoes_324 rfl (lv_at hl 3 rfl) ?_
          refine qSI (al := [(q, .inl (cyJ, 12, .inr (.inl (vp_updL fJ mn (wh r (S 0))))))]) (wa := wa_2) (As := [.ref (Q 0)]) (rest := []) (c2 := 1) (s2 := 12) X Y (c_holds l D cyC cyI sb sL xs hI_2 hn) gL_undoes_L_holds rfl ⟨rfl, rfl⟩ hdq_L_holds.2 ⟨Nat.le_of_ble_eq_true rfl, Nat.le_of_ble_eq_true rfl⟩ rfl rfl rfl rfl hl.1 (Nat.le_of_ble_eq_true rfl) ⟨Nat.le_of_ble_eq_true rfl, Nat.le_of_ble_eq_true rfl⟩ dL_undoes_325 (fun r_6 wa_5 H locs hI_5 hw_5 Y => ?_)
          have hW_5 := hW_2.trans hw_5
          obtain ⟨er_6, hI_5⟩ := hI_5
          subst er_6
          refine lv_if_ne (tgt := 333) hx hb dL_undoes_328 (by decide) (fun _ => ?_) (fun c_ => absurd c_ (by decide))
          refine lv_iinc (v := nI (k + 1)) (lv' := [(6, .int (nI (k + 1))), (4, .int (nI (mn + 1))), (13, .int 1), (12, .int rr), (0, .ref (Q 0)), (1, .ref sb), (2, .int (nI f)), (3, .ref q), (5, .int (nI u0)), (9, .int how), (10, .int (nI u))]) hx hb dL_undoes_333 hl (k := 8) rfl (nI_inc _) (by decide) rfl (fun ls hl => ?_)
          refine lv_goto (tgt := 19) hx hb dL_undoes_336 (by decide) ?_
          have eU := hUI.done hI_5 hse hn
          exact kk _ _ _ _ _ _ _ _ eU hW_5 (lv_sub hl [4, 5, 6, 7, 1, 8, 0] rfl) Y
        · exact absurd (by rw [if_neg (by have := c_3; rw [leI, show (4 : Int32).toInt = 4 by decide, nIt (by omega)] at this; omega)]; rfl) (show ¬ ((nI (if u < 4 then u + 1 else 4)) = 4) from c_4)
      · have c_3 : ¬ (4 ≤ (nI u)) := c_3
        refine lv_iload hx hb dL_undoes_308 (lv_at hl 10 rfl) ?_
        refine lv_iconst (v := 1) hx hb dL_undoes_310 (by decide) ?_
        refine bAdd (v := (nI u) + 1) X.1 dL_undoes_311 rfl ?_
        refine lv_goto (tgt := 316) hx hb dL_undoes_312 (by decide) ?_
        refine lv_icmp_eq (tgt := 321) hx hb dL_undoes_316 (by decide) (fun c_7 => ?_) (fun c_7 => ?_)
        · have c_7 : (nI (if u < 4 then u + 1 else 4)) = ((nI u) + 1) := c_7
          refine lv_iinc (v := nI (mn + 1)) (lv' := [(4, .int (nI (mn + 1))), (13, .int 1), (12, .int rr), (0, .ref (Q 0)), (1, .ref sb), (2, .int (nI f)), (3, .ref q), (5, .int (nI u0)), (6, .int (nI k)), (9, .int how), (10, .int (nI u))]) hx hb dL_undoes_321 hl (k := 6) rfl (nI_inc _) (by decide) rfl (fun ls hl => ?_)
          refine lv_aload_n hx hb dL_undoes_324 rfl (lv_at hl 3 rfl) ?_
          refine qSI (al := [(q, .inl (cyJ, 12, .inr (.inl (vp_updL fJ mn (wh r (S 0))))))]) (wa := wa_2) (As := [.ref (Q 0)]) (rest := []) (c2 := 1) (s2 := 12) X Y (c_holds l D cyC cyI sb sL xs hI_2 hn) gL_undoes_L_holds rfl ⟨rfl, rfl⟩ hdq_L_holds.2 ⟨Nat.le_of_ble_eq_true rfl, Nat.le_of_ble_eq_true rfl⟩ rfl rfl rfl rfl hl.1 (Nat.le_of_ble_eq_true rfl) ⟨Nat.le_of_ble_eq_true rfl, Nat.le_of_ble_eq_true rfl⟩ dL_undoes_325 (fun r_9 wa_8 H locs hI_8 hw_8 Y => ?_)
          have hW_8 := hW_2.trans hw_8
          obtain ⟨er_9, hI_8⟩ := hI_8
          subst er_9
          refine lv_if_ne (tgt := 333) hx hb dL_undoes_328 (by decide) (fun _ => ?_) (fun c_ => absurd c_ (by decide))
          refine lv_iinc (v := nI (k + 1)) (lv' := [(6, .int (nI (k + 1))), (4, .int (nI (mn + 1))), (13, .int 1), (12, .int rr), (0, .ref (Q 0)), (1, .ref sb), (2, .int (nI f)), (3, .ref q), (5, .int (nI u0)), (9, .int how), (10, .int (nI u))]) hx hb dL_undoes_333 hl (k := 8) rfl (nI_inc _) (by decide) rfl (fun ls hl => ?_)
          refine lv_goto (tgt := 19) hx hb dL_undoes_336 (by decide) ?_
          have eU := hUI.done hI_8 hse hn
          exact kk _ _ _ _ _ _ _ _ eU hW_8 (lv_sub hl [4, 5, 6, 7, 1, 8, 0] rfl) Y
        · exact absurd (by rw [if_pos (by have := c_3; rw [leI, show (4 : Int32).toInt = 4 by decide, nIt (by omega)] at this; omega)]; exact (nI_inc u).symm) (show ¬ ((nI (if u < 4 then u + 1 else 4)) = ((nI u) + 1)) from c_7)
    · have c_1 : ¬ (0 ≤ rr) := c_1
      refine lv_iload hx hb dL_undoes_245 (lv_at hl 8 rfl) ?_
      refine lv_bipush (v := 7) hx hb dL_undoes_247 (by decide) ?_
      refine lv_icmp_ne (tgt := 263) hx hb dL_undoes_249 (by decide) (fun c_10 => ?_) (fun c_10 => ?_)
      · exact absurd (hd7 c_1).1 (show ¬ (how = 7) from c_10)
      · have c_10 : how = 7 := c_10
        refine lv_iload hx hb dL_undoes_252 (lv_at hl 0 rfl) ?_
        refine lv_bipush (v := (-4)) hx hb dL_undoes_254 (by decide) ?_
        refine lv_icmp_ne (tgt := 263) hx hb dL_undoes_256 (by decide) (fun c_11 => ?_) (fun c_11 => ?_)
        · exact absurd (hd7 c_1).2 (show ¬ (rr = (-4)) from c_11)
        · have c_11 : rr = (-4) := c_11
          refine lv_iconst (v := 1) hx hb dL_undoes_259 (by decide) ?_
          refine lv_goto (tgt := 264) hx hb dL_undoes_260 (by decide) ?_
          refine lv_istore (lv' := [(13, .int 1), (12, .int rr), (0, .ref (Q 0)), (1, .ref sb), (2, .int (nI f)), (3, .ref q), (4, .int (nI mn)), (5, .int (nI u0)), (6, .int (nI k)), (9, .int how), (10, .int (nI u))]) hx hb dL_undoes_264 hl (by decide) rfl (fun ls hl => ?_)
          refine lv_iload hx hb dL_undoes_266 (lv_at hl 0 rfl) ?_
          refine lv_if_ne (tgt := 296) hx hb dL_undoes_268 (by decide) (fun _ => ?_) (fun c_ => absurd c_ (by decide))
          refine lv_aload_n hx hb dL_undoes_296 rfl (lv_at hl 2 rfl) ?_
          refine lv_bipush (v := 7) hx hb dL_undoes_297 (by decide) ?_
          refine qVI (al := [(q, .inl (cyJ, 12, .inr (.inl (vp_updL fJ mn (wh r (S 0))))))]) (As := [.int 7]) (rest := []) X Y (k_count hI 7 (nI (if u < 4 then u + 1 else 4)) rfl) gL_undoes_X7_count rfl hdq_X7_count ⟨Nat.le_of_ble_eq_true rfl, Nat.le_of_ble_eq_true rfl⟩ hI.head rfl rfl hl.1 (Nat.le_of_ble_eq_true rfl) ⟨Nat.le_of_ble_eq_true rfl, Nat.le_of_ble_eq_true rfl⟩ dL_undoes_299 (fun wa_12 H locs hI_12 hw_12 Y => ?_)
          have hW_12 := hW.trans hw_12
          refine lv_iload hx hb dL_undoes_302 (lv_at hl 10 rfl) ?_
          refine lv_iconst (v := 4) hx hb dL_undoes_304 (by decide) ?_
          refine lv_icmp_ge (tgt := 315) hx hb dL_undoes_305 (by decide) (fun c_13 => ?_) (fun c_13 => ?_)
          · have c_13 : 4 ≤ (nI u) := c_13
            refine lv_iconst (v := 4) hx hb dL_undoes_315 (by decide) ?_
            refine lv_icmp_eq (tgt := 321) hx hb dL_undoes_316 (by decide) (fun c_14 => ?_) (fun c_14 => ?_)
            · have c_14 : (nI (if u < 4 then u + 1 else 4)) = 4 := c_14
              refine lv_iinc (v := nI (mn + 1)) (lv' := [(4, .int (nI (mn + 1))), (13, .int 1), (12, .int rr), (0, .ref (Q 0)), (1, .ref sb), (2, .int (nI f)), (3, .ref q), (5, .int (nI u0)), (6, .int (nI k)), (9, .int how), (10, .int (nI u))]) hx hb dL_undoes_321 hl (k := 6) rfl (nI_inc _) (by decide) rfl (fun ls hl => ?_)
              refine lv_aload_n hx hb dL_undoes_324 rfl (lv_at hl 3 rfl) ?_
              refine qSI (al := [(q, .inl (cyJ, 12, .inr (.inl (vp_updL fJ mn (wh r (S 0))))))]) (wa := wa_12) (As := [.ref (Q 0)]) (rest := []) (c2 := 1) (s2 := 12) X Y (c_holds l D cyC cyI sb sL xs hI_12 hn) gL_undoes_L_holds rfl ⟨rfl, rfl⟩ hdq_L_holds.2 ⟨Nat.le_of_ble_eq_true rfl, Nat.le_of_ble_eq_true rfl⟩ rfl rfl rfl rfl hl.1 (Nat.le_of_ble_eq_true rfl) ⟨Nat.le_of_ble_eq_true rfl, Nat.le_of_ble_eq_true rfl⟩ dL_undoes_325 (fun r_16 wa_15 H locs hI_15 hw_15 Y => ?_)
              have hW_15 := hW_12.trans hw_15
              obtain ⟨er_16, hI_15⟩ := hI_15
              subst er_16
              refine lv_if_ne (tgt := 333) hx hb dL_undoes_328 (by decide) (fun _ => ?_) (fun c_ => absurd c_ (by decide))
              refine lv_iinc (v := nI (k + 1)) (lv' := [(6, .int (nI (k + 1))), (4, .int (nI (mn + 1))), (13, .int 1), (12, .int rr), (0, .ref (Q 0)), (1, .ref sb), (2, .int (nI f)), (3, .ref q), (5, .int (nI u0)), (9, .int how), (10, .int (nI u))]) hx hb dL_undoes_333 hl (k := 8) rfl (nI_inc _) (by decide) rfl (fun ls hl => ?_)
              refine lv_goto (tgt := 19) hx hb dL_undoes_336 (by decide) ?_
              have eU := hUI.done hI_15 hse hn
              exact kk _ _ _ _ _ _ _ _ eU hW_15 (lv_sub hl [4, 5, 6, 7, 1, 8, 0] rfl) Y
            · exact absurd (by rw [if_neg (by have := c_13; rw [leI, show (4 : Int32).toInt = 4 by decide, nIt (by omega)] at this; omega)]; rfl) (show ¬ ((nI (if u < 4 then u + 1 else 4)) = 4) from c_14)
          · have c_13 : ¬ (4 ≤ (nI u)) := c_13
            refine lv_iload hx hb dL_undoes_308 (lv_at hl 10 rfl) ?_
            refine lv_iconst (v := 1) hx hb dL_undoes_310 (by decide) ?_
            refine bAdd (v := (nI u) + 1) X.1 dL_undoes_311 rfl ?_
            refine lv_goto (tgt := 316) hx hb dL_undoes_312 (by decide) ?_
            refine lv_icmp_eq (tgt := 321) hx hb dL_undoes_316 (by decide) (fun c_17 => ?_) (fun c_17 => ?_)
            · have c_17 : (nI (if u < 4 then u + 1 else 4)) = ((nI u) + 1) := c_17
              refine lv_iinc (v := nI (mn + 1)) (lv' := [(4, .int (nI (mn + 1))), (13, .int 1), (12, .int rr), (0, .ref (Q 0)), (1, .ref sb), (2, .int (nI f)), (3, .ref q), (5, .int (nI u0)), (6, .int (nI k)), (9, .int how), (10, .int (nI u))]) hx hb dL_undoes_321 hl (k := 6) rfl (nI_inc _) (by decide) rfl (fun ls hl => ?_)
              refine lv_aload_n hx hb dL_undoes_324 rfl (lv_at hl 3 rfl) ?_
              refine qSI (al := [(q, .inl (cyJ, 12, .inr (.inl (vp_updL fJ mn (wh r (S 0))))))]) (wa := wa_12) (As := [.ref (Q 0)]) (rest := []) (c2 := 1) (s2 := 12) X Y (c_holds l D cyC cyI sb sL xs hI_12 hn) gL_undoes_L_holds rfl ⟨rfl, rfl⟩ hdq_L_holds.2 ⟨Nat.le_of_ble_eq_true rfl, Nat.le_of_ble_eq_true rfl⟩ rfl rfl rfl rfl hl.1 (Nat.le_of_ble_eq_true rfl) ⟨Nat.le_of_ble_eq_true rfl, Nat.le_of_ble_eq_true rfl⟩ dL_undoes_325 (fun r_19 wa_18 H locs hI_18 hw_18 Y => ?_)
              have hW_18 := hW_12.trans hw_18
              obtain ⟨er_19, hI_18⟩ := hI_18
              subst er_19
              refine lv_if_ne (tgt := 333) hx hb dL_undoes_328 (by decide) (fun _ => ?_) (fun c_ => absurd c_ (by decide))
              refine lv_iinc (v := nI (k + 1)) (lv' := [(6, .int (nI (k + 1))), (4, .int (nI (mn + 1))), (13, .int 1), (12, .int rr), (0, .ref (Q 0)), (1, .ref sb), (2, .int (nI f)), (3, .ref q), (5, .int (nI u0)), (9, .int how), (10, .int (nI u))]) hx hb dL_undoes_333 hl (k := 8) rfl (nI_inc _) (by decide) rfl (fun ls hl => ?_)
              refine lv_goto (tgt := 19) hx hb dL_undoes_336 (by decide) ?_
              have eU := hUI.done hI_18 hse hn
              exact kk _ _ _ _ _ _ _ _ eU hW_18 (lv_sub hl [4, 5, 6, 7, 1, 8, 0] rfl) Y
            · exact absurd (by rw [if_pos (by have := c_13; rw [leI, show (4 : Int32).toInt = 4 by decide, nIt (by omega)] at this; omega)]; exact (nI_inc u).symm) (show ¬ ((nI (if u < 4 then u + 1 else 4)) = ((nI u) + 1)) from c_17)
set_option maxHeartbeats 4000000 in
set_option maxRecDepth 100000 in
theorem lp_u1 {p_ : Program} {e_ : Env} {s_ : State} {m_ : MethodId} {bl_ : List Frame} {me_ : Method} {cd_ : Code} {A_ : Nat → Prop} (l : Launch) (D : va_G) (cyC cyI : ClassId) (sb sL : Nat) (xs : Nat → Int32) {Q : Nat → Nat} {r : Nat → Int32} {T : List Int32} {wc : va_W} {cyJ : ClassId} (hsL : sL ≤ 260) (hKJ : va_K D vwCl (bT cyC cyI ++ [(cyJ, .long)]) s_) (f : Nat) (X : qX p_ s_ m_ ([.ref (Q 0), .ref sb, .int (nI f)] : List Value).toArray cd_ cL_undoes 14 wsL_undoes yL_undoes.cls D cyC cyI sb sL xs A_) (hr : me_.sig.returnType = (some .boolean)) (hlk : me_.locks = false) (u0 : Nat) (hf : f ≤ 500) (q : Nat) : ∀ (n k : Nat), 10 ≤ k + n → k ≤ 9 → ∀ (S : Nat → Sto) (u mn : Nat) (fJ : Nat → Int64) (wa : va_W) (H : Heap) (locs : List Loc) (ls : Array Slot), UI cyC cyI Q r T u0 k S u mn fJ wa → wPerm wc wa → lv_has ls 14 [(0, .ref (Q 0)), (1, .ref sb), (2, .int (nI f)), (3, .ref q), (4, .int (nI mn)), (5, .int (nI u0)), (6, .int (nI k))] → bY D A_ s_.heap ([(q, .inl (cyJ, 12, .inr (.inl fJ)))] ++ wa) H locs → W p_ l e_ ({ frames := 7, cells := 1, slots := 12, locals := 153 } : Room) s_ m_ ([.ref (Q 0), .ref sb, .int (nI f)] : List Value).toArray bl_ me_ cd_ H locs 1 12 (qQI bl_ ([.ref (Q 0), .ref sb, .int (nI f)] : List Value).toArray s_ D wc (fun rv w1 => rv = 1 ∧ IW cyC cyI Q r T w1) 1 12 A_) (F0 m_ 19 ls []) := by
  have hx := X.1.1.1
  have hb := X.1.1.2.1
  intro n
  induction n with
  | zero => intro k h1 h2; omega
  | succ n ih =>
    intro k h1 h2 S u mn fJ wa H locs ls hUI hW hl Y
    have hu4 := hUI.u4
    have hmn := hUI.2.1
    have hu0 := hUI.2.2.1
    have hok0 := hUI.2.2.2.2.1 0 (by omega)
    have hmm := OkS_mm hok0
    have hI := hUI.1
    refine lv_iload hx hb dL_undoes_19 (lv_at hl 6 rfl) ?_
    refine lv_bipush (v := 9) hx hb dL_undoes_21 (by decide) ?_
    refine lv_icmp_ge (tgt := 339) hx hb dL_undoes_23 (by decide) (fun c_1 => ?_) (fun c_1 => ?_)
    · have c_1 : 9 ≤ (nI k) := c_1
      have hk9 : 9 ≤ k := Nat.le_of_not_lt (fun q => nI_ge q (by omega) c_1)
      refine lv_iload hx hb dL_undoes_339 (lv_at hl 5 rfl) ?_
      refine lv_iload hx hb dL_undoes_341 (lv_at hl 4 rfl) ?_
      refine bAdd (v := nI (u0 + mn)) X.1 dL_undoes_343 (nI_sum (a := u0) (b := mn) rfl rfl rfl) ?_
      refine lv_iconst (v := 4) hx hb dL_undoes_344 (by decide) ?_
      refine lv_icmp_ge (tgt := 356) hx hb dL_undoes_345 (by decide) (fun c_2 => ?_) (fun c_2 => ?_)
      · have c_2 : 4 ≤ (nI (u0 + mn)) := c_2
        refine lv_iconst (v := 4) hx hb dL_undoes_356 (by decide) ?_
        refine lv_istore (lv' := [(6, .int 4), (0, .ref (Q 0)), (1, .ref sb), (2, .int (nI f)), (3, .ref q), (4, .int (nI mn)), (5, .int (nI u0))]) hx hb dL_undoes_357 hl (by decide) rfl (fun ls hl => ?_)
        refine lv_aload_n hx hb dL_undoes_359 rfl (lv_at hl 1 rfl) ?_
        refine lv_bipush (v := 7) hx hb dL_undoes_360 (by decide) ?_
        refine qVI (al := [(q, .inl (cyJ, 12, .inr (.inl fJ)))]) (As := [.int 7]) (rest := []) X Y (k_count hI 7 (nI u) rfl) gL_undoes_X7_count rfl hdq_X7_count ⟨Nat.le_of_ble_eq_true rfl, Nat.le_of_ble_eq_true rfl⟩ hI.head rfl rfl hl.1 (Nat.le_of_ble_eq_true rfl) ⟨Nat.le_of_ble_eq_true rfl, Nat.le_of_ble_eq_true rfl⟩ dL_undoes_362 (fun wa_3 H locs hI_3 hw_3 Y => ?_)
        have hW_3 := hW.trans hw_3
        refine lv_iload hx hb dL_undoes_365 (lv_at hl 0 rfl) ?_
        refine lv_icmp_eq (tgt := 372) hx hb dL_undoes_367 (by decide) (fun c_4 => ?_) (fun c_4 => ?_)
        · have c_4 : (nI u) = 4 := c_4
          refine lv_iconst (v := 1) hx hb dL_undoes_372 (by decide) ?_
          refine lv_istore (lv' := [(7, .int 1), (6, .int 4), (0, .ref (Q 0)), (1, .ref sb), (2, .int (nI f)), (3, .ref q), (4, .int (nI mn)), (5, .int (nI u0))]) hx hb dL_undoes_373 hl (by decide) rfl (fun ls hl => ?_)
          have hku : k = 9 := by omega
          have e6 : (4 : Int32) = nI u := by rw [hUI.2.2.2.1, if_neg (by have := c_2; rw [leI, show (4 : Int32).toInt = 4 by decide, nIt (by omega)] at this; omega)]; rfl
          have hl6 : lv_has ls 14 [(0, .ref (Q 0)), (3, .ref q), (4, .int (nI mn)), (6, .int 4), (7, .int 1)] := lv_sub hl [2, 5, 6, 1, 0] rfl
          rw [e6] at hl6
          exact lp_u2 l D cyC cyI sb sL xs hsL hKJ f X hr hlk u0 mn u (by omega) (by omega) fJ q 7 1 (by omega) (by omega) (by omega) S _ _ _ _ hI_3 (fun i hi => hUI.2.2.2.2.1 i (by omega)) (fun i a b d => by rw [show mn - (i + (1 - 1)) = mn - i by omega]; exact hUI.2.2.2.2.2 i a (by omega) (by omega)) hW_3 hl6 Y
        · exact absurd (by rw [hUI.2.2.2.1, if_neg (by have := c_2; rw [leI, show (4 : Int32).toInt = 4 by decide, nIt (by omega)] at this; omega)]; rfl) (show ¬ ((nI u) = 4) from c_4)
      · have c_2 : ¬ (4 ≤ (nI (u0 + mn))) := c_2
        refine lv_iload hx hb dL_undoes_348 (lv_at hl 5 rfl) ?_
        refine lv_iload hx hb dL_undoes_350 (lv_at hl 4 rfl) ?_
        refine bAdd (v := nI (u0 + mn)) X.1 dL_undoes_352 (nI_sum (a := u0) (b := mn) rfl rfl rfl) ?_
        refine lv_goto (tgt := 357) hx hb dL_undoes_353 (by decide) ?_
        refine lv_istore (lv' := [(6, .int (nI (u0 + mn))), (0, .ref (Q 0)), (1, .ref sb), (2, .int (nI f)), (3, .ref q), (4, .int (nI mn)), (5, .int (nI u0))]) hx hb dL_undoes_357 hl (by decide) rfl (fun ls hl => ?_)
        refine lv_aload_n hx hb dL_undoes_359 rfl (lv_at hl 1 rfl) ?_
        refine lv_bipush (v := 7) hx hb dL_undoes_360 (by decide) ?_
        refine qVI (al := [(q, .inl (cyJ, 12, .inr (.inl fJ)))]) (As := [.int 7]) (rest := []) X Y (k_count hI 7 (nI u) rfl) gL_undoes_X7_count rfl hdq_X7_count ⟨Nat.le_of_ble_eq_true rfl, Nat.le_of_ble_eq_true rfl⟩ hI.head rfl rfl hl.1 (Nat.le_of_ble_eq_true rfl) ⟨Nat.le_of_ble_eq_true rfl, Nat.le_of_ble_eq_true rfl⟩ dL_undoes_362 (fun wa_5 H locs hI_5 hw_5 Y => ?_)
        have hW_5 := hW.trans hw_5
        refine lv_iload hx hb dL_undoes_365 (lv_at hl 0 rfl) ?_
        refine lv_icmp_eq (tgt := 372) hx hb dL_undoes_367 (by decide) (fun c_6 => ?_) (fun c_6 => ?_)
        · have c_6 : (nI u) = (nI (u0 + mn)) := c_6
          refine lv_iconst (v := 1) hx hb dL_undoes_372 (by decide) ?_
          refine lv_istore (lv' := [(7, .int 1), (6, .int (nI (u0 + mn))), (0, .ref (Q 0)), (1, .ref sb), (2, .int (nI f)), (3, .ref q), (4, .int (nI mn)), (5, .int (nI u0))]) hx hb dL_undoes_373 hl (by decide) rfl (fun ls hl => ?_)
          have hku : k = 9 := by omega
          have e6 : (nI (u0 + mn) : Int32) = nI u := by rw [hUI.2.2.2.1, if_pos (by have := c_2; rw [leI, show (4 : Int32).toInt = 4 by decide, nIt (by omega)] at this; omega)]
          have hl6 : lv_has ls 14 [(0, .ref (Q 0)), (3, .ref q), (4, .int (nI mn)), (6, .int (nI (u0 + mn))), (7, .int 1)] := lv_sub hl [2, 5, 6, 1, 0] rfl
          rw [e6] at hl6
          exact lp_u2 l D cyC cyI sb sL xs hsL hKJ f X hr hlk u0 mn u (by omega) (by omega) fJ q 7 1 (by omega) (by omega) (by omega) S _ _ _ _ hI_5 (fun i hi => hUI.2.2.2.2.1 i (by omega)) (fun i a b d => by rw [show mn - (i + (1 - 1)) = mn - i by omega]; exact hUI.2.2.2.2.2 i a (by omega) (by omega)) hW_5 hl6 Y
        · exact absurd (by rw [hUI.2.2.2.1, if_pos (by have := c_2; rw [leI, show (4 : Int32).toInt = 4 by decide, nIt (by omega)] at this; omega)]) (show ¬ ((nI u) = (nI (u0 + mn))) from c_6)
    · have c_1 : ¬ (9 ≤ (nI k)) := c_1
      have hk9 : k < 9 := (bLtN (by omega) (by decide)).mp (bLtN2 c_1)
      refine lv_aload_n hx hb dL_undoes_26 rfl (lv_at hl 1 rfl) ?_
      refine lv_iload_n hx hb dL_undoes_27 rfl (lv_at hl 2 rfl) ?_
      refine lv_iload hx hb dL_undoes_28 (lv_at hl 6 rfl) ?_
      refine bAdd (v := nI (f + k)) X.1 dL_undoes_30 (nI_sum (a := f) (b := k) rfl rfl rfl) ?_
      refine qSI (al := []) (wa := ([(q, .inl (cyJ, 12, .inr (.inl fJ)))] ++ wa)) (As := [.ref sb, .int (nI (f + k))]) (rest := []) (c2 := 1) (s2 := 12) X Y (c_cell l D cyC cyI sb sL xs (nI (f + k)) (by rw [nIt (by omega)]; omega) hsL) gL_undoes_L_cell rfl ⟨rfl, rfl⟩ hdq_L_cell.2 ⟨Nat.le_of_ble_eq_true rfl, Nat.le_of_ble_eq_true rfl⟩ rfl rfl rfl rfl hl.1 (Nat.le_of_ble_eq_true rfl) ⟨Nat.le_of_ble_eq_true rfl, Nat.le_of_ble_eq_true rfl⟩ dL_undoes_31 (fun r_8 wa_7 H locs hI_7 hw_7 Y => ?_)
      subst hI_7
      have Y : bY D A_ s_.heap ([(q, .inl (cyJ, 12, .inr (.inl fJ)))] ++ wa) H locs := Y
      refine lv_istore (lv' := [(7, .int r_8), (0, .ref (Q 0)), (1, .ref sb), (2, .int (nI f)), (3, .ref q), (4, .int (nI mn)), (5, .int (nI u0)), (6, .int (nI k))]) hx hb dL_undoes_34 hl (by decide) rfl (fun ls hl => ?_)
      refine lv_iload hx hb dL_undoes_36 (lv_at hl 0 rfl) ?_
      refine lv_iconst (v := 3) hx hb dL_undoes_38 (by decide) ?_
      refine bShr (v := r_8 >>> (3 &&& 31)) X.1 dL_undoes_39 rfl ?_
      refine lv_bipush (v := 9) hx hb dL_undoes_40 (by decide) ?_
      refine bSI (As := [.int (r_8 >>> (3 &&& 31)), .int 9]) (rest := []) X.1 Y (c_part l D cyC cyI (r_8 >>> (3 &&& 31)) 9 (by decide)) gL_undoes_L_part rfl ⟨rfl, rfl⟩ hdq_L_part.2 ⟨Nat.le_of_ble_eq_true rfl, Nat.le_of_ble_eq_true rfl⟩ rfl rfl hl.1 (Nat.le_of_ble_eq_true rfl) ⟨Nat.le_of_ble_eq_true rfl, Nat.le_of_ble_eq_true rfl⟩ dL_undoes_42 (fun H locs Y => ?_)
      refine lv_topi (fun pa e_pa => ?_)
      refine lv_if_ne (tgt := 52) hx hb dL_undoes_45 (by decide) (fun c_10 => ?_) (fun c_10 => ?_)
      · have c_10 : ¬ (pa = 0) := c_10
        refine lv_iload hx hb dL_undoes_52 (lv_at hl 0 rfl) ?_
        refine lv_iconst (v := 3) hx hb dL_undoes_54 (by decide) ?_
        refine bShr (v := r_8 >>> (3 &&& 31)) X.1 dL_undoes_55 rfl ?_
        refine lv_iconst (v := 2) hx hb dL_undoes_56 (by decide) ?_
        refine bSI (As := [.int (r_8 >>> (3 &&& 31)), .int 2]) (rest := []) X.1 Y (c_part l D cyC cyI (r_8 >>> (3 &&& 31)) 2 (by decide)) gL_undoes_L_part rfl ⟨rfl, rfl⟩ hdq_L_part.2 ⟨Nat.le_of_ble_eq_true rfl, Nat.le_of_ble_eq_true rfl⟩ rfl rfl hl.1 (Nat.le_of_ble_eq_true rfl) ⟨Nat.le_of_ble_eq_true rfl, Nat.le_of_ble_eq_true rfl⟩ dL_undoes_57 (fun H locs Y => ?_)
        refine lv_topi (fun pb e_pb => ?_)
        refine lv_istore (lv' := [(8, .int pb), (7, .int r_8), (0, .ref (Q 0)), (1, .ref sb), (2, .int (nI f)), (3, .ref q), (4, .int (nI mn)), (5, .int (nI u0)), (6, .int (nI k))]) hx hb dL_undoes_60 hl (by decide) rfl (fun ls hl => ?_)
        refine lv_iload hx hb dL_undoes_62 (lv_at hl 1 rfl) ?_
        refine lv_bipush (v := 8) hx hb dL_undoes_64 (by decide) ?_
        refine bSI (As := [.int r_8, .int 8]) (rest := []) X.1 Y (c_part l D cyC cyI r_8 8 (by decide)) gL_undoes_L_part rfl ⟨rfl, rfl⟩ hdq_L_part.2 ⟨Nat.le_of_ble_eq_true rfl, Nat.le_of_ble_eq_true rfl⟩ rfl rfl hl.1 (Nat.le_of_ble_eq_true rfl) ⟨Nat.le_of_ble_eq_true rfl, Nat.le_of_ble_eq_true rfl⟩ dL_undoes_66 (fun H locs Y => ?_)
        refine lv_topi (fun how e_how => ?_)
        have hhow : 0 ≤ how.toInt ∧ how.toInt < 8 := by rw [e_how]; exact pt_b (n := 8) (by decide)
        refine lv_istore (lv' := [(9, .int how), (8, .int pb), (7, .int r_8), (0, .ref (Q 0)), (1, .ref sb), (2, .int (nI f)), (3, .ref q), (4, .int (nI mn)), (5, .int (nI u0)), (6, .int (nI k))]) hx hb dL_undoes_69 hl (by decide) rfl (fun ls hl => ?_)
        refine lv_aload_n hx hb dL_undoes_71 rfl (lv_at hl 3 rfl) ?_
        refine lv_bipush (v := 7) hx hb dL_undoes_72 (by decide) ?_
        refine qVI (al := [(q, .inl (cyJ, 12, .inr (.inl fJ)))]) (As := [.int 7]) (rest := []) X Y (k_count hI 7 (nI u) rfl) gL_undoes_X7_count rfl hdq_X7_count ⟨Nat.le_of_ble_eq_true rfl, Nat.le_of_ble_eq_true rfl⟩ hI.head rfl rfl hl.1 (Nat.le_of_ble_eq_true rfl) ⟨Nat.le_of_ble_eq_true rfl, Nat.le_of_ble_eq_true rfl⟩ dL_undoes_74 (fun wa_13 H locs hI_13 hw_13 Y => ?_)
        have hW_13 := hW.trans hw_13
        refine lv_istore (lv' := [(10, .int (nI u)), (9, .int how), (8, .int pb), (7, .int r_8), (0, .ref (Q 0)), (1, .ref sb), (2, .int (nI f)), (3, .ref q), (4, .int (nI mn)), (5, .int (nI u0)), (6, .int (nI k))]) hx hb dL_undoes_77 hl (by decide) rfl (fun ls hl => ?_)
        refine lv_aload_n hx hb dL_undoes_79 rfl (lv_at hl 7 rfl) ?_
        refine lv_iload hx hb dL_undoes_80 (lv_at hl 8 rfl) ?_
        refine lv_aload_n hx hb dL_undoes_82 rfl (lv_at hl 4 rfl) ?_
        refine qSL (al := [(q, .inl (cyJ, 12, .inr (.inl fJ)))]) (wa := wa_13) (As := [.ref (Q 0)]) (rest := [.int (nI mn), .ref q]) (c2 := 1) (s2 := 12) X Y (c_whole l D cyC cyI sb sL xs hI_13 hmm) gL_undoes_L_whole rfl ⟨rfl, rfl⟩ hdq_L_whole.2 ⟨Nat.le_of_ble_eq_true rfl, Nat.le_of_ble_eq_true rfl⟩ rfl rfl rfl rfl hl.1 (Nat.le_of_ble_eq_true rfl) ⟨Nat.le_of_ble_eq_true rfl, Nat.le_of_ble_eq_true rfl⟩ dL_undoes_83 (fun r_15 wa_14 H locs hI_14 hw_14 Y => ?_)
        have hW_14 := hW_13.trans hw_14
        obtain ⟨er_15, hI_14⟩ := hI_14
        subst er_15
        refine qLast (j := mn) X hKJ Y (bIn (by omega) (by decide)) (by rw [nI_clamp (by omega)]) dL_undoes_86 (fun H locs Y => ?_)
        refine lv_iload hx hb dL_undoes_87 (lv_at hl 3 rfl) ?_
        refine lv_bipush (v := 6) hx hb dL_undoes_89 (by decide) ?_
        refine bShr (v := r_8 >>> (6 &&& 31)) X.1 dL_undoes_91 rfl ?_
        refine lv_bipush (v := 83) hx hb dL_undoes_92 (by decide) ?_
        refine bSI (As := [.int (r_8 >>> (6 &&& 31)), .int 83]) (rest := []) X.1 Y (c_part l D cyC cyI (r_8 >>> (6 &&& 31)) 83 (by decide)) gL_undoes_L_part rfl ⟨rfl, rfl⟩ hdq_L_part.2 ⟨Nat.le_of_ble_eq_true rfl, Nat.le_of_ble_eq_true rfl⟩ rfl rfl hl.1 (Nat.le_of_ble_eq_true rfl) ⟨Nat.le_of_ble_eq_true rfl, Nat.le_of_ble_eq_true rfl⟩ dL_undoes_94 (fun H locs Y => ?_)
        refine lv_topi (fun pw e_pw => ?_)
        refine lv_bipush (v := 41) hx hb dL_undoes_97 (by decide) ?_
        refine bSub (v := pw - 41) X.1 dL_undoes_99 rfl ?_
        refine lv_istore (lv' := [(11, .int (pw - 41)), (10, .int (nI u)), (9, .int how), (8, .int pb), (7, .int r_8), (0, .ref (Q 0)), (1, .ref sb), (2, .int (nI f)), (3, .ref q), (4, .int (nI mn)), (5, .int (nI u0)), (6, .int (nI k))]) hx hb dL_undoes_100 hl (by decide) rfl (fun ls hl => ?_)
        refine lv_iload hx hb dL_undoes_102 (lv_at hl 2 rfl) ?_
        refine lv_iconst (v := 2) hx hb dL_undoes_104 (by decide) ?_
        refine lv_icmp_ge (tgt := 126) hx hb dL_undoes_105 (by decide) (fun c_17 => ?_) (fun c_17 => ?_)
        · have c_17 : 2 ≤ how := c_17
          refine lv_iload hx hb dL_undoes_126 (lv_at hl 2 rfl) ?_
          refine lv_iconst (v := 2) hx hb dL_undoes_128 (by decide) ?_
          refine lv_icmp_ne (tgt := 143) hx hb dL_undoes_129 (by decide) (fun c_18 => ?_) (fun c_18 => ?_)
          · have c_18 : ¬ (how = 2) := c_18
            refine lv_iload hx hb dL_undoes_143 (lv_at hl 2 rfl) ?_
            refine lv_iconst (v := 5) hx hb dL_undoes_145 (by decide) ?_
            refine lv_icmp_ge (tgt := 171) hx hb dL_undoes_146 (by decide) (fun c_19 => ?_) (fun c_19 => ?_)
            · have c_19 : 5 ≤ how := c_19
              refine lv_iload hx hb dL_undoes_171 (lv_at hl 2 rfl) ?_
              refine lv_iconst (v := 5) hx hb dL_undoes_173 (by decide) ?_
              refine lv_icmp_ne (tgt := 198) hx hb dL_undoes_174 (by decide) (fun c_20 => ?_) (fun c_20 => ?_)
              · have c_20 : ¬ (how = 5) := c_20
                refine lv_iload hx hb dL_undoes_198 (lv_at hl 2 rfl) ?_
                refine lv_bipush (v := 6) hx hb dL_undoes_200 (by decide) ?_
                refine lv_icmp_ne (tgt := 223) hx hb dL_undoes_202 (by decide) (fun c_21 => ?_) (fun c_21 => ?_)
                · have c_21 : ¬ (how = 6) := c_21
                  refine lv_aload_n hx hb dL_undoes_223 rfl (lv_at hl 5 rfl) ?_
                  refine lv_iload hx hb dL_undoes_224 (lv_at hl 4 rfl) ?_
                  refine lv_iconst (v := 5) hx hb dL_undoes_226 (by decide) ?_
                  refine bShr (v := r_8 >>> (5 &&& 31)) X.1 dL_undoes_227 rfl ?_
                  refine lv_bipush (v := 23) hx hb dL_undoes_228 (by decide) ?_
                  refine bSI (As := [.int (r_8 >>> (5 &&& 31)), .int 23]) (rest := [.ref (Q 0)]) X.1 Y (c_part l D cyC cyI (r_8 >>> (5 &&& 31)) 23 (by decide)) gL_undoes_L_part rfl ⟨rfl, rfl⟩ hdq_L_part.2 ⟨Nat.le_of_ble_eq_true rfl, Nat.le_of_ble_eq_true rfl⟩ rfl rfl hl.1 (Nat.le_of_ble_eq_true rfl) ⟨Nat.le_of_ble_eq_true rfl, Nat.le_of_ble_eq_true rfl⟩ dL_undoes_230 (fun H locs Y => ?_)
                  refine lv_topi (fun ph e_ph => ?_)
                  refine lv_iconst (v := 1) hx hb dL_undoes_233 (by decide) ?_
                  refine bSub (v := ph - 1) X.1 dL_undoes_234 rfl ?_
                  obtain ⟨rr_23, hk_rr_23⟩ := a_couple hI_14 hu4 hok0 (ph - 1)
                  refine qVI (al := [(q, .inl (cyJ, 12, .inr (.inl (vp_updL fJ mn (wh r (S 0))))))]) (As := [.int (ph - 1)]) (rest := []) X Y hk_rr_23 gL_undoes_X7_couple rfl hdq_X7_couple ⟨Nat.le_of_ble_eq_true rfl, Nat.le_of_ble_eq_true rfl⟩ hI_14.head rfl rfl hl.1 (Nat.le_of_ble_eq_true rfl) ⟨Nat.le_of_ble_eq_true rfl, Nat.le_of_ble_eq_true rfl⟩ dL_undoes_235 (fun wa_24 H locs hI_24 hw_24 Y => ?_)
                  have hW_24 := hW_14.trans hw_24
                  have hd := UD_ofC (how7 hhow c_17 c_18 c_19 c_20 c_21) hI_24
                  exact ud_tail l D cyC cyI sb sL xs hsL hKJ f X hr hlk u0 k S u mn fJ q rr_23 how hk9 hUI hd (fun S u mn fJ wa H locs ls a b c d => ih (k + 1) (by omega) (by omega) S u mn fJ wa H locs ls a b c d) _ _ _ hW_24 (lv_sub hl [5, 6, 7, 8, 9, 10, 11, 2, 1] rfl) Y
                · have c_21 : how = 6 := c_21
                  refine lv_aload_n hx hb dL_undoes_205 rfl (lv_at hl 5 rfl) ?_
                  refine lv_iload hx hb dL_undoes_206 (lv_at hl 3 rfl) ?_
                  refine lv_iload hx hb dL_undoes_208 (lv_at hl 4 rfl) ?_
                  refine lv_iconst (v := 5) hx hb dL_undoes_210 (by decide) ?_
                  refine bShr (v := r_8 >>> (5 &&& 31)) X.1 dL_undoes_211 rfl ?_
                  refine lv_bipush (v := 101) hx hb dL_undoes_212 (by decide) ?_
                  refine bSI (As := [.int (r_8 >>> (5 &&& 31)), .int 101]) (rest := [.int pb, .ref (Q 0)]) X.1 Y (c_part l D cyC cyI (r_8 >>> (5 &&& 31)) 101 (by decide)) gL_undoes_L_part rfl ⟨rfl, rfl⟩ hdq_L_part.2 ⟨Nat.le_of_ble_eq_true rfl, Nat.le_of_ble_eq_true rfl⟩ rfl rfl hl.1 (Nat.le_of_ble_eq_true rfl) ⟨Nat.le_of_ble_eq_true rfl, Nat.le_of_ble_eq_true rfl⟩ dL_undoes_214 (fun H locs Y => ?_)
                  refine lv_topi (fun pg e_pg => ?_)
                  obtain ⟨rr_26, hk_rr_26⟩ := a_load hI_14 hu4 hok0 pb pg
                  refine qVI (al := [(q, .inl (cyJ, 12, .inr (.inl (vp_updL fJ mn (wh r (S 0))))))]) (As := [.int pb, .int pg]) (rest := []) X Y hk_rr_26 gL_undoes_X7_load rfl hdq_X7_load ⟨Nat.le_of_ble_eq_true rfl, Nat.le_of_ble_eq_true rfl⟩ hI_14.head rfl rfl hl.1 (Nat.le_of_ble_eq_true rfl) ⟨Nat.le_of_ble_eq_true rfl, Nat.le_of_ble_eq_true rfl⟩ dL_undoes_217 (fun wa_27 H locs hI_27 hw_27 Y => ?_)
                  have hW_27 := hW_14.trans hw_27
                  refine lv_goto (tgt := 238) hx hb dL_undoes_220 (by decide) ?_
                  have hd := UD_of how hI_27
                  exact ud_tail l D cyC cyI sb sL xs hsL hKJ f X hr hlk u0 k S u mn fJ q rr_26 how hk9 hUI hd (fun S u mn fJ wa H locs ls a b c d => ih (k + 1) (by omega) (by omega) S u mn fJ wa H locs ls a b c d) _ _ _ hW_27 (lv_sub hl [5, 6, 7, 8, 9, 10, 11, 2, 1] rfl) Y
              · have c_20 : how = 5 := c_20
                refine lv_aload_n hx hb dL_undoes_177 rfl (lv_at hl 5 rfl) ?_
                refine lv_iload hx hb dL_undoes_178 (lv_at hl 3 rfl) ?_
                refine lv_bipush (v := 9) hx hb dL_undoes_180 (by decide) ?_
                refine lv_iload hx hb dL_undoes_182 (lv_at hl 4 rfl) ?_
                refine lv_iconst (v := 5) hx hb dL_undoes_184 (by decide) ?_
                refine bShr (v := r_8 >>> (5 &&& 31)) X.1 dL_undoes_185 rfl ?_
                refine lv_bipush (v := 53) hx hb dL_undoes_186 (by decide) ?_
                refine bSI (As := [.int (r_8 >>> (5 &&& 31)), .int 53]) (rest := [.int 9, .int pb, .ref (Q 0)]) X.1 Y (c_part l D cyC cyI (r_8 >>> (5 &&& 31)) 53 (by decide)) gL_undoes_L_part rfl ⟨rfl, rfl⟩ hdq_L_part.2 ⟨Nat.le_of_ble_eq_true rfl, Nat.le_of_ble_eq_true rfl⟩ rfl rfl hl.1 (Nat.le_of_ble_eq_true rfl) ⟨Nat.le_of_ble_eq_true rfl, Nat.le_of_ble_eq_true rfl⟩ dL_undoes_188 (fun H locs Y => ?_)
                refine lv_topi (fun pf e_pf => ?_)
                refine bAdd (v := 9 + pf) X.1 dL_undoes_191 rfl ?_
                obtain ⟨rr_29, hk_rr_29⟩ := a_target hI_14 hu4 hok0 pb (9 + pf)
                refine qVI (al := [(q, .inl (cyJ, 12, .inr (.inl (vp_updL fJ mn (wh r (S 0))))))]) (As := [.int pb, .int (9 + pf)]) (rest := []) X Y hk_rr_29 gL_undoes_X7_target rfl hdq_X7_target ⟨Nat.le_of_ble_eq_true rfl, Nat.le_of_ble_eq_true rfl⟩ hI_14.head rfl rfl hl.1 (Nat.le_of_ble_eq_true rfl) ⟨Nat.le_of_ble_eq_true rfl, Nat.le_of_ble_eq_true rfl⟩ dL_undoes_192 (fun wa_30 H locs hI_30 hw_30 Y => ?_)
                have hW_30 := hW_14.trans hw_30
                refine lv_goto (tgt := 238) hx hb dL_undoes_195 (by decide) ?_
                have hd := UD_of how hI_30
                exact ud_tail l D cyC cyI sb sL xs hsL hKJ f X hr hlk u0 k S u mn fJ q rr_29 how hk9 hUI hd (fun S u mn fJ wa H locs ls a b c d => ih (k + 1) (by omega) (by omega) S u mn fJ wa H locs ls a b c d) _ _ _ hW_30 (lv_sub hl [5, 6, 7, 8, 9, 10, 11, 2, 1] rfl) Y
            · have c_19 : ¬ (5 ≤ how) := c_19
              refine lv_aload_n hx hb dL_undoes_149 rfl (lv_at hl 5 rfl) ?_
              refine lv_iload hx hb dL_undoes_150 (lv_at hl 3 rfl) ?_
              refine lv_iload hx hb dL_undoes_152 (lv_at hl 0 rfl) ?_
              refine lv_iload hx hb dL_undoes_154 (lv_at hl 4 rfl) ?_
              refine lv_iconst (v := 5) hx hb dL_undoes_156 (by decide) ?_
              refine bShr (v := r_8 >>> (5 &&& 31)) X.1 dL_undoes_157 rfl ?_
              refine lv_bipush (v := 23) hx hb dL_undoes_158 (by decide) ?_
              refine bSI (As := [.int (r_8 >>> (5 &&& 31)), .int 23]) (rest := [.int (pw - 41), .int pb, .ref (Q 0)]) X.1 Y (c_part l D cyC cyI (r_8 >>> (5 &&& 31)) 23 (by decide)) gL_undoes_L_part rfl ⟨rfl, rfl⟩ hdq_L_part.2 ⟨Nat.le_of_ble_eq_true rfl, Nat.le_of_ble_eq_true rfl⟩ rfl rfl hl.1 (Nat.le_of_ble_eq_true rfl) ⟨Nat.le_of_ble_eq_true rfl, Nat.le_of_ble_eq_true rfl⟩ dL_undoes_160 (fun H locs Y => ?_)
              refine lv_topi (fun pe e_pe => ?_)
              refine lv_iconst (v := 1) hx hb dL_undoes_163 (by decide) ?_
              refine bSub (v := pe - 1) X.1 dL_undoes_164 rfl ?_
              obtain ⟨rr_32, hk_rr_32⟩ := a_shape hI_14 hu4 hok0 pb (pw - 41) (pe - 1)
              refine qVI (al := [(q, .inl (cyJ, 12, .inr (.inl (vp_updL fJ mn (wh r (S 0))))))]) (As := [.int pb, .int (pw - 41), .int (pe - 1)]) (rest := []) X Y hk_rr_32 gL_undoes_X7_shape rfl hdq_X7_shape ⟨Nat.le_of_ble_eq_true rfl, Nat.le_of_ble_eq_true rfl⟩ hI_14.head rfl rfl hl.1 (Nat.le_of_ble_eq_true rfl) ⟨Nat.le_of_ble_eq_true rfl, Nat.le_of_ble_eq_true rfl⟩ dL_undoes_165 (fun wa_33 H locs hI_33 hw_33 Y => ?_)
              have hW_33 := hW_14.trans hw_33
              refine lv_goto (tgt := 238) hx hb dL_undoes_168 (by decide) ?_
              have hd := UD_of how hI_33
              exact ud_tail l D cyC cyI sb sL xs hsL hKJ f X hr hlk u0 k S u mn fJ q rr_32 how hk9 hUI hd (fun S u mn fJ wa H locs ls a b c d => ih (k + 1) (by omega) (by omega) S u mn fJ wa H locs ls a b c d) _ _ _ hW_33 (lv_sub hl [5, 6, 7, 8, 9, 10, 11, 2, 1] rfl) Y
          · have c_18 : how = 2 := c_18
            refine lv_aload_n hx hb dL_undoes_132 rfl (lv_at hl 5 rfl) ?_
            refine lv_iload hx hb dL_undoes_133 (lv_at hl 3 rfl) ?_
            refine lv_iload hx hb dL_undoes_135 (lv_at hl 0 rfl) ?_
            obtain ⟨rr_34, hk_rr_34⟩ := a_command hI_14 hu4 hok0 pb (pw - 41)
            refine qVI (al := [(q, .inl (cyJ, 12, .inr (.inl (vp_updL fJ mn (wh r (S 0))))))]) (As := [.int pb, .int (pw - 41)]) (rest := []) X Y hk_rr_34 gL_undoes_X7_command rfl hdq_X7_command ⟨Nat.le_of_ble_eq_true rfl, Nat.le_of_ble_eq_true rfl⟩ hI_14.head rfl rfl hl.1 (Nat.le_of_ble_eq_true rfl) ⟨Nat.le_of_ble_eq_true rfl, Nat.le_of_ble_eq_true rfl⟩ dL_undoes_137 (fun wa_35 H locs hI_35 hw_35 Y => ?_)
            have hW_35 := hW_14.trans hw_35
            refine lv_goto (tgt := 238) hx hb dL_undoes_140 (by decide) ?_
            have hd := UD_of how hI_35
            exact ud_tail l D cyC cyI sb sL xs hsL hKJ f X hr hlk u0 k S u mn fJ q rr_34 how hk9 hUI hd (fun S u mn fJ wa H locs ls a b c d => ih (k + 1) (by omega) (by omega) S u mn fJ wa H locs ls a b c d) _ _ _ hW_35 (lv_sub hl [5, 6, 7, 8, 9, 10, 11, 2, 1] rfl) Y
        · have c_17 : ¬ (2 ≤ how) := c_17
          refine lv_aload_n hx hb dL_undoes_108 rfl (lv_at hl 5 rfl) ?_
          refine lv_iconst (v := 1) hx hb dL_undoes_109 (by decide) ?_
          refine lv_iload hx hb dL_undoes_110 (lv_at hl 4 rfl) ?_
          refine lv_iconst (v := 4) hx hb dL_undoes_112 (by decide) ?_
          refine bShr (v := r_8 >>> (4 &&& 31)) X.1 dL_undoes_113 rfl ?_
          refine lv_bipush (v := 61) hx hb dL_undoes_114 (by decide) ?_
          refine bSI (As := [.int (r_8 >>> (4 &&& 31)), .int 61]) (rest := [.int 1, .ref (Q 0)]) X.1 Y (c_part l D cyC cyI (r_8 >>> (4 &&& 31)) 61 (by decide)) gL_undoes_L_part rfl ⟨rfl, rfl⟩ hdq_L_part.2 ⟨Nat.le_of_ble_eq_true rfl, Nat.le_of_ble_eq_true rfl⟩ rfl rfl hl.1 (Nat.le_of_ble_eq_true rfl) ⟨Nat.le_of_ble_eq_true rfl, Nat.le_of_ble_eq_true rfl⟩ dL_undoes_116 (fun H locs Y => ?_)
          refine lv_topi (fun pd e_pd => ?_)
          refine bAdd (v := 1 + pd) X.1 dL_undoes_119 rfl ?_
          obtain ⟨rr_37, hk_rr_37⟩ := a_tick hI_14 hu4 hok0 (1 + pd)
          refine qVI (al := [(q, .inl (cyJ, 12, .inr (.inl (vp_updL fJ mn (wh r (S 0))))))]) (As := [.int (1 + pd)]) (rest := []) X Y hk_rr_37 gL_undoes_X7_tick rfl hdq_X7_tick ⟨Nat.le_of_ble_eq_true rfl, Nat.le_of_ble_eq_true rfl⟩ hI_14.head rfl rfl hl.1 (Nat.le_of_ble_eq_true rfl) ⟨Nat.le_of_ble_eq_true rfl, Nat.le_of_ble_eq_true rfl⟩ dL_undoes_120 (fun wa_38 H locs hI_38 hw_38 Y => ?_)
          have hW_38 := hW_14.trans hw_38
          refine lv_goto (tgt := 238) hx hb dL_undoes_123 (by decide) ?_
          have hd := UD_of how hI_38
          exact ud_tail l D cyC cyI sb sL xs hsL hKJ f X hr hlk u0 k S u mn fJ q rr_37 how hk9 hUI hd (fun S u mn fJ wa H locs ls a b c d => ih (k + 1) (by omega) (by omega) S u mn fJ wa H locs ls a b c d) _ _ _ hW_38 (lv_sub hl [5, 6, 7, 8, 9, 10, 11, 2, 1] rfl) Y
      · have c_10 : pa = 0 := c_10
        refine lv_iconst (v := 2) hx hb dL_undoes_48 (by decide) ?_
        refine lv_goto (tgt := 60) hx hb dL_undoes_49 (by decide) ?_
        refine lv_istore (lv' := [(8, .int 2), (7, .int r_8), (0, .ref (Q 0)), (1, .ref sb), (2, .int (nI f)), (3, .ref q), (4, .int (nI mn)), (5, .int (nI u0)), (6, .int (nI k))]) hx hb dL_undoes_60 hl (by decide) rfl (fun ls hl => ?_)
        refine lv_iload hx hb dL_undoes_62 (lv_at hl 1 rfl) ?_
        refine lv_bipush (v := 8) hx hb dL_undoes_64 (by decide) ?_
        refine bSI (As := [.int r_8, .int 8]) (rest := []) X.1 Y (c_part l D cyC cyI r_8 8 (by decide)) gL_undoes_L_part rfl ⟨rfl, rfl⟩ hdq_L_part.2 ⟨Nat.le_of_ble_eq_true rfl, Nat.le_of_ble_eq_true rfl⟩ rfl rfl hl.1 (Nat.le_of_ble_eq_true rfl) ⟨Nat.le_of_ble_eq_true rfl, Nat.le_of_ble_eq_true rfl⟩ dL_undoes_66 (fun H locs Y => ?_)
        refine lv_topi (fun how e_how => ?_)
        have hhow : 0 ≤ how.toInt ∧ how.toInt < 8 := by rw [e_how]; exact pt_b (n := 8) (by decide)
        refine lv_istore (lv' := [(9, .int how), (8, .int 2), (7, .int r_8), (0, .ref (Q 0)), (1, .ref sb), (2, .int (nI f)), (3, .ref q), (4, .int (nI mn)), (5, .int (nI u0)), (6, .int (nI k))]) hx hb dL_undoes_69 hl (by decide) rfl (fun ls hl => ?_)
        refine lv_aload_n hx hb dL_undoes_71 rfl (lv_at hl 3 rfl) ?_
        refine lv_bipush (v := 7) hx hb dL_undoes_72 (by decide) ?_
        refine qVI (al := [(q, .inl (cyJ, 12, .inr (.inl fJ)))]) (As := [.int 7]) (rest := []) X Y (k_count hI 7 (nI u) rfl) gL_undoes_X7_count rfl hdq_X7_count ⟨Nat.le_of_ble_eq_true rfl, Nat.le_of_ble_eq_true rfl⟩ hI.head rfl rfl hl.1 (Nat.le_of_ble_eq_true rfl) ⟨Nat.le_of_ble_eq_true rfl, Nat.le_of_ble_eq_true rfl⟩ dL_undoes_74 (fun wa_40 H locs hI_40 hw_40 Y => ?_)
        have hW_40 := hW.trans hw_40
        refine lv_istore (lv' := [(10, .int (nI u)), (9, .int how), (8, .int 2), (7, .int r_8), (0, .ref (Q 0)), (1, .ref sb), (2, .int (nI f)), (3, .ref q), (4, .int (nI mn)), (5, .int (nI u0)), (6, .int (nI k))]) hx hb dL_undoes_77 hl (by decide) rfl (fun ls hl => ?_)
        refine lv_aload_n hx hb dL_undoes_79 rfl (lv_at hl 7 rfl) ?_
        refine lv_iload hx hb dL_undoes_80 (lv_at hl 8 rfl) ?_
        refine lv_aload_n hx hb dL_undoes_82 rfl (lv_at hl 4 rfl) ?_
        refine qSL (al := [(q, .inl (cyJ, 12, .inr (.inl fJ)))]) (wa := wa_40) (As := [.ref (Q 0)]) (rest := [.int (nI mn), .ref q]) (c2 := 1) (s2 := 12) X Y (c_whole l D cyC cyI sb sL xs hI_40 hmm) gL_undoes_L_whole rfl ⟨rfl, rfl⟩ hdq_L_whole.2 ⟨Nat.le_of_ble_eq_true rfl, Nat.le_of_ble_eq_true rfl⟩ rfl rfl rfl rfl hl.1 (Nat.le_of_ble_eq_true rfl) ⟨Nat.le_of_ble_eq_true rfl, Nat.le_of_ble_eq_true rfl⟩ dL_undoes_83 (fun r_42 wa_41 H locs hI_41 hw_41 Y => ?_)
        have hW_41 := hW_40.trans hw_41
        obtain ⟨er_42, hI_41⟩ := hI_41
        subst er_42
        refine qLast (j := mn) X hKJ Y (bIn (by omega) (by decide)) (by rw [nI_clamp (by omega)]) dL_undoes_86 (fun H locs Y => ?_)
        refine lv_iload hx hb dL_undoes_87 (lv_at hl 3 rfl) ?_
        refine lv_bipush (v := 6) hx hb dL_undoes_89 (by decide) ?_
        refine bShr (v := r_8 >>> (6 &&& 31)) X.1 dL_undoes_91 rfl ?_
        refine lv_bipush (v := 83) hx hb dL_undoes_92 (by decide) ?_
        refine bSI (As := [.int (r_8 >>> (6 &&& 31)), .int 83]) (rest := []) X.1 Y (c_part l D cyC cyI (r_8 >>> (6 &&& 31)) 83 (by decide)) gL_undoes_L_part rfl ⟨rfl, rfl⟩ hdq_L_part.2 ⟨Nat.le_of_ble_eq_true rfl, Nat.le_of_ble_eq_true rfl⟩ rfl rfl hl.1 (Nat.le_of_ble_eq_true rfl) ⟨Nat.le_of_ble_eq_true rfl, Nat.le_of_ble_eq_true rfl⟩ dL_undoes_94 (fun H locs Y => ?_)
        refine lv_topi (fun pw e_pw => ?_)
        refine lv_bipush (v := 41) hx hb dL_undoes_97 (by decide) ?_
        refine bSub (v := pw - 41) X.1 dL_undoes_99 rfl ?_
        refine lv_istore (lv' := [(11, .int (pw - 41)), (10, .int (nI u)), (9, .int how), (8, .int 2), (7, .int r_8), (0, .ref (Q 0)), (1, .ref sb), (2, .int (nI f)), (3, .ref q), (4, .int (nI mn)), (5, .int (nI u0)), (6, .int (nI k))]) hx hb dL_undoes_100 hl (by decide) rfl (fun ls hl => ?_)
        refine lv_iload hx hb dL_undoes_102 (lv_at hl 2 rfl) ?_
        refine lv_iconst (v := 2) hx hb dL_undoes_104 (by decide) ?_
        refine lv_icmp_ge (tgt := 126) hx hb dL_undoes_105 (by decide) (fun c_44 => ?_) (fun c_44 => ?_)
        · have c_44 : 2 ≤ how := c_44
          refine lv_iload hx hb dL_undoes_126 (lv_at hl 2 rfl) ?_
          refine lv_iconst (v := 2) hx hb dL_undoes_128 (by decide) ?_
          refine lv_icmp_ne (tgt := 143) hx hb dL_undoes_129 (by decide) (fun c_45 => ?_) (fun c_45 => ?_)
          · have c_45 : ¬ (how = 2) := c_45
            refine lv_iload hx hb dL_undoes_143 (lv_at hl 2 rfl) ?_
            refine lv_iconst (v := 5) hx hb dL_undoes_145 (by decide) ?_
            refine lv_icmp_ge (tgt := 171) hx hb dL_undoes_146 (by decide) (fun c_46 => ?_) (fun c_46 => ?_)
            · have c_46 : 5 ≤ how := c_46
              refine lv_iload hx hb dL_undoes_171 (lv_at hl 2 rfl) ?_
              refine lv_iconst (v := 5) hx hb dL_undoes_173 (by decide) ?_
              refine lv_icmp_ne (tgt := 198) hx hb dL_undoes_174 (by decide) (fun c_47 => ?_) (fun c_47 => ?_)
              · have c_47 : ¬ (how = 5) := c_47
                refine lv_iload hx hb dL_undoes_198 (lv_at hl 2 rfl) ?_
                refine lv_bipush (v := 6) hx hb dL_undoes_200 (by decide) ?_
                refine lv_icmp_ne (tgt := 223) hx hb dL_undoes_202 (by decide) (fun c_48 => ?_) (fun c_48 => ?_)
                · have c_48 : ¬ (how = 6) := c_48
                  refine lv_aload_n hx hb dL_undoes_223 rfl (lv_at hl 5 rfl) ?_
                  refine lv_iload hx hb dL_undoes_224 (lv_at hl 4 rfl) ?_
                  refine lv_iconst (v := 5) hx hb dL_undoes_226 (by decide) ?_
                  refine bShr (v := r_8 >>> (5 &&& 31)) X.1 dL_undoes_227 rfl ?_
                  refine lv_bipush (v := 23) hx hb dL_undoes_228 (by decide) ?_
                  refine bSI (As := [.int (r_8 >>> (5 &&& 31)), .int 23]) (rest := [.ref (Q 0)]) X.1 Y (c_part l D cyC cyI (r_8 >>> (5 &&& 31)) 23 (by decide)) gL_undoes_L_part rfl ⟨rfl, rfl⟩ hdq_L_part.2 ⟨Nat.le_of_ble_eq_true rfl, Nat.le_of_ble_eq_true rfl⟩ rfl rfl hl.1 (Nat.le_of_ble_eq_true rfl) ⟨Nat.le_of_ble_eq_true rfl, Nat.le_of_ble_eq_true rfl⟩ dL_undoes_230 (fun H locs Y => ?_)
                  refine lv_topi (fun ph e_ph => ?_)
                  refine lv_iconst (v := 1) hx hb dL_undoes_233 (by decide) ?_
                  refine bSub (v := ph - 1) X.1 dL_undoes_234 rfl ?_
                  obtain ⟨rr_50, hk_rr_50⟩ := a_couple hI_41 hu4 hok0 (ph - 1)
                  refine qVI (al := [(q, .inl (cyJ, 12, .inr (.inl (vp_updL fJ mn (wh r (S 0))))))]) (As := [.int (ph - 1)]) (rest := []) X Y hk_rr_50 gL_undoes_X7_couple rfl hdq_X7_couple ⟨Nat.le_of_ble_eq_true rfl, Nat.le_of_ble_eq_true rfl⟩ hI_41.head rfl rfl hl.1 (Nat.le_of_ble_eq_true rfl) ⟨Nat.le_of_ble_eq_true rfl, Nat.le_of_ble_eq_true rfl⟩ dL_undoes_235 (fun wa_51 H locs hI_51 hw_51 Y => ?_)
                  have hW_51 := hW_41.trans hw_51
                  have hd := UD_ofC (how7 hhow c_44 c_45 c_46 c_47 c_48) hI_51
                  exact ud_tail l D cyC cyI sb sL xs hsL hKJ f X hr hlk u0 k S u mn fJ q rr_50 how hk9 hUI hd (fun S u mn fJ wa H locs ls a b c d => ih (k + 1) (by omega) (by omega) S u mn fJ wa H locs ls a b c d) _ _ _ hW_51 (lv_sub hl [5, 6, 7, 8, 9, 10, 11, 2, 1] rfl) Y
                · have c_48 : how = 6 := c_48
                  refine lv_aload_n hx hb dL_undoes_205 rfl (lv_at hl 5 rfl) ?_
                  refine lv_iload hx hb dL_undoes_206 (lv_at hl 3 rfl) ?_
                  refine lv_iload hx hb dL_undoes_208 (lv_at hl 4 rfl) ?_
                  refine lv_iconst (v := 5) hx hb dL_undoes_210 (by decide) ?_
                  refine bShr (v := r_8 >>> (5 &&& 31)) X.1 dL_undoes_211 rfl ?_
                  refine lv_bipush (v := 101) hx hb dL_undoes_212 (by decide) ?_
                  refine bSI (As := [.int (r_8 >>> (5 &&& 31)), .int 101]) (rest := [.int 2, .ref (Q 0)]) X.1 Y (c_part l D cyC cyI (r_8 >>> (5 &&& 31)) 101 (by decide)) gL_undoes_L_part rfl ⟨rfl, rfl⟩ hdq_L_part.2 ⟨Nat.le_of_ble_eq_true rfl, Nat.le_of_ble_eq_true rfl⟩ rfl rfl hl.1 (Nat.le_of_ble_eq_true rfl) ⟨Nat.le_of_ble_eq_true rfl, Nat.le_of_ble_eq_true rfl⟩ dL_undoes_214 (fun H locs Y => ?_)
                  refine lv_topi (fun pg e_pg => ?_)
                  obtain ⟨rr_53, hk_rr_53⟩ := a_load hI_41 hu4 hok0 2 pg
                  refine qVI (al := [(q, .inl (cyJ, 12, .inr (.inl (vp_updL fJ mn (wh r (S 0))))))]) (As := [.int 2, .int pg]) (rest := []) X Y hk_rr_53 gL_undoes_X7_load rfl hdq_X7_load ⟨Nat.le_of_ble_eq_true rfl, Nat.le_of_ble_eq_true rfl⟩ hI_41.head rfl rfl hl.1 (Nat.le_of_ble_eq_true rfl) ⟨Nat.le_of_ble_eq_true rfl, Nat.le_of_ble_eq_true rfl⟩ dL_undoes_217 (fun wa_54 H locs hI_54 hw_54 Y => ?_)
                  have hW_54 := hW_41.trans hw_54
                  refine lv_goto (tgt := 238) hx hb dL_undoes_220 (by decide) ?_
                  have hd := UD_of how hI_54
                  exact ud_tail l D cyC cyI sb sL xs hsL hKJ f X hr hlk u0 k S u mn fJ q rr_53 how hk9 hUI hd (fun S u mn fJ wa H locs ls a b c d => ih (k + 1) (by omega) (by omega) S u mn fJ wa H locs ls a b c d) _ _ _ hW_54 (lv_sub hl [5, 6, 7, 8, 9, 10, 11, 2, 1] rfl) Y
              · have c_47 : how = 5 := c_47
                refine lv_aload_n hx hb dL_undoes_177 rfl (lv_at hl 5 rfl) ?_
                refine lv_iload hx hb dL_undoes_178 (lv_at hl 3 rfl) ?_
                refine lv_bipush (v := 9) hx hb dL_undoes_180 (by decide) ?_
                refine lv_iload hx hb dL_undoes_182 (lv_at hl 4 rfl) ?_
                refine lv_iconst (v := 5) hx hb dL_undoes_184 (by decide) ?_
                refine bShr (v := r_8 >>> (5 &&& 31)) X.1 dL_undoes_185 rfl ?_
                refine lv_bipush (v := 53) hx hb dL_undoes_186 (by decide) ?_
                refine bSI (As := [.int (r_8 >>> (5 &&& 31)), .int 53]) (rest := [.int 9, .int 2, .ref (Q 0)]) X.1 Y (c_part l D cyC cyI (r_8 >>> (5 &&& 31)) 53 (by decide)) gL_undoes_L_part rfl ⟨rfl, rfl⟩ hdq_L_part.2 ⟨Nat.le_of_ble_eq_true rfl, Nat.le_of_ble_eq_true rfl⟩ rfl rfl hl.1 (Nat.le_of_ble_eq_true rfl) ⟨Nat.le_of_ble_eq_true rfl, Nat.le_of_ble_eq_true rfl⟩ dL_undoes_188 (fun H locs Y => ?_)
                refine lv_topi (fun pf e_pf => ?_)
                refine bAdd (v := 9 + pf) X.1 dL_undoes_191 rfl ?_
                obtain ⟨rr_56, hk_rr_56⟩ := a_target hI_41 hu4 hok0 2 (9 + pf)
                refine qVI (al := [(q, .inl (cyJ, 12, .inr (.inl (vp_updL fJ mn (wh r (S 0))))))]) (As := [.int 2, .int (9 + pf)]) (rest := []) X Y hk_rr_56 gL_undoes_X7_target rfl hdq_X7_target ⟨Nat.le_of_ble_eq_true rfl, Nat.le_of_ble_eq_true rfl⟩ hI_41.head rfl rfl hl.1 (Nat.le_of_ble_eq_true rfl) ⟨Nat.le_of_ble_eq_true rfl, Nat.le_of_ble_eq_true rfl⟩ dL_undoes_192 (fun wa_57 H locs hI_57 hw_57 Y => ?_)
                have hW_57 := hW_41.trans hw_57
                refine lv_goto (tgt := 238) hx hb dL_undoes_195 (by decide) ?_
                have hd := UD_of how hI_57
                exact ud_tail l D cyC cyI sb sL xs hsL hKJ f X hr hlk u0 k S u mn fJ q rr_56 how hk9 hUI hd (fun S u mn fJ wa H locs ls a b c d => ih (k + 1) (by omega) (by omega) S u mn fJ wa H locs ls a b c d) _ _ _ hW_57 (lv_sub hl [5, 6, 7, 8, 9, 10, 11, 2, 1] rfl) Y
            · have c_46 : ¬ (5 ≤ how) := c_46
              refine lv_aload_n hx hb dL_undoes_149 rfl (lv_at hl 5 rfl) ?_
              refine lv_iload hx hb dL_undoes_150 (lv_at hl 3 rfl) ?_
              refine lv_iload hx hb dL_undoes_152 (lv_at hl 0 rfl) ?_
              refine lv_iload hx hb dL_undoes_154 (lv_at hl 4 rfl) ?_
              refine lv_iconst (v := 5) hx hb dL_undoes_156 (by decide) ?_
              refine bShr (v := r_8 >>> (5 &&& 31)) X.1 dL_undoes_157 rfl ?_
              refine lv_bipush (v := 23) hx hb dL_undoes_158 (by decide) ?_
              refine bSI (As := [.int (r_8 >>> (5 &&& 31)), .int 23]) (rest := [.int (pw - 41), .int 2, .ref (Q 0)]) X.1 Y (c_part l D cyC cyI (r_8 >>> (5 &&& 31)) 23 (by decide)) gL_undoes_L_part rfl ⟨rfl, rfl⟩ hdq_L_part.2 ⟨Nat.le_of_ble_eq_true rfl, Nat.le_of_ble_eq_true rfl⟩ rfl rfl hl.1 (Nat.le_of_ble_eq_true rfl) ⟨Nat.le_of_ble_eq_true rfl, Nat.le_of_ble_eq_true rfl⟩ dL_undoes_160 (fun H locs Y => ?_)
              refine lv_topi (fun pe e_pe => ?_)
              refine lv_iconst (v := 1) hx hb dL_undoes_163 (by decide) ?_
              refine bSub (v := pe - 1) X.1 dL_undoes_164 rfl ?_
              obtain ⟨rr_59, hk_rr_59⟩ := a_shape hI_41 hu4 hok0 2 (pw - 41) (pe - 1)
              refine qVI (al := [(q, .inl (cyJ, 12, .inr (.inl (vp_updL fJ mn (wh r (S 0))))))]) (As := [.int 2, .int (pw - 41), .int (pe - 1)]) (rest := []) X Y hk_rr_59 gL_undoes_X7_shape rfl hdq_X7_shape ⟨Nat.le_of_ble_eq_true rfl, Nat.le_of_ble_eq_true rfl⟩ hI_41.head rfl rfl hl.1 (Nat.le_of_ble_eq_true rfl) ⟨Nat.le_of_ble_eq_true rfl, Nat.le_of_ble_eq_true rfl⟩ dL_undoes_165 (fun wa_60 H locs hI_60 hw_60 Y => ?_)
              have hW_60 := hW_41.trans hw_60
              refine lv_goto (tgt := 238) hx hb dL_undoes_168 (by decide) ?_
              have hd := UD_of how hI_60
              exact ud_tail l D cyC cyI sb sL xs hsL hKJ f X hr hlk u0 k S u mn fJ q rr_59 how hk9 hUI hd (fun S u mn fJ wa H locs ls a b c d => ih (k + 1) (by omega) (by omega) S u mn fJ wa H locs ls a b c d) _ _ _ hW_60 (lv_sub hl [5, 6, 7, 8, 9, 10, 11, 2, 1] rfl) Y
          · have c_45 : how = 2 := c_45
            refine lv_aload_n hx hb dL_undoes_132 rfl (lv_at hl 5 rfl) ?_
            refine lv_iload hx hb dL_undoes_133 (lv_at hl 3 rfl) ?_
            refine lv_iload hx hb dL_undoes_135 (lv_at hl 0 rfl) ?_
            obtain ⟨rr_61, hk_rr_61⟩ := a_command hI_41 hu4 hok0 2 (pw - 41)
            refine qVI (al := [(q, .inl (cyJ, 12, .inr (.inl (vp_updL fJ mn (wh r (S 0))))))]) (As := [.int 2, .int (pw - 41)]) (rest := []) X Y hk_rr_61 gL_undoes_X7_command rfl hdq_X7_command ⟨Nat.le_of_ble_eq_true rfl, Nat.le_of_ble_eq_true rfl⟩ hI_41.head rfl rfl hl.1 (Nat.le_of_ble_eq_true rfl) ⟨Nat.le_of_ble_eq_true rfl, Nat.le_of_ble_eq_true rfl⟩ dL_undoes_137 (fun wa_62 H locs hI_62 hw_62 Y => ?_)
            have hW_62 := hW_41.trans hw_62
            refine lv_goto (tgt := 238) hx hb dL_undoes_140 (by decide) ?_
            have hd := UD_of how hI_62
            exact ud_tail l D cyC cyI sb sL xs hsL hKJ f X hr hlk u0 k S u mn fJ q rr_61 how hk9 hUI hd (fun S u mn fJ wa H locs ls a b c d => ih (k + 1) (by omega) (by omega) S u mn fJ wa H locs ls a b c d) _ _ _ hW_62 (lv_sub hl [5, 6, 7, 8, 9, 10, 11, 2, 1] rfl) Y
        · have c_44 : ¬ (2 ≤ how) := c_44
          refine lv_aload_n hx hb dL_undoes_108 rfl (lv_at hl 5 rfl) ?_
          refine lv_iconst (v := 1) hx hb dL_undoes_109 (by decide) ?_
          refine lv_iload hx hb dL_undoes_110 (lv_at hl 4 rfl) ?_
          refine lv_iconst (v := 4) hx hb dL_undoes_112 (by decide) ?_
          refine bShr (v := r_8 >>> (4 &&& 31)) X.1 dL_undoes_113 rfl ?_
          refine lv_bipush (v := 61) hx hb dL_undoes_114 (by decide) ?_
          refine bSI (As := [.int (r_8 >>> (4 &&& 31)), .int 61]) (rest := [.int 1, .ref (Q 0)]) X.1 Y (c_part l D cyC cyI (r_8 >>> (4 &&& 31)) 61 (by decide)) gL_undoes_L_part rfl ⟨rfl, rfl⟩ hdq_L_part.2 ⟨Nat.le_of_ble_eq_true rfl, Nat.le_of_ble_eq_true rfl⟩ rfl rfl hl.1 (Nat.le_of_ble_eq_true rfl) ⟨Nat.le_of_ble_eq_true rfl, Nat.le_of_ble_eq_true rfl⟩ dL_undoes_116 (fun H locs Y => ?_)
          refine lv_topi (fun pd e_pd => ?_)
          refine bAdd (v := 1 + pd) X.1 dL_undoes_119 rfl ?_
          obtain ⟨rr_64, hk_rr_64⟩ := a_tick hI_41 hu4 hok0 (1 + pd)
          refine qVI (al := [(q, .inl (cyJ, 12, .inr (.inl (vp_updL fJ mn (wh r (S 0))))))]) (As := [.int (1 + pd)]) (rest := []) X Y hk_rr_64 gL_undoes_X7_tick rfl hdq_X7_tick ⟨Nat.le_of_ble_eq_true rfl, Nat.le_of_ble_eq_true rfl⟩ hI_41.head rfl rfl hl.1 (Nat.le_of_ble_eq_true rfl) ⟨Nat.le_of_ble_eq_true rfl, Nat.le_of_ble_eq_true rfl⟩ dL_undoes_120 (fun wa_65 H locs hI_65 hw_65 Y => ?_)
          have hW_65 := hW_41.trans hw_65
          refine lv_goto (tgt := 238) hx hb dL_undoes_123 (by decide) ?_
          have hd := UD_of how hI_65
          exact ud_tail l D cyC cyI sb sL xs hsL hKJ f X hr hlk u0 k S u mn fJ q rr_64 how hk9 hUI hd (fun S u mn fJ wa H locs ls a b c d => ih (k + 1) (by omega) (by omega) S u mn fJ wa H locs ls a b c d) _ _ _ hW_65 (lv_sub hl [5, 6, 7, 8, 9, 10, 11, 2, 1] rfl) Y
theorem ac_L_undoes_J : Cond.arrayClass .long ∈ wsL_undoes := by decide +kernel
set_option maxHeartbeats 4000000 in
set_option maxRecDepth 100000 in
theorem c_undoes (l : Launch) (D : va_G) (cyC cyI : ClassId) (sb sL : Nat) (xs : Nat → Int32) {Q : Nat → Nat} {r : Nat → Int32} {S : Nat → Sto} {T : List Int32} {u0 : Nat} {wa : va_W} (hI : QW cyC cyI Q r S (nI u0) T wa) (f : Nat) (hu4 : u0 ≤ 4) (hokS : ∀ i, i ≤ u0 → OkS r (S i)) (hf : f ≤ 500) (hsL : sL ≤ 260) : QI l yL_undoes wsL_undoes { frames := 7, cells := 1, slots := 12, locals := 153 } D cyC cyI sb sL xs [.ref (Q 0), .ref sb, .int (nI f)] wa 1 12 (fun rv w1 => rv = 1 ∧ IW cyC cyI Q r T w1) := by
  refine QI.of (cc := cL_undoes) (n := 14) (ret := (some .boolean)) (by decide +kernel) rfl (Nat.le_of_ble_eq_true rfl) ?_
  intro p_ e_ s_ m_ bl_ me_ cd_ A_ ls X Y hr hlk hl
  have hx := X.1.1.1
  have hb := X.1.1.2.1
  have hl : lv_has ls 14 [(0, .ref (Q 0)), (1, .ref sb), (2, .int (nI f))] := hl
  have Y : bY D A_ s_.heap ([] ++ wa) s_.heap [] := Y
  have hW := Y.wpR
  refine lv_bipush (v := 12) hx hb dL_undoes_0 (by decide) ?_
  refine qNewJ (N := 12) (c2 := 1) (s2 := 12) X Y ac_L_undoes_J (by decide) (by decide) (Nat.le_of_ble_eq_true rfl) (Nat.le_of_ble_eq_true rfl) (Nat.le_of_ble_eq_true rfl) rfl rfl dL_undoes_2 (fun q_1 cyJ H hKJ Y => ?_)
  refine lv_astore_n (lv' := [(3, .ref q_1), (0, .ref (Q 0)), (1, .ref sb), (2, .int (nI f))]) hx hb dL_undoes_4 rfl hl (by decide) rfl (fun ls hl => ?_)
  refine lv_iconst (v := 0) hx hb dL_undoes_5 (by decide) ?_
  refine lv_istore (lv' := [(4, .int 0), (3, .ref q_1), (0, .ref (Q 0)), (1, .ref sb), (2, .int (nI f))]) hx hb dL_undoes_6 hl (by decide) rfl (fun ls hl => ?_)
  refine lv_aload_n hx hb dL_undoes_8 rfl (lv_at hl 2 rfl) ?_
  refine lv_bipush (v := 7) hx hb dL_undoes_9 (by decide) ?_
  refine qVI (al := [(q_1, .inl (cyJ, 12, .inr (.inl (fun _ => 0))))]) (As := [.int 7]) (rest := []) X Y (k_count hI 7 (nI u0) rfl) gL_undoes_X7_count rfl hdq_X7_count ⟨Nat.le_of_ble_eq_true rfl, Nat.le_of_ble_eq_true rfl⟩ hI.head rfl rfl hl.1 (Nat.le_of_ble_eq_true rfl) ⟨Nat.le_of_ble_eq_true rfl, Nat.le_of_ble_eq_true rfl⟩ dL_undoes_11 (fun wa_2 H locs hI_2 hw_2 Y => ?_)
  have hW_2 := hW.trans hw_2
  refine lv_istore (lv' := [(5, .int (nI u0)), (4, .int 0), (3, .ref q_1), (0, .ref (Q 0)), (1, .ref sb), (2, .int (nI f))]) hx hb dL_undoes_14 hl (by decide) rfl (fun ls hl => ?_)
  refine lv_iconst (v := 0) hx hb dL_undoes_16 (by decide) ?_
  refine lv_istore (lv' := [(6, .int 0), (5, .int (nI u0)), (4, .int 0), (3, .ref q_1), (0, .ref (Q 0)), (1, .ref sb), (2, .int (nI f))]) hx hb dL_undoes_17 hl (by decide) rfl (fun ls hl => ?_)
  exact lp_u1 l D cyC cyI sb sL xs hsL hKJ f X hr hlk u0 hf q_1 10 0 (by omega) (by omega) S u0 0 (fun _ => 0) _ _ _ _ ⟨hI_2, by omega, hu4, by rw [Nat.add_zero]; split <;> omega, hokS, fun i a b d => by omega⟩ hW_2 (lv_sub hl [4, 5, 6, 3, 2, 1, 0] rfl) Y
