/-! MY OWN LAYER: contracts that say the answer and the cells outright (CI, CV, CR), one row a call. -/
def bB (b : Bool) : Int32 := match b with | true => 1 | false => 0
theorem bB_nar (b : Bool) : narrow .boolean (.int (bB b)) = .int (bB b) := by cases b <;> rfl
theorem bB_fit (b : Bool) : fits .boolean (.int (bB b)) = true := by cases b <;> rfl
theorem bB_f {b : Bool} (h : bB b = 0) : ¬ b = true := by cases b <;> simp_all [bB]
theorem bB_t {b : Bool} (h : ¬ bB b = 0) : b = true := by cases b <;> simp_all [bB]
theorem bNz {x : Int32} (h : ¬ x < 1) : ¬ x = 0 := fun q => h (by rw [q]; decide)
theorem bNz1 {x : Int32} (h : 1 ≤ x) : ¬ x = 0 := fun q => absurd h (by rw [q]; decide)
theorem bNz3 {x : Int32} (h : 0 < x) : ¬ x = 0 := fun q => absurd h (by rw [q]; decide)
theorem bNz2 {x : Int32} (h : ¬ x ≤ 0) : ¬ x = 0 := fun q => h (by rw [q]; decide)
abbrev bT (cyC cyI : ClassId) : List (ClassId × FieldType) := [(cyC, .char), (cyI, .int)]
/-- the links to private members of nest mates -/
def bL : List (String × Nat × MethodName × String) := [(RX7, 18, yX2_init, RX7), (RX7, 35, yX5_init, RX7), (RX7, 9, yX6_init, RX7), (RX0, 111, yX7_keptWithin, RX7), (RX0, 61, yX7_halfSwing, RX7), (RX0, 97, yX7_wayToStop, RX7), (RX1, 9, yX4_init, RX7), (RX2, 11, yX0_init, RX7), (RX5, 18, yX3_init, RX7), (RX5, 9, yX2_init, RX7), (RX6, 54, yX7_isWithin, RX7), (RX6, 61, yX7_isCrane, RX7), (RX6, 83, yX7_isRope, RX7)]
def bN (U : State) : Prop := ∀ q ∈ bL, va_Nw (.methodLinkNest q.1 q.2.1 q.2.2.1 q.2.2.2) U
theorem bN.same {u U : State} (h : u.vm = U.vm) (hN : bN u) : bN U := fun q hq => va_Nw.same rfl h (hN q hq)
theorem bN.warm {s U : State} (hW : s.WarmedH U.vm) (hN : bN s) : bN U := fun q hq => va_Nw.warmM hW (hN q hq)
/-- a method's start: its cells, the classes, the nest's links -/
def bP (D : va_G) (cyC cyI : ClassId) (wc : va_W) (sz : Nat) : State → Prop := fun U => U.heap.size = sz ∧ va_P D vwCl wc U.heap ∧ va_K D vwCl (bT cyC cyI) U ∧ va_D (fun _ => True) wc ∧ bN U
theorem bP.blind {D : va_G} {cyC cyI : ClassId} {av : List Value} {wc : va_W} {sz : Nat} : FrameBlind (va_Pc av (bP D cyC cyI wc sz)) := fun a U g mk q => by
  obtain ⟨q0, q1, qP, qK, qD, qN⟩ := q
  exact ⟨q0, q1, qP, va_K.moved (u := U) (U := U.calling g mk a) (Vm.Alike.refl U.vm) qK, qD, bN.same rfl qN⟩
def CI (l : Launch) (y : MethodName) (wsy : List Cond) (rm : Room) (D : va_G) (cyC cyI : ClassId) (av : List Value) (wc : va_W) (r : Int32) (w1 : va_W) : Prop := ∀ sz : Nat, Met l y wsy rm (va_Pc av (bP D cyC cyI wc sz)) (va_Qi (fun (r' : Int32) (_ : Unit) => r' = r) (fun _ t => va_P D vwCl w1 t.heap) (va_A wc sz)) 0 0 (va_A wc sz)
def CV (l : Launch) (y : MethodName) (wsy : List Cond) (rm : Room) (D : va_G) (cyC cyI : ClassId) (av : List Value) (wc : va_W) (w1 : va_W) : Prop := ∀ sz : Nat, Met l y wsy rm (va_Pc av (bP D cyC cyI wc sz)) (va_Qv (fun (_ : Unit) => True) (fun _ t => va_P D vwCl w1 t.heap) (va_A wc sz)) 0 0 (va_A wc sz)
def CR (l : Launch) (y : MethodName) (wsy : List Cond) (rm : Room) (D : va_G) (cyC cyI : ClassId) (av : List Value) (wc : va_W) (r : Nat) (w1 : va_W) : Prop := ∀ sz : Nat, Met l y wsy rm (va_Pc av (bP D cyC cyI wc sz)) (va_Qr (fun (_ : Unit) => True) (fun _ a t => a = r ∧ va_P D vwCl w1 t.heap) (va_A wc sz)) 0 0 (va_A wc sz)
/-- a walk's fixed things -/
def bX (p : Program) (s : State) (m : MethodId) (args : Array Value) (c : Code) (cc : ByteArray) (nL : Nat) (Ts : List Cond) (own : String) (D : va_G) (cyC cyI : ClassId) : Prop := CallFix p m c cc nL s args Ts own ∧ va_K D vwCl (bT cyC cyI) s ∧ bN s
/-- a walk's world -/
def bY (D : va_G) (A : Nat → Prop) (H0 : Heap) (ws : va_W) (H : Heap) (locs : List Loc) : Prop := va_P D vwCl ws H ∧ va_D A ws ∧ va_S A H0 H locs ∧ ∀ q : Nat, H0.size ≤ q → A q
def bQI (below : List Frame) (args : Array Value) (s : State) (D : va_G) (w1 : va_W) (r : Int32) (A : Nat → Prop) : State → Prop := MQ below (va_Qi (fun (r' : Int32) (_ : Unit) => r' = r) (fun _ t => va_P D vwCl w1 t.heap) A) args s 0 0 A
def bQV (below : List Frame) (args : Array Value) (s : State) (D : va_G) (w1 : va_W) (A : Nat → Prop) : State → Prop := MQ below (va_Qv (fun (_ : Unit) => True) (fun _ t => va_P D vwCl w1 t.heap) A) args s 0 0 A
def bQR (below : List Frame) (args : Array Value) (s : State) (D : va_G) (w1 : va_W) (r : Nat) (A : Nat → Prop) : State → Prop := MQ below (va_Qr (fun (_ : Unit) => True) (fun _ a t => a = r ∧ va_P D vwCl w1 t.heap) A) args s 0 0 A
theorem CI.of {l : Launch} {y : MethodName} {wsy ws' : List Cond} {rm : Room} {D : va_G} {cyC cyI : ClassId} {av : List Value} {wc w1 : va_W} {r : Int32} {cc : ByteArray} {n : Nat} {ret : Option FieldType} (hy : plainName y.cls = true) (hw : wsy = Cond.code y cc n ret :: ws') (hn : (lg_sl av).length ≤ n)
    (k : ∀ (p : Program) (e : Env) (s : State) (m : MethodId) (below : List Frame) (meth : Method) (c : Code) (A : Nat → Prop) (ls : Array Slot), bX p s m av.toArray c cc n wsy y.cls D cyC cyI → bY D A s.heap wc s.heap [] → meth.sig.returnType = ret → meth.locks = false → lv_has ls n (lv_args 0 av) → W p l e rm s m av.toArray below meth c s.heap [] 0 0 (bQI below av.toArray s D w1 r A) (F0 m 0 ls [])) : CI l y wsy rm D cyC cyI av wc r w1 := by
  intro sz
  refine Met.ofW (cc := cc) (maxL := n) (ret := ret) hy hw ?_
  intro p e s m args below meth c s₁ B hml hv
  obtain ⟨rfl, hsz, hP, hK, hD0, hN⟩ := hv
  subst hsz
  have hts := atoms_spec (ws := wsy) B.pre
  have hown : s.vm.findClass y.cls = some m.cls := findClass_of_methodNamed B.named
  have hl := lv_entry av hn
  rw [lg_entry_eq]
  exact k p e s m below meth c (va_A wc s.heap.size) _ ⟨⟨B.exec, B.bytes, hml, hown, hts⟩, hK, hN⟩ ⟨hP, hD0.self, va_S.rf, fun q h => Or.inr h⟩ B.returns B.notSynchronized hl
theorem CV.of {l : Launch} {y : MethodName} {wsy ws' : List Cond} {rm : Room} {D : va_G} {cyC cyI : ClassId} {av : List Value} {wc w1 : va_W} {cc : ByteArray} {n : Nat} {ret : Option FieldType} (hy : plainName y.cls = true) (hw : wsy = Cond.code y cc n ret :: ws') (hn : (lg_sl av).length ≤ n)
    (k : ∀ (p : Program) (e : Env) (s : State) (m : MethodId) (below : List Frame) (meth : Method) (c : Code) (A : Nat → Prop) (ls : Array Slot), bX p s m av.toArray c cc n wsy y.cls D cyC cyI → bY D A s.heap wc s.heap [] → meth.sig.returnType = ret → meth.locks = false → lv_has ls n (lv_args 0 av) → W p l e rm s m av.toArray below meth c s.heap [] 0 0 (bQV below av.toArray s D w1 A) (F0 m 0 ls [])) : CV l y wsy rm D cyC cyI av wc w1 := by
  intro sz
  refine Met.ofW (cc := cc) (maxL := n) (ret := ret) hy hw ?_
  intro p e s m args below meth c s₁ B hml hv
  obtain ⟨rfl, hsz, hP, hK, hD0, hN⟩ := hv
  subst hsz
  have hts := atoms_spec (ws := wsy) B.pre
  have hown : s.vm.findClass y.cls = some m.cls := findClass_of_methodNamed B.named
  have hl := lv_entry av hn
  rw [lg_entry_eq]
  exact k p e s m below meth c (va_A wc s.heap.size) _ ⟨⟨B.exec, B.bytes, hml, hown, hts⟩, hK, hN⟩ ⟨hP, hD0.self, va_S.rf, fun q h => Or.inr h⟩ B.returns B.notSynchronized hl
theorem CR.of {l : Launch} {y : MethodName} {wsy ws' : List Cond} {rm : Room} {D : va_G} {cyC cyI : ClassId} {av : List Value} {wc w1 : va_W} {r : Nat} {cc : ByteArray} {n : Nat} {ret : Option FieldType} (hy : plainName y.cls = true) (hw : wsy = Cond.code y cc n ret :: ws') (hn : (lg_sl av).length ≤ n)
    (k : ∀ (p : Program) (e : Env) (s : State) (m : MethodId) (below : List Frame) (meth : Method) (c : Code) (A : Nat → Prop) (ls : Array Slot), bX p s m av.toArray c cc n wsy y.cls D cyC cyI → bY D A s.heap wc s.heap [] → meth.sig.returnType = ret → meth.locks = false → lv_has ls n (lv_args 0 av) → W p l e rm s m av.toArray below meth c s.heap [] 0 0 (bQR below av.toArray s D w1 r A) (F0 m 0 ls [])) : CR l y wsy rm D cyC cyI av wc r w1 := by
  intro sz
  refine Met.ofW (cc := cc) (maxL := n) (ret := ret) hy hw ?_
  intro p e s m args below meth c s₁ B hml hv
  obtain ⟨rfl, hsz, hP, hK, hD0, hN⟩ := hv
  subst hsz
  have hts := atoms_spec (ws := wsy) B.pre
  have hown : s.vm.findClass y.cls = some m.cls := findClass_of_methodNamed B.named
  have hl := lv_entry av hn
  rw [lg_entry_eq]
  exact k p e s m below meth c (va_A wc s.heap.size) _ ⟨⟨B.exec, B.bytes, hml, hown, hts⟩, hK, hN⟩ ⟨hP, hD0.self, va_S.rf, fun q h => Or.inr h⟩ B.returns B.notSynchronized hl
theorem nI_inc (j : Nat) : nI j + Int32.ofInt 1 = nI (j + 1) := (nI_succ j).symm
theorem bLtN {j k : Nat} (hj : j < 2 ^ 31) (hk : k < 2 ^ 31) : nI j < nI k ↔ j < k := ⟨fun h => Nat.lt_of_not_le fun q => nI_nlt q hj h, fun h => nI_lt h hk⟩
theorem bNle {j k : Nat} {x : Int32} (hx : x = nI k) (hj : j < 2 ^ 31) (hk : k < 2 ^ 31) (h : ¬ x ≤ nI j) : j < k := Nat.lt_of_not_le fun q => h (by rw [hx]; exact nI_le q hj)
theorem bLt {j k : Nat} {x : Int32} (hx : x = nI k) (hj : j < 2 ^ 31) (hk : k < 2 ^ 31) (h : nI j < x) : j < k := by rw [hx] at h; exact (bLtN hj hk).mp h
/-- a counter below a bound that is no more than k -/
theorem bNleS {j k : Nat} {x : Int32} (hj : j < 2 ^ 31) (hk : k < 2 ^ 31) (hx : x ≤ nI k) (h : ¬ x ≤ nI j) : j < k := Nat.lt_of_not_le fun q => h (Int32.le_trans hx (nI_le q hj))
theorem bIn {j N : Nat} (h : j < N) (hN : N < 2 ^ 31) : vp_in (nI j) N := nI_in h hN
theorem bIdx {α : Type} {f : Nat → α} {j : Nat} (h : j < 2 ^ 31) : f (nI j).toNatClampNeg = f j := by rw [nI_clamp h]
theorem bIdxs {f : Nat → Int32} {j : Nat} {x : Int32} (h : j < 2 ^ 31) : upd f (nI j).toNatClampNeg x = upd f j x := by rw [nI_clamp h]
theorem bNeI {x L : Int32} {k : Int} (h : ¬ x = L) (hL : L.toInt = k) : x.toInt ≠ k := fun q => h (Int32.toInt_inj.mp (q.trans hL.symm))
theorem bInK {k x : Int32} {N : Nat} (h0 : ¬ k < 0) (h1 : ¬ x ≤ k) (hx : x = nI N) (hN : N < 2 ^ 31) : vp_in k N := by
  subst hx
  rw [Int32.lt_iff_toInt_lt, Int32.toInt_zero] at h0
  rw [Int32.le_iff_toInt_le, nI_toInt hN] at h1
  intro h
  rcases h with h | h
  · rw [Int32.lt_iff_toInt_lt, Int32.toInt_zero] at h; exact h0 h
  · have e : k.toNatClampNeg = k.toInt.toNat := rfl
    omega
theorem bInK2 {k x : Int32} {N : Nat} (h0 : ¬ k < 0) (h1 : k < x) (hx : x = nI N) (hN : N < 2 ^ 31) : vp_in k N :=
  bInK h0 (fun q => by rw [Int32.le_iff_toInt_le] at q; rw [Int32.lt_iff_toInt_lt] at h1; omega) hx hN
theorem nI_sum {a b : Nat} {x y : Int32} (hx : x = nI a) (hy : y = nI b) {c : Nat} (h : a + b = c) : x + y = nI c := by
  subst hx; subst hy; subst h
  exact (Int32.ofNat_add a b).symm
theorem bInD {i : Int32} {n : Nat} (h : ¬ (i < 0 ∨ n ≤ i.toNatClampNeg)) : vp_in i n := h
theorem bHalf {j : Nat} {x : Int32} (h0 : 0 ≤ x) (h60 : x ≤ 60) (hj : j ≤ 7) (h : ¬ 5 * x ≤ (8 * nI j) * nI j) : j < 7 := by
  refine Nat.lt_of_not_le fun q => h ?_
  have e : j = 7 := by omega
  subst e
  have e2 : (8 * nI 7) * nI 7 = (392 : Int32) := by decide
  rw [e2]
  rw [Int32.le_iff_toInt_le] at h0 h60 ⊢
  rw [Int32.toInt_zero] at h0
  rw [show (60 : Int32).toInt = 60 from by decide] at h60
  rw [show (392 : Int32).toInt = 392 from by decide, Int32.toInt_mul, show (5 : Int32).toInt = 5 from by decide]
  have hy : 0 ≤ 5 * x.toInt ∧ 5 * x.toInt ≤ 300 := by omega
  generalize 5 * x.toInt = y at *
  rw [Int.bmod_def]
  omega
theorem bDecS {k c : Int32} {n : Nat} (hc : 1 ≤ c) (h : 0 < k) (hn : k.toInt.toNat < n + 1) : (k - c).toInt.toNat < n := by
  have h1 : (0 : Int) < k.toInt := by rw [Int32.lt_iff_toInt_lt, Int32.toInt_zero] at h; exact h
  have h3 : (1 : Int) ≤ c.toInt := by rw [Int32.le_iff_toInt_le, show (1 : Int32).toInt = 1 from by decide] at hc; exact hc
  have h2 : (k - c).toInt = k.toInt - c.toInt := by
    have a := k.toInt_lt
    have b := c.toInt_lt
    rw [Int32.toInt_sub, Int.bmod_def]
    omega
  omega
theorem bLtN2 {a b : Int32} (h : ¬ b ≤ a) : a < b := by rw [Int32.lt_iff_toInt_lt]; rw [Int32.le_iff_toInt_le] at h; omega
theorem bDecA1 {x : Int32} {n : Nat} (h0 : ¬ x = 0) (h : ¬ x ≤ 0) (hn : x.toInt.natAbs < n + 1) : (x + (-1)).toInt.natAbs < n := by
  have h1 : (0 : Int) < x.toInt := by rw [Int32.le_iff_toInt_le, Int32.toInt_zero] at h; omega
  have h2 : (x + (-1)).toInt = x.toInt - 1 := by
    have a := x.toInt_lt
    rw [Int32.toInt_add, show (-1 : Int32).toInt = -1 from by decide, Int.bmod_def]
    omega
  omega
theorem bDecA2 {x : Int32} {n : Nat} (h0 : ¬ x = 0) (h : x ≤ 0) (hn : x.toInt.natAbs < n + 1) : (x + 1).toInt.natAbs < n := by
  have h3 : x.toInt ≠ 0 := fun q => h0 (Int32.toInt_inj.mp (by rw [q]; rfl))
  have h1 : x.toInt < 0 := by rw [Int32.le_iff_toInt_le, Int32.toInt_zero] at h; omega
  have h2 : (x + 1).toInt = x.toInt + 1 := by
    have a := x.le_toInt
    rw [Int32.toInt_add, show (1 : Int32).toInt = 1 from by decide, Int.bmod_def]
    omega
  omega
theorem bInT {sa : Nat} {le : Int32} (hsa : sa < 2 ^ 31) (hle : le ≤ nI 200) (h : ¬ le ≤ nI sa) : vp_in (nI sa) 200 := bIn (bNleS hsa (by decide) hle h) (by decide)
theorem upd_ne {f : Nat → Int32} {i j : Nat} {x : Int32} (h : j ≠ i) : upd f i x j = f j := by unfold upd; rw [if_neg (fun q => h q)]
theorem upd_eq {f : Nat → Int32} {i : Nat} {x : Int32} : upd f i x i = x := by unfold upd; rw [if_pos rfl]
theorem bPos {x : Int32} (h : ¬ x ≤ 0) : 0 < x := by rw [Int32.lt_iff_toInt_lt]; rw [Int32.le_iff_toInt_le] at h; omega
theorem bDec {x : Int32} {n : Nat} (h : 0 < x) (hn : x.toInt.toNat < n + 1) : (x + (-1)).toInt.toNat < n := by
  have h1 : (0 : Int) < x.toInt := by rw [Int32.lt_iff_toInt_lt, Int32.toInt_zero] at h; exact h
  have h2 : (x + (-1)).toInt = x.toInt - 1 := by
    have a := x.toInt_lt
    have b := x.le_toInt
    rw [Int32.toInt_add, show (-1 : Int32).toInt = -1 from by decide, Int.bmod_def]
    omega
  omega
theorem bAt {is : List Nat} {ws w : va_W} (hs : is.map (fun i => ws[i]?) = w.map some) : ∀ (k : Nat) (q : Nat × va_E), w[k]? = some q → ∃ i, is[k]? = some i ∧ ws[i]? = some q := by
  intro k q hq
  have h1 : (is.map (fun i => ws[i]?))[k]? = some (some q) := by rw [hs, List.getElem?_map, hq]; rfl
  rw [List.getElem?_map] at h1
  cases hi : is[k]? with
  | none => rw [hi] at h1; cases h1
  | some i => rw [hi] at h1; exact ⟨i, rfl, Option.some.inj h1⟩
theorem bAt' {is : List Nat} {ws w : va_W} (hs : is.map (fun i => ws[i]?) = w.map some) : ∀ (k i : Nat), is[k]? = some i → ∃ q, w[k]? = some q ∧ ws[i]? = some q := by
  intro k i hi
  have h1 : (w.map some)[k]? = some (ws[i]?) := by rw [← hs, List.getElem?_map, hi]; rfl
  rw [List.getElem?_map] at h1
  cases hq : w[k]? with
  | none => rw [hq] at h1; cases h1
  | some q => rw [hq] at h1; exact ⟨q, rfl, (Option.some.inj h1).symm⟩
theorem bFst {w1 wc : va_W} (h : w1.map (·.1) = wc.map (·.1)) {j : Nat} {q q' : Nat × va_E} (h1 : w1[j]? = some q) (h2 : wc[j]? = some q') : q.1 = q'.1 := by
  have e : (w1.map (·.1))[j]? = (wc.map (·.1))[j]? := by rw [h]
  rw [List.getElem?_map, List.getElem?_map, h1, h2] at e
  exact Option.some.inj e
/-- behind a call: the callee's cells in their places (isC), the others (isR) as they were -/
theorem bJoin2 {D : va_G} {A0 : Nat → Prop} {ws ws' wc w1 : va_W} {H H1 : Heap} (hP : va_P D vwCl ws H) (hD : va_D A0 ws) (isC isR : List Nat) (hC : isC.map (fun i => ws[i]?) = wc.map some) (hfst : w1.map (·.1) = wc.map (·.1)) (hC2 : isC.map (fun i => ws'[i]?) = w1.map some) (hR : isR.map (fun i => ws'[i]?) = isR.map (fun i => ws[i]?)) {nn : Nat} (hlen : ws'.length = nn) (hcov : (List.range nn).all (fun i => isC.contains i || isR.contains i) = true)
    (hk : ∀ q : Nat, q < H.size → ¬ va_A wc H.size q → H1[q]? = H[q]?) (hP1 : va_P D vwCl w1 H1) : va_P D vwCl ws' H1 ∧ va_D A0 ws' := by
  have get : ∀ (k : Nat) (q : Nat × va_E), ws'[k]? = some q → (k ∉ isC ∧ ws[k]? = some q) ∨ ∃ j : Nat, isC[j]? = some k ∧ w1[j]? = some q := by
    intro k q h
    by_cases hkc : k ∈ isC
    · obtain ⟨j, hj⟩ := List.getElem?_of_mem hkc
      obtain ⟨q', e1, e2⟩ := bAt' hC2 j k hj
      rw [h] at e2
      exact Or.inr ⟨j, hj, by rw [e1, ← e2]⟩
    · refine Or.inl ⟨hkc, ?_⟩
      have hl : k < ws'.length := (List.getElem?_eq_some_iff.mp h).1
      have h2 := List.all_eq_true.mp hcov k (List.mem_range.mpr (by rw [← hlen]; exact hl))
      have h3 : k ∈ isR := by
        rcases (Bool.or_eq_true _ _).mp h2 with q | q
        · exact absurd (List.contains_iff_mem.mp q) hkc
        · exact List.contains_iff_mem.mp q
      obtain ⟨j, hj⟩ := List.getElem?_of_mem h3
      have e : (isR.map (fun i => ws'[i]?))[j]? = (isR.map (fun i => ws[i]?))[j]? := by rw [hR]
      rw [List.getElem?_map, List.getElem?_map, hj] at e
      have e2 : ws'[k]? = ws[k]? := Option.some.inj e
      rw [← e2]; exact h
  have key : ∀ (k : Nat) (q : Nat × va_E), ws'[k]? = some q → ∃ q0, ws[k]? = some q0 ∧ q0.1 = q.1 := by
    intro k q h
    rcases get k q h with ⟨-, h2⟩ | ⟨j, h1, h2⟩
    · exact ⟨q, h2, rfl⟩
    · obtain ⟨q', e1, e2⟩ := bAt' hC j k h1
      exact ⟨q', e2, (bFst hfst h2 e1).symm⟩
  refine ⟨fun k q h => ?_, fun i j x y hi hj hxy => ?_, fun k q h => ?_⟩
  · rcases get k q h with ⟨h1, h2⟩ | ⟨j, -, h2⟩
    · refine (hP k q h2).kept (hk q.1 (hP k q h2).lt (fun z => ?_))
      rcases z with ⟨k2, e, z⟩ | z
      · obtain ⟨i, e1, e2⟩ := bAt hC k2 (q.1, e) z
        have hki : k = i := hD.1 k i q (q.1, e) h2 e2 rfl
        subst hki
        exact h1 (List.mem_of_getElem? e1)
      · exact absurd (hP k q h2).lt (Nat.not_lt.mpr z)
    · exact hP1 j q h2
  · obtain ⟨x0, a1, a2⟩ := key i x hi
    obtain ⟨y0, b1, b2⟩ := key j y hj
    exact hD.1 i j x0 y0 a1 b1 (a2.trans (hxy.trans b2.symm))
  · obtain ⟨q0, a1, a2⟩ := key k q h
    rw [← a2]
    exact hD.2 k q0 a1
/-- behind a call that leaves its cells as they were -/
theorem bJoin0 {D : va_G} {A0 : Nat → Prop} {ws wc : va_W} {H H1 : Heap} (hP : va_P D vwCl ws H) (hD : va_D A0 ws) (isC : List Nat) (hC : isC.map (fun i => ws[i]?) = wc.map some)
    (hk : ∀ q : Nat, q < H.size → ¬ va_A wc H.size q → H1[q]? = H[q]?) (hP1 : va_P D vwCl wc H1) : va_P D vwCl ws H1 := by
  intro k q h
  by_cases hc : ∃ (k2 : Nat) (e : va_E), wc[k2]? = some (q.1, e)
  · by_cases hkc : k ∈ isC
    · obtain ⟨j, hj⟩ := List.getElem?_of_mem hkc
      obtain ⟨q', e1, e2⟩ := bAt' hC j k hj
      rw [h] at e2
      cases e2
      exact hP1 j q e1
    · exact (hP k q h).kept (hk q.1 (hP k q h).lt (fun _ => by
        obtain ⟨k2, e, z⟩ := hc
        obtain ⟨i, e1, e2⟩ := bAt hC k2 (q.1, e) z
        have hki : k = i := hD.1 k i q (q.1, e) h e2 rfl
        subst hki
        exact hkc (List.mem_of_getElem? e1)))
  · refine (hP k q h).kept (hk q.1 (hP k q h).lt (fun z => ?_))
    rcases z with z | z
    · exact hc z
    · exact absurd (hP k q h).lt (Nat.not_lt.mpr z)
section BSW
variable {p : Program} {l : Launch} {e : Env} {R : Room} {s : State} {m : MethodId} {args : Array Value} {below : List Frame} {meth : Method} {c : Code} {H : Heap} {locs : List Loc} {cells slots : Nat} {Q : State → Prop} {cc : ByteArray} {pc : Nat} {ls : Array Slot} {rest : List Value}
theorem bSwD (hexec : p.tables.exec = Jvm.exec) (hb : c.code = cc) {dflt lo hi : Int} {offs : Array Int} {len : Nat} {x : Int32} {tgt : Nat} (hdg : decode cc pc = .ok (.tableswitch dflt lo hi offs, len)) (h : ∀ k : Nat, lo + k ≤ hi → x.toInt = lo + k → offs[k]? = some dflt) (ht : (pc : Int) + dflt = (tgt : Int))
    (k : W p l e R s m args below meth c H locs cells slots Q (F0 m tgt ls rest)) : W p l e R s m args below meth c H locs cells slots Q (F0 m pc ls (.int x :: rest)) := by
  by_cases h1 : x.toInt < lo
  · exact lv_tableOut hexec hb hdg (Or.inl h1) ht k
  · by_cases h2 : hi < x.toInt
    · exact lv_tableOut hexec hb hdg (Or.inr h2) ht k
    · exact lv_tableIn hexec hb hdg h1 h2 (h (x.toInt - lo).toNat (by omega) (by omega)) ht k
end BSW
section BROWS
variable {p : Program} {l : Launch} {e : Env} {R : Room} {s : State} {m : MethodId} {args : Array Value} {below : List Frame} {meth : Method} {c : Code} {H : Heap} {locs : List Loc} {cells slots : Nat} {Q : State → Prop}
variable {cc bytes : ByteArray} {pc nL maxL index n : Nat} {ls : Array Slot} {rest st0 As : List Value} {D : va_G} {cyC cyI : ClassId} {A : Nat → Prop} {a b : Nat} {ws ws' wc w1 : va_W} {H0 : Heap} {Ts wsy wsy' : List Cond} {own C host : String} {y : MethodName} {ret : Option FieldType} {rm : Room} {r v : Int32} {a0 : Nat}
theorem bEndI (X : bX p s m args c cc nL Ts own D cyC cyI) (Y : bY D A s.heap ws H locs) (hr : meth.sig.returnType = some .int) (hlk : meth.locks = false) (hdg : decode cc pc = .ok (.ireturn, 1)) (hv : v = r) (hw : ws = w1) : W p l e R s m args below meth c H locs 0 0 (bQI below args s D w1 r A) (F0 m pc ls [.int v]) := by
  subst hv; subst hw
  exact W.iret (v := v) X.1.1 X.1.2.1 hr (fun t ht _ => ⟨⟨v, (), rfl, rfl, by show va_P D vwCl ws t.heap; rw [ht]; exact Y.1⟩, Y.2.2.1.F ht⟩) Y.2.2.1.2.2 hdg hlk
theorem bEndZ (X : bX p s m args c cc nL Ts own D cyC cyI) (Y : bY D A s.heap ws H locs) (hr : meth.sig.returnType = some .boolean) (hlk : meth.locks = false) (hdg : decode cc pc = .ok (.ireturn, 1)) (hn : narrow .boolean (.int v) = .int v) (hv : v = r) (hw : ws = w1) : W p l e R s m args below meth c H locs 0 0 (bQI below args s D w1 r A) (F0 m pc ls [.int v]) := by
  subst hv; subst hw
  exact W.zret (v := v) X.1.1 X.1.2.1 hr hn (fun t ht _ => ⟨⟨v, (), rfl, rfl, by show va_P D vwCl ws t.heap; rw [ht]; exact Y.1⟩, Y.2.2.1.F ht⟩) Y.2.2.1.2.2 hdg hlk
theorem bEndV (X : bX p s m args c cc nL Ts own D cyC cyI) (Y : bY D A s.heap ws H locs) (hr : meth.sig.returnType = none) (hlk : meth.locks = false) (hdg : decode cc pc = .ok (.return_, 1)) (hw : ws = w1) : W p l e R s m args below meth c H locs 0 0 (bQV below args s D w1 A) (F0 m pc ls []) := by
  subst hw
  exact W.vret X.1.1 X.1.2.1 hr (fun t ht _ => ⟨⟨(), rfl, trivial, by show va_P D vwCl ws t.heap; rw [ht]; exact Y.1⟩, Y.2.2.1.F ht⟩) Y.2.2.1.2.2 hdg hlk
theorem bEndR {C : String} (X : bX p s m args c cc nL Ts own D cyC cyI) (Y : bY D A s.heap ws H locs) (hr : meth.sig.returnType = some (.object C)) (hlk : meth.locks = false) (hdg : decode cc pc = .ok (.areturn, 1)) (hv : a = a0) (hw : ws = w1) : W p l e R s m args below meth c H locs 0 0 (bQR below args s D w1 a0 A) (F0 m pc ls [.ref a]) := by
  subst hv; subst hw
  exact W.aret (v := .ref a) X.1.1 X.1.2.1 hr (Or.inl ⟨C, rfl⟩) (Or.inr ⟨a, rfl⟩) (fun t ht _ => ⟨⟨(), a, rfl, trivial, rfl, by show va_P D vwCl ws t.heap; rw [ht]; exact Y.1⟩, Y.2.2.1.F ht⟩) Y.2.2.1.2.2 hdg hlk
theorem bFree (Y : bY D A H0 ws H locs) {isC : List Nat} (hC : isC.map (fun i => ws[i]?) = wc.map some) : ∀ q, va_A wc H.size q → A q := va_free Y.2.1 Y.2.2.1 Y.2.2.2 isC hC
theorem bCut (Y : bY D A H0 ws H locs) (isC : List Nat) (hC : isC.map (fun i => ws[i]?) = wc.map some) (hnd : va_nd isC = true) : va_P D vwCl wc H ∧ va_D (fun _ => True) wc := by
  refine ⟨fun k q hq => ?_, fun i j x y hi hj hxy => ?_, fun _ _ _ => trivial⟩
  · obtain ⟨i, -, h2⟩ := bAt hC k q hq
    exact Y.1 i q h2
  · obtain ⟨i2, h1, h2⟩ := bAt hC i x hi
    obtain ⟨j2, h3, h4⟩ := bAt hC j y hj
    have h5 := Y.2.1.1 i2 j2 x y h2 h4 hxy
    subst h5
    exact va_nd_inj isC hnd i j i2 h1 h3
theorem bPre (X : bX p s m args c cc nL Ts own D cyC cyI) (hPc : va_P D vwCl wc H) (hDc : va_D (fun _ => True) wc) (av : List Value) : ∀ U : State, U.heap = H → s.WarmedH U.vm → va_Pc av (bP D cyC cyI wc H.size) av.toArray U :=
  fun U hU hW => ⟨rfl, by rw [hU], by rw [hU]; exact hPc, va_K.moved hW.alike X.2.1, hDc, bN.warm hW X.2.2⟩
/-- a call that answers a number -/
theorem bCallI (Y : bY D A H0 ws H locs) (isC isR : List Nat) (hC : isC.map (fun i => ws[i]?) = wc.map some) (hfst : w1.map (·.1) = wc.map (·.1)) (hC2 : isC.map (fun i => ws'[i]?) = w1.map some) (hR2 : isR.map (fun i => ws'[i]?) = isR.map (fun i => ws[i]?)) {nn : Nat} (hlen : ws'.length = nn) (hcov : (List.range nn).all (fun i => isC.contains i || isR.contains i) = true) {av : Array Value}
    (hr : va_Run p l e R s m args below meth c H locs cells slots 0 0 (F0 m pc ls st0) rest (va_Qi (fun (r' : Int32) (_ : Unit) => r' = r) (fun _ t => va_P D vwCl w1 t.heap) (va_A wc H.size) av) (va_A wc H.size))
    (kk : ∀ (H1 : Heap) (locs1 : List Loc), bY D A H0 ws' H1 locs1 → W p l e R s m args below meth c H1 locs1 cells slots Q (F0 m (pc + 3) ls (.int r :: rest))) : W p l e R s m args below meth c H locs cells slots Q (F0 m pc ls st0) := by
  have hF := bFree Y hC
  refine va_calli hr Y.2.2.1 (fun q _ h => hF q h) hF (fun r1 u t H1 locs1 ht hvm hw hB hz1 hk1 hS => ?_)
  rw [ht] at hB
  subst hw
  obtain ⟨g1, g2⟩ := bJoin2 Y.1 Y.2.1 isC isR hC hfst hC2 hR2 hlen hcov hk1 hB
  exact kk H1 locs1 ⟨g1, g2, hS, Y.2.2.2⟩
theorem bCallV (Y : bY D A H0 ws H locs) (isC isR : List Nat) (hC : isC.map (fun i => ws[i]?) = wc.map some) (hfst : w1.map (·.1) = wc.map (·.1)) (hC2 : isC.map (fun i => ws'[i]?) = w1.map some) (hR2 : isR.map (fun i => ws'[i]?) = isR.map (fun i => ws[i]?)) {nn : Nat} (hlen : ws'.length = nn) (hcov : (List.range nn).all (fun i => isC.contains i || isR.contains i) = true) {av : Array Value}
    (hr : va_Run p l e R s m args below meth c H locs cells slots 0 0 (F0 m pc ls st0) rest (va_Qv (fun (_ : Unit) => True) (fun _ t => va_P D vwCl w1 t.heap) (va_A wc H.size) av) (va_A wc H.size))
    (kk : ∀ (H1 : Heap) (locs1 : List Loc), bY D A H0 ws' H1 locs1 → W p l e R s m args below meth c H1 locs1 cells slots Q (F0 m (pc + 3) ls rest)) : W p l e R s m args below meth c H locs cells slots Q (F0 m pc ls st0) := by
  have hF := bFree Y hC
  refine va_callv hr Y.2.2.1 (fun q _ h => hF q h) hF (fun u t H1 locs1 ht hvm hw hB hz1 hk1 hS => ?_)
  rw [ht] at hB
  obtain ⟨g1, g2⟩ := bJoin2 Y.1 Y.2.1 isC isR hC hfst hC2 hR2 hlen hcov hk1 hB
  exact kk H1 locs1 ⟨g1, g2, hS, Y.2.2.2⟩
theorem bCallR (Y : bY D A H0 ws H locs) (isC isR : List Nat) (hC : isC.map (fun i => ws[i]?) = wc.map some) (hfst : w1.map (·.1) = wc.map (·.1)) (hC2 : isC.map (fun i => ws'[i]?) = w1.map some) (hR2 : isR.map (fun i => ws'[i]?) = isR.map (fun i => ws[i]?)) {nn : Nat} (hlen : ws'.length = nn) (hcov : (List.range nn).all (fun i => isC.contains i || isR.contains i) = true) {av : Array Value}
    (hr : va_Run p l e R s m args below meth c H locs cells slots 0 0 (F0 m pc ls st0) rest (va_Qr (fun (_ : Unit) => True) (fun _ a t => a = a0 ∧ va_P D vwCl w1 t.heap) (va_A wc H.size) av) (va_A wc H.size))
    (kk : ∀ (H1 : Heap) (locs1 : List Loc), bY D A H0 ws' H1 locs1 → W p l e R s m args below meth c H1 locs1 cells slots Q (F0 m (pc + 3) ls (.ref a0 :: rest))) : W p l e R s m args below meth c H locs cells slots Q (F0 m pc ls st0) := by
  have hF := bFree Y hC
  refine va_callr hr Y.2.2.1 (fun q _ h => hF q h) hF (fun u a t H1 locs1 ht hvm hw hB hz1 hk1 hS => ?_)
  obtain ⟨rfl, hB⟩ := hB
  rw [ht] at hB
  obtain ⟨g1, g2⟩ := bJoin2 Y.1 Y.2.1 isC isR hC hfst hC2 hR2 hlen hcov hk1 hB
  exact kk H1 locs1 ⟨g1, g2, hS, Y.2.2.2⟩
theorem bCallI0 (Y : bY D A H0 ws H locs) (isC : List Nat) (hC : isC.map (fun i => ws[i]?) = wc.map some) {av : Array Value}
    (hr : va_Run p l e R s m args below meth c H locs cells slots 0 0 (F0 m pc ls st0) rest (va_Qi (fun (r' : Int32) (_ : Unit) => r' = r) (fun _ t => va_P D vwCl wc t.heap) (va_A wc H.size) av) (va_A wc H.size))
    (kk : ∀ (H1 : Heap) (locs1 : List Loc), bY D A H0 ws H1 locs1 → W p l e R s m args below meth c H1 locs1 cells slots Q (F0 m (pc + 3) ls (.int r :: rest))) : W p l e R s m args below meth c H locs cells slots Q (F0 m pc ls st0) := by
  have hF := bFree Y hC
  refine va_calli hr Y.2.2.1 (fun q _ h => hF q h) hF (fun r1 u t H1 locs1 ht hvm hw hB hz1 hk1 hS => ?_)
  rw [ht] at hB
  subst hw
  have g1 := bJoin0 Y.1 Y.2.1 isC hC hk1 hB
  exact kk H1 locs1 ⟨g1, Y.2.1, hS, Y.2.2.2⟩
theorem bCallV0 (Y : bY D A H0 ws H locs) (isC : List Nat) (hC : isC.map (fun i => ws[i]?) = wc.map some) {av : Array Value}
    (hr : va_Run p l e R s m args below meth c H locs cells slots 0 0 (F0 m pc ls st0) rest (va_Qv (fun (_ : Unit) => True) (fun _ t => va_P D vwCl wc t.heap) (va_A wc H.size) av) (va_A wc H.size))
    (kk : ∀ (H1 : Heap) (locs1 : List Loc), bY D A H0 ws H1 locs1 → W p l e R s m args below meth c H1 locs1 cells slots Q (F0 m (pc + 3) ls rest)) : W p l e R s m args below meth c H locs cells slots Q (F0 m pc ls st0) := by
  have hF := bFree Y hC
  refine va_callv hr Y.2.2.1 (fun q _ h => hF q h) hF (fun u t H1 locs1 ht hvm hw hB hz1 hk1 hS => ?_)
  rw [ht] at hB
  have g1 := bJoin0 Y.1 Y.2.1 isC hC hk1 hB
  exact kk H1 locs1 ⟨g1, Y.2.1, hS, Y.2.2.2⟩
theorem bCallR0 (Y : bY D A H0 ws H locs) (isC : List Nat) (hC : isC.map (fun i => ws[i]?) = wc.map some) {av : Array Value}
    (hr : va_Run p l e R s m args below meth c H locs cells slots 0 0 (F0 m pc ls st0) rest (va_Qr (fun (_ : Unit) => True) (fun _ a t => a = a0 ∧ va_P D vwCl wc t.heap) (va_A wc H.size) av) (va_A wc H.size))
    (kk : ∀ (H1 : Heap) (locs1 : List Loc), bY D A H0 ws H1 locs1 → W p l e R s m args below meth c H1 locs1 cells slots Q (F0 m (pc + 3) ls (.ref a0 :: rest))) : W p l e R s m args below meth c H locs cells slots Q (F0 m pc ls st0) := by
  have hF := bFree Y hC
  refine va_callr hr Y.2.2.1 (fun q _ h => hF q h) hF (fun u a t H1 locs1 ht hvm hw hB hz1 hk1 hS => ?_)
  obtain ⟨rfl, hB⟩ := hB
  rw [ht] at hB
  have g1 := bJoin0 Y.1 Y.2.1 isC hC hk1 hB
  exact kk H1 locs1 ⟨g1, Y.2.1, hS, Y.2.2.2⟩
abbrev bD1 (y : MethodName) (C : String) (n : Nat) : Prop := y.cls = C ∧ y.cls ≠ "java/lang/invoke/MethodHandle" ∧ y.cls ≠ "java/lang/invoke/VarHandle" ∧ (parseMethodDescriptor y.desc).map (fun d => d.parameters.length) = some n
/-- invokevirtual -/
theorem bVI (X : bX p s m args c cc nL Ts own D cyC cyI) (Y : bY D A H0 ws H locs) (hM : CI l y wsy rm D cyC cyI (.ref b :: As) wc r w1) (hG : GoodIn Ts (wsV own index C y wsy)) (hw : wsy = Cond.code y bytes maxL ret :: wsy') (hrm : rm.cells = 0 ∧ rm.slots = 0) (hd : bD1 y C n) (hR : rm.frames + 1 ≤ R.frames ∧ 8 + (maxL + 11) + rm.locals ≤ R.locals)
    {ci q0 : Nat} {q : vw_C} {fs : List Value} (hc : vwCl[ci]? = some q) (hqC : q.1 = C) (he : ws[q0]? = some (b, .inr (ci, fs))) (isC isR : List Nat) (hnd : va_nd isC = true) (hC : isC.map (fun i => ws[i]?) = wc.map some) {ad : List Nat} (hf1 : w1.map (·.1) = ad) (hf2 : wc.map (·.1) = ad) (hC2 : isC.map (fun i => ws'[i]?) = w1.map some) {wr : va_W} (hR2 : isR.map (fun i => ws'[i]?) = wr.map some) (hR3 : isR.map (fun i => ws[i]?) = wr.map some) {nn : Nat} (hlen : ws'.length = nn) (hcov : (List.range nn).all (fun i => isC.contains i || isR.contains i) = true)
    (hn : As.length = n) (hst : st0 = As.reverse ++ .ref b :: rest) (hsz : ls.size = nL) (hroom : (rest.map fun v => v.category).sum ≤ 8) (hcl : cells ≤ R.cells ∧ slots ≤ R.slots) (hdg : decode cc pc = .ok (.invokevirtual index, 3))
    (kk : ∀ (H1 : Heap) (locs1 : List Loc), bY D A H0 ws' H1 locs1 → W p l e R s m args below meth c H1 locs1 cells slots Q (F0 m (pc + 3) ls (.int r :: rest))) : W p l e R s m args below meth c H locs cells slots Q (F0 m pc ls st0) := by
  subst hqC
  obtain ⟨hPc, hDc⟩ := bCut Y isC hC hnd
  exact bCallI Y isC isR hC (hf1.trans hf2.symm) hC2 (hR2.trans hR3.symm) hlen hcov (va_runV (As := As) (rest := rest) X.1 (hM H.size) (cwV n X.1.2.2.2.2 hG hw hrm.1 hrm.2 hd hR) ⟨bP.blind, va_recv X.2.1 Y.1 hc he, bPre X hPc hDc _⟩ rfl hn hsz hst (lv_room hroom) hdg ⟨hcl.1, hcl.2⟩) kk
theorem bVV (X : bX p s m args c cc nL Ts own D cyC cyI) (Y : bY D A H0 ws H locs) (hM : CV l y wsy rm D cyC cyI (.ref b :: As) wc w1) (hG : GoodIn Ts (wsV own index C y wsy)) (hw : wsy = Cond.code y bytes maxL ret :: wsy') (hrm : rm.cells = 0 ∧ rm.slots = 0) (hd : bD1 y C n) (hR : rm.frames + 1 ≤ R.frames ∧ 8 + (maxL + 11) + rm.locals ≤ R.locals)
    {ci q0 : Nat} {q : vw_C} {fs : List Value} (hc : vwCl[ci]? = some q) (hqC : q.1 = C) (he : ws[q0]? = some (b, .inr (ci, fs))) (isC isR : List Nat) (hnd : va_nd isC = true) (hC : isC.map (fun i => ws[i]?) = wc.map some) {ad : List Nat} (hf1 : w1.map (·.1) = ad) (hf2 : wc.map (·.1) = ad) (hC2 : isC.map (fun i => ws'[i]?) = w1.map some) {wr : va_W} (hR2 : isR.map (fun i => ws'[i]?) = wr.map some) (hR3 : isR.map (fun i => ws[i]?) = wr.map some) {nn : Nat} (hlen : ws'.length = nn) (hcov : (List.range nn).all (fun i => isC.contains i || isR.contains i) = true)
    (hn : As.length = n) (hst : st0 = As.reverse ++ .ref b :: rest) (hsz : ls.size = nL) (hroom : (rest.map fun v => v.category).sum ≤ 8) (hcl : cells ≤ R.cells ∧ slots ≤ R.slots) (hdg : decode cc pc = .ok (.invokevirtual index, 3))
    (kk : ∀ (H1 : Heap) (locs1 : List Loc), bY D A H0 ws' H1 locs1 → W p l e R s m args below meth c H1 locs1 cells slots Q (F0 m (pc + 3) ls rest)) : W p l e R s m args below meth c H locs cells slots Q (F0 m pc ls st0) := by
  subst hqC
  obtain ⟨hPc, hDc⟩ := bCut Y isC hC hnd
  exact bCallV Y isC isR hC (hf1.trans hf2.symm) hC2 (hR2.trans hR3.symm) hlen hcov (va_runV (As := As) (rest := rest) X.1 (hM H.size) (cwV n X.1.2.2.2.2 hG hw hrm.1 hrm.2 hd hR) ⟨bP.blind, va_recv X.2.1 Y.1 hc he, bPre X hPc hDc _⟩ rfl hn hsz hst (lv_room hroom) hdg ⟨hcl.1, hcl.2⟩) kk
theorem bVR (X : bX p s m args c cc nL Ts own D cyC cyI) (Y : bY D A H0 ws H locs) (hM : CR l y wsy rm D cyC cyI (.ref b :: As) wc a0 w1) (hG : GoodIn Ts (wsV own index C y wsy)) (hw : wsy = Cond.code y bytes maxL ret :: wsy') (hrm : rm.cells = 0 ∧ rm.slots = 0) (hd : bD1 y C n) (hR : rm.frames + 1 ≤ R.frames ∧ 8 + (maxL + 11) + rm.locals ≤ R.locals)
    {ci q0 : Nat} {q : vw_C} {fs : List Value} (hc : vwCl[ci]? = some q) (hqC : q.1 = C) (he : ws[q0]? = some (b, .inr (ci, fs))) (isC isR : List Nat) (hnd : va_nd isC = true) (hC : isC.map (fun i => ws[i]?) = wc.map some) {ad : List Nat} (hf1 : w1.map (·.1) = ad) (hf2 : wc.map (·.1) = ad) (hC2 : isC.map (fun i => ws'[i]?) = w1.map some) {wr : va_W} (hR2 : isR.map (fun i => ws'[i]?) = wr.map some) (hR3 : isR.map (fun i => ws[i]?) = wr.map some) {nn : Nat} (hlen : ws'.length = nn) (hcov : (List.range nn).all (fun i => isC.contains i || isR.contains i) = true)
    (hn : As.length = n) (hst : st0 = As.reverse ++ .ref b :: rest) (hsz : ls.size = nL) (hroom : (rest.map fun v => v.category).sum ≤ 8) (hcl : cells ≤ R.cells ∧ slots ≤ R.slots) (hdg : decode cc pc = .ok (.invokevirtual index, 3))
    (kk : ∀ (H1 : Heap) (locs1 : List Loc), bY D A H0 ws' H1 locs1 → W p l e R s m args below meth c H1 locs1 cells slots Q (F0 m (pc + 3) ls (.ref a0 :: rest))) : W p l e R s m args below meth c H locs cells slots Q (F0 m pc ls st0) := by
  subst hqC
  obtain ⟨hPc, hDc⟩ := bCut Y isC hC hnd
  exact bCallR Y isC isR hC (hf1.trans hf2.symm) hC2 (hR2.trans hR3.symm) hlen hcov (va_runV (As := As) (rest := rest) X.1 (hM H.size) (cwV n X.1.2.2.2.2 hG hw hrm.1 hrm.2 hd hR) ⟨bP.blind, va_recv X.2.1 Y.1 hc he, bPre X hPc hDc _⟩ rfl hn hsz hst (lv_room hroom) hdg ⟨hcl.1, hcl.2⟩) kk
theorem bVI0 (X : bX p s m args c cc nL Ts own D cyC cyI) (Y : bY D A H0 ws H locs) (hM : CI l y wsy rm D cyC cyI (.ref b :: As) wc r wc) (hG : GoodIn Ts (wsV own index C y wsy)) (hw : wsy = Cond.code y bytes maxL ret :: wsy') (hrm : rm.cells = 0 ∧ rm.slots = 0) (hd : bD1 y C n) (hR : rm.frames + 1 ≤ R.frames ∧ 8 + (maxL + 11) + rm.locals ≤ R.locals)
    {ci q0 : Nat} {q : vw_C} {fs : List Value} (hc : vwCl[ci]? = some q) (hqC : q.1 = C) (he : ws[q0]? = some (b, .inr (ci, fs))) (isC : List Nat) (hnd : va_nd isC = true) (hC : isC.map (fun i => ws[i]?) = wc.map some)
    (hn : As.length = n) (hst : st0 = As.reverse ++ .ref b :: rest) (hsz : ls.size = nL) (hroom : (rest.map fun v => v.category).sum ≤ 8) (hcl : cells ≤ R.cells ∧ slots ≤ R.slots) (hdg : decode cc pc = .ok (.invokevirtual index, 3))
    (kk : ∀ (H1 : Heap) (locs1 : List Loc), bY D A H0 ws H1 locs1 → W p l e R s m args below meth c H1 locs1 cells slots Q (F0 m (pc + 3) ls (.int r :: rest))) : W p l e R s m args below meth c H locs cells slots Q (F0 m pc ls st0) := by
  subst hqC
  obtain ⟨hPc, hDc⟩ := bCut Y isC hC hnd
  exact bCallI0 Y isC hC (va_runV (As := As) (rest := rest) X.1 (hM H.size) (cwV n X.1.2.2.2.2 hG hw hrm.1 hrm.2 hd hR) ⟨bP.blind, va_recv X.2.1 Y.1 hc he, bPre X hPc hDc _⟩ rfl hn hsz hst (lv_room hroom) hdg ⟨hcl.1, hcl.2⟩) kk
theorem bVV0 (X : bX p s m args c cc nL Ts own D cyC cyI) (Y : bY D A H0 ws H locs) (hM : CV l y wsy rm D cyC cyI (.ref b :: As) wc wc) (hG : GoodIn Ts (wsV own index C y wsy)) (hw : wsy = Cond.code y bytes maxL ret :: wsy') (hrm : rm.cells = 0 ∧ rm.slots = 0) (hd : bD1 y C n) (hR : rm.frames + 1 ≤ R.frames ∧ 8 + (maxL + 11) + rm.locals ≤ R.locals)
    {ci q0 : Nat} {q : vw_C} {fs : List Value} (hc : vwCl[ci]? = some q) (hqC : q.1 = C) (he : ws[q0]? = some (b, .inr (ci, fs))) (isC : List Nat) (hnd : va_nd isC = true) (hC : isC.map (fun i => ws[i]?) = wc.map some)
    (hn : As.length = n) (hst : st0 = As.reverse ++ .ref b :: rest) (hsz : ls.size = nL) (hroom : (rest.map fun v => v.category).sum ≤ 8) (hcl : cells ≤ R.cells ∧ slots ≤ R.slots) (hdg : decode cc pc = .ok (.invokevirtual index, 3))
    (kk : ∀ (H1 : Heap) (locs1 : List Loc), bY D A H0 ws H1 locs1 → W p l e R s m args below meth c H1 locs1 cells slots Q (F0 m (pc + 3) ls rest)) : W p l e R s m args below meth c H locs cells slots Q (F0 m pc ls st0) := by
  subst hqC
  obtain ⟨hPc, hDc⟩ := bCut Y isC hC hnd
  exact bCallV0 Y isC hC (va_runV (As := As) (rest := rest) X.1 (hM H.size) (cwV n X.1.2.2.2.2 hG hw hrm.1 hrm.2 hd hR) ⟨bP.blind, va_recv X.2.1 Y.1 hc he, bPre X hPc hDc _⟩ rfl hn hsz hst (lv_room hroom) hdg ⟨hcl.1, hcl.2⟩) kk
theorem bVR0 (X : bX p s m args c cc nL Ts own D cyC cyI) (Y : bY D A H0 ws H locs) (hM : CR l y wsy rm D cyC cyI (.ref b :: As) wc a0 wc) (hG : GoodIn Ts (wsV own index C y wsy)) (hw : wsy = Cond.code y bytes maxL ret :: wsy') (hrm : rm.cells = 0 ∧ rm.slots = 0) (hd : bD1 y C n) (hR : rm.frames + 1 ≤ R.frames ∧ 8 + (maxL + 11) + rm.locals ≤ R.locals)
    {ci q0 : Nat} {q : vw_C} {fs : List Value} (hc : vwCl[ci]? = some q) (hqC : q.1 = C) (he : ws[q0]? = some (b, .inr (ci, fs))) (isC : List Nat) (hnd : va_nd isC = true) (hC : isC.map (fun i => ws[i]?) = wc.map some)
    (hn : As.length = n) (hst : st0 = As.reverse ++ .ref b :: rest) (hsz : ls.size = nL) (hroom : (rest.map fun v => v.category).sum ≤ 8) (hcl : cells ≤ R.cells ∧ slots ≤ R.slots) (hdg : decode cc pc = .ok (.invokevirtual index, 3))
    (kk : ∀ (H1 : Heap) (locs1 : List Loc), bY D A H0 ws H1 locs1 → W p l e R s m args below meth c H1 locs1 cells slots Q (F0 m (pc + 3) ls (.ref a0 :: rest))) : W p l e R s m args below meth c H locs cells slots Q (F0 m pc ls st0) := by
  subst hqC
  obtain ⟨hPc, hDc⟩ := bCut Y isC hC hnd
  exact bCallR0 Y isC hC (va_runV (As := As) (rest := rest) X.1 (hM H.size) (cwV n X.1.2.2.2.2 hG hw hrm.1 hrm.2 hd hR) ⟨bP.blind, va_recv X.2.1 Y.1 hc he, bPre X hPc hDc _⟩ rfl hn hsz hst (lv_room hroom) hdg ⟨hcl.1, hcl.2⟩) kk
/-- a static call without cells -/
theorem bSI (X : bX p s m args c cc nL Ts own D cyC cyI) (Y : bY D A H0 ws H locs) (hM : CI l y wsy rm D cyC cyI As [] r []) (hG : GoodIn Ts (va_wsS own index y wsy)) (hw : wsy = Cond.code y bytes maxL ret :: wsy') (hrm : rm.cells = 0 ∧ rm.slots = 0) (hd : y.cls ≠ "java/lang/invoke/MethodHandle" ∧ y.cls ≠ "java/lang/invoke/VarHandle" ∧ (parseMethodDescriptor y.desc).map (fun d => d.parameters.length) = some n) (hR : rm.frames + 1 ≤ R.frames ∧ 8 + (maxL + 11) + rm.locals ≤ R.locals)
    (hn : As.length = n) (hst : st0 = As.reverse ++ rest) (hsz : ls.size = nL) (hroom : (rest.map fun v => v.category).sum ≤ 8) (hcl : cells ≤ R.cells ∧ slots ≤ R.slots) (hdg : decode cc pc = .ok (.invokestatic index, 3))
    (kk : ∀ (H1 : Heap) (locs1 : List Loc), bY D A H0 ws H1 locs1 → W p l e R s m args below meth c H1 locs1 cells slots Q (F0 m (pc + 3) ls (.int r :: rest))) : W p l e R s m args below meth c H locs cells slots Q (F0 m pc ls st0) := by
  obtain ⟨hPc, hDc⟩ := bCut (wc := []) Y [] rfl rfl
  have hts := X.1.2.2.2.2
  have ok : ∀ w ∈ va_wsS own index y wsy, w.before args s = true := fun w h => hts w (hG w h).1
  exact bCallI0 Y [] rfl (va_runS (As := As) (rest := rest) X.1 (hM H.size) ⟨callB_of n hts (fun w h => hG w (by unfold va_wsS; exact List.mem_append_right _ h)) hw hrm.1 hrm.2 (ok _ (by simp [va_wsS])) (ok _ (by simp [va_wsS])) hd hR, ok _ (by simp [va_wsS])⟩ ⟨bP.blind, bPre X hPc hDc _⟩ rfl hn hsz hst (lv_room hroom) hdg ⟨hcl.1, hcl.2⟩) kk
/-- a static call of a nest mate's private method, without cells -/
theorem bNI (X : bX p s m args c cc nL Ts own D cyC cyI) (Y : bY D A H0 ws H locs) (hM : CI l y wsy rm D cyC cyI As [] r []) (hG : GoodIn Ts wsy) (hw : wsy = Cond.code y bytes maxL ret :: wsy') (hrm : rm.cells = 0 ∧ rm.slots = 0) (hd : y.cls ≠ "java/lang/invoke/MethodHandle" ∧ y.cls ≠ "java/lang/invoke/VarHandle" ∧ (parseMethodDescriptor y.desc).map (fun d => d.parameters.length) = some n) (hR : rm.frames + 1 ≤ R.frames ∧ 8 + (maxL + 11) + rm.locals ≤ R.locals)
    (k : Nat) (hk : bL[k]? = some (own, index, y, host)) (hini : Cond.initialized y.cls ∈ Ts) (hstt : Cond.static y ∈ Ts)
    (hn : As.length = n) (hst : st0 = As.reverse ++ rest) (hsz : ls.size = nL) (hroom : (rest.map fun v => v.category).sum ≤ 8) (hcl : cells ≤ R.cells ∧ slots ≤ R.slots) (hdg : decode cc pc = .ok (.invokestatic index, 3))
    (kk : ∀ (H1 : Heap) (locs1 : List Loc), bY D A H0 ws H1 locs1 → W p l e R s m args below meth c H1 locs1 cells slots Q (F0 m (pc + 3) ls (.int r :: rest))) : W p l e R s m args below meth c H locs cells slots Q (F0 m pc ls st0) := by
  obtain ⟨hPc, hDc⟩ := bCut (wc := []) Y [] rfl rfl
  have hts := X.1.2.2.2.2
  exact bCallI0 Y [] rfl (va_runSN (host := host) (As := As) (rest := rest) X.1 (hM H.size) ⟨va_cnB n hts hG hw hrm.1 hrm.2 (X.2.2 _ (List.mem_of_getElem? hk)) (hts _ hini) hd hR, hts _ hstt, trivial⟩ ⟨bP.blind, bPre X hPc hDc _⟩ rfl hn hsz hst (lv_room hroom) hdg ⟨hcl.1, hcl.2⟩) kk
theorem bAbs (X : bX p s m args c cc nL Ts own D cyC cyI) (hsz : ls.size = nL) (hlink : Cond.methodLink own index Lib.Math.abs.name ∈ Ts) (hstat : Cond.static Lib.Math.abs.name ∈ Ts) (hini : Cond.initialized "java/lang/Math" ∈ Ts) (hcode : Cond.code Lib.Math.abs.name Lib.Math.abs.code 1 (some .int) ∈ Ts)
    (hframes : 1 ≤ R.frames) (hlocals : (rest.map fun v => v.category).sum + 13 ≤ R.locals) (hcl : cells ≤ R.cells ∧ slots ≤ R.slots) {x : Int32} (hdg : decode cc pc = .ok (.invokestatic index, 3)) (hv : (if 0 ≤ x then x else 0 - x) = v)
    (kk : W p l e R s m args below meth c H locs cells slots Q (F0 m (pc + 3) ls (.int v :: rest))) : W p l e R s m args below meth c H locs cells slots Q (F0 m pc ls (.int x :: rest)) := by
  subst hv
  have hts := X.1.2.2.2.2
  exact va_mabs X.1.1 X.1.2.1 (X.1.2.2.1.trans hsz.symm) X.1.2.2.2.1 (hts _ hlink) (hts _ hstat) (hts _ hini) (hts _ hcode) hframes hlocals hcl.1 hcl.2 hdg kk
theorem bMax (X : bX p s m args c cc nL Ts own D cyC cyI) (hsz : ls.size = nL) (hlink : Cond.methodLink own index Lib.Math.max.name ∈ Ts) (hstat : Cond.static Lib.Math.max.name ∈ Ts) (hini : Cond.initialized "java/lang/Math" ∈ Ts) (hcode : Cond.code Lib.Math.max.name Lib.Math.max.code 2 (some .int) ∈ Ts)
    (hframes : 1 ≤ R.frames) (hlocals : (rest.map fun v => v.category).sum + 13 ≤ R.locals) (hcl : cells ≤ R.cells ∧ slots ≤ R.slots) {x z : Int32} (hdg : decode cc pc = .ok (.invokestatic index, 3)) (hv : (if x < z then z else x) = v)
    (kk : W p l e R s m args below meth c H locs cells slots Q (F0 m (pc + 3) ls (.int v :: rest))) : W p l e R s m args below meth c H locs cells slots Q (F0 m pc ls (.int z :: .int x :: rest)) := by
  subst hv
  have hts := X.1.2.2.2.2
  exact va_mmax X.1.1 X.1.2.1 (X.1.2.2.1.trans hsz.symm) X.1.2.2.2.1 (hts _ hlink) (hts _ hstat) (hts _ hini) (hts _ hcode) hframes hlocals hcl.1 hcl.2 hdg kk
theorem bMin (X : bX p s m args c cc nL Ts own D cyC cyI) (hsz : ls.size = nL) (hlink : Cond.methodLink own index Lib.Math.min.name ∈ Ts) (hstat : Cond.static Lib.Math.min.name ∈ Ts) (hini : Cond.initialized "java/lang/Math" ∈ Ts) (hcode : Cond.code Lib.Math.min.name Lib.Math.min.code 2 (some .int) ∈ Ts)
    (hframes : 1 ≤ R.frames) (hlocals : (rest.map fun v => v.category).sum + 13 ≤ R.locals) (hcl : cells ≤ R.cells ∧ slots ≤ R.slots) {x z : Int32} (hdg : decode cc pc = .ok (.invokestatic index, 3)) (hv : (if z < x then z else x) = v)
    (kk : W p l e R s m args below meth c H locs cells slots Q (F0 m (pc + 3) ls (.int v :: rest))) : W p l e R s m args below meth c H locs cells slots Q (F0 m pc ls (.int z :: .int x :: rest)) := by
  subst hv
  have hts := X.1.2.2.2.2
  exact va_mmin X.1.1 X.1.2.1 (X.1.2.2.1.trans hsz.symm) X.1.2.2.2.1 (hts _ hlink) (hts _ hstat) (hts _ hini) (hts _ hcode) hframes hlocals hcl.1 hcl.2 hdg kk
theorem bGet (X : bX p s m args c cc nL Ts own D cyC cyI) (Y : bY D A H0 ws H locs) {ref C : String} {T : u_T} {N ci : Nat} (hin : ∀ w ∈ u_ws C T N, w ∈ Ts) (q0 : Nat) {fs : List Value} (he : ws[q0]? = some (a, .inr (ci, fs))) (hc : vwCl[ci]? = some (C, T, N)) (k : Nat) (hk : k < N) (hlink : Cond.fieldLink own index ref (T k).2.1 (T k).2.2.1 ∈ Ts) (href : (T k).1 = ref) {v : Value} (hv : fs[k]? = some v) (hdg : decode cc pc = .ok (.getfield index, 3))
    (kk : W p l e R s m args below meth c H locs cells slots Q (F0 m (pc + 3) ls (v :: rest))) : W p l e R s m args below meth c H locs cells slots Q (F0 m pc ls (.ref a :: rest)) :=
  va_get X.1.1 X.1.2.1 X.1.2.2.2.2 hin X.1.2.2.2.1 X.2.1 Y.1 q0 he hc k hk (X.1.2.2.2.2 _ hlink) (fun _ h => by rw [← href]; exact h) hv hdg kk
theorem bPut (X : bX p s m args c cc nL Ts own D cyC cyI) (Y : bY D A H0 ws H locs) {ref C : String} {T : u_T} {N ci : Nat} (hin : ∀ w ∈ u_ws C T N, w ∈ Ts) (ty0 : Nat → FieldType) (hty : ∀ k, k < N → parseFieldDescriptor (T k).2.2.1 = some (ty0 k)) (hnm : ∀ a, a < N → ∀ b, b < N → a ≠ b → (T a).2.1 ≠ (T b).2.1) (q0 : Nat) {fs : List Value} (he : ws[q0]? = some (a, .inr (ci, fs))) (hc : vwCl[ci]? = some (C, T, N)) (k : Nat) (hk : k < N) (hlink : Cond.fieldLink own index ref (T k).2.1 (T k).2.2.1 ∈ Ts) (href : (T k).1 = ref) (hfin : (T k).2.2.2 = false) {v : Value} (hn : narrow (ty0 k) v = v) (hfit : fits (ty0 k) v = true) (hl : k < fs.length) (hws : ws.set q0 (a, .inr (ci, fs.set k v)) = ws') (hdg : decode cc pc = .ok (.putfield index, 3))
    (kk : ∀ (H1 : Heap) (locs1 : List Loc), bY D A H0 ws' H1 locs1 → W p l e R s m args below meth c H1 locs1 cells slots Q (F0 m (pc + 3) ls rest)) : W p l e R s m args below meth c H locs cells slots Q (F0 m pc ls (v :: .ref a :: rest)) := by
  subst hws
  exact va_put X.1.1 X.1.2.1 X.1.2.2.2.2 hin ty0 hty hnm X.1.2.2.2.1 X.2.1 Y.1 Y.2.1 Y.2.2.1 q0 he hc k hk (X.1.2.2.2.2 _ hlink) (fun _ h => by rw [← href]; exact h) hfin (hty k hk) hn hfit hl hdg (fun H1 locs1 h1 h2 h3 => kk H1 locs1 ⟨h1, h2, h3, Y.2.2.2⟩)
theorem bIald (X : bX p s m args c cc nL Ts own D cyC cyI) (Y : bY D A H0 ws H locs) (q0 : Nat) {n : Nat} {f : Nat → Int32} (ha : ws[q0]? = some (a, .inl (cyI, n, .inl f))) {i : Int32} (hin : vp_in i n) (hdg : decode cc pc = .ok (.iaload, 1)) (hv : f i.toNatClampNeg = v)
    (kk : W p l e R s m args below meth c H locs cells slots Q (F0 m (pc + 1) ls (.int v :: rest))) : W p l e R s m args below meth c H locs cells slots Q (F0 m pc ls (.int i :: .ref a :: rest)) := by
  subst hv
  exact va_iald X.1.1 X.1.2.1 X.2.1 Y.1 q0 1 ha rfl hin hdg kk
theorem bCald (X : bX p s m args c cc nL Ts own D cyC cyI) (Y : bY D A H0 ws H locs) (q0 : Nat) {n : Nat} {f : Nat → Int32} (ha : ws[q0]? = some (a, .inl (cyC, n, .inl f))) {i : Int32} (hin : vp_in i n) (hdg : decode cc pc = .ok (.caload, 1)) (hv : f i.toNatClampNeg = v)
    (kk : W p l e R s m args below meth c H locs cells slots Q (F0 m (pc + 1) ls (.int v :: rest))) : W p l e R s m args below meth c H locs cells slots Q (F0 m pc ls (.int i :: .ref a :: rest)) := by
  subst hv
  exact va_cald X.1.1 X.1.2.1 X.2.1 Y.1 q0 0 ha rfl hin hdg kk
theorem bIast (X : bX p s m args c cc nL Ts own D cyC cyI) (Y : bY D A H0 ws H locs) (q0 : Nat) {n : Nat} {f f' : Nat → Int32} (ha : ws[q0]? = some (a, .inl (cyI, n, .inl f))) {i x : Int32} (hin : vp_in i n) (hf : upd f i.toNatClampNeg x = f') (hws : ws.set q0 (a, .inl (cyI, n, .inl f')) = ws') (hdg : decode cc pc = .ok (.iastore, 1))
    (kk : ∀ (H1 : Heap) (locs1 : List Loc), bY D A H0 ws' H1 locs1 → W p l e R s m args below meth c H1 locs1 cells slots Q (F0 m (pc + 1) ls rest)) : W p l e R s m args below meth c H locs cells slots Q (F0 m pc ls (.int x :: .int i :: .ref a :: rest)) := by
  subst hf; subst hws
  exact va_iast X.1.1 X.1.2.1 X.2.1 Y.1 Y.2.1 Y.2.2.1 q0 1 ha rfl hin hdg (fun H1 locs1 h1 h2 h3 => kk H1 locs1 ⟨h1, h2, h3, Y.2.2.2⟩)
theorem bCast (X : bX p s m args c cc nL Ts own D cyC cyI) (Y : bY D A H0 ws H locs) (q0 : Nat) {n : Nat} {f f' : Nat → Int32} (ha : ws[q0]? = some (a, .inl (cyC, n, .inl f))) {i x : Int32} (hin : vp_in i n) (hf : upd f i.toNatClampNeg (vp_nar .char x) = f') (hws : ws.set q0 (a, .inl (cyC, n, .inl f')) = ws') (hdg : decode cc pc = .ok (.castore, 1))
    (kk : ∀ (H1 : Heap) (locs1 : List Loc), bY D A H0 ws' H1 locs1 → W p l e R s m args below meth c H1 locs1 cells slots Q (F0 m (pc + 1) ls rest)) : W p l e R s m args below meth c H locs cells slots Q (F0 m pc ls (.int x :: .int i :: .ref a :: rest)) := by
  subst hf; subst hws
  exact va_cast X.1.1 X.1.2.1 X.2.1 Y.1 Y.2.1 Y.2.2.1 q0 0 ha rfl hin hdg (fun H1 locs1 h1 h2 h3 => kk H1 locs1 ⟨h1, h2, h3, Y.2.2.2⟩)
theorem bLen (X : bX p s m args c cc nL Ts own D cyC cyI) (Y : bY D A H0 ws H locs) (q0 t0 : Nat) {cA : ClassId} {x : vp_A} (ha : ws[q0]? = some (a, .inl (cA, x))) {ty : FieldType} (ht : (bT cyC cyI)[t0]? = some (cA, ty)) (hv : Int32.ofNat x.1 = v) (hdg : decode cc pc = .ok (.arraylength, 1))
    (kk : W p l e R s m args below meth c H locs cells slots Q (F0 m (pc + 1) ls (.int v :: rest))) : W p l e R s m args below meth c H locs cells slots Q (F0 m pc ls (.ref a :: rest)) :=
  va_alen X.1.1 X.1.2.1 X.2.1 Y.1 q0 t0 ha ht hv hdg kk
theorem bAdd (X : bX p s m args c cc nL Ts own D cyC cyI) {x z : Int32} (hdg : decode cc pc = .ok (.iadd, 1)) (hv : x + z = v) (k : W p l e R s m args below meth c H locs cells slots Q (F0 m (pc + 1) ls (.int v :: rest))) : W p l e R s m args below meth c H locs cells slots Q (F0 m pc ls (.int z :: .int x :: rest)) := by
  subst hv; exact lv_iadd X.1.1 X.1.2.1 hdg k
theorem bSub (X : bX p s m args c cc nL Ts own D cyC cyI) {x z : Int32} (hdg : decode cc pc = .ok (.isub, 1)) (hv : x - z = v) (k : W p l e R s m args below meth c H locs cells slots Q (F0 m (pc + 1) ls (.int v :: rest))) : W p l e R s m args below meth c H locs cells slots Q (F0 m pc ls (.int z :: .int x :: rest)) := by
  subst hv; exact lv_isub X.1.1 X.1.2.1 hdg k
theorem bMul (X : bX p s m args c cc nL Ts own D cyC cyI) {x z : Int32} (hdg : decode cc pc = .ok (.imul, 1)) (hv : x * z = v) (k : W p l e R s m args below meth c H locs cells slots Q (F0 m (pc + 1) ls (.int v :: rest))) : W p l e R s m args below meth c H locs cells slots Q (F0 m pc ls (.int z :: .int x :: rest)) := by
  subst hv; exact lv_imul X.1.1 X.1.2.1 hdg k
theorem bAnd (X : bX p s m args c cc nL Ts own D cyC cyI) {x z : Int32} (hdg : decode cc pc = .ok (.iand, 1)) (hv : x &&& z = v) (k : W p l e R s m args below meth c H locs cells slots Q (F0 m (pc + 1) ls (.int v :: rest))) : W p l e R s m args below meth c H locs cells slots Q (F0 m pc ls (.int z :: .int x :: rest)) := by
  subst hv; exact lv_iand X.1.1 X.1.2.1 hdg k
theorem bShr (X : bX p s m args c cc nL Ts own D cyC cyI) {x z : Int32} (hdg : decode cc pc = .ok (.ishr, 1)) (hv : x >>> (z &&& 31) = v) (k : W p l e R s m args below meth c H locs cells slots Q (F0 m (pc + 1) ls (.int v :: rest))) : W p l e R s m args below meth c H locs cells slots Q (F0 m pc ls (.int z :: .int x :: rest)) := by
  subst hv; exact lv_ishr X.1.1 X.1.2.1 hdg k
theorem bDiv (X : bX p s m args c cc nL Ts own D cyC cyI) {x z : Int32} (hdg : decode cc pc = .ok (.idiv, 1)) (hne : ¬ z = 0) (hv : x / z = v) (k : W p l e R s m args below meth c H locs cells slots Q (F0 m (pc + 1) ls (.int v :: rest))) : W p l e R s m args below meth c H locs cells slots Q (F0 m pc ls (.int z :: .int x :: rest)) := by
  subst hv; exact lv_idiv X.1.1 X.1.2.1 hdg hne k
theorem bRem (X : bX p s m args c cc nL Ts own D cyC cyI) {x z : Int32} (hdg : decode cc pc = .ok (.irem, 1)) (hne : ¬ z = 0) (hv : x - x / z * z = v) (k : W p l e R s m args below meth c H locs cells slots Q (F0 m (pc + 1) ls (.int v :: rest))) : W p l e R s m args below meth c H locs cells slots Q (F0 m pc ls (.int z :: .int x :: rest)) := by
  subst hv; exact lv_irem X.1.1 X.1.2.1 hdg hne k
theorem bNeg (X : bX p s m args c cc nL Ts own D cyC cyI) {x : Int32} (hdg : decode cc pc = .ok (.ineg, 1)) (hv : -x = v) (k : W p l e R s m args below meth c H locs cells slots Q (F0 m (pc + 1) ls (.int v :: rest))) : W p l e R s m args below meth c H locs cells slots Q (F0 m pc ls (.int x :: rest)) := by
  subst hv; exact lv_ineg X.1.1 X.1.2.1 hdg k
end BROWS
