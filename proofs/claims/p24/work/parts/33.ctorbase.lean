/-! constructors: what is made comes with the world -/
def CN (l : Launch) (y : MethodName) (wsy : List Cond) (rm : Room) (D : va_G) (cyC cyI : ClassId) (av : List Value) (wc : va_W) (mc ms : Nat) (post : va_W → Prop) : Prop := ∀ sz : Nat, Met l y wsy rm (va_Pc av (bP D cyC cyI wc sz)) (va_Qv (fun w : va_W => post w) (fun w t => va_P D vwCl w t.heap ∧ va_D (va_A wc sz) w) (va_A wc sz)) mc ms (va_A wc sz)
def bQN (below : List Frame) (args : Array Value) (s : State) (D : va_G) (post : va_W → Prop) (A : Nat → Prop) (mc ms : Nat) : State → Prop := MQ below (va_Qv (fun w : va_W => post w) (fun w t => va_P D vwCl w t.heap ∧ va_D A w) A) args s mc ms A
theorem CN.of {l : Launch} {y : MethodName} {wsy ws' : List Cond} {rm : Room} {D : va_G} {cyC cyI : ClassId} {av : List Value} {wc : va_W} {mc ms : Nat} {post : va_W → Prop} {cc : ByteArray} {n : Nat} (hy : plainName y.cls = true) (hw : wsy = Cond.code y cc n none :: ws') (hn : (lg_sl av).length ≤ n)
    (k : ∀ (p : Program) (e : Env) (s : State) (m : MethodId) (below : List Frame) (meth : Method) (c : Code) (A : Nat → Prop) (ls : Array Slot), bX p s m av.toArray c cc n wsy y.cls D cyC cyI → bY D A s.heap wc s.heap [] → meth.sig.returnType = none → meth.locks = false → meth.name = y.name → lv_has ls n (lv_args 0 av) → W p l e rm s m av.toArray below meth c s.heap [] 0 0 (bQN below av.toArray s D post A mc ms) (F0 m 0 ls [])) : CN l y wsy rm D cyC cyI av wc mc ms post := by
  intro sz
  refine Met.ofW (cc := cc) (maxL := n) (ret := none) hy hw ?_
  intro p e s m args below meth c s₁ B hml hv
  obtain ⟨rfl, hsz, hP, hK, hD0, hN⟩ := hv
  subst hsz
  have hts := atoms_spec (ws := wsy) B.pre
  have hown : s.vm.findClass y.cls = some m.cls := findClass_of_methodNamed B.named
  have hl := lv_entry av hn
  rw [lg_entry_eq]
  exact k p e s m below meth c (va_A wc s.heap.size) _ ⟨⟨B.exec, B.bytes, hml, hown, hts⟩, hK, hN⟩ ⟨hP, hD0.self, va_S.rf, fun q h => Or.inr h⟩ B.returns B.notSynchronized (name_of_methodNamed B.named B.method).1 hl
section BCT
variable {p : Program} {l : Launch} {e : Env} {R : Room} {s : State} {m : MethodId} {args : Array Value} {below : List Frame} {meth : Method} {c : Code} {H : Heap} {locs : List Loc} {cells slots : Nat} {Q : State → Prop}
variable {cc bytes : ByteArray} {pc nL maxL index n : Nat} {ls : Array Slot} {rest st0 As : List Value} {D : va_G} {cyC cyI : ClassId} {A : Nat → Prop} {a b : Nat} {ws ws' wc wr : va_W} {H0 : Heap} {Ts wsy wsy' : List Cond} {own C host : String} {y : MethodName} {rm : Room} {mc ms : Nat} {post : va_W → Prop}
theorem bEndN (X : bX p s m args c cc nL Ts own D cyC cyI) (Y : bY D A s.heap ws H locs) (hr : meth.sig.returnType = none) (hlk : meth.locks = false) (hdg : decode cc pc = .ok (.return_, 1)) (hw : post ws) : W p l e R s m args below meth c H locs mc ms (bQN below args s D post A mc ms) (F0 m pc ls []) :=
  W.vret X.1.1 X.1.2.1 hr (fun t ht _ => ⟨⟨ws, rfl, hw, by show va_P D vwCl ws t.heap ∧ va_D A ws; rw [ht]; exact ⟨Y.1, Y.2.1⟩⟩, Y.2.2.1.F ht⟩) Y.2.2.1.2.2 hdg hlk
theorem bObj (X : bX p s m args c cc nL Ts own D cyC cyI) (hlink : Cond.methodLink own index objectInit ∈ Ts) (hinst : Cond.instanceMethod objectInit ∈ Ts) (hcode : Cond.code objectInit ⟨#[0xb1]⟩ 1 none ∈ Ts) (hsz : ls.size = nL) (hf : 1 ≤ R.frames) (hlo : (rest.map fun v => v.category).sum + 12 ≤ R.locals) (hdg : decode cc pc = .ok (.invokespecial index, 3))
    (kk : W p l e R s m args below meth c H locs cells slots Q (F0 m (pc + 3) ls rest)) : W p l e R s m args below meth c H locs cells slots Q (F0 m pc ls (.ref a :: rest)) := by
  have hts := X.1.2.2.2.2
  exact W.objInit X.1.1 X.1.2.1 X.1.2.2.2.1 (hts _ hlink) (hts _ hinst) (hts _ hcode) rfl (hsz.trans X.1.2.2.1.symm) rfl hdg hf (by show 2 * 0 + _ + 12 ≤ _; omega) kk
theorem bNew (X : bX p s m args c cc nL Ts own D cyC cyI) (Y : bY D A H0 ws H locs) {T : u_T} {N ci : Nat} (hin : ∀ w ∈ u_ws C T N, w ∈ Ts) (ty : Nat → FieldType) (hty : ∀ k, k < N → parseFieldDescriptor (T k).2.2.1 = some (ty k)) (hcl : Cond.classLink own index C ∈ Ts) (hinst : Cond.instantiable C N ∈ Ts) (hini : Cond.initialized C ∈ Ts) (hc : vwCl[ci]? = some (C, T, N)) {fs : List Value} (hfs : ∀ j, j < N → defaultValue (ty j) = vp_V fs j) (hcells : cells + 1 ≤ R.cells) (hslots : slots + N ≤ R.slots) {c2 s2 : Nat} (h1 : cells + 1 = c2) (h2 : slots + N = s2) (hdg : decode cc pc = .ok (.new index, 3))
    (kk : ∀ (q : Nat) (H1 : Heap), bY D A H0 (ws ++ [(q, .inr (ci, fs))]) H1 locs → W p l e R s m args below meth c H1 locs c2 s2 Q (F0 m (pc + 3) ls (.ref q :: rest))) : W p l e R s m args below meth c H locs cells slots Q (F0 m pc ls rest) := by
  subst h1; subst h2
  have hts := X.1.2.2.2.2
  exact va_new X.1.1 X.1.2.1 hts hin ty hty X.1.2.2.2.1 (hts _ hcl) (hts _ hinst) (hts _ hini) X.2.1 Y.1 Y.2.1 Y.2.2.1 Y.2.2.2 hc hfs hcells hslots hdg (fun q H1 a1 a2 a3 => kk q H1 ⟨a1, a2, a3, Y.2.2.2⟩)
theorem bNewI (X : bX p s m args c cc nL Ts own D cyC cyI) (Y : bY D A H0 ws H locs) (harr : Cond.arrayClass .int ∈ Ts) {n : Int32} {N : Nat} (hn : ¬ n < 0) (hN : n.toNatClampNeg = N) (hbytes : N * componentBytes .int ≤ 536870912) (hcells : cells + 1 ≤ R.cells) (hslots : slots + N ≤ R.slots) {c2 s2 : Nat} (h1 : cells + 1 = c2) (h2 : slots + N = s2) (hdg : decode cc pc = .ok (.newarray .int, 2))
    (kk : ∀ (q : Nat) (H1 : Heap), bY D A H0 (ws ++ [(q, .inl (cyI, N, .inl (fun _ => 0)))]) H1 locs → W p l e R s m args below meth c H1 locs c2 s2 Q (F0 m (pc + 2) ls (.ref q :: rest))) : W p l e R s m args below meth c H locs cells slots Q (F0 m pc ls (.int n :: rest)) := by
  subst h1; subst h2
  have hts := X.1.2.2.2.2
  refine va_newaK X.1.1 X.1.2.1 (atype := .int) (hts _ harr) rfl hdg rfl hn hN hbytes hcells hslots rfl fun H1 cA e1 z1 o1 hAr hNm => ?_
  have hcA : cA = cyI := by
    have h3 := va_nm_int (X.2.1.2 1 _ rfl).2
    exact Option.some.inj (hNm.symm.trans h3)
  subst hcA
  have hk : ∀ (k : Nat) (x : Nat × va_E), ws[k]? = some x → H1[x.1]? = H[x.1]? := fun k x hx => o1 x.1 ((Y.1 k x hx).lt)
  refine kk H.size H1 ⟨(Y.1.kept hk).app (fun k x hx => ?_), Y.2.1.push Y.1 rfl (Y.2.2.2 _ Y.2.2.1.1), ⟨Nat.le_trans Y.2.2.1.1 (by omega), fun x g1 g2 => (o1 x (Nat.lt_of_lt_of_le g1 Y.2.2.1.1)).trans (Y.2.2.1.2.1 x g1 g2), Y.2.2.1.2.2⟩, Y.2.2.2⟩
  have hz : k < 1 := (List.getElem?_eq_some_iff.mp hx).1
  rw [show k = 0 by omega] at hx
  cases hx
  exact e1
theorem bNewC (X : bX p s m args c cc nL Ts own D cyC cyI) (Y : bY D A H0 ws H locs) (harr : Cond.arrayClass .char ∈ Ts) {n : Int32} {N : Nat} (hn : ¬ n < 0) (hN : n.toNatClampNeg = N) (hbytes : N * componentBytes .char ≤ 536870912) (hcells : cells + 1 ≤ R.cells) (hslots : slots + N ≤ R.slots) {c2 s2 : Nat} (h1 : cells + 1 = c2) (h2 : slots + N = s2) (hdg : decode cc pc = .ok (.newarray .char, 2))
    (kk : ∀ (q : Nat) (H1 : Heap), bY D A H0 (ws ++ [(q, .inl (cyC, N, .inl (fun _ => 0)))]) H1 locs → W p l e R s m args below meth c H1 locs c2 s2 Q (F0 m (pc + 2) ls (.ref q :: rest))) : W p l e R s m args below meth c H locs cells slots Q (F0 m pc ls (.int n :: rest)) := by
  subst h1; subst h2
  have hts := X.1.2.2.2.2
  refine va_newaK X.1.1 X.1.2.1 (atype := .char) (hts _ harr) rfl hdg rfl hn hN hbytes hcells hslots rfl fun H1 cA e1 z1 o1 hAr hNm => ?_
  have hcA : cA = cyC := by
    have h3 := va_nm_char (X.2.1.2 0 _ rfl).2
    exact Option.some.inj (hNm.symm.trans h3)
  subst hcA
  have hk : ∀ (k : Nat) (x : Nat × va_E), ws[k]? = some x → H1[x.1]? = H[x.1]? := fun k x hx => o1 x.1 ((Y.1 k x hx).lt)
  refine kk H.size H1 ⟨(Y.1.kept hk).app (fun k x hx => ?_), Y.2.1.push Y.1 rfl (Y.2.2.2 _ Y.2.2.1.1), ⟨Nat.le_trans Y.2.2.1.1 (by omega), fun x g1 g2 => (o1 x (Nat.lt_of_lt_of_le g1 Y.2.2.1.1)).trans (Y.2.2.1.2.1 x g1 g2), Y.2.2.1.2.2⟩, Y.2.2.2⟩
  have hz : k < 1 := (List.getElem?_eq_some_iff.mp hx).1
  rw [show k = 0 by omega] at hx
  cases hx
  exact e1
theorem bPutF (X : bX p s m args c cc nL Ts own D cyC cyI) (Y : bY D A H0 ws H locs) (hnm0 : meth.name = "<init>") {ref C : String} {T : u_T} {N ci : Nat} (hin : ∀ w ∈ u_ws C T N, w ∈ Ts) (ty0 : Nat → FieldType) (hty : ∀ k, k < N → parseFieldDescriptor (T k).2.2.1 = some (ty0 k)) (hnm : ∀ a, a < N → ∀ b, b < N → a ≠ b → (T a).2.1 ≠ (T b).2.1) (q0 : Nat) {fs : List Value} (he : ws[q0]? = some (a, .inr (ci, fs))) (hc : vwCl[ci]? = some (C, T, N)) (k : Nat) (hk : k < N) (hlink : Cond.fieldLink own index ref (T k).2.1 (T k).2.2.1 ∈ Ts) (href : (T k).1 = ref) (hdecl : (T k).1 = own) (hfin : (T k).2.2.2 = true) {v : Value} (hn : narrow (ty0 k) v = v) (hfit : fits (ty0 k) v = true) (hl : k < fs.length) (hws : ws.set q0 (a, .inr (ci, fs.set k v)) = ws') (hdg : decode cc pc = .ok (.putfield index, 3))
    (kk : ∀ (H1 : Heap) (locs1 : List Loc), bY D A H0 ws' H1 locs1 → W p l e R s m args below meth c H1 locs1 cells slots Q (F0 m (pc + 3) ls rest)) : W p l e R s m args below meth c H locs cells slots Q (F0 m pc ls (v :: .ref a :: rest)) := by
  subst hws
  exact va_putF X.1.1 X.1.2.1 X.1.2.2.2.2 hin ty0 hty hnm X.1.2.2.2.1 X.2.1 Y.1 Y.2.1 Y.2.2.1 q0 he hc k hk (X.1.2.2.2.2 _ hlink) (fun _ h => by rw [← href]; exact h) hfin hnm0 hdecl (hty k hk) hn hfit hl hdg (fun H1 locs1 h1 h2 h3 => kk H1 locs1 ⟨h1, h2, h3, Y.2.2.2⟩)
/-- a constructor's call: its cells (isC) go, what it leaves comes behind the others -/
theorem bInitK (Y : bY D A H0 ws H locs) (isC isR : List Nat) (hC : isC.map (fun i => ws[i]?) = wc.map some) (hR : isR.map (fun i => ws[i]?) = wr.map some) (hn : va_nd isR = true) (hdis : ∀ i ∈ isR, i ∉ isC) {av : Array Value} {c2 s2 : Nat} (h1 : cells + mc = c2) (h2 : slots + ms = s2)
    (hr : va_Run p l e R s m args below meth c H locs cells slots mc ms (F0 m pc ls st0) rest (va_Qv (fun w : va_W => post w) (fun w t => va_P D vwCl w t.heap ∧ va_D (va_A wc H.size) w) (va_A wc H.size) av) (va_A wc H.size))
    (kk : ∀ (w : va_W) (H1 : Heap) (locs1 : List Loc), post w → bY D A H0 (wr ++ w) H1 locs1 → W p l e R s m args below meth c H1 locs1 c2 s2 Q (F0 m (pc + 3) ls rest)) : W p l e R s m args below meth c H locs cells slots Q (F0 m pc ls st0) := by
  subst h1; subst h2
  have hF := bFree Y hC
  refine va_callv hr Y.2.2.1 (fun q _ h => hF q h) hF (fun w t H1 locs1 ht hvm hw hB hz1 hk1 hS => ?_)
  obtain ⟨hB1, hB2⟩ := hB
  rw [ht] at hB1
  obtain ⟨g1, g2⟩ := va_join Y.1 Y.2.1 isC isR hC hR hn hdis hk1 hF hB1 hB2
  exact kk w H1 locs1 hw ⟨g1, g2, hS, Y.2.2.2⟩
/-- the constructor of the class itself, or of one whose constructor is no nest mate's private one -/
theorem bIO (X : bX p s m args c cc nL Ts own D cyC cyI) (Y : bY D A H0 ws H locs) (hM : CN l y wsy rm D cyC cyI (.ref b :: As) wc mc ms post) (hG : GoodIn Ts wsy) (hw : wsy = Cond.code y bytes maxL none :: wsy') (hrm : rm.cells = mc ∧ rm.slots = ms) (hini : Cond.initialized y.cls ∈ Ts) (hlink : Cond.methodLink own index y ∈ Ts) (hins : Cond.instanceMethod y ∈ Ts) (hy1 : y.name = "<init>") (hd : y.cls ≠ "java/lang/invoke/MethodHandle" ∧ y.cls ≠ "java/lang/invoke/VarHandle" ∧ (parseMethodDescriptor y.desc).map (fun d => d.parameters.length) = some n) (hR0 : rm.frames + 1 ≤ R.frames ∧ 8 + (maxL + 11) + rm.locals ≤ R.locals)
    (isC isR : List Nat) (hnd : va_nd isC = true) (hC : isC.map (fun i => ws[i]?) = wc.map some) (hR : isR.map (fun i => ws[i]?) = wr.map some) (hn : va_nd isR = true) (hdis : ∀ i ∈ isR, i ∉ isC) {c2 s2 : Nat} (h1 : cells + mc = c2) (h2 : slots + ms = s2)
    (hnA : As.length = n) (hst : st0 = As.reverse ++ .ref b :: rest) (hsz : ls.size = nL) (hroom : (rest.map fun v => v.category).sum ≤ 8) (hcl : cells + mc ≤ R.cells ∧ slots + ms ≤ R.slots) (hdg : decode cc pc = .ok (.invokespecial index, 3))
    (kk : ∀ (w : va_W) (H1 : Heap) (locs1 : List Loc), post w → bY D A H0 (wr ++ w) H1 locs1 → W p l e R s m args below meth c H1 locs1 c2 s2 Q (F0 m (pc + 3) ls rest)) : W p l e R s m args below meth c H locs cells slots Q (F0 m pc ls st0) := by
  obtain ⟨hPc, hDc⟩ := bCut Y isC hC hnd
  have hts := X.1.2.2.2.2
  exact bInitK Y isC isR hC hR hn hdis h1 h2 (va_runI (As := As) (rest := rest) X.1 (hM H.size) (cwI n hts hG hw hrm.1 hrm.2 (hts _ hini) (hts _ hlink) (hts _ hins) hy1 hd hR0) ⟨bP.blind, bPre X hPc hDc _⟩ rfl hnA hsz hst (lv_room hroom) hdg hcl) kk
/-- a nest mate's private constructor -/
theorem bIN (X : bX p s m args c cc nL Ts own D cyC cyI) (Y : bY D A H0 ws H locs) (hM : CN l y wsy rm D cyC cyI (.ref b :: As) wc mc ms post) (hG : GoodIn Ts wsy) (hw : wsy = Cond.code y bytes maxL none :: wsy') (hrm : rm.cells = mc ∧ rm.slots = ms) (hini : Cond.initialized y.cls ∈ Ts) (k : Nat) (hk : bL[k]? = some (own, index, y, host)) (hins : Cond.instanceMethod y ∈ Ts) (hy1 : y.name = "<init>") (hd : y.cls ≠ "java/lang/invoke/MethodHandle" ∧ y.cls ≠ "java/lang/invoke/VarHandle" ∧ (parseMethodDescriptor y.desc).map (fun d => d.parameters.length) = some n) (hR0 : rm.frames + 1 ≤ R.frames ∧ 8 + (maxL + 11) + rm.locals ≤ R.locals)
    (isC isR : List Nat) (hnd : va_nd isC = true) (hC : isC.map (fun i => ws[i]?) = wc.map some) (hR : isR.map (fun i => ws[i]?) = wr.map some) (hn : va_nd isR = true) (hdis : ∀ i ∈ isR, i ∉ isC) {c2 s2 : Nat} (h1 : cells + mc = c2) (h2 : slots + ms = s2)
    (hnA : As.length = n) (hst : st0 = As.reverse ++ .ref b :: rest) (hsz : ls.size = nL) (hroom : (rest.map fun v => v.category).sum ≤ 8) (hcl : cells + mc ≤ R.cells ∧ slots + ms ≤ R.slots) (hdg : decode cc pc = .ok (.invokespecial index, 3))
    (kk : ∀ (w : va_W) (H1 : Heap) (locs1 : List Loc), post w → bY D A H0 (wr ++ w) H1 locs1 → W p l e R s m args below meth c H1 locs1 c2 s2 Q (F0 m (pc + 3) ls rest)) : W p l e R s m args below meth c H locs cells slots Q (F0 m pc ls st0) := by
  obtain ⟨hPc, hDc⟩ := bCut Y isC hC hnd
  have hts := X.1.2.2.2.2
  exact bInitK Y isC isR hC hR hn hdis h1 h2 (va_runIN (host := host) (As := As) (rest := rest) X.1 (hM H.size) ⟨va_cnB n hts hG hw hrm.1 hrm.2 (X.2.2 _ (List.mem_of_getElem? hk)) (hts _ hini) hd hR0, hy1, hts _ hins⟩ ⟨bP.blind, bPre X hPc hDc _⟩ rfl hnA hsz hst (lv_room hroom) hdg hcl) kk
end BCT
