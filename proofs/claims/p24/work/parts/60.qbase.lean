/-! the law's own level: the class's world by what can be seen of it, contracts of the law's methods, rows -/
/-- the text told so far -/
def TX (T : List Int32) (xn : Int32) (xc : Nat → Int32) : Prop := T.length ≤ 200 ∧ xn = nI T.length ∧ ∀ i, i < T.length → xc i = T.getD i 0
/-- the class's world: rules r, the story now S 0 and those kept S 1 .. S 4, how many can be undone, the text; where its cells lie, draft and trial may be anything -/
def QW (cyC cyI : ClassId) (Q : Nat → Nat) (r : Nat → Int32) (S : Nat → Sto) (ud : Int32) (T : List Int32) (wa : va_W) : Prop := ∃ (R E N P1 P2 P3 P4 : Nat → Nat) (d t : Nat → Int32) (tb : Nat → Bool) (xn xi : Int32) (xc : Nat → Int32), TX T xn xc ∧ wa = wA cyC cyI Q R E N P1 P2 P3 P4 r d (S 0) (S 1) (S 2) (S 3) (S 4) t tb ud xn xi xc
theorem QW.head {cyC cyI : ClassId} {Q : Nat → Nat} {r : Nat → Int32} {S : Nat → Sto} {ud : Int32} {T : List Int32} {wa : va_W} (h : QW cyC cyI Q r S ud T wa) : ∃ fs : List Value, wa[0]? = some (Q 0, .inr (7, fs)) := by
  obtain ⟨R, E, N, P1, P2, P3, P4, d, t, tb, xn, xi, xc, h, rfl⟩ := h
  exact ⟨_, rfl⟩
/-- the class answers r, and leaves a world of which post says -/
def KI (l : Launch) (D : va_G) (cyC cyI : ClassId) (y : MethodName) (wsy : List Cond) (F Lc : Nat) (av : List Value) (wa : va_W) (r : Int32) (post : va_W → Prop) : Prop := ∃ (rm : Room) (w1 : va_W), (rm.cells = 0 ∧ rm.slots = 0) ∧ (rm.frames ≤ F ∧ rm.locals ≤ Lc) ∧ CI l y wsy rm D cyC cyI av wa r w1 ∧ wPerm wa w1 ∧ post w1
/-- a law's method's start: as a class's method's, and the script -/
def qP (D : va_G) (cyC cyI : ClassId) (sb sL : Nat) (xs : Nat → Int32) (wc : va_W) (sz : Nat) : State → Prop := fun U => bP D cyC cyI wc sz U ∧ va_X sb sL xs U U.heap ∧ ¬ va_A wc sz sb
theorem qP.blind {D : va_G} {cyC cyI : ClassId} {sb sL : Nat} {xs : Nat → Int32} {av : List Value} {wc : va_W} {sz : Nat} : FrameBlind (va_Pc av (qP D cyC cyI sb sL xs wc sz)) := fun a U g mk q => by
  obtain ⟨q0, q1, qX, qA⟩ := q
  exact ⟨q0, (bP.blind (av := av) a U g mk ⟨q0, q1⟩).2, va_X.moved (u := U) (U := U.calling g mk a) (Vm.Alike.refl U.vm) qX, qA⟩
def QI (l : Launch) (y : MethodName) (wsy : List Cond) (rm : Room) (D : va_G) (cyC cyI : ClassId) (sb sL : Nat) (xs : Nat → Int32) (av : List Value) (wc : va_W) (mc ms : Nat) (post : Int32 → va_W → Prop) : Prop := ∀ sz : Nat, Met l y wsy rm (va_Pc av (qP D cyC cyI sb sL xs wc sz)) (va_Qi (fun (r' : Int32) (w1 : va_W) => post r' w1 ∧ wPerm wc w1) (fun w1 t => va_P D vwCl w1 t.heap) (va_A wc sz)) mc ms (va_A wc sz)
def QV (l : Launch) (y : MethodName) (wsy : List Cond) (rm : Room) (D : va_G) (cyC cyI : ClassId) (sb sL : Nat) (xs : Nat → Int32) (av : List Value) (wc : va_W) (mc ms : Nat) (post : va_W → Prop) : Prop := ∀ sz : Nat, Met l y wsy rm (va_Pc av (qP D cyC cyI sb sL xs wc sz)) (va_Qv (fun (w1 : va_W) => post w1 ∧ wPerm wc w1) (fun w1 t => va_P D vwCl w1 t.heap) (va_A wc sz)) mc ms (va_A wc sz)
def QL (l : Launch) (y : MethodName) (wsy : List Cond) (rm : Room) (D : va_G) (cyC cyI : ClassId) (sb sL : Nat) (xs : Nat → Int32) (av : List Value) (wc : va_W) (mc ms : Nat) (post : Int64 → va_W → Prop) : Prop := ∀ sz : Nat, Met l y wsy rm (va_Pc av (qP D cyC cyI sb sL xs wc sz)) (va_Ql (fun (r' : Int64) (w1 : va_W) => post r' w1 ∧ wPerm wc w1) (fun w1 t => va_P D vwCl w1 t.heap) (va_A wc sz)) mc ms (va_A wc sz)
/-- a walk's fixed things in the law -/
def qX (p : Program) (s : State) (m : MethodId) (args : Array Value) (c : Code) (cc : ByteArray) (nL : Nat) (Ts : List Cond) (own : String) (D : va_G) (cyC cyI : ClassId) (sb sL : Nat) (xs : Nat → Int32) (A : Nat → Prop) : Prop := bX p s m args c cc nL Ts own D cyC cyI ∧ va_X sb sL xs s s.heap ∧ sb < s.heap.size ∧ ¬ A sb
def qQI (below : List Frame) (args : Array Value) (s : State) (D : va_G) (wc : va_W) (post : Int32 → va_W → Prop) (mc ms : Nat) (A : Nat → Prop) : State → Prop := MQ below (va_Qi (fun (r' : Int32) (w1 : va_W) => post r' w1 ∧ wPerm wc w1) (fun w1 t => va_P D vwCl w1 t.heap) A) args s mc ms A
def qQV (below : List Frame) (args : Array Value) (s : State) (D : va_G) (wc : va_W) (post : va_W → Prop) (mc ms : Nat) (A : Nat → Prop) : State → Prop := MQ below (va_Qv (fun (w1 : va_W) => post w1 ∧ wPerm wc w1) (fun w1 t => va_P D vwCl w1 t.heap) A) args s mc ms A
def qQL (below : List Frame) (args : Array Value) (s : State) (D : va_G) (wc : va_W) (post : Int64 → va_W → Prop) (mc ms : Nat) (A : Nat → Prop) : State → Prop := MQ below (va_Ql (fun (r' : Int64) (w1 : va_W) => post r' w1 ∧ wPerm wc w1) (fun w1 t => va_P D vwCl w1 t.heap) A) args s mc ms A
theorem QI.of {l : Launch} {y : MethodName} {wsy ws' : List Cond} {rm : Room} {D : va_G} {cyC cyI : ClassId} {sb sL : Nat} {xs : Nat → Int32} {av : List Value} {wc : va_W} {mc ms : Nat} {post : Int32 → va_W → Prop} {cc : ByteArray} {n : Nat} {ret : Option FieldType} (hy : plainName y.cls = true) (hw : wsy = Cond.code y cc n ret :: ws') (hn : (lg_sl av).length ≤ n)
    (k : ∀ (p : Program) (e : Env) (s : State) (m : MethodId) (below : List Frame) (meth : Method) (c : Code) (A : Nat → Prop) (ls : Array Slot), qX p s m av.toArray c cc n wsy y.cls D cyC cyI sb sL xs A → bY D A s.heap wc s.heap [] → meth.sig.returnType = ret → meth.locks = false → lv_has ls n (lv_args 0 av) → W p l e rm s m av.toArray below meth c s.heap [] 0 0 (qQI below av.toArray s D wc post mc ms A) (F0 m 0 ls [])) : QI l y wsy rm D cyC cyI sb sL xs av wc mc ms post := by
  intro sz
  refine Met.ofW (cc := cc) (maxL := n) (ret := ret) hy hw ?_
  intro p e s m args below meth c s₁ B hml hv
  obtain ⟨rfl, ⟨hsz, hP, hK, hD0, hN⟩, hX, hA⟩ := hv
  subst hsz
  have hts := atoms_spec (ws := wsy) B.pre
  have hown : s.vm.findClass y.cls = some m.cls := findClass_of_methodNamed B.named
  have hl := lv_entry av hn
  rw [lg_entry_eq]
  exact k p e s m below meth c (va_A wc s.heap.size) _ ⟨⟨⟨B.exec, B.bytes, hml, hown, hts⟩, hK, hN⟩, hX, Nat.lt_of_not_le (fun z => hA (Or.inr z)), hA⟩ ⟨hP, hD0.self, va_S.rf, fun q h => Or.inr h⟩ B.returns B.notSynchronized hl
theorem QV.of {l : Launch} {y : MethodName} {wsy ws' : List Cond} {rm : Room} {D : va_G} {cyC cyI : ClassId} {sb sL : Nat} {xs : Nat → Int32} {av : List Value} {wc : va_W} {mc ms : Nat} {post : va_W → Prop} {cc : ByteArray} {n : Nat} {ret : Option FieldType} (hy : plainName y.cls = true) (hw : wsy = Cond.code y cc n ret :: ws') (hn : (lg_sl av).length ≤ n)
    (k : ∀ (p : Program) (e : Env) (s : State) (m : MethodId) (below : List Frame) (meth : Method) (c : Code) (A : Nat → Prop) (ls : Array Slot), qX p s m av.toArray c cc n wsy y.cls D cyC cyI sb sL xs A → bY D A s.heap wc s.heap [] → meth.sig.returnType = ret → meth.locks = false → lv_has ls n (lv_args 0 av) → W p l e rm s m av.toArray below meth c s.heap [] 0 0 (qQV below av.toArray s D wc post mc ms A) (F0 m 0 ls [])) : QV l y wsy rm D cyC cyI sb sL xs av wc mc ms post := by
  intro sz
  refine Met.ofW (cc := cc) (maxL := n) (ret := ret) hy hw ?_
  intro p e s m args below meth c s₁ B hml hv
  obtain ⟨rfl, ⟨hsz, hP, hK, hD0, hN⟩, hX, hA⟩ := hv
  subst hsz
  have hts := atoms_spec (ws := wsy) B.pre
  have hown : s.vm.findClass y.cls = some m.cls := findClass_of_methodNamed B.named
  have hl := lv_entry av hn
  rw [lg_entry_eq]
  exact k p e s m below meth c (va_A wc s.heap.size) _ ⟨⟨⟨B.exec, B.bytes, hml, hown, hts⟩, hK, hN⟩, hX, Nat.lt_of_not_le (fun z => hA (Or.inr z)), hA⟩ ⟨hP, hD0.self, va_S.rf, fun q h => Or.inr h⟩ B.returns B.notSynchronized hl
theorem QL.of {l : Launch} {y : MethodName} {wsy ws' : List Cond} {rm : Room} {D : va_G} {cyC cyI : ClassId} {sb sL : Nat} {xs : Nat → Int32} {av : List Value} {wc : va_W} {mc ms : Nat} {post : Int64 → va_W → Prop} {cc : ByteArray} {n : Nat} {ret : Option FieldType} (hy : plainName y.cls = true) (hw : wsy = Cond.code y cc n ret :: ws') (hn : (lg_sl av).length ≤ n)
    (k : ∀ (p : Program) (e : Env) (s : State) (m : MethodId) (below : List Frame) (meth : Method) (c : Code) (A : Nat → Prop) (ls : Array Slot), qX p s m av.toArray c cc n wsy y.cls D cyC cyI sb sL xs A → bY D A s.heap wc s.heap [] → meth.sig.returnType = ret → meth.locks = false → lv_has ls n (lv_args 0 av) → W p l e rm s m av.toArray below meth c s.heap [] 0 0 (qQL below av.toArray s D wc post mc ms A) (F0 m 0 ls [])) : QL l y wsy rm D cyC cyI sb sL xs av wc mc ms post := by
  intro sz
  refine Met.ofW (cc := cc) (maxL := n) (ret := ret) hy hw ?_
  intro p e s m args below meth c s₁ B hml hv
  obtain ⟨rfl, ⟨hsz, hP, hK, hD0, hN⟩, hX, hA⟩ := hv
  subst hsz
  have hts := atoms_spec (ws := wsy) B.pre
  have hown : s.vm.findClass y.cls = some m.cls := findClass_of_methodNamed B.named
  have hl := lv_entry av hn
  rw [lg_entry_eq]
  exact k p e s m below meth c (va_A wc s.heap.size) _ ⟨⟨⟨B.exec, B.bytes, hml, hown, hts⟩, hK, hN⟩, hX, Nat.lt_of_not_le (fun z => hA (Or.inr z)), hA⟩ ⟨hP, hD0.self, va_S.rf, fun q h => Or.inr h⟩ B.returns B.notSynchronized hl
section QROWS
variable {p : Program} {l : Launch} {e : Env} {R : Room} {s : State} {m : MethodId} {args : Array Value} {below : List Frame} {meth : Method} {c : Code} {H : Heap} {locs : List Loc} {cells slots mc ms : Nat} {Q : State → Prop}
variable {cc bytes : ByteArray} {pc nL maxL index n sb sL : Nat} {xs : Nat → Int32} {ls : Array Slot} {rest st0 As : List Value} {D : va_G} {cyC cyI : ClassId} {A : Nat → Prop} {b : Nat} {al wa w1 w2 wc : va_W} {Ts wsy wsy' : List Cond} {own C : String} {y : MethodName} {ret : Option FieldType} {rm : Room} {r : Int32} {post : va_W → Prop} {postI : Int32 → va_W → Prop} {postL : Int64 → va_W → Prop}
theorem qPre (X : qX p s m args c cc nL Ts own D cyC cyI sb sL xs A) (Y : bY D A s.heap (al ++ wa) H locs) (av : List Value) : ∀ U : State, U.heap = H → s.WarmedH U.vm → va_Pc av (qP D cyC cyI sb sL xs wa H.size) av.toArray U := by
  intro U hU hW
  have hPc : va_P D vwCl wa H := fun k q h => Y.1 _ q (lR h)
  have hDc : va_D (fun _ => True) wa := ⟨fun i j x y hi hj hxy => by have := Y.2.1.1 _ _ x y (lR (wa := al) hi) (lR (wa := al) hj) hxy; omega, fun _ _ _ => trivial⟩
  refine ⟨rfl, (bPre X.1 hPc hDc av U hU hW).2, ?_, ?_⟩
  · rw [hU]
    exact va_X.moved hW.alike (X.2.1.kept (Y.2.2.1.2.1 sb X.2.2.1 X.2.2.2))
  · rintro (⟨k, e, h⟩ | h)
    · exact X.2.2.2 (Y.2.1.2 _ (sb, e) (lR h))
    · have := Y.2.2.1.1
      have := X.2.2.1
      omega
theorem qEndI (X : qX p s m args c cc nL Ts own D cyC cyI sb sL xs A) (Y : bY D A s.heap (al ++ w1) H locs) (hr : meth.sig.returnType = some .int) (hlk : meth.locks = false) (hdg : decode cc pc = .ok (.ireturn, 1)) {v : Int32} (hp : postI v w1) (hw : wPerm wc w1) (hc : cells ≤ mc) (hs : slots ≤ ms) : W p l e R s m args below meth c H locs cells slots (qQI below args s D wc postI mc ms A) (F0 m pc ls [.int v]) :=
  W.widen hc hs (W.iret (v := v) X.1.1.1 X.1.1.2.1 hr (fun t ht _ => ⟨⟨v, w1, rfl, ⟨hp, hw⟩, by show va_P D vwCl w1 t.heap; rw [ht]; exact fun k q h => Y.1 _ q (lR h)⟩, Y.2.2.1.F ht⟩) Y.2.2.1.2.2 hdg hlk)
theorem qEndZ (X : qX p s m args c cc nL Ts own D cyC cyI sb sL xs A) (Y : bY D A s.heap (al ++ w1) H locs) (hr : meth.sig.returnType = some .boolean) (hlk : meth.locks = false) (hdg : decode cc pc = .ok (.ireturn, 1)) {v : Int32} (hn : narrow .boolean (.int v) = .int v) (hp : postI v w1) (hw : wPerm wc w1) (hc : cells ≤ mc) (hs : slots ≤ ms) : W p l e R s m args below meth c H locs cells slots (qQI below args s D wc postI mc ms A) (F0 m pc ls [.int v]) :=
  W.widen hc hs (W.zret (v := v) X.1.1.1 X.1.1.2.1 hr hn (fun t ht _ => ⟨⟨v, w1, rfl, ⟨hp, hw⟩, by show va_P D vwCl w1 t.heap; rw [ht]; exact fun k q h => Y.1 _ q (lR h)⟩, Y.2.2.1.F ht⟩) Y.2.2.1.2.2 hdg hlk)
theorem qEndL (X : qX p s m args c cc nL Ts own D cyC cyI sb sL xs A) (Y : bY D A s.heap (al ++ w1) H locs) (hr : meth.sig.returnType = some .long) (hlk : meth.locks = false) (hdg : decode cc pc = .ok (.lreturn, 1)) {v : Int64} (hp : postL v w1) (hw : wPerm wc w1) (hc : cells ≤ mc) (hs : slots ≤ ms) : W p l e R s m args below meth c H locs cells slots (qQL below args s D wc postL mc ms A) (F0 m pc ls [.long v]) :=
  W.widen hc hs (W.lret (v := v) X.1.1.1 X.1.1.2.1 hr (fun t ht _ => ⟨⟨v, w1, rfl, ⟨hp, hw⟩, by show va_P D vwCl w1 t.heap; rw [ht]; exact fun k q h => Y.1 _ q (lR h)⟩, Y.2.2.1.F ht⟩) Y.2.2.1.2.2 hdg hlk)
theorem qEndV (X : qX p s m args c cc nL Ts own D cyC cyI sb sL xs A) (Y : bY D A s.heap (al ++ w1) H locs) (hr : meth.sig.returnType = none) (hlk : meth.locks = false) (hdg : decode cc pc = .ok (.return_, 1)) (hp : post w1) (hw : wPerm wc w1) (hc : cells ≤ mc) (hs : slots ≤ ms) : W p l e R s m args below meth c H locs cells slots (qQV below args s D wc post mc ms A) (F0 m pc ls []) :=
  W.widen hc hs (W.vret X.1.1.1 X.1.1.2.1 hr (fun t ht _ => ⟨⟨w1, rfl, ⟨hp, hw⟩, by show va_P D vwCl w1 t.heap; rw [ht]; exact fun k q h => Y.1 _ q (lR h)⟩, Y.2.2.1.F ht⟩) Y.2.2.1.2.2 hdg hlk)
/-- the law calls the class -/
theorem qVI (X : qX p s m args c cc nL Ts own D cyC cyI sb sL xs A) (Y : bY D A s.heap (al ++ wa) H locs) {F Lc : Nat} (hM : KI l D cyC cyI y wsy F Lc (.ref b :: As) wa r post) (hG : GoodIn Ts (wsV own index RX7 y wsy)) (hw : wsy = Cond.code y bytes maxL ret :: wsy') (hd : bD1 y RX7 n) (hR : F + 1 ≤ R.frames ∧ 8 + (maxL + 11) + Lc ≤ R.locals) (hh : ∃ fs : List Value, wa[0]? = some (b, .inr (7, fs)))
    (hn : As.length = n) (hst : st0 = As.reverse ++ .ref b :: rest) (hsz : ls.size = nL) (hroom : (rest.map fun v => v.category).sum ≤ 8) (hcl : cells ≤ R.cells ∧ slots ≤ R.slots) (hdg : decode cc pc = .ok (.invokevirtual index, 3))
    (kk : ∀ (w2 : va_W) (H1 : Heap) (locs1 : List Loc), post w2 → wPerm wa w2 → bY D A s.heap (al ++ w2) H1 locs1 → W p l e R s m args below meth c H1 locs1 cells slots Q (F0 m (pc + 3) ls (.int r :: rest))) : W p l e R s m args below meth c H locs cells slots Q (F0 m pc ls st0) := by
  obtain ⟨rm, w2, hrm, hF, h1, h2, h3⟩ := hM
  obtain ⟨fs, hfs⟩ := hh
  exact bLB X.1 Y h1 h2 hG hw hrm hd ⟨by omega, by omega⟩ (ci := 7) (q := (RX7, TX7, 10)) rfl rfl hfs hn hst hsz hroom hcl hdg (fun H1 locs1 Y1 => kk w2 H1 locs1 h3 h2 Y1)
theorem qSI (X : qX p s m args c cc nL Ts own D cyC cyI sb sL xs A) (Y : bY D A s.heap (al ++ wa) H locs) (hM : QI l y wsy rm D cyC cyI sb sL xs As wa mc ms postI) (hG : GoodIn Ts (va_wsS own index y wsy)) (hw : wsy = Cond.code y bytes maxL ret :: wsy') (hrm : rm.cells = mc ∧ rm.slots = ms) (hd : y.cls ≠ "java/lang/invoke/MethodHandle" ∧ y.cls ≠ "java/lang/invoke/VarHandle" ∧ (parseMethodDescriptor y.desc).map (fun d => d.parameters.length) = some n) (hR : rm.frames + 1 ≤ R.frames ∧ 8 + (maxL + 11) + rm.locals ≤ R.locals) {c2 s2 : Nat} (h1 : cells + mc = c2) (h2 : slots + ms = s2)
    (hn : As.length = n) (hst : st0 = As.reverse ++ rest) (hsz : ls.size = nL) (hroom : (rest.map fun v => v.category).sum ≤ 8) (hcl : cells + mc ≤ R.cells ∧ slots + ms ≤ R.slots) (hdg : decode cc pc = .ok (.invokestatic index, 3))
    (kk : ∀ (r : Int32) (w2 : va_W) (H1 : Heap) (locs1 : List Loc), postI r w2 → wPerm wa w2 → bY D A s.heap (al ++ w2) H1 locs1 → W p l e R s m args below meth c H1 locs1 c2 s2 Q (F0 m (pc + 3) ls (.int r :: rest))) : W p l e R s m args below meth c H locs cells slots Q (F0 m pc ls st0) := by
  subst h1; subst h2
  have hts := X.1.1.2.2.2.2
  have ok : ∀ w ∈ va_wsS own index y wsy, w.before args s = true := fun w h => hts w (hG w h).1
  have hF : ∀ q, va_A wa H.size q → A q := by
    rintro q (⟨k, e, h⟩ | h)
    · exact Y.2.1.2 _ (q, e) (lR h)
    · exact Y.2.2.2 q (Nat.le_trans Y.2.2.1.1 h)
  refine va_calli (va_runS (As := As) (rest := rest) X.1.1 (hM H.size) ⟨callB_of n hts (fun w h => hG w (by unfold va_wsS; exact List.mem_append_right _ h)) hw hrm.1 hrm.2 (ok _ (by simp [va_wsS])) (ok _ (by simp [va_wsS])) hd hR, ok _ (by simp [va_wsS])⟩ ⟨qP.blind, qPre X Y As⟩ rfl hn hsz hst (lv_room hroom) hdg hcl) Y.2.2.1 (fun q _ h => hF q h) hF (fun r1 w2 t H1 locs1 ht hvm hp hB hz1 hk1 hS => ?_)
  rw [ht] at hB
  obtain ⟨g1, g2⟩ := lJoinB Y.1 Y.2.1 hp.2 hk1 hB
  exact kk r1 w2 H1 locs1 hp.1 hp.2 ⟨g1, g2, hS, Y.2.2.2⟩
theorem qSL (X : qX p s m args c cc nL Ts own D cyC cyI sb sL xs A) (Y : bY D A s.heap (al ++ wa) H locs) (hM : QL l y wsy rm D cyC cyI sb sL xs As wa mc ms postL) (hG : GoodIn Ts (va_wsS own index y wsy)) (hw : wsy = Cond.code y bytes maxL ret :: wsy') (hrm : rm.cells = mc ∧ rm.slots = ms) (hd : y.cls ≠ "java/lang/invoke/MethodHandle" ∧ y.cls ≠ "java/lang/invoke/VarHandle" ∧ (parseMethodDescriptor y.desc).map (fun d => d.parameters.length) = some n) (hR : rm.frames + 1 ≤ R.frames ∧ 8 + (maxL + 11) + rm.locals ≤ R.locals) {c2 s2 : Nat} (h1 : cells + mc = c2) (h2 : slots + ms = s2)
    (hn : As.length = n) (hst : st0 = As.reverse ++ rest) (hsz : ls.size = nL) (hroom : (rest.map fun v => v.category).sum ≤ 8) (hcl : cells + mc ≤ R.cells ∧ slots + ms ≤ R.slots) (hdg : decode cc pc = .ok (.invokestatic index, 3))
    (kk : ∀ (r : Int64) (w2 : va_W) (H1 : Heap) (locs1 : List Loc), postL r w2 → wPerm wa w2 → bY D A s.heap (al ++ w2) H1 locs1 → W p l e R s m args below meth c H1 locs1 c2 s2 Q (F0 m (pc + 3) ls (.long r :: rest))) : W p l e R s m args below meth c H locs cells slots Q (F0 m pc ls st0) := by
  subst h1; subst h2
  have hts := X.1.1.2.2.2.2
  have ok : ∀ w ∈ va_wsS own index y wsy, w.before args s = true := fun w h => hts w (hG w h).1
  have hF : ∀ q, va_A wa H.size q → A q := by
    rintro q (⟨k, e, h⟩ | h)
    · exact Y.2.1.2 _ (q, e) (lR h)
    · exact Y.2.2.2 q (Nat.le_trans Y.2.2.1.1 h)
  refine va_calll (va_runS (As := As) (rest := rest) X.1.1 (hM H.size) ⟨callB_of n hts (fun w h => hG w (by unfold va_wsS; exact List.mem_append_right _ h)) hw hrm.1 hrm.2 (ok _ (by simp [va_wsS])) (ok _ (by simp [va_wsS])) hd hR, ok _ (by simp [va_wsS])⟩ ⟨qP.blind, qPre X Y As⟩ rfl hn hsz hst (lv_room hroom) hdg hcl) Y.2.2.1 (fun q _ h => hF q h) hF (fun r1 w2 t H1 locs1 ht hvm hp hB hz1 hk1 hS => ?_)
  rw [ht] at hB
  obtain ⟨g1, g2⟩ := lJoinB Y.1 Y.2.1 hp.2 hk1 hB
  exact kk r1 w2 H1 locs1 hp.1 hp.2 ⟨g1, g2, hS, Y.2.2.2⟩
theorem qSV (X : qX p s m args c cc nL Ts own D cyC cyI sb sL xs A) (Y : bY D A s.heap (al ++ wa) H locs) (hM : QV l y wsy rm D cyC cyI sb sL xs As wa mc ms post) (hG : GoodIn Ts (va_wsS own index y wsy)) (hw : wsy = Cond.code y bytes maxL ret :: wsy') (hrm : rm.cells = mc ∧ rm.slots = ms) (hd : y.cls ≠ "java/lang/invoke/MethodHandle" ∧ y.cls ≠ "java/lang/invoke/VarHandle" ∧ (parseMethodDescriptor y.desc).map (fun d => d.parameters.length) = some n) (hR : rm.frames + 1 ≤ R.frames ∧ 8 + (maxL + 11) + rm.locals ≤ R.locals) {c2 s2 : Nat} (h1 : cells + mc = c2) (h2 : slots + ms = s2)
    (hn : As.length = n) (hst : st0 = As.reverse ++ rest) (hsz : ls.size = nL) (hroom : (rest.map fun v => v.category).sum ≤ 8) (hcl : cells + mc ≤ R.cells ∧ slots + ms ≤ R.slots) (hdg : decode cc pc = .ok (.invokestatic index, 3))
    (kk : ∀ (w2 : va_W) (H1 : Heap) (locs1 : List Loc), post w2 → wPerm wa w2 → bY D A s.heap (al ++ w2) H1 locs1 → W p l e R s m args below meth c H1 locs1 c2 s2 Q (F0 m (pc + 3) ls rest)) : W p l e R s m args below meth c H locs cells slots Q (F0 m pc ls st0) := by
  subst h1; subst h2
  have hts := X.1.1.2.2.2.2
  have ok : ∀ w ∈ va_wsS own index y wsy, w.before args s = true := fun w h => hts w (hG w h).1
  have hF : ∀ q, va_A wa H.size q → A q := by
    rintro q (⟨k, e, h⟩ | h)
    · exact Y.2.1.2 _ (q, e) (lR h)
    · exact Y.2.2.2 q (Nat.le_trans Y.2.2.1.1 h)
  refine va_callv (va_runS (As := As) (rest := rest) X.1.1 (hM H.size) ⟨callB_of n hts (fun w h => hG w (by unfold va_wsS; exact List.mem_append_right _ h)) hw hrm.1 hrm.2 (ok _ (by simp [va_wsS])) (ok _ (by simp [va_wsS])) hd hR, ok _ (by simp [va_wsS])⟩ ⟨qP.blind, qPre X Y As⟩ rfl hn hsz hst (lv_room hroom) hdg hcl) Y.2.2.1 (fun q _ h => hF q h) hF (fun w2 t H1 locs1 ht hvm hp hB hz1 hk1 hS => ?_)
  rw [ht] at hB
  obtain ⟨g1, g2⟩ := lJoinB Y.1 Y.2.1 hp.2 hk1 hB
  exact kk w2 H1 locs1 hp.1 hp.2 ⟨g1, g2, hS, Y.2.2.2⟩
/-- the script's length and places -/
theorem qLen (X : qX p s m args c cc nL Ts own D cyC cyI sb sL xs A) (Y : bY D A s.heap wa H locs) (hdg : decode cc pc = .ok (.arraylength, 1)) (kk : W p l e R s m args below meth c H locs cells slots Q (F0 m (pc + 1) ls (.int (Int32.ofNat sL) :: rest))) : W p l e R s m args below meth c H locs cells slots Q (F0 m pc ls (.ref sb :: rest)) :=
  va_slen X.1.1.1 X.1.1.2.1 X.2.1 X.2.2.1 X.2.2.2 Y.2.2.1 hdg kk
theorem qSld (X : qX p s m args c cc nL Ts own D cyC cyI sb sL xs A) (Y : bY D A s.heap wa H locs) {i : Int32} (hin : vp_in i sL) (hdg : decode cc pc = .ok (.iaload, 1)) (kk : W p l e R s m args below meth c H locs cells slots Q (F0 m (pc + 1) ls (.int (xs i.toNatClampNeg) :: rest))) : W p l e R s m args below meth c H locs cells slots Q (F0 m pc ls (.int i :: .ref sb :: rest)) :=
  va_sld X.1.1.1 X.1.1.2.1 X.2.1 X.2.2.1 X.2.2.2 Y.2.2.1 hin hdg kk
/-- a new int array, ahead of the class's world -/
theorem qNewI (X : qX p s m args c cc nL Ts own D cyC cyI sb sL xs A) (Y : bY D A s.heap wa H locs) (harr : Cond.arrayClass .int ∈ Ts) {k : Int32} {N : Nat} (hn : ¬ k < 0) (hN : k.toNatClampNeg = N) (hbytes : N * componentBytes .int ≤ 536870912) (hcells : cells + 1 ≤ R.cells) (hslots : slots + N ≤ R.slots) {c2 s2 : Nat} (h1 : cells + 1 = c2) (h2 : slots + N = s2) (hdg : decode cc pc = .ok (.newarray .int, 2))
    (kk : ∀ (q : Nat) (H1 : Heap), bY D A s.heap ([(q, .inl (cyI, N, .inl (fun _ => 0)))] ++ wa) H1 locs → W p l e R s m args below meth c H1 locs c2 s2 Q (F0 m (pc + 2) ls (.ref q :: rest))) : W p l e R s m args below meth c H locs cells slots Q (F0 m pc ls (.int k :: rest)) :=
  bNewI X.1 Y harr hn hN hbytes hcells hslots h1 h2 hdg (fun q H1 Y1 => kk q H1 ⟨fun j x h => by
    rcases lGet h with z | ⟨z0, z⟩
    · have := lLt z
      rw [show j = 0 by simp at this; omega] at z
      cases z
      exact Y1.1 _ _ (lR (k := 0) rfl)
    · exact Y1.1 _ _ (lL z), ⟨fun i j x z hi hj hxz => by
    rcases lGet hi with a | ⟨a0, a⟩ <;> rcases lGet hj with d | ⟨d0, d⟩
    · have := lLt a
      have := lLt d
      simp at *
      omega
    · have h3 := lLt a
      rw [show i = 0 by simp at h3; omega] at a
      cases a
      have h4 := Y1.2.1.1 _ _ _ _ (lR (wa := wa) (k := 0) rfl) (lL d) hxz
      have h5 := lLt d
      omega
    · have h3 := lLt d
      rw [show j = 0 by simp at h3; omega] at d
      cases d
      have h4 := Y1.2.1.1 _ _ _ _ (lL a) (lR (wa := wa) (k := 0) rfl) hxz
      have h5 := lLt a
      omega
    · have h4 := Y1.2.1.1 _ _ _ _ (lL a) (lL d) hxz
      simp at a0 d0 h4
      omega, fun j x h => by
    rcases lGet h with z | ⟨z0, z⟩
    · have := lLt z
      rw [show j = 0 by simp at this; omega] at z
      cases z
      exact Y1.2.1.2 _ _ (lR (wa := wa) (k := 0) rfl)
    · exact Y1.2.1.2 _ _ (lL z)⟩, Y1.2.2⟩)
end QROWS
