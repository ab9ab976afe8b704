/-- the kept story of a moment: numbers (ticks, level, left crane's 12, right crane's 12, how many spots left and right), braked, names and ticks of spots -/
abbrev Sto : Type := (Nat → Int32) × (Nat → Bool) × (Nat → Nat → Int32)
def mk28 (x0 x1 x2 x3 x4 x5 x6 x7 x8 x9 x10 x11 x12 x13 x14 x15 x16 x17 x18 x19 x20 x21 x22 x23 x24 x25 x26 x27 : Int32) : Nat → Int32 := fun i => match i with
  | 0 => x0
  | 1 => x1
  | 2 => x2
  | 3 => x3
  | 4 => x4
  | 5 => x5
  | 6 => x6
  | 7 => x7
  | 8 => x8
  | 9 => x9
  | 10 => x10
  | 11 => x11
  | 12 => x12
  | 13 => x13
  | 14 => x14
  | 15 => x15
  | 16 => x16
  | 17 => x17
  | 18 => x18
  | 19 => x19
  | 20 => x20
  | 21 => x21
  | 22 => x22
  | 23 => x23
  | 24 => x24
  | 25 => x25
  | 26 => x26
  | _ => x27
def mkB (x0 x1 : Bool) : Nat → Bool := fun i => match i with
  | 0 => x0
  | _ => x1
def mk4 (x0 x1 x2 x3 : Nat → Int32) : Nat → Nat → Int32 := fun i => match i with
  | 0 => x0
  | 1 => x1
  | 2 => x2
  | _ => x3
def mk11 (x0 x1 x2 x3 x4 x5 x6 x7 x8 x9 x10 : Int32) : Nat → Int32 := fun i => match i with
  | 0 => x0
  | 1 => x1
  | 2 => x2
  | 3 => x3
  | 4 => x4
  | 5 => x5
  | 6 => x6
  | 7 => x7
  | 8 => x8
  | 9 => x9
  | _ => x10
def mk25 (x0 x1 x2 x3 x4 x5 x6 x7 x8 x9 x10 x11 x12 x13 x14 x15 x16 x17 x18 x19 x20 x21 x22 x23 x24 : Int32) : Nat → Int32 := fun i => match i with
  | 0 => x0
  | 1 => x1
  | 2 => x2
  | 3 => x3
  | 4 => x4
  | 5 => x5
  | 6 => x6
  | 7 => x7
  | 8 => x8
  | 9 => x9
  | 10 => x10
  | 11 => x11
  | 12 => x12
  | 13 => x13
  | 14 => x14
  | 15 => x15
  | 16 => x16
  | 17 => x17
  | 18 => x18
  | 19 => x19
  | 20 => x20
  | 21 => x21
  | 22 => x22
  | 23 => x23
  | _ => x24
/-- the class's whole world, its main object's fields apart -/
def wX (cyC cyI : ClassId) (Q R E N P1 P2 P3 P4 : Nat → Nat) (fR fE fN f1 f2 f3 f4 : Nat) (r d : Nat → Int32) (n p1 p2 p3 p4 : Sto) (t : Nat → Int32) (tb : Nat → Bool) (ud xn xi : Int32) (xc : Nat → Int32) : va_W :=
  [(Q 0, .inr (7, [.ref (Q 1), .ref (Q 3), .ref fR, .ref fE, .ref fN, .ref f1, .ref f2, .ref f3, .ref f4, .int ud])), (Q 1, .inr (6, [.ref (Q 2), .int xn, .int xi])), (Q 2, .inl (cyC, 200, .inl xc)), (Q 3, .inr (2, [.ref (Q 4), .ref (Q 5), .int (t 0)])), (Q 4, .inr (0, [.int (t 1), .int (t 2), .int (t 3), .int (t 4), .int (t 5), .int (t 6), .int (t 7), .int (t 8), .int (t 9), .int (t 10), .int (t 11), .int (t 12), .int (bB (tb 0))])), (Q 5, .inr (0, [.int (t 13), .int (t 14), .int (t 15), .int (t 16), .int (t 17), .int (t 18), .int (t 19), .int (t 20), .int (t 21), .int (t 22), .int (t 23), .int (t 24), .int (bB (tb 1))])), (R 0, .inr (1, [.int (r 0), .int (r 1), .int (r 2), .int (r 3), .int (r 4), .ref (R 1), .ref (R 2)])), (R 1, .inr (4, [.int (r 5), .int (r 6), .int (r 7)])), (R 2, .inr (4, [.int (r 8), .int (r 9), .int (r 10)])), (E 0, .inr (1, [.int (d 0), .int (d 1), .int (d 2), .int (d 3), .int (d 4), .ref (E 1), .ref (E 2)])), (E 1, .inr (4, [.int (d 5), .int (d 6), .int (d 7)])), (E 2, .inr (4, [.int (d 8), .int (d 9), .int (d 10)])), (N 0, .inr (5, [.ref (N 1), .ref (N 4), .ref (N 7), .int (n.1 0)])), (N 1, .inr (2, [.ref (N 2), .ref (N 3), .int (n.1 1)])), (N 2, .inr (0, [.int (n.1 2), .int (n.1 3), .int (n.1 4), .int (n.1 5), .int (n.1 6), .int (n.1 7), .int (n.1 8), .int (n.1 9), .int (n.1 10), .int (n.1 11), .int (n.1 12), .int (n.1 13), .int (bB (n.2.1 0))])), (N 3, .inr (0, [.int (n.1 14), .int (n.1 15), .int (n.1 16), .int (n.1 17), .int (n.1 18), .int (n.1 19), .int (n.1 20), .int (n.1 21), .int (n.1 22), .int (n.1 23), .int (n.1 24), .int (n.1 25), .int (bB (n.2.1 1))])), (N 4, .inr (3, [.ref (N 5), .ref (N 6), .int (n.1 26)])), (N 5, .inl (cyI, 120, .inl (n.2.2 0))), (N 6, .inl (cyI, 120, .inl (n.2.2 1))), (N 7, .inr (3, [.ref (N 8), .ref (N 9), .int (n.1 27)])), (N 8, .inl (cyI, 120, .inl (n.2.2 2))), (N 9, .inl (cyI, 120, .inl (n.2.2 3))), (P1 0, .inr (5, [.ref (P1 1), .ref (P1 4), .ref (P1 7), .int (p1.1 0)])), (P1 1, .inr (2, [.ref (P1 2), .ref (P1 3), .int (p1.1 1)])), (P1 2, .inr (0, [.int (p1.1 2), .int (p1.1 3), .int (p1.1 4), .int (p1.1 5), .int (p1.1 6), .int (p1.1 7), .int (p1.1 8), .int (p1.1 9), .int (p1.1 10), .int (p1.1 11), .int (p1.1 12), .int (p1.1 13), .int (bB (p1.2.1 0))])), (P1 3, .inr (0, [.int (p1.1 14), .int (p1.1 15), .int (p1.1 16), .int (p1.1 17), .int (p1.1 18), .int (p1.1 19), .int (p1.1 20), .int (p1.1 21), .int (p1.1 22), .int (p1.1 23), .int (p1.1 24), .int (p1.1 25), .int (bB (p1.2.1 1))])), (P1 4, .inr (3, [.ref (P1 5), .ref (P1 6), .int (p1.1 26)])), (P1 5, .inl (cyI, 120, .inl (p1.2.2 0))), (P1 6, .inl (cyI, 120, .inl (p1.2.2 1))), (P1 7, .inr (3, [.ref (P1 8), .ref (P1 9), .int (p1.1 27)])), (P1 8, .inl (cyI, 120, .inl (p1.2.2 2))), (P1 9, .inl (cyI, 120, .inl (p1.2.2 3))), (P2 0, .inr (5, [.ref (P2 1), .ref (P2 4), .ref (P2 7), .int (p2.1 0)])), (P2 1, .inr (2, [.ref (P2 2), .ref (P2 3), .int (p2.1 1)])), (P2 2, .inr (0, [.int (p2.1 2), .int (p2.1 3), .int (p2.1 4), .int (p2.1 5), .int (p2.1 6), .int (p2.1 7), .int (p2.1 8), .int (p2.1 9), .int (p2.1 10), .int (p2.1 11), .int (p2.1 12), .int (p2.1 13), .int (bB (p2.2.1 0))])), (P2 3, .inr (0, [.int (p2.1 14), .int (p2.1 15), .int (p2.1 16), .int (p2.1 17), .int (p2.1 18), .int (p2.1 19), .int (p2.1 20), .int (p2.1 21), .int (p2.1 22), .int (p2.1 23), .int (p2.1 24), .int (p2.1 25), .int (bB (p2.2.1 1))])), (P2 4, .inr (3, [.ref (P2 5), .ref (P2 6), .int (p2.1 26)])), (P2 5, .inl (cyI, 120, .inl (p2.2.2 0))), (P2 6, .inl (cyI, 120, .inl (p2.2.2 1))), (P2 7, .inr (3, [.ref (P2 8), .ref (P2 9), .int (p2.1 27)])), (P2 8, .inl (cyI, 120, .inl (p2.2.2 2))), (P2 9, .inl (cyI, 120, .inl (p2.2.2 3))), (P3 0, .inr (5, [.ref (P3 1), .ref (P3 4), .ref (P3 7), .int (p3.1 0)])), (P3 1, .inr (2, [.ref (P3 2), .ref (P3 3), .int (p3.1 1)])), (P3 2, .inr (0, [.int (p3.1 2), .int (p3.1 3), .int (p3.1 4), .int (p3.1 5), .int (p3.1 6), .int (p3.1 7), .int (p3.1 8), .int (p3.1 9), .int (p3.1 10), .int (p3.1 11), .int (p3.1 12), .int (p3.1 13), .int (bB (p3.2.1 0))])), (P3 3, .inr (0, [.int (p3.1 14), .int (p3.1 15), .int (p3.1 16), .int (p3.1 17), .int (p3.1 18), .int (p3.1 19), .int (p3.1 20), .int (p3.1 21), .int (p3.1 22), .int (p3.1 23), .int (p3.1 24), .int (p3.1 25), .int (bB (p3.2.1 1))])), (P3 4, .inr (3, [.ref (P3 5), .ref (P3 6), .int (p3.1 26)])), (P3 5, .inl (cyI, 120, .inl (p3.2.2 0))), (P3 6, .inl (cyI, 120, .inl (p3.2.2 1))), (P3 7, .inr (3, [.ref (P3 8), .ref (P3 9), .int (p3.1 27)])), (P3 8, .inl (cyI, 120, .inl (p3.2.2 2))), (P3 9, .inl (cyI, 120, .inl (p3.2.2 3))), (P4 0, .inr (5, [.ref (P4 1), .ref (P4 4), .ref (P4 7), .int (p4.1 0)])), (P4 1, .inr (2, [.ref (P4 2), .ref (P4 3), .int (p4.1 1)])), (P4 2, .inr (0, [.int (p4.1 2), .int (p4.1 3), .int (p4.1 4), .int (p4.1 5), .int (p4.1 6), .int (p4.1 7), .int (p4.1 8), .int (p4.1 9), .int (p4.1 10), .int (p4.1 11), .int (p4.1 12), .int (p4.1 13), .int (bB (p4.2.1 0))])), (P4 3, .inr (0, [.int (p4.1 14), .int (p4.1 15), .int (p4.1 16), .int (p4.1 17), .int (p4.1 18), .int (p4.1 19), .int (p4.1 20), .int (p4.1 21), .int (p4.1 22), .int (p4.1 23), .int (p4.1 24), .int (p4.1 25), .int (bB (p4.2.1 1))])), (P4 4, .inr (3, [.ref (P4 5), .ref (P4 6), .int (p4.1 26)])), (P4 5, .inl (cyI, 120, .inl (p4.2.2 0))), (P4 6, .inl (cyI, 120, .inl (p4.2.2 1))), (P4 7, .inr (3, [.ref (P4 8), .ref (P4 9), .int (p4.1 27)])), (P4 8, .inl (cyI, 120, .inl (p4.2.2 2))), (P4 9, .inl (cyI, 120, .inl (p4.2.2 3)))]
def wA (cyC cyI : ClassId) (Q R E N P1 P2 P3 P4 : Nat → Nat) (r d : Nat → Int32) (n p1 p2 p3 p4 : Sto) (t : Nat → Int32) (tb : Nat → Bool) (ud xn xi : Int32) (xc : Nat → Int32) : va_W :=
  wX cyC cyI Q R E N P1 P2 P3 P4 (R 0) (E 0) (N 0) (P1 0) (P2 0) (P3 0) (P4 0) r d n p1 p2 p3 p4 t tb ud xn xi xc
/-- a contract over a larger world -/
theorem CI.frame {l : Launch} {y : MethodName} {wsy : List Cond} {rm : Room} {D : va_G} {cyC cyI : ClassId} {av : List Value} {wc w1 : va_W} {r : Int32} (h : CI l y wsy rm D cyC cyI av wc r w1) {ws ws' : va_W} (isC isR : List Nat) (hnd : va_nd isC = true) (hC : isC.map (fun i => ws[i]?) = wc.map some) {ad : List Nat} (hf1 : w1.map (·.1) = ad) (hf2 : wc.map (·.1) = ad) (hC2 : isC.map (fun i => ws'[i]?) = w1.map some) {wr : va_W} (hR2 : isR.map (fun i => ws'[i]?) = wr.map some) (hR3 : isR.map (fun i => ws[i]?) = wr.map some) {nn : Nat} (hlen : ws'.length = nn) (hcov : (List.range nn).all (fun i => isC.contains i || isR.contains i) = true) : CI l y wsy rm D cyC cyI av ws r ws' := by
  intro sz
  refine MetFree.mono (h sz) ?_ (fun _ _ _ _ _ h => h) ?_
  · rintro a s ⟨ha, hsz, hP, hK, hD, hN⟩
    refine ⟨ha, hsz, fun k q hq => ?_, hK, ⟨fun i j x y hi hj hxy => ?_, fun _ _ _ => trivial⟩, hN⟩
    · obtain ⟨i, -, h2⟩ := bAt hC k q hq
      exact hP i q h2
    · obtain ⟨i2, h1, h2⟩ := bAt hC i x hi
      obtain ⟨j2, h3, h4⟩ := bAt hC j y hj
      have h5 := hD.1 i2 j2 x y h2 h4 hxy
      subst h5
      exact va_nd_inj isC hnd i j i2 h1 h3
  · rintro a s o t ⟨ha, hsz, hP, hK, hD, hN⟩ ⟨⟨⟨r', u, ho, hr, hB⟩, hF⟩, L, hL, hfree⟩
    subst hsz
    have hsub : ∀ q, va_A wc s.heap.size q → va_A ws s.heap.size q := by
      rintro q (⟨k, e, hq⟩ | hq)
      · obtain ⟨i, -, h2⟩ := bAt hC k (q, e) hq
        exact Or.inl ⟨i, e, h2⟩
      · exact Or.inr hq
    have hj := bJoin2 hP hD isC isR hC (hf1.trans hf2.symm) hC2 (hR2.trans hR3.symm) hlen hcov hF.2 hB
    exact ⟨⟨⟨r', u, ho, hr, hj.1⟩, hF.1, fun q h1 h2 => hF.2 q h1 (fun z => h2 (hsub q z))⟩, L, hL, fun q hq => hsub _ (hfree q hq)⟩
/-- the same, behind a call that leaves its cells as they were -/
theorem CI.frame0 {l : Launch} {y : MethodName} {wsy : List Cond} {rm : Room} {D : va_G} {cyC cyI : ClassId} {av : List Value} {wc : va_W} {r : Int32} (h : CI l y wsy rm D cyC cyI av wc r wc) {ws : va_W} (isC : List Nat) (hnd : va_nd isC = true) (hC : isC.map (fun i => ws[i]?) = wc.map some) : CI l y wsy rm D cyC cyI av ws r ws := by
  intro sz
  refine MetFree.mono (h sz) ?_ (fun _ _ _ _ _ h => h) ?_
  · rintro a s ⟨ha, hsz, hP, hK, hD, hN⟩
    refine ⟨ha, hsz, fun k q hq => ?_, hK, ⟨fun i j x y hi hj hxy => ?_, fun _ _ _ => trivial⟩, hN⟩
    · obtain ⟨i, -, h2⟩ := bAt hC k q hq
      exact hP i q h2
    · obtain ⟨i2, h1, h2⟩ := bAt hC i x hi
      obtain ⟨j2, h3, h4⟩ := bAt hC j y hj
      have h5 := hD.1 i2 j2 x y h2 h4 hxy
      subst h5
      exact va_nd_inj isC hnd i j i2 h1 h3
  · rintro a s o t ⟨ha, hsz, hP, hK, hD, hN⟩ ⟨⟨⟨r', u, ho, hr, hB⟩, hF⟩, L, hL, hfree⟩
    subst hsz
    have hsub : ∀ q, va_A wc s.heap.size q → va_A ws s.heap.size q := by
      rintro q (⟨k, e, hq⟩ | hq)
      · obtain ⟨i, -, h2⟩ := bAt hC k (q, e) hq
        exact Or.inl ⟨i, e, h2⟩
      · exact Or.inr hq
    have hj := bJoin0 hP hD isC hC hF.2 hB
    exact ⟨⟨⟨r', u, ho, hr, hj⟩, hF.1, fun q h1 h2 => hF.2 q h1 (fun z => h2 (hsub q z))⟩, L, hL, fun q hq => hsub _ (hfree q hq)⟩
/-- the cells behind, told in another order -/
theorem CI.perm {l : Launch} {y : MethodName} {wsy : List Cond} {rm : Room} {D : va_G} {cyC cyI : ClassId} {av : List Value} {wc w1 w2 : va_W} {r : Int32} (h : CI l y wsy rm D cyC cyI av wc r w1) (pl : List Nat) (hp : pl.map (fun i => w1[i]?) = w2.map some) : CI l y wsy rm D cyC cyI av wc r w2 := by
  intro sz
  refine MetFree.mono (h sz) (fun _ _ h => h) (fun _ _ _ _ _ h => h) ?_
  rintro a s o t _ ⟨⟨⟨r', u, ho, hr, hB⟩, hF⟩, L, hL, hfree⟩
  refine ⟨⟨⟨r', u, ho, hr, fun k q hq => ?_⟩, hF⟩, L, hL, hfree⟩
  obtain ⟨i, -, h2⟩ := bAt hp k q hq
  exact hB i q h2
/-- the same cells, in some order -/
def wPerm (wa w2 : va_W) : Prop := ∃ pl : List Nat, va_nd pl = true ∧ pl.map (fun i => (wa.map (·.1))[i]?) = (w2.map (·.1)).map some
