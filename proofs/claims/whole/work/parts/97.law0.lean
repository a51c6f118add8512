/-! rows of the law -/
def yLn (nm : String) : MethodName := ⟨RL, nm, "([I)Z"⟩
theorem g_iand {X : Cx} {y : MethodName} {cc : ByteArray} {nL fr lo mc ms : Nat} (hX : Ok X y cc nL fr lo mc ms) {M : AH} {sz a b pc : Nat} {L : List (Nat × Value)} {st : List Value} {x z : Int32} (hdg : decode cc pc = .ok (.iand, 1)) (k : G X nL M sz a b (pc + 1) L (.int (x &&& z) :: st)) : G X nL M sz a b pc L (.int z :: .int x :: st) := by
  obtain ⟨p, l, e, R, s, m, args, below, meth, c, Q, A, D, T⟩ := X
  obtain ⟨hexec, hb, hml, hown, hlocks, hname, hK, hR, hA, hst⟩ := hX
  intro H locs ls hsz hwd hS hl hMA
  exact lv_iand hexec hb hdg (k H locs ls hsz hwd hS hl hMA)
theorem g_lcmpE {X : Cx} {y : MethodName} {cc : ByteArray} {nL fr lo mc ms : Nat} (hX : Ok X y cc nL fr lo mc ms) {M : AH} {sz a b pc : Nat} {L : List (Nat × Value)} {st : List Value} {x : Int64} (hdg : decode cc pc = .ok (.lcmp, 1)) (k : G X nL M sz a b (pc + 1) L (.int 0 :: st)) : G X nL M sz a b pc L (.long x :: .long x :: st) := by
  obtain ⟨p, l, e, R, s, m, args, below, meth, c, Q, A, D, T⟩ := X
  obtain ⟨hexec, hb, hml, hown, hlocks, hname, hK, hR, hA, hst⟩ := hX
  intro H locs ls hsz hwd hS hl hMA T hT X
  obtain ⟨t, a1, b1⟩ := k H locs ls hsz hwd hS hl hMA T hT X
  refine ⟨t, ?_, b1⟩
  jvm_step X.here [X.here.top, hexec, hb, hdg, Op.lcmp.wp_sem]
  exact a1
/-- the law's own script, a cell of before -/
def ScX (X : Cx) (bs n : Nat) (xs : Nat → Int32) : Prop := match X with
  | (_, _, _, _, s, _, _, _, _, _, _, A, _, _) => va_X bs n xs s s.heap ∧ bs < s.heap.size ∧ A = fun q => s.heap.size ≤ q
theorem g_sld {X : Cx} {y : MethodName} {cc : ByteArray} {nL fr lo mc ms : Nat} (hX : Ok X y cc nL fr lo mc ms) {bs n : Nat} {xs : Nat → Int32} (hS : ScX X bs n xs) (i : Nat) (hi : i < n) (hn : n ≤ 2560) {M : AH} {sz a b pc : Nat} {L : List (Nat × Value)} {st : List Value} {x : Int32} (hx : x = nI i) (hdg : decode cc pc = .ok (.iaload, 1)) (k : G X nL M sz a b (pc + 1) L (.int (xs i) :: st)) : G X nL M sz a b pc L (.int x :: .ref bs :: st) := by
  obtain ⟨p, l, e, R, s, m, args, below, meth, c, Q, A, D, T⟩ := X
  obtain ⟨hexec, hb, hml, hown, hlocks, hname, hK, hR, hA, hst⟩ := hX
  obtain ⟨h1, h2, h3⟩ := hS
  intro H locs ls hsz hwd hva hl hMA
  subst hx
  refine va_sld hexec hb h1 h2 (by rw [h3]; exact Nat.not_le.mpr h2) hva (vp_in_nI hi (by omega)) hdg ?_
  rw [nI_clamp (by omega)]
  exact k H locs ls hsz hwd hva hl hMA
theorem g_slen {X : Cx} {y : MethodName} {cc : ByteArray} {nL fr lo mc ms : Nat} (hX : Ok X y cc nL fr lo mc ms) {bs n : Nat} {xs : Nat → Int32} (hS : ScX X bs n xs) {M : AH} {sz a b pc : Nat} {L : List (Nat × Value)} {st : List Value} (hdg : decode cc pc = .ok (.arraylength, 1)) (k : G X nL M sz a b (pc + 1) L (.int (nI n) :: st)) : G X nL M sz a b pc L (.ref bs :: st) := by
  obtain ⟨p, l, e, R, s, m, args, below, meth, c, Q, A, D, T⟩ := X
  obtain ⟨hexec, hb, hml, hown, hlocks, hname, hK, hR, hA, hst⟩ := hX
  obtain ⟨h1, h2, h3⟩ := hS
  intro H locs ls hsz hwd hva hl hMA
  exact va_slen hexec hb h1 h2 (by rw [h3]; exact Nat.not_le.mpr h2) hva hdg (k H locs ls hsz hwd hva hl hMA)
