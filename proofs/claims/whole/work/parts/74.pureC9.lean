theorem g_dconst0 {X : Cx} {y : MethodName} {cc : ByteArray} {nL fr lo mc ms : Nat} (hX : Ok X y cc nL fr lo mc ms) {M : AH} {sz a b pc : Nat} {L : List (Nat × Value)} {st : List Value} (hdg : decode cc pc = .ok (.dconst 0, 1)) (k : G X nL M sz a b (pc + 1) L (.double FP.dconst0 :: st)) : G X nL M sz a b pc L st := by
  obtain ⟨p, l, e, R, s, m, args, below, meth, c, Q, A, D, T⟩ := X
  obtain ⟨hexec, hb, hml, hown, hlocks, hname, hK, hR, hA, hst⟩ := hX
  intro H locs ls hsz hwd hS hl hMA
  exact lv_dconst0 hexec hb hdg (k H locs ls hsz hwd hS hl hMA)
theorem g_ddiv {X : Cx} {y : MethodName} {cc : ByteArray} {nL fr lo mc ms : Nat} (hX : Ok X y cc nL fr lo mc ms) {M : AH} {sz a b pc : Nat} {L : List (Nat × Value)} {st : List Value} {x z : UInt64} (hdg : decode cc pc = .ok (.ddiv, 1)) (hne : vf_n64 (FP.ddiv x z)) (k : G X nL M sz a b (pc + 1) L (.double (FP.ddiv x z) :: st)) : G X nL M sz a b pc L (.double z :: .double x :: st) := by
  obtain ⟨p, l, e, R, s, m, args, below, meth, c, Q, A, D, T⟩ := X
  obtain ⟨hexec, hb, hml, hown, hlocks, hname, hK, hR, hA, hst⟩ := hX
  intro H locs ls hsz hwd hS hl hMA
  exact lv_ddiv hexec hb hdg hne (k H locs ls hsz hwd hS hl hMA)
/-- the mean, and that it is no NaN -/
def mnV (s n : Int32) : UInt64 := if n = 0 then FP.dconst0 else FP.ddiv (FP.i2d s) (FP.i2d n)
def mnOk (s n : Int32) : Prop := ¬ n = 0 → vf_n64 (FP.ddiv (FP.i2d s) (FP.i2d n))
def arH (P : PS) (F : FS) (a : Nat) : Int32 := match hoI P F (nI a) with
  | none => 0
  | some c => arB P c
theorem hld_n2 {P : PS} {F : FS} {k : Nat} (h : hoI P F (nI k) = none) : hld P F k = 0 ∧ arH P F k = 0 := by unfold hld arH; rw [h]; exact ⟨rfl, rfl⟩
theorem hld_s2 {P : PS} {F : FS} {k c : Nat} (h : hoI P F (nI k) = some c) : hld P F k = 1 ∧ arH P F k = arB P c := by unfold hld arH; rw [h]; exact ⟨rfl, rfl⟩
