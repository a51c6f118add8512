theorem g_iadd {X : Cx} {y : MethodName} {cc : ByteArray} {nL fr lo mc ms : Nat} (hX : Ok X y cc nL fr lo mc ms) {M : AH} {sz a b pc : Nat} {L : List (Nat × Value)} {st : List Value} {x z : Int32} (hdg : decode cc pc = .ok (.iadd, 1)) (k : G X nL M sz a b (pc + 1) L (.int (x + z) :: st)) : G X nL M sz a b pc L (.int z :: .int x :: st) := by
  obtain ⟨p, l, e, R, s, m, args, below, meth, c, Q, A, D, T⟩ := X
  obtain ⟨hexec, hb, hml, hown, hlocks, hname, hK, hR, hA, hst⟩ := hX
  intro H locs ls hsz hwd hS hl hMA
  exact lv_iadd hexec hb hdg (k H locs ls hsz hwd hS hl hMA)
theorem g_isub {X : Cx} {y : MethodName} {cc : ByteArray} {nL fr lo mc ms : Nat} (hX : Ok X y cc nL fr lo mc ms) {M : AH} {sz a b pc : Nat} {L : List (Nat × Value)} {st : List Value} {x z : Int32} (hdg : decode cc pc = .ok (.isub, 1)) (k : G X nL M sz a b (pc + 1) L (.int (x - z) :: st)) : G X nL M sz a b pc L (.int z :: .int x :: st) := by
  obtain ⟨p, l, e, R, s, m, args, below, meth, c, Q, A, D, T⟩ := X
  obtain ⟨hexec, hb, hml, hown, hlocks, hname, hK, hR, hA, hst⟩ := hX
  intro H locs ls hsz hwd hS hl hMA
  exact lv_isub hexec hb hdg (k H locs ls hsz hwd hS hl hMA)
theorem g_imul {X : Cx} {y : MethodName} {cc : ByteArray} {nL fr lo mc ms : Nat} (hX : Ok X y cc nL fr lo mc ms) {M : AH} {sz a b pc : Nat} {L : List (Nat × Value)} {st : List Value} {x z : Int32} (hdg : decode cc pc = .ok (.imul, 1)) (k : G X nL M sz a b (pc + 1) L (.int (x * z) :: st)) : G X nL M sz a b pc L (.int z :: .int x :: st) := by
  obtain ⟨p, l, e, R, s, m, args, below, meth, c, Q, A, D, T⟩ := X
  obtain ⟨hexec, hb, hml, hown, hlocks, hname, hK, hR, hA, hst⟩ := hX
  intro H locs ls hsz hwd hS hl hMA
  exact lv_imul hexec hb hdg (k H locs ls hsz hwd hS hl hMA)
theorem g_ladd {X : Cx} {y : MethodName} {cc : ByteArray} {nL fr lo mc ms : Nat} (hX : Ok X y cc nL fr lo mc ms) {M : AH} {sz a b pc : Nat} {L : List (Nat × Value)} {st : List Value} {x z : Int64} (hdg : decode cc pc = .ok (.ladd, 1)) (k : G X nL M sz a b (pc + 1) L (.long (x + z) :: st)) : G X nL M sz a b pc L (.long z :: .long x :: st) := by
  obtain ⟨p, l, e, R, s, m, args, below, meth, c, Q, A, D, T⟩ := X
  obtain ⟨hexec, hb, hml, hown, hlocks, hname, hK, hR, hA, hst⟩ := hX
  intro H locs ls hsz hwd hS hl hMA
  exact lv_ladd hexec hb hdg (k H locs ls hsz hwd hS hl hMA)
theorem g_lmul {X : Cx} {y : MethodName} {cc : ByteArray} {nL fr lo mc ms : Nat} (hX : Ok X y cc nL fr lo mc ms) {M : AH} {sz a b pc : Nat} {L : List (Nat × Value)} {st : List Value} {x z : Int64} (hdg : decode cc pc = .ok (.lmul, 1)) (k : G X nL M sz a b (pc + 1) L (.long (x * z) :: st)) : G X nL M sz a b pc L (.long z :: .long x :: st) := by
  obtain ⟨p, l, e, R, s, m, args, below, meth, c, Q, A, D, T⟩ := X
  obtain ⟨hexec, hb, hml, hown, hlocks, hname, hK, hR, hA, hst⟩ := hX
  intro H locs ls hsz hwd hS hl hMA
  exact lv_lmul hexec hb hdg (k H locs ls hsz hwd hS hl hMA)
theorem g_i2l {X : Cx} {y : MethodName} {cc : ByteArray} {nL fr lo mc ms : Nat} (hX : Ok X y cc nL fr lo mc ms) {M : AH} {sz a b pc : Nat} {L : List (Nat × Value)} {st : List Value} {x : Int32} (hdg : decode cc pc = .ok (.i2l, 1)) (k : G X nL M sz a b (pc + 1) L (.long x.toInt64 :: st)) : G X nL M sz a b pc L (.int x :: st) := by
  obtain ⟨p, l, e, R, s, m, args, below, meth, c, Q, A, D, T⟩ := X
  obtain ⟨hexec, hb, hml, hown, hlocks, hname, hK, hR, hA, hst⟩ := hX
  intro H locs ls hsz hwd hS hl hMA
  exact lv_i2l hexec hb hdg rfl (k H locs ls hsz hwd hS hl hMA)
theorem g_i2d {X : Cx} {y : MethodName} {cc : ByteArray} {nL fr lo mc ms : Nat} (hX : Ok X y cc nL fr lo mc ms) {M : AH} {sz a b pc : Nat} {L : List (Nat × Value)} {st : List Value} {x : Int32} (hdg : decode cc pc = .ok (.i2d, 1)) (k : G X nL M sz a b (pc + 1) L (.double (FP.i2d x) :: st)) : G X nL M sz a b pc L (.int x :: st) := by
  obtain ⟨p, l, e, R, s, m, args, below, meth, c, Q, A, D, T⟩ := X
  obtain ⟨hexec, hb, hml, hown, hlocks, hname, hK, hR, hA, hst⟩ := hX
  intro H locs ls hsz hwd hS hl hMA
  exact lv_i2d hexec hb hdg (k H locs ls hsz hwd hS hl hMA)
theorem g_dcmp {X : Cx} {y : MethodName} {cc : ByteArray} {nL fr lo mc ms : Nat} (hX : Ok X y cc nL fr lo mc ms) {M : AH} {sz a b pc : Nat} {L : List (Nat × Value)} {st : List Value} {x z : UInt64} {op : CmpOp} (hdg : decode cc pc = .ok (.dcmp op, 1)) (k : G X nL M sz a b (pc + 1) L (.int (Op.cmpValue (FP.dcmp x z) op) :: st)) : G X nL M sz a b pc L (.double z :: .double x :: st) := by
  obtain ⟨p, l, e, R, s, m, args, below, meth, c, Q, A, D, T⟩ := X
  obtain ⟨hexec, hb, hml, hown, hlocks, hname, hK, hR, hA, hst⟩ := hX
  intro H locs ls hsz hwd hS hl hMA
  exact lv_dcmp hexec hb hdg (k H locs ls hsz hwd hS hl hMA)
theorem g_iconst {X : Cx} {y : MethodName} {cc : ByteArray} {nL fr lo mc ms : Nat} (hX : Ok X y cc nL fr lo mc ms) {M : AH} {sz a b pc : Nat} {L : List (Nat × Value)} {st : List Value} {n : Int} {v : Int32} (hdg : decode cc pc = .ok (.iconst n, 1)) (hv : Int32.ofInt n = v) (k : G X nL M sz a b (pc + 1) L (.int v :: st)) : G X nL M sz a b pc L (st) := by
  obtain ⟨p, l, e, R, s, m, args, below, meth, c, Q, A, D, T⟩ := X
  obtain ⟨hexec, hb, hml, hown, hlocks, hname, hK, hR, hA, hst⟩ := hX
  intro H locs ls hsz hwd hS hl hMA
  exact lv_iconst hexec hb hdg hv (k H locs ls hsz hwd hS hl hMA)
theorem g_bipush {X : Cx} {y : MethodName} {cc : ByteArray} {nL fr lo mc ms : Nat} (hX : Ok X y cc nL fr lo mc ms) {M : AH} {sz a b pc : Nat} {L : List (Nat × Value)} {st : List Value} {n : Int} {v : Int32} (hdg : decode cc pc = .ok (.bipush n, 2)) (hv : (Int8.ofInt n).toInt32 = v) (k : G X nL M sz a b (pc + 2) L (.int v :: st)) : G X nL M sz a b pc L (st) := by
  obtain ⟨p, l, e, R, s, m, args, below, meth, c, Q, A, D, T⟩ := X
  obtain ⟨hexec, hb, hml, hown, hlocks, hname, hK, hR, hA, hst⟩ := hX
  intro H locs ls hsz hwd hS hl hMA
  exact lv_bipush hexec hb hdg hv (k H locs ls hsz hwd hS hl hMA)
theorem g_sipush {X : Cx} {y : MethodName} {cc : ByteArray} {nL fr lo mc ms : Nat} (hX : Ok X y cc nL fr lo mc ms) {M : AH} {sz a b pc : Nat} {L : List (Nat × Value)} {st : List Value} {n : Int} {v : Int32} (hdg : decode cc pc = .ok (.sipush n, 3)) (hv : (Int16.ofInt n).toInt32 = v) (k : G X nL M sz a b (pc + 3) L (.int v :: st)) : G X nL M sz a b pc L (st) := by
  obtain ⟨p, l, e, R, s, m, args, below, meth, c, Q, A, D, T⟩ := X
  obtain ⟨hexec, hb, hml, hown, hlocks, hname, hK, hR, hA, hst⟩ := hX
  intro H locs ls hsz hwd hS hl hMA
  exact lv_sipush hexec hb hdg hv (k H locs ls hsz hwd hS hl hMA)
theorem g_null {X : Cx} {y : MethodName} {cc : ByteArray} {nL fr lo mc ms : Nat} (hX : Ok X y cc nL fr lo mc ms) {M : AH} {sz a b pc : Nat} {L : List (Nat × Value)} {st : List Value} (hdg : decode cc pc = .ok (.aconst_null, 1)) (k : G X nL M sz a b (pc + 1) L (.null :: st)) : G X nL M sz a b pc L (st) := by
  obtain ⟨p, l, e, R, s, m, args, below, meth, c, Q, A, D, T⟩ := X
  obtain ⟨hexec, hb, hml, hown, hlocks, hname, hK, hR, hA, hst⟩ := hX
  intro H locs ls hsz hwd hS hl hMA
  exact lv_null hexec hb hdg (k H locs ls hsz hwd hS hl hMA)
theorem g_dup {X : Cx} {y : MethodName} {cc : ByteArray} {nL fr lo mc ms : Nat} (hX : Ok X y cc nL fr lo mc ms) {M : AH} {sz a b pc : Nat} {L : List (Nat × Value)} {st : List Value} {v : Value} (hdg : decode cc pc = .ok (.dup, 1)) (hv : v.category = 1) (k : G X nL M sz a b (pc + 1) L (v :: v :: st)) : G X nL M sz a b pc L (v :: st) := by
  obtain ⟨p, l, e, R, s, m, args, below, meth, c, Q, A, D, T⟩ := X
  obtain ⟨hexec, hb, hml, hown, hlocks, hname, hK, hR, hA, hst⟩ := hX
  intro H locs ls hsz hwd hS hl hMA
  exact lv_dup hexec hb hdg hv (k H locs ls hsz hwd hS hl hMA)
theorem g_dup2 {X : Cx} {y : MethodName} {cc : ByteArray} {nL fr lo mc ms : Nat} (hX : Ok X y cc nL fr lo mc ms) {M : AH} {sz a b pc : Nat} {L : List (Nat × Value)} {st : List Value} {v w : Value} (hdg : decode cc pc = .ok (.dup2, 1)) (hv : v.category = 1) (hw : w.category = 1) (k : G X nL M sz a b (pc + 1) L (v :: w :: v :: w :: st)) : G X nL M sz a b pc L (v :: w :: st) := by
  obtain ⟨p, l, e, R, s, m, args, below, meth, c, Q, A, D, T⟩ := X
  obtain ⟨hexec, hb, hml, hown, hlocks, hname, hK, hR, hA, hst⟩ := hX
  intro H locs ls hsz hwd hS hl hMA
  exact lv_dup2_11 hexec hb hdg hv hw (k H locs ls hsz hwd hS hl hMA)
theorem g_pop {X : Cx} {y : MethodName} {cc : ByteArray} {nL fr lo mc ms : Nat} (hX : Ok X y cc nL fr lo mc ms) {M : AH} {sz a b pc : Nat} {L : List (Nat × Value)} {st : List Value} {v : Value} (hdg : decode cc pc = .ok (.pop, 1)) (hv : v.category = 1) (k : G X nL M sz a b (pc + 1) L (st)) : G X nL M sz a b pc L (v :: st) := by
  obtain ⟨p, l, e, R, s, m, args, below, meth, c, Q, A, D, T⟩ := X
  obtain ⟨hexec, hb, hml, hown, hlocks, hname, hK, hR, hA, hst⟩ := hX
  intro H locs ls hsz hwd hS hl hMA
  exact lv_pop hexec hb hdg hv (k H locs ls hsz hwd hS hl hMA)
theorem g_iload {X : Cx} {y : MethodName} {cc : ByteArray} {nL fr lo mc ms : Nat} (hX : Ok X y cc nL fr lo mc ms) {M : AH} {sz a b pc : Nat} {L : List (Nat × Value)} {st : List Value} {i : Nat} {x : Int32} (hdg : decode cc pc = .ok (.iload i, 2)) (j : Nat) (hv : L[j]? = some (i, .int x)) (k : G X nL M sz a b (pc + 2) L (.int x :: st)) : G X nL M sz a b pc L (st) := by
  obtain ⟨p, l, e, R, s, m, args, below, meth, c, Q, A, D, T⟩ := X
  obtain ⟨hexec, hb, hml, hown, hlocks, hname, hK, hR, hA, hst⟩ := hX
  intro H locs ls hsz hwd hS hl hMA
  exact lv_iload hexec hb hdg (lv_at hl j hv) (k H locs ls hsz hwd hS hl hMA)
theorem g_iload_n {X : Cx} {y : MethodName} {cc : ByteArray} {nL fr lo mc ms : Nat} (hX : Ok X y cc nL fr lo mc ms) {M : AH} {sz a b pc : Nat} {L : List (Nat × Value)} {st : List Value} {i : Fin 4} {x : Int32} (hdg : decode cc pc = .ok (.iload_n i, 1)) (j : Nat) (hv : L[j]? = some ((i : Nat), .int x)) (k : G X nL M sz a b (pc + 1) L (.int x :: st)) : G X nL M sz a b pc L (st) := by
  obtain ⟨p, l, e, R, s, m, args, below, meth, c, Q, A, D, T⟩ := X
  obtain ⟨hexec, hb, hml, hown, hlocks, hname, hK, hR, hA, hst⟩ := hX
  intro H locs ls hsz hwd hS hl hMA
  exact lv_iload_n hexec hb hdg rfl (lv_at hl j hv) (k H locs ls hsz hwd hS hl hMA)
theorem g_lload {X : Cx} {y : MethodName} {cc : ByteArray} {nL fr lo mc ms : Nat} (hX : Ok X y cc nL fr lo mc ms) {M : AH} {sz a b pc : Nat} {L : List (Nat × Value)} {st : List Value} {i : Nat} {x : Int64} (hdg : decode cc pc = .ok (.lload i, 2)) (j : Nat) (hv : L[j]? = some (i, .long x)) (k : G X nL M sz a b (pc + 2) L (.long x :: st)) : G X nL M sz a b pc L (st) := by
  obtain ⟨p, l, e, R, s, m, args, below, meth, c, Q, A, D, T⟩ := X
  obtain ⟨hexec, hb, hml, hown, hlocks, hname, hK, hR, hA, hst⟩ := hX
  intro H locs ls hsz hwd hS hl hMA
  exact lv_lload hexec hb hdg (lv_at hl j hv) (k H locs ls hsz hwd hS hl hMA)
theorem g_lload_n {X : Cx} {y : MethodName} {cc : ByteArray} {nL fr lo mc ms : Nat} (hX : Ok X y cc nL fr lo mc ms) {M : AH} {sz a b pc : Nat} {L : List (Nat × Value)} {st : List Value} {i : Fin 4} {x : Int64} (hdg : decode cc pc = .ok (.lload_n i, 1)) (j : Nat) (hv : L[j]? = some ((i : Nat), .long x)) (k : G X nL M sz a b (pc + 1) L (.long x :: st)) : G X nL M sz a b pc L (st) := by
  obtain ⟨p, l, e, R, s, m, args, below, meth, c, Q, A, D, T⟩ := X
  obtain ⟨hexec, hb, hml, hown, hlocks, hname, hK, hR, hA, hst⟩ := hX
  intro H locs ls hsz hwd hS hl hMA
  exact lv_lload_n hexec hb hdg rfl (lv_at hl j hv) (k H locs ls hsz hwd hS hl hMA)
theorem g_dload {X : Cx} {y : MethodName} {cc : ByteArray} {nL fr lo mc ms : Nat} (hX : Ok X y cc nL fr lo mc ms) {M : AH} {sz a b pc : Nat} {L : List (Nat × Value)} {st : List Value} {i : Nat} {x : UInt64} (hdg : decode cc pc = .ok (.dload i, 2)) (j : Nat) (hv : L[j]? = some (i, .double x)) (k : G X nL M sz a b (pc + 2) L (.double x :: st)) : G X nL M sz a b pc L (st) := by
  obtain ⟨p, l, e, R, s, m, args, below, meth, c, Q, A, D, T⟩ := X
  obtain ⟨hexec, hb, hml, hown, hlocks, hname, hK, hR, hA, hst⟩ := hX
  intro H locs ls hsz hwd hS hl hMA
  exact lv_dload hexec hb hdg (lv_at hl j hv) (k H locs ls hsz hwd hS hl hMA)
theorem g_aload {X : Cx} {y : MethodName} {cc : ByteArray} {nL fr lo mc ms : Nat} (hX : Ok X y cc nL fr lo mc ms) {M : AH} {sz a b pc : Nat} {L : List (Nat × Value)} {st : List Value} {i : Nat} {x : Nat} (hdg : decode cc pc = .ok (.aload i, 2)) (j : Nat) (hv : L[j]? = some (i, .ref x)) (k : G X nL M sz a b (pc + 2) L (.ref x :: st)) : G X nL M sz a b pc L (st) := by
  obtain ⟨p, l, e, R, s, m, args, below, meth, c, Q, A, D, T⟩ := X
  obtain ⟨hexec, hb, hml, hown, hlocks, hname, hK, hR, hA, hst⟩ := hX
  intro H locs ls hsz hwd hS hl hMA
  exact lv_aload hexec hb hdg (lv_at hl j hv) (k H locs ls hsz hwd hS hl hMA)
theorem g_aload_n {X : Cx} {y : MethodName} {cc : ByteArray} {nL fr lo mc ms : Nat} (hX : Ok X y cc nL fr lo mc ms) {M : AH} {sz a b pc : Nat} {L : List (Nat × Value)} {st : List Value} {i : Fin 4} {x : Nat} (hdg : decode cc pc = .ok (.aload_n i, 1)) (j : Nat) (hv : L[j]? = some ((i : Nat), .ref x)) (k : G X nL M sz a b (pc + 1) L (.ref x :: st)) : G X nL M sz a b pc L (st) := by
  obtain ⟨p, l, e, R, s, m, args, below, meth, c, Q, A, D, T⟩ := X
  obtain ⟨hexec, hb, hml, hown, hlocks, hname, hK, hR, hA, hst⟩ := hX
  intro H locs ls hsz hwd hS hl hMA
  exact lv_aload_n hexec hb hdg rfl (lv_at hl j hv) (k H locs ls hsz hwd hS hl hMA)
theorem g_aloadN {X : Cx} {y : MethodName} {cc : ByteArray} {nL fr lo mc ms : Nat} (hX : Ok X y cc nL fr lo mc ms) {M : AH} {sz a b pc : Nat} {L : List (Nat × Value)} {st : List Value} {i : Nat} (hdg : decode cc pc = .ok (.aload i, 2)) (j : Nat) (hv : L[j]? = some (i, .null)) (k : G X nL M sz a b (pc + 2) L (.null :: st)) : G X nL M sz a b pc L (st) := by
  obtain ⟨p, l, e, R, s, m, args, below, meth, c, Q, A, D, T⟩ := X
  obtain ⟨hexec, hb, hml, hown, hlocks, hname, hK, hR, hA, hst⟩ := hX
  intro H locs ls hsz hwd hS hl hMA
  exact lv_aloadN hexec hb hdg (lv_at hl j hv) (k H locs ls hsz hwd hS hl hMA)
theorem g_aload_nN {X : Cx} {y : MethodName} {cc : ByteArray} {nL fr lo mc ms : Nat} (hX : Ok X y cc nL fr lo mc ms) {M : AH} {sz a b pc : Nat} {L : List (Nat × Value)} {st : List Value} {i : Fin 4} (hdg : decode cc pc = .ok (.aload_n i, 1)) (j : Nat) (hv : L[j]? = some ((i : Nat), .null)) (k : G X nL M sz a b (pc + 1) L (.null :: st)) : G X nL M sz a b pc L (st) := by
  obtain ⟨p, l, e, R, s, m, args, below, meth, c, Q, A, D, T⟩ := X
  obtain ⟨hexec, hb, hml, hown, hlocks, hname, hK, hR, hA, hst⟩ := hX
  intro H locs ls hsz hwd hS hl hMA
  exact lv_aload_nN hexec hb hdg rfl (lv_at hl j hv) (k H locs ls hsz hwd hS hl hMA)
theorem g_aloadQ {X : Cx} {y : MethodName} {cc : ByteArray} {nL fr lo mc ms : Nat} (hX : Ok X y cc nL fr lo mc ms) {M : AH} {sz a b pc : Nat} {L : List (Nat × Value)} {st : List Value} {i : Nat} {r : Option Nat} (hdg : decode cc pc = .ok (.aload i, 2)) (j : Nat) (hv : L[j]? = some (i, va_rf r)) (k : G X nL M sz a b (pc + 2) L (va_rf r :: st)) : G X nL M sz a b pc L (st) := by
  obtain ⟨p, l, e, R, s, m, args, below, meth, c, Q, A, D, T⟩ := X
  obtain ⟨hexec, hb, hml, hown, hlocks, hname, hK, hR, hA, hst⟩ := hX
  intro H locs ls hsz hwd hS hl hMA
  cases r with
  | none => exact lv_aloadN hexec hb hdg (lv_at hl j hv) (k H locs ls hsz hwd hS hl hMA)
  | some x => exact lv_aload hexec hb hdg (lv_at hl j hv) (k H locs ls hsz hwd hS hl hMA)
theorem g_aload_nQ {X : Cx} {y : MethodName} {cc : ByteArray} {nL fr lo mc ms : Nat} (hX : Ok X y cc nL fr lo mc ms) {M : AH} {sz a b pc : Nat} {L : List (Nat × Value)} {st : List Value} {i : Fin 4} {r : Option Nat} (hdg : decode cc pc = .ok (.aload_n i, 1)) (j : Nat) (hv : L[j]? = some ((i : Nat), va_rf r)) (k : G X nL M sz a b (pc + 1) L (va_rf r :: st)) : G X nL M sz a b pc L (st) := by
  obtain ⟨p, l, e, R, s, m, args, below, meth, c, Q, A, D, T⟩ := X
  obtain ⟨hexec, hb, hml, hown, hlocks, hname, hK, hR, hA, hst⟩ := hX
  intro H locs ls hsz hwd hS hl hMA
  cases r with
  | none => exact lv_aload_nN hexec hb hdg rfl (lv_at hl j hv) (k H locs ls hsz hwd hS hl hMA)
  | some x => exact lv_aload_n hexec hb hdg rfl (lv_at hl j hv) (k H locs ls hsz hwd hS hl hMA)
theorem g_istore {X : Cx} {y : MethodName} {cc : ByteArray} {nL fr lo mc ms : Nat} (hX : Ok X y cc nL fr lo mc ms) {M : AH} {sz a b pc : Nat} {L : List (Nat × Value)} {st : List Value} {i : Nat} {x : Int32} {L' : List (Nat × Value)} (hdg : decode cc pc = .ok (.istore i, 2)) (hn : i < nL) (hL : (i, Value.int x) :: L.filter (fun q => !(q.1 == i) && !(q.1 + 1 == i && q.2.category == 2)) = L') (k : G X nL M sz a b (pc + 2) L' st) : G X nL M sz a b pc L (Value.int x :: st) := by
  obtain ⟨p, l, e, R, s, m, args, below, meth, c, Q, A, D, T⟩ := X
  obtain ⟨hexec, hb, hml, hown, hlocks, hname, hK, hR, hA, hst⟩ := hX
  intro H locs ls hsz hwd hS hl hMA
  exact lv_istore hexec hb hdg hl hn hL (fun ls hl => k H locs ls hsz hwd hS hl hMA)
theorem g_istore_n {X : Cx} {y : MethodName} {cc : ByteArray} {nL fr lo mc ms : Nat} (hX : Ok X y cc nL fr lo mc ms) {M : AH} {sz a b pc : Nat} {L : List (Nat × Value)} {st : List Value} {i : Fin 4} {x : Int32} {L' : List (Nat × Value)} (hdg : decode cc pc = .ok (.istore_n i, 1)) (hn : (i : Nat) < nL) (hL : ((i : Nat), Value.int x) :: L.filter (fun q => !(q.1 == (i : Nat)) && !(q.1 + 1 == (i : Nat) && q.2.category == 2)) = L') (k : G X nL M sz a b (pc + 1) L' st) : G X nL M sz a b pc L (Value.int x :: st) := by
  obtain ⟨p, l, e, R, s, m, args, below, meth, c, Q, A, D, T⟩ := X
  obtain ⟨hexec, hb, hml, hown, hlocks, hname, hK, hR, hA, hst⟩ := hX
  intro H locs ls hsz hwd hS hl hMA
  exact lv_istore_n hexec hb hdg rfl hl hn hL (fun ls hl => k H locs ls hsz hwd hS hl hMA)
theorem g_lstore {X : Cx} {y : MethodName} {cc : ByteArray} {nL fr lo mc ms : Nat} (hX : Ok X y cc nL fr lo mc ms) {M : AH} {sz a b pc : Nat} {L : List (Nat × Value)} {st : List Value} {i : Nat} {x : Int64} {L' : List (Nat × Value)} (hdg : decode cc pc = .ok (.lstore i, 2)) (hn : i + 1 < nL) (hL : (i, Value.long x) :: L.filter (fun q => !(q.1 == i) && (!(q.1 == i + 1) && !(q.1 + 1 == i && q.2.category == 2))) = L') (k : G X nL M sz a b (pc + 2) L' st) : G X nL M sz a b pc L (Value.long x :: st) := by
  obtain ⟨p, l, e, R, s, m, args, below, meth, c, Q, A, D, T⟩ := X
  obtain ⟨hexec, hb, hml, hown, hlocks, hname, hK, hR, hA, hst⟩ := hX
  intro H locs ls hsz hwd hS hl hMA
  exact lv_lstore hexec hb hdg hl hn hL (fun ls hl => k H locs ls hsz hwd hS hl hMA)
theorem g_lstore_n {X : Cx} {y : MethodName} {cc : ByteArray} {nL fr lo mc ms : Nat} (hX : Ok X y cc nL fr lo mc ms) {M : AH} {sz a b pc : Nat} {L : List (Nat × Value)} {st : List Value} {i : Fin 4} {x : Int64} {L' : List (Nat × Value)} (hdg : decode cc pc = .ok (.lstore_n i, 1)) (hn : (i : Nat) + 1 < nL) (hL : ((i : Nat), Value.long x) :: L.filter (fun q => !(q.1 == (i : Nat)) && (!(q.1 == (i : Nat) + 1) && !(q.1 + 1 == (i : Nat) && q.2.category == 2))) = L') (k : G X nL M sz a b (pc + 1) L' st) : G X nL M sz a b pc L (Value.long x :: st) := by
  obtain ⟨p, l, e, R, s, m, args, below, meth, c, Q, A, D, T⟩ := X
  obtain ⟨hexec, hb, hml, hown, hlocks, hname, hK, hR, hA, hst⟩ := hX
  intro H locs ls hsz hwd hS hl hMA
  exact lv_lstore_n hexec hb hdg rfl hl hn hL (fun ls hl => k H locs ls hsz hwd hS hl hMA)
theorem g_astore {X : Cx} {y : MethodName} {cc : ByteArray} {nL fr lo mc ms : Nat} (hX : Ok X y cc nL fr lo mc ms) {M : AH} {sz a b pc : Nat} {L : List (Nat × Value)} {st : List Value} {i : Nat} {x : Nat} {L' : List (Nat × Value)} (hdg : decode cc pc = .ok (.astore i, 2)) (hn : i < nL) (hL : (i, Value.ref x) :: L.filter (fun q => !(q.1 == i) && !(q.1 + 1 == i && q.2.category == 2)) = L') (k : G X nL M sz a b (pc + 2) L' st) : G X nL M sz a b pc L (Value.ref x :: st) := by
  obtain ⟨p, l, e, R, s, m, args, below, meth, c, Q, A, D, T⟩ := X
  obtain ⟨hexec, hb, hml, hown, hlocks, hname, hK, hR, hA, hst⟩ := hX
  intro H locs ls hsz hwd hS hl hMA
  exact lv_astore hexec hb hdg hl hn hL (fun ls hl => k H locs ls hsz hwd hS hl hMA)
theorem g_astore_n {X : Cx} {y : MethodName} {cc : ByteArray} {nL fr lo mc ms : Nat} (hX : Ok X y cc nL fr lo mc ms) {M : AH} {sz a b pc : Nat} {L : List (Nat × Value)} {st : List Value} {i : Fin 4} {x : Nat} {L' : List (Nat × Value)} (hdg : decode cc pc = .ok (.astore_n i, 1)) (hn : (i : Nat) < nL) (hL : ((i : Nat), Value.ref x) :: L.filter (fun q => !(q.1 == (i : Nat)) && !(q.1 + 1 == (i : Nat) && q.2.category == 2)) = L') (k : G X nL M sz a b (pc + 1) L' st) : G X nL M sz a b pc L (Value.ref x :: st) := by
  obtain ⟨p, l, e, R, s, m, args, below, meth, c, Q, A, D, T⟩ := X
  obtain ⟨hexec, hb, hml, hown, hlocks, hname, hK, hR, hA, hst⟩ := hX
  intro H locs ls hsz hwd hS hl hMA
  exact lv_astore_n hexec hb hdg rfl hl hn hL (fun ls hl => k H locs ls hsz hwd hS hl hMA)
theorem g_dstore {X : Cx} {y : MethodName} {cc : ByteArray} {nL fr lo mc ms : Nat} (hX : Ok X y cc nL fr lo mc ms) {M : AH} {sz a b pc : Nat} {L : List (Nat × Value)} {st : List Value} {i : Nat} {x : UInt64} {L' : List (Nat × Value)} (hdg : decode cc pc = .ok (.dstore i, 2)) (hn : i + 1 < nL) (hL : (i, Value.double x) :: L.filter (fun q => !(q.1 == i) && (!(q.1 == i + 1) && !(q.1 + 1 == i && q.2.category == 2))) = L') (k : G X nL M sz a b (pc + 2) L' st) : G X nL M sz a b pc L (Value.double x :: st) := by
  obtain ⟨p, l, e, R, s, m, args, below, meth, c, Q, A, D, T⟩ := X
  obtain ⟨hexec, hb, hml, hown, hlocks, hname, hK, hR, hA, hst⟩ := hX
  intro H locs ls hsz hwd hS hl hMA
  exact lv_dstore hexec hb hdg hl hn hL (fun ls hl => k H locs ls hsz hwd hS hl hMA)
theorem g_astoreN {X : Cx} {y : MethodName} {cc : ByteArray} {nL fr lo mc ms : Nat} (hX : Ok X y cc nL fr lo mc ms) {M : AH} {sz a b pc : Nat} {L : List (Nat × Value)} {st : List Value} {i : Nat} {L' : List (Nat × Value)} (hdg : decode cc pc = .ok (.astore i, 2)) (hn : i < nL) (hL : (i, Value.null) :: L.filter (fun q => !(q.1 == i) && !(q.1 + 1 == i && q.2.category == 2)) = L') (k : G X nL M sz a b (pc + 2) L' st) : G X nL M sz a b pc L (Value.null :: st) := by
  obtain ⟨p, l, e, R, s, m, args, below, meth, c, Q, A, D, T⟩ := X
  obtain ⟨hexec, hb, hml, hown, hlocks, hname, hK, hR, hA, hst⟩ := hX
  intro H locs ls hsz hwd hS hl hMA
  exact lv_astoreN hexec hb hdg hl hn hL (fun ls hl => k H locs ls hsz hwd hS hl hMA)
theorem g_astore_nN {X : Cx} {y : MethodName} {cc : ByteArray} {nL fr lo mc ms : Nat} (hX : Ok X y cc nL fr lo mc ms) {M : AH} {sz a b pc : Nat} {L : List (Nat × Value)} {st : List Value} {i : Fin 4} {L' : List (Nat × Value)} (hdg : decode cc pc = .ok (.astore_n i, 1)) (hn : (i : Nat) < nL) (hL : ((i : Nat), Value.null) :: L.filter (fun q => !(q.1 == (i : Nat)) && !(q.1 + 1 == (i : Nat) && q.2.category == 2)) = L') (k : G X nL M sz a b (pc + 1) L' st) : G X nL M sz a b pc L (Value.null :: st) := by
  obtain ⟨p, l, e, R, s, m, args, below, meth, c, Q, A, D, T⟩ := X
  obtain ⟨hexec, hb, hml, hown, hlocks, hname, hK, hR, hA, hst⟩ := hX
  intro H locs ls hsz hwd hS hl hMA
  exact lv_astore_nN hexec hb hdg rfl hl hn hL (fun ls hl => k H locs ls hsz hwd hS hl hMA)
theorem g_astoreQ {X : Cx} {y : MethodName} {cc : ByteArray} {nL fr lo mc ms : Nat} (hX : Ok X y cc nL fr lo mc ms) {M : AH} {sz a b pc : Nat} {L : List (Nat × Value)} {st : List Value} {i : Nat} {r : Option Nat} {L' : List (Nat × Value)} (hdg : decode cc pc = .ok (.astore i, 2)) (hn : i < nL) (hL : (i, va_rf r) :: L.filter (fun q => !(q.1 == i) && !(q.1 + 1 == i && q.2.category == 2)) = L') (k : G X nL M sz a b (pc + 2) L' st) : G X nL M sz a b pc L (va_rf r :: st) := by
  obtain ⟨p, l, e, R, s, m, args, below, meth, c, Q, A, D, T⟩ := X
  obtain ⟨hexec, hb, hml, hown, hlocks, hname, hK, hR, hA, hst⟩ := hX
  intro H locs ls hsz hwd hS hl hMA
  cases r with
  | none => exact lv_astoreN hexec hb hdg hl hn hL (fun ls hl => k H locs ls hsz hwd hS hl hMA)
  | some x => exact lv_astore hexec hb hdg hl hn hL (fun ls hl => k H locs ls hsz hwd hS hl hMA)
theorem g_astore_nQ {X : Cx} {y : MethodName} {cc : ByteArray} {nL fr lo mc ms : Nat} (hX : Ok X y cc nL fr lo mc ms) {M : AH} {sz a b pc : Nat} {L : List (Nat × Value)} {st : List Value} {i : Fin 4} {r : Option Nat} {L' : List (Nat × Value)} (hdg : decode cc pc = .ok (.astore_n i, 1)) (hn : (i : Nat) < nL) (hL : ((i : Nat), va_rf r) :: L.filter (fun q => !(q.1 == (i : Nat)) && !(q.1 + 1 == (i : Nat) && q.2.category == 2)) = L') (k : G X nL M sz a b (pc + 1) L' st) : G X nL M sz a b pc L (va_rf r :: st) := by
  obtain ⟨p, l, e, R, s, m, args, below, meth, c, Q, A, D, T⟩ := X
  obtain ⟨hexec, hb, hml, hown, hlocks, hname, hK, hR, hA, hst⟩ := hX
  intro H locs ls hsz hwd hS hl hMA
  cases r with
  | none => exact lv_astore_nN hexec hb hdg rfl hl hn hL (fun ls hl => k H locs ls hsz hwd hS hl hMA)
  | some x => exact lv_astore_n hexec hb hdg rfl hl hn hL (fun ls hl => k H locs ls hsz hwd hS hl hMA)
theorem g_iinc {X : Cx} {y : MethodName} {cc : ByteArray} {nL fr lo mc ms : Nat} (hX : Ok X y cc nL fr lo mc ms) {M : AH} {sz a b pc : Nat} {L : List (Nat × Value)} {st : List Value} {i : Nat} {n : Int} {x v : Int32} {L' : List (Nat × Value)} (hdg : decode cc pc = .ok (.iinc i n, 3)) (j : Nat) (hj : L[j]? = some (i, .int x)) (hv : x + Int32.ofInt n = v) (hn : i < nL) (hL : (i, Value.int v) :: L.filter (fun q => !(q.1 == i) && !(q.1 + 1 == i && q.2.category == 2)) = L') (k : G X nL M sz a b (pc + 3) L' st) : G X nL M sz a b pc L (st) := by
  obtain ⟨p, l, e, R, s, m, args, below, meth, c, Q, A, D, T⟩ := X
  obtain ⟨hexec, hb, hml, hown, hlocks, hname, hK, hR, hA, hst⟩ := hX
  intro H locs ls hsz hwd hS hl hMA
  exact lv_iinc hexec hb hdg hl hj hv hn hL (fun ls hl => k H locs ls hsz hwd hS hl hMA)
theorem g_goto {X : Cx} {y : MethodName} {cc : ByteArray} {nL fr lo mc ms : Nat} (hX : Ok X y cc nL fr lo mc ms) {M : AH} {sz a b pc : Nat} {L : List (Nat × Value)} {st : List Value} {off : Int} (tgt : Nat) (hdg : decode cc pc = .ok (.goto off, 3)) (ht : (pc : Int) + off = (tgt : Int)) (k : G X nL M sz a b tgt L st) : G X nL M sz a b pc L (st) := by
  obtain ⟨p, l, e, R, s, m, args, below, meth, c, Q, A, D, T⟩ := X
  obtain ⟨hexec, hb, hml, hown, hlocks, hname, hK, hR, hA, hst⟩ := hX
  intro H locs ls hsz hwd hS hl hMA
  exact lv_goto hexec hb hdg ht (k H locs ls hsz hwd hS hl hMA)
theorem g_icmp_eq {X : Cx} {y : MethodName} {cc : ByteArray} {nL fr lo mc ms : Nat} (hX : Ok X y cc nL fr lo mc ms) {M : AH} {sz a b pc : Nat} {L : List (Nat × Value)} {st : List Value} {x z : Int32} {off : Int} (tgt : Nat) (hdg : decode cc pc = .ok (.if_icmp .eq off, 3)) (ht : (pc : Int) + off = (tgt : Int)) (kt : x = z → G X nL M sz a b tgt L st) (kf : ¬ x = z → G X nL M sz a b (pc + 3) L st) : G X nL M sz a b pc L (.int z :: .int x :: st) := by
  obtain ⟨p, l, e, R, s, m, args, below, meth, c, Q, A, D, T⟩ := X
  obtain ⟨hexec, hb, hml, hown, hlocks, hname, hK, hR, hA, hst⟩ := hX
  intro H locs ls hsz hwd hS hl hMA
  exact lv_icmp_eq hexec hb hdg ht (fun h => kt h H locs ls hsz hwd hS hl hMA) (fun h => kf h H locs ls hsz hwd hS hl hMA)
theorem g_if_eq {X : Cx} {y : MethodName} {cc : ByteArray} {nL fr lo mc ms : Nat} (hX : Ok X y cc nL fr lo mc ms) {M : AH} {sz a b pc : Nat} {L : List (Nat × Value)} {st : List Value} {x : Int32} {off : Int} (tgt : Nat) (hdg : decode cc pc = .ok (.ifCond .eq off, 3)) (ht : (pc : Int) + off = (tgt : Int)) (kt : x = 0 → G X nL M sz a b tgt L st) (kf : ¬ x = 0 → G X nL M sz a b (pc + 3) L st) : G X nL M sz a b pc L (.int x :: st) := by
  obtain ⟨p, l, e, R, s, m, args, below, meth, c, Q, A, D, T⟩ := X
  obtain ⟨hexec, hb, hml, hown, hlocks, hname, hK, hR, hA, hst⟩ := hX
  intro H locs ls hsz hwd hS hl hMA
  exact lv_if_eq hexec hb hdg ht (fun h => kt h H locs ls hsz hwd hS hl hMA) (fun h => kf h H locs ls hsz hwd hS hl hMA)
theorem g_icmp_ne {X : Cx} {y : MethodName} {cc : ByteArray} {nL fr lo mc ms : Nat} (hX : Ok X y cc nL fr lo mc ms) {M : AH} {sz a b pc : Nat} {L : List (Nat × Value)} {st : List Value} {x z : Int32} {off : Int} (tgt : Nat) (hdg : decode cc pc = .ok (.if_icmp .ne off, 3)) (ht : (pc : Int) + off = (tgt : Int)) (kt : ¬ x = z → G X nL M sz a b tgt L st) (kf : x = z → G X nL M sz a b (pc + 3) L st) : G X nL M sz a b pc L (.int z :: .int x :: st) := by
  obtain ⟨p, l, e, R, s, m, args, below, meth, c, Q, A, D, T⟩ := X
  obtain ⟨hexec, hb, hml, hown, hlocks, hname, hK, hR, hA, hst⟩ := hX
  intro H locs ls hsz hwd hS hl hMA
  exact lv_icmp_ne hexec hb hdg ht (fun h => kt h H locs ls hsz hwd hS hl hMA) (fun h => kf h H locs ls hsz hwd hS hl hMA)
theorem g_if_ne {X : Cx} {y : MethodName} {cc : ByteArray} {nL fr lo mc ms : Nat} (hX : Ok X y cc nL fr lo mc ms) {M : AH} {sz a b pc : Nat} {L : List (Nat × Value)} {st : List Value} {x : Int32} {off : Int} (tgt : Nat) (hdg : decode cc pc = .ok (.ifCond .ne off, 3)) (ht : (pc : Int) + off = (tgt : Int)) (kt : ¬ x = 0 → G X nL M sz a b tgt L st) (kf : x = 0 → G X nL M sz a b (pc + 3) L st) : G X nL M sz a b pc L (.int x :: st) := by
  obtain ⟨p, l, e, R, s, m, args, below, meth, c, Q, A, D, T⟩ := X
  obtain ⟨hexec, hb, hml, hown, hlocks, hname, hK, hR, hA, hst⟩ := hX
  intro H locs ls hsz hwd hS hl hMA
  exact lv_if_ne hexec hb hdg ht (fun h => kt h H locs ls hsz hwd hS hl hMA) (fun h => kf h H locs ls hsz hwd hS hl hMA)
theorem g_icmp_lt {X : Cx} {y : MethodName} {cc : ByteArray} {nL fr lo mc ms : Nat} (hX : Ok X y cc nL fr lo mc ms) {M : AH} {sz a b pc : Nat} {L : List (Nat × Value)} {st : List Value} {x z : Int32} {off : Int} (tgt : Nat) (hdg : decode cc pc = .ok (.if_icmp .lt off, 3)) (ht : (pc : Int) + off = (tgt : Int)) (kt : x < z → G X nL M sz a b tgt L st) (kf : ¬ x < z → G X nL M sz a b (pc + 3) L st) : G X nL M sz a b pc L (.int z :: .int x :: st) := by
  obtain ⟨p, l, e, R, s, m, args, below, meth, c, Q, A, D, T⟩ := X
  obtain ⟨hexec, hb, hml, hown, hlocks, hname, hK, hR, hA, hst⟩ := hX
  intro H locs ls hsz hwd hS hl hMA
  exact lv_icmp_lt hexec hb hdg ht (fun h => kt h H locs ls hsz hwd hS hl hMA) (fun h => kf h H locs ls hsz hwd hS hl hMA)
theorem g_if_lt {X : Cx} {y : MethodName} {cc : ByteArray} {nL fr lo mc ms : Nat} (hX : Ok X y cc nL fr lo mc ms) {M : AH} {sz a b pc : Nat} {L : List (Nat × Value)} {st : List Value} {x : Int32} {off : Int} (tgt : Nat) (hdg : decode cc pc = .ok (.ifCond .lt off, 3)) (ht : (pc : Int) + off = (tgt : Int)) (kt : x < 0 → G X nL M sz a b tgt L st) (kf : ¬ x < 0 → G X nL M sz a b (pc + 3) L st) : G X nL M sz a b pc L (.int x :: st) := by
  obtain ⟨p, l, e, R, s, m, args, below, meth, c, Q, A, D, T⟩ := X
  obtain ⟨hexec, hb, hml, hown, hlocks, hname, hK, hR, hA, hst⟩ := hX
  intro H locs ls hsz hwd hS hl hMA
  exact lv_if_lt hexec hb hdg ht (fun h => kt h H locs ls hsz hwd hS hl hMA) (fun h => kf h H locs ls hsz hwd hS hl hMA)
theorem g_icmp_le {X : Cx} {y : MethodName} {cc : ByteArray} {nL fr lo mc ms : Nat} (hX : Ok X y cc nL fr lo mc ms) {M : AH} {sz a b pc : Nat} {L : List (Nat × Value)} {st : List Value} {x z : Int32} {off : Int} (tgt : Nat) (hdg : decode cc pc = .ok (.if_icmp .le off, 3)) (ht : (pc : Int) + off = (tgt : Int)) (kt : x ≤ z → G X nL M sz a b tgt L st) (kf : ¬ x ≤ z → G X nL M sz a b (pc + 3) L st) : G X nL M sz a b pc L (.int z :: .int x :: st) := by
  obtain ⟨p, l, e, R, s, m, args, below, meth, c, Q, A, D, T⟩ := X
  obtain ⟨hexec, hb, hml, hown, hlocks, hname, hK, hR, hA, hst⟩ := hX
  intro H locs ls hsz hwd hS hl hMA
  exact lv_icmp_le hexec hb hdg ht (fun h => kt h H locs ls hsz hwd hS hl hMA) (fun h => kf h H locs ls hsz hwd hS hl hMA)
theorem g_if_le {X : Cx} {y : MethodName} {cc : ByteArray} {nL fr lo mc ms : Nat} (hX : Ok X y cc nL fr lo mc ms) {M : AH} {sz a b pc : Nat} {L : List (Nat × Value)} {st : List Value} {x : Int32} {off : Int} (tgt : Nat) (hdg : decode cc pc = .ok (.ifCond .le off, 3)) (ht : (pc : Int) + off = (tgt : Int)) (kt : x ≤ 0 → G X nL M sz a b tgt L st) (kf : ¬ x ≤ 0 → G X nL M sz a b (pc + 3) L st) : G X nL M sz a b pc L (.int x :: st) := by
  obtain ⟨p, l, e, R, s, m, args, below, meth, c, Q, A, D, T⟩ := X
  obtain ⟨hexec, hb, hml, hown, hlocks, hname, hK, hR, hA, hst⟩ := hX
  intro H locs ls hsz hwd hS hl hMA
  exact lv_if_le hexec hb hdg ht (fun h => kt h H locs ls hsz hwd hS hl hMA) (fun h => kf h H locs ls hsz hwd hS hl hMA)
theorem g_icmp_gt {X : Cx} {y : MethodName} {cc : ByteArray} {nL fr lo mc ms : Nat} (hX : Ok X y cc nL fr lo mc ms) {M : AH} {sz a b pc : Nat} {L : List (Nat × Value)} {st : List Value} {x z : Int32} {off : Int} (tgt : Nat) (hdg : decode cc pc = .ok (.if_icmp .gt off, 3)) (ht : (pc : Int) + off = (tgt : Int)) (kt : z < x → G X nL M sz a b tgt L st) (kf : ¬ z < x → G X nL M sz a b (pc + 3) L st) : G X nL M sz a b pc L (.int z :: .int x :: st) := by
  obtain ⟨p, l, e, R, s, m, args, below, meth, c, Q, A, D, T⟩ := X
  obtain ⟨hexec, hb, hml, hown, hlocks, hname, hK, hR, hA, hst⟩ := hX
  intro H locs ls hsz hwd hS hl hMA
  exact lv_icmp_gt hexec hb hdg ht (fun h => kt h H locs ls hsz hwd hS hl hMA) (fun h => kf h H locs ls hsz hwd hS hl hMA)
theorem g_if_gt {X : Cx} {y : MethodName} {cc : ByteArray} {nL fr lo mc ms : Nat} (hX : Ok X y cc nL fr lo mc ms) {M : AH} {sz a b pc : Nat} {L : List (Nat × Value)} {st : List Value} {x : Int32} {off : Int} (tgt : Nat) (hdg : decode cc pc = .ok (.ifCond .gt off, 3)) (ht : (pc : Int) + off = (tgt : Int)) (kt : 0 < x → G X nL M sz a b tgt L st) (kf : ¬ 0 < x → G X nL M sz a b (pc + 3) L st) : G X nL M sz a b pc L (.int x :: st) := by
  obtain ⟨p, l, e, R, s, m, args, below, meth, c, Q, A, D, T⟩ := X
  obtain ⟨hexec, hb, hml, hown, hlocks, hname, hK, hR, hA, hst⟩ := hX
  intro H locs ls hsz hwd hS hl hMA
  exact lv_if_gt hexec hb hdg ht (fun h => kt h H locs ls hsz hwd hS hl hMA) (fun h => kf h H locs ls hsz hwd hS hl hMA)
theorem g_icmp_ge {X : Cx} {y : MethodName} {cc : ByteArray} {nL fr lo mc ms : Nat} (hX : Ok X y cc nL fr lo mc ms) {M : AH} {sz a b pc : Nat} {L : List (Nat × Value)} {st : List Value} {x z : Int32} {off : Int} (tgt : Nat) (hdg : decode cc pc = .ok (.if_icmp .ge off, 3)) (ht : (pc : Int) + off = (tgt : Int)) (kt : z ≤ x → G X nL M sz a b tgt L st) (kf : ¬ z ≤ x → G X nL M sz a b (pc + 3) L st) : G X nL M sz a b pc L (.int z :: .int x :: st) := by
  obtain ⟨p, l, e, R, s, m, args, below, meth, c, Q, A, D, T⟩ := X
  obtain ⟨hexec, hb, hml, hown, hlocks, hname, hK, hR, hA, hst⟩ := hX
  intro H locs ls hsz hwd hS hl hMA
  exact lv_icmp_ge hexec hb hdg ht (fun h => kt h H locs ls hsz hwd hS hl hMA) (fun h => kf h H locs ls hsz hwd hS hl hMA)
theorem g_if_ge {X : Cx} {y : MethodName} {cc : ByteArray} {nL fr lo mc ms : Nat} (hX : Ok X y cc nL fr lo mc ms) {M : AH} {sz a b pc : Nat} {L : List (Nat × Value)} {st : List Value} {x : Int32} {off : Int} (tgt : Nat) (hdg : decode cc pc = .ok (.ifCond .ge off, 3)) (ht : (pc : Int) + off = (tgt : Int)) (kt : 0 ≤ x → G X nL M sz a b tgt L st) (kf : ¬ 0 ≤ x → G X nL M sz a b (pc + 3) L st) : G X nL M sz a b pc L (.int x :: st) := by
  obtain ⟨p, l, e, R, s, m, args, below, meth, c, Q, A, D, T⟩ := X
  obtain ⟨hexec, hb, hml, hown, hlocks, hname, hK, hR, hA, hst⟩ := hX
  intro H locs ls hsz hwd hS hl hMA
  exact lv_if_ge hexec hb hdg ht (fun h => kt h H locs ls hsz hwd hS hl hMA) (fun h => kf h H locs ls hsz hwd hS hl hMA)
theorem g_acmp_eq {X : Cx} {y : MethodName} {cc : ByteArray} {nL fr lo mc ms : Nat} (hX : Ok X y cc nL fr lo mc ms) {M : AH} {sz a b pc : Nat} {L : List (Nat × Value)} {st : List Value} {rx ry : Option Nat} {off : Int} (tgt : Nat) (hdg : decode cc pc = .ok (.if_acmp .eq off, 3)) (ht : (pc : Int) + off = (tgt : Int)) (kt : rx = ry → G X nL M sz a b tgt L st) (kf : ¬ rx = ry → G X nL M sz a b (pc + 3) L st) : G X nL M sz a b pc L (va_rf ry :: va_rf rx :: st) := by
  obtain ⟨p, l, e, R, s, m, args, below, meth, c, Q, A, D, T⟩ := X
  obtain ⟨hexec, hb, hml, hown, hlocks, hname, hK, hR, hA, hst⟩ := hX
  intro H locs ls hsz hwd hS hl hMA
  exact lv_acmp_eq hexec hb hdg ht (fun h => kt h H locs ls hsz hwd hS hl hMA) (fun h => kf h H locs ls hsz hwd hS hl hMA)
theorem g_acmp_ne {X : Cx} {y : MethodName} {cc : ByteArray} {nL fr lo mc ms : Nat} (hX : Ok X y cc nL fr lo mc ms) {M : AH} {sz a b pc : Nat} {L : List (Nat × Value)} {st : List Value} {rx ry : Option Nat} {off : Int} (tgt : Nat) (hdg : decode cc pc = .ok (.if_acmp .ne off, 3)) (ht : (pc : Int) + off = (tgt : Int)) (kt : ¬ rx = ry → G X nL M sz a b tgt L st) (kf : rx = ry → G X nL M sz a b (pc + 3) L st) : G X nL M sz a b pc L (va_rf ry :: va_rf rx :: st) := by
  obtain ⟨p, l, e, R, s, m, args, below, meth, c, Q, A, D, T⟩ := X
  obtain ⟨hexec, hb, hml, hown, hlocks, hname, hK, hR, hA, hst⟩ := hX
  intro H locs ls hsz hwd hS hl hMA
  exact lv_acmp_ne hexec hb hdg ht (fun h => kt h H locs ls hsz hwd hS hl hMA) (fun h => kf h H locs ls hsz hwd hS hl hMA)
theorem g_ifnull {X : Cx} {y : MethodName} {cc : ByteArray} {nL fr lo mc ms : Nat} (hX : Ok X y cc nL fr lo mc ms) {M : AH} {sz a b pc : Nat} {L : List (Nat × Value)} {st : List Value} {r : Option Nat} {off : Int} (tgt : Nat) (hdg : decode cc pc = .ok (.ifnull off, 3)) (ht : (pc : Int) + off = (tgt : Int)) (kt : r = none → G X nL M sz a b tgt L st) (kf : ∀ x, r = some x → G X nL M sz a b (pc + 3) L st) : G X nL M sz a b pc L (va_rf r :: st) := by
  obtain ⟨p, l, e, R, s, m, args, below, meth, c, Q, A, D, T⟩ := X
  obtain ⟨hexec, hb, hml, hown, hlocks, hname, hK, hR, hA, hst⟩ := hX
  intro H locs ls hsz hwd hS hl hMA
  cases r with
  | none => exact lv_ifnullN hexec hb hdg ht (kt rfl H locs ls hsz hwd hS hl hMA)
  | some x => exact lv_ifnull hexec hb hdg (kf x rfl H locs ls hsz hwd hS hl hMA)
theorem g_ifnonnull {X : Cx} {y : MethodName} {cc : ByteArray} {nL fr lo mc ms : Nat} (hX : Ok X y cc nL fr lo mc ms) {M : AH} {sz a b pc : Nat} {L : List (Nat × Value)} {st : List Value} {r : Option Nat} {off : Int} (tgt : Nat) (hdg : decode cc pc = .ok (.ifnonnull off, 3)) (ht : (pc : Int) + off = (tgt : Int)) (kt : ∀ x, r = some x → G X nL M sz a b tgt L st) (kf : r = none → G X nL M sz a b (pc + 3) L st) : G X nL M sz a b pc L (va_rf r :: st) := by
  obtain ⟨p, l, e, R, s, m, args, below, meth, c, Q, A, D, T⟩ := X
  obtain ⟨hexec, hb, hml, hown, hlocks, hname, hK, hR, hA, hst⟩ := hX
  intro H locs ls hsz hwd hS hl hMA
  cases r with
  | none => exact lv_ifnonnullN hexec hb hdg (kf rfl H locs ls hsz hwd hS hl hMA)
  | some x => exact lv_ifnonnull hexec hb hdg ht (kt x rfl H locs ls hsz hwd hS hl hMA)
theorem g_ifnullR {X : Cx} {y : MethodName} {cc : ByteArray} {nL fr lo mc ms : Nat} (hX : Ok X y cc nL fr lo mc ms) {M : AH} {sz a b pc : Nat} {L : List (Nat × Value)} {st : List Value} {x : Nat} {off : Int} (hdg : decode cc pc = .ok (.ifnull off, 3)) (k : G X nL M sz a b (pc + 3) L st) : G X nL M sz a b pc L (.ref x :: st) := by
  obtain ⟨p, l, e, R, s, m, args, below, meth, c, Q, A, D, T⟩ := X
  obtain ⟨hexec, hb, hml, hown, hlocks, hname, hK, hR, hA, hst⟩ := hX
  intro H locs ls hsz hwd hS hl hMA
  exact lv_ifnull hexec hb hdg (k H locs ls hsz hwd hS hl hMA)
theorem g_ifnonnullR {X : Cx} {y : MethodName} {cc : ByteArray} {nL fr lo mc ms : Nat} (hX : Ok X y cc nL fr lo mc ms) {M : AH} {sz a b pc : Nat} {L : List (Nat × Value)} {st : List Value} {x : Nat} {off : Int} (tgt : Nat) (hdg : decode cc pc = .ok (.ifnonnull off, 3)) (ht : (pc : Int) + off = (tgt : Int)) (k : G X nL M sz a b tgt L st) : G X nL M sz a b pc L (.ref x :: st) := by
  obtain ⟨p, l, e, R, s, m, args, below, meth, c, Q, A, D, T⟩ := X
  obtain ⟨hexec, hb, hml, hown, hlocks, hname, hK, hR, hA, hst⟩ := hX
  intro H locs ls hsz hwd hS hl hMA
  exact lv_ifnonnull hexec hb hdg ht (k H locs ls hsz hwd hS hl hMA)
theorem g_ifnullN {X : Cx} {y : MethodName} {cc : ByteArray} {nL fr lo mc ms : Nat} (hX : Ok X y cc nL fr lo mc ms) {M : AH} {sz a b pc : Nat} {L : List (Nat × Value)} {st : List Value} {off : Int} (tgt : Nat) (hdg : decode cc pc = .ok (.ifnull off, 3)) (ht : (pc : Int) + off = (tgt : Int)) (k : G X nL M sz a b tgt L st) : G X nL M sz a b pc L (.null :: st) := by
  obtain ⟨p, l, e, R, s, m, args, below, meth, c, Q, A, D, T⟩ := X
  obtain ⟨hexec, hb, hml, hown, hlocks, hname, hK, hR, hA, hst⟩ := hX
  intro H locs ls hsz hwd hS hl hMA
  exact lv_ifnullN hexec hb hdg ht (k H locs ls hsz hwd hS hl hMA)
theorem g_ifnonnullN {X : Cx} {y : MethodName} {cc : ByteArray} {nL fr lo mc ms : Nat} (hX : Ok X y cc nL fr lo mc ms) {M : AH} {sz a b pc : Nat} {L : List (Nat × Value)} {st : List Value} {off : Int} (hdg : decode cc pc = .ok (.ifnonnull off, 3)) (k : G X nL M sz a b (pc + 3) L st) : G X nL M sz a b pc L (.null :: st) := by
  obtain ⟨p, l, e, R, s, m, args, below, meth, c, Q, A, D, T⟩ := X
  obtain ⟨hexec, hb, hml, hown, hlocks, hname, hK, hR, hA, hst⟩ := hX
  intro H locs ls hsz hwd hS hl hMA
  exact lv_ifnonnullN hexec hb hdg (k H locs ls hsz hwd hS hl hMA)
theorem g_tableIn {X : Cx} {y : MethodName} {cc : ByteArray} {nL fr lo mc ms : Nat} (hX : Ok X y cc nL fr lo mc ms) {M : AH} {sz a b pc : Nat} {L : List (Nat × Value)} {st : List Value} {dflt lo' hi : Int} {offs : Array Int} {len : Nat} {x : Int32} {off : Int} (tgt : Nat) (hdg : decode cc pc = .ok (.tableswitch dflt lo' hi offs, len)) (h1 : ¬ x.toInt < lo') (h2 : ¬ hi < x.toInt) (ho : offs[(x.toInt - lo').toNat]? = some off) (ht : (pc : Int) + off = (tgt : Int)) (k : G X nL M sz a b tgt L st) : G X nL M sz a b pc L (.int x :: st) := by
  obtain ⟨p, l, e, R, s, m, args, below, meth, c, Q, A, D, T⟩ := X
  obtain ⟨hexec, hb, hml, hown, hlocks, hname, hK, hR, hA, hst⟩ := hX
  intro H locs ls hsz hwd hS hl hMA
  exact lv_tableIn hexec hb hdg h1 h2 ho ht (k H locs ls hsz hwd hS hl hMA)
theorem g_tableOut {X : Cx} {y : MethodName} {cc : ByteArray} {nL fr lo mc ms : Nat} (hX : Ok X y cc nL fr lo mc ms) {M : AH} {sz a b pc : Nat} {L : List (Nat × Value)} {st : List Value} {dflt lo' hi : Int} {offs : Array Int} {len : Nat} {x : Int32} (tgt : Nat) (hdg : decode cc pc = .ok (.tableswitch dflt lo' hi offs, len)) (h : x.toInt < lo' ∨ hi < x.toInt) (ht : (pc : Int) + dflt = (tgt : Int)) (k : G X nL M sz a b tgt L st) : G X nL M sz a b pc L (.int x :: st) := by
  obtain ⟨p, l, e, R, s, m, args, below, meth, c, Q, A, D, T⟩ := X
  obtain ⟨hexec, hb, hml, hown, hlocks, hname, hK, hR, hA, hst⟩ := hX
  intro H locs ls hsz hwd hS hl hMA
  exact lv_tableOut hexec hb hdg h ht (k H locs ls hsz hwd hS hl hMA)
theorem g_sub {X : Cx} {nL : Nat} {M : AH} {sz a b pc : Nat} {L L' : List (Nat × Value)} {st : List Value} (ks : List Nat) (hL : lv_pick L ks = L') (k : G X nL M sz a b pc L' st) : G X nL M sz a b pc L st := by
  obtain ⟨p, l, e, R, s, m, args, below, meth, c, Q, A, D, T⟩ := X
  intro H locs ls hsz hwd hS hl hMA
  exact k H locs ls hsz hwd hS (lv_sub hl ks hL) hMA
theorem g_widen {X : Cx} {nL : Nat} {M : AH} {sz a b a' b' pc : Nat} {L : List (Nat × Value)} {st : List Value} (ha : a ≤ a') (hb : b ≤ b') (k : G X nL M sz a' b' pc L st) : G X nL M sz a b pc L st := by
  obtain ⟨p, l, e, R, s, m, args, below, meth, c, Q, A, D, T⟩ := X
  intro H locs ls hsz hwd hS hl hMA
  exact W.widen ha hb (k H locs ls hsz hwd hS hl hMA)
theorem g_eqM {X : Cx} {nL : Nat} {M M' : AH} {sz a b pc : Nat} {L : List (Nat × Value)} {st : List Value} (h : M = M') (k : G X nL M' sz a b pc L st) : G X nL M sz a b pc L st := h ▸ k
theorem g_eqS {X : Cx} {nL : Nat} {M : AH} {sz a b pc : Nat} {L : List (Nat × Value)} {st st' : List Value} (h : st = st') (k : G X nL M sz a b pc L st') : G X nL M sz a b pc L st := h ▸ k
theorem g_eqL {X : Cx} {nL : Nat} {M : AH} {sz a b pc : Nat} {L L' : List (Nat × Value)} {st : List Value} (h : L = L') (k : G X nL M sz a b pc L' st) : G X nL M sz a b pc L st := h ▸ k
theorem g_dom {X : Cx} {nL : Nat} {M : AH} {sz a b pc : Nat} {L : List (Nat × Value)} {st : List Value} (k : (∀ q e, M q = some e → q < sz) → G X nL M sz a b pc L st) : G X nL M sz a b pc L st := by
  obtain ⟨p, l, e, R, s, m, args, below, meth, c, Q, A, D, T⟩ := X
  intro H locs ls hsz hwd hS hl hMA
  exact k (fun q e hq => by rw [← hsz]; exact hwd.lt hq) H locs ls hsz hwd hS hl hMA
