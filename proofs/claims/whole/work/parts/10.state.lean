/-! the class's world: pieces P over a base N; the object itself F. A piece at q has its row at q + 1 -/
abbrev PS : Type := (Nat → Bool) × (Nat → Int32) × (Nat → Nat) × (Nat → Option Nat) × (Nat → Nat) × (Nat → Nat → Int32) × (Nat → Nat → Option Nat) × (Nat → Nat)
def pD (P : PS) : Nat → Bool := P.1
def pN (P : PS) : Nat → Int32 := P.2.1
def pL (P : PS) : Nat → Nat := P.2.2.1
def pH (P : PS) : Nat → Option Nat := P.2.2.2.1
def pS (P : PS) : Nat → Nat := P.2.2.2.2.1
def pB (P : PS) : Nat → Nat → Int32 := P.2.2.2.2.2.1
def pA (P : PS) : Nat → Nat → Option Nat := P.2.2.2.2.2.2.1
def pW (P : PS) : Nat → Nat := P.2.2.2.2.2.2.2
def sH (P : PS) (q : Nat) (v : Option Nat) : PS := (pD P, pN P, pL P, va_up (pH P) q v, pS P, pB P, pA P, pW P)
def sS (P : PS) (q : Nat) (v : Nat) : PS := (pD P, pN P, pL P, pH P, va_up (pS P) q v, pB P, pA P, pW P)
def sB (P : PS) (q k : Nat) (v : Int32) : PS := (pD P, pN P, pL P, pH P, pS P, va_up (pB P) q (va_up (pB P q) k v), pA P, pW P)
def sA (P : PS) (q : Nat) (f : Nat → Option Nat) : PS := (pD P, pN P, pL P, pH P, pS P, pB P, va_up (pA P) q f, pW P)
/-- a new piece at q -/
def nwP (P : PS) (q : Nat) (n : Int32) (lv : Nat) (bx : Nat → Int32) (w : Nat) : PS := (va_up (pD P) q true, va_up (pN P) q n, va_up (pL P) q lv, va_up (pH P) q none, va_up (pS P) q 0, va_up (pB P) q bx, va_up (pA P) q (fun _ => none), va_up (pW P) q w)
theorem pD_sH (P : PS) (q : Nat) (v : Option Nat) : pD (sH P q v) = pD P := rfl
theorem pN_sH (P : PS) (q : Nat) (v : Option Nat) : pN (sH P q v) = pN P := rfl
theorem pL_sH (P : PS) (q : Nat) (v : Option Nat) : pL (sH P q v) = pL P := rfl
theorem pH_sH (P : PS) (q : Nat) (v : Option Nat) : pH (sH P q v) = va_up (pH P) q v := rfl
theorem pS_sH (P : PS) (q : Nat) (v : Option Nat) : pS (sH P q v) = pS P := rfl
theorem pB_sH (P : PS) (q : Nat) (v : Option Nat) : pB (sH P q v) = pB P := rfl
theorem pA_sH (P : PS) (q : Nat) (v : Option Nat) : pA (sH P q v) = pA P := rfl
theorem pW_sH (P : PS) (q : Nat) (v : Option Nat) : pW (sH P q v) = pW P := rfl
theorem pD_sS (P : PS) (q v : Nat) : pD (sS P q v) = pD P := rfl
theorem pN_sS (P : PS) (q v : Nat) : pN (sS P q v) = pN P := rfl
theorem pL_sS (P : PS) (q v : Nat) : pL (sS P q v) = pL P := rfl
theorem pH_sS (P : PS) (q v : Nat) : pH (sS P q v) = pH P := rfl
theorem pS_sS (P : PS) (q v : Nat) : pS (sS P q v) = va_up (pS P) q v := rfl
theorem pB_sS (P : PS) (q v : Nat) : pB (sS P q v) = pB P := rfl
theorem pA_sS (P : PS) (q v : Nat) : pA (sS P q v) = pA P := rfl
theorem pW_sS (P : PS) (q v : Nat) : pW (sS P q v) = pW P := rfl
theorem pD_sB (P : PS) (q k : Nat) (v : Int32) : pD (sB P q k v) = pD P := rfl
theorem pN_sB (P : PS) (q k : Nat) (v : Int32) : pN (sB P q k v) = pN P := rfl
theorem pL_sB (P : PS) (q k : Nat) (v : Int32) : pL (sB P q k v) = pL P := rfl
theorem pH_sB (P : PS) (q k : Nat) (v : Int32) : pH (sB P q k v) = pH P := rfl
theorem pS_sB (P : PS) (q k : Nat) (v : Int32) : pS (sB P q k v) = pS P := rfl
theorem pB_sB (P : PS) (q k : Nat) (v : Int32) : pB (sB P q k v) = va_up (pB P) q (va_up (pB P q) k v) := rfl
theorem pA_sB (P : PS) (q k : Nat) (v : Int32) : pA (sB P q k v) = pA P := rfl
theorem pW_sB (P : PS) (q k : Nat) (v : Int32) : pW (sB P q k v) = pW P := rfl
theorem pD_sA (P : PS) (q : Nat) (f : Nat → Option Nat) : pD (sA P q f) = pD P := rfl
theorem pN_sA (P : PS) (q : Nat) (f : Nat → Option Nat) : pN (sA P q f) = pN P := rfl
theorem pL_sA (P : PS) (q : Nat) (f : Nat → Option Nat) : pL (sA P q f) = pL P := rfl
theorem pH_sA (P : PS) (q : Nat) (f : Nat → Option Nat) : pH (sA P q f) = pH P := rfl
theorem pS_sA (P : PS) (q : Nat) (f : Nat → Option Nat) : pS (sA P q f) = pS P := rfl
theorem pB_sA (P : PS) (q : Nat) (f : Nat → Option Nat) : pB (sA P q f) = pB P := rfl
theorem pA_sA (P : PS) (q : Nat) (f : Nat → Option Nat) : pA (sA P q f) = va_up (pA P) q f := rfl
theorem pW_sA (P : PS) (q : Nat) (f : Nat → Option Nat) : pW (sA P q f) = pW P := rfl
theorem pD_nwP (P : PS) (q : Nat) (n : Int32) (lv : Nat) (bx : Nat → Int32) (w : Nat) : pD (nwP P q n lv bx w) = va_up (pD P) q true := rfl
theorem pN_nwP (P : PS) (q : Nat) (n : Int32) (lv : Nat) (bx : Nat → Int32) (w : Nat) : pN (nwP P q n lv bx w) = va_up (pN P) q n := rfl
theorem pL_nwP (P : PS) (q : Nat) (n : Int32) (lv : Nat) (bx : Nat → Int32) (w : Nat) : pL (nwP P q n lv bx w) = va_up (pL P) q lv := rfl
theorem pH_nwP (P : PS) (q : Nat) (n : Int32) (lv : Nat) (bx : Nat → Int32) (w : Nat) : pH (nwP P q n lv bx w) = va_up (pH P) q none := rfl
theorem pS_nwP (P : PS) (q : Nat) (n : Int32) (lv : Nat) (bx : Nat → Int32) (w : Nat) : pS (nwP P q n lv bx w) = va_up (pS P) q 0 := rfl
theorem pB_nwP (P : PS) (q : Nat) (n : Int32) (lv : Nat) (bx : Nat → Int32) (w : Nat) : pB (nwP P q n lv bx w) = va_up (pB P) q bx := rfl
theorem pA_nwP (P : PS) (q : Nat) (n : Int32) (lv : Nat) (bx : Nat → Int32) (w : Nat) : pA (nwP P q n lv bx w) = va_up (pA P) q (fun _ => none) := rfl
theorem pW_nwP (P : PS) (q : Nat) (n : Int32) (lv : Nat) (bx : Nat → Int32) (w : Nat) : pW (nwP P q n lv bx w) = va_up (pW P) q w := rfl
abbrev pvl (P : PS) (q : Nat) : List Value := [.int (pN P q), .int (nI (pL P q)), .ref (q + 1), .int (nI (pS P q)), va_rf (pH P q), .int (pB P q 0), .int (pB P q 1), .int (pB P q 2), .int (pB P q 3)]
def ov (T : CT3) (N : AH) (P : PS) : AH := fun q => if pD P q = true then some (.inr (0, pvl P q)) else match q with
  | 0 => N 0
  | k + 1 => if pD P k = true then some (eR T (pW P k) (pA P k)) else N (k + 1)
def Wf (P : PS) : Prop := ∀ q, pD P q = true → pD P (q + 1) = false
theorem ov_pc {T : CT3} {N : AH} {P : PS} {q : Nat} (h : pD P q = true) : ov T N P q = some (.inr (0, pvl P q)) := by
  unfold ov
  rw [if_pos h]
theorem ov_ar {T : CT3} {N : AH} {P : PS} (hw : Wf P) {q : Nat} (h : pD P q = true) : ov T N P (q + 1) = some (eR T (pW P q) (pA P q)) := by
  unfold ov
  rw [if_neg (by rw [hw q h]; decide)]
  show (if pD P q = true then _ else _) = _
  rw [if_pos h]
theorem ov_no {T : CT3} {N : AH} {P : PS} {q : Nat} (h : pD P q = false) (h2 : ∀ k, k + 1 = q → pD P k = false) : ov T N P q = N q := by
  unfold ov
  rw [if_neg (by rw [h]; decide)]
  cases q with
  | zero => rfl
  | succ k =>
    show (if pD P k = true then _ else _) = _
    rw [if_neg (by rw [h2 k rfl]; decide)]
/-- one piece's cell changes -/
theorem ov_set {T : CT3} {N : AH} {P P' : PS} {q : Nat} {vs : List Value} (h : pD P q = true) (hw : Wf P) (hd : pD P' = pD P) (ha : pA P' = pA P) (hwd : pW P' = pW P) (hq : vs = pvl P' q) (ho : ∀ x, x ≠ q → pvl P' x = pvl P x) : va_up (ov T N P) q (some (.inr (0, vs))) = ov T N P' := by
  funext x
  by_cases hx : x = q
  · subst hx
    rw [va_up_self, ov_pc (by rw [hd]; exact h), hq]
  · rw [va_up_ne _ _ hx]
    unfold ov
    rw [hd, ha, hwd, ho x hx]
theorem ov_sH {T : CT3} {N : AH} {P : PS} {q : Nat} (h : pD P q = true) (hw : Wf P) (v : Option Nat) : va_up (ov T N P) q (some (.inr (0, (pvl P q).set 4 (va_rf v)))) = ov T N (sH P q v) := by
  refine ov_set h hw rfl rfl rfl ?_ ?_
  · simp [pD_sH, pN_sH, pL_sH, pH_sH, pS_sH, pB_sH, pA_sH, pW_sH, va_up]
  · intro x hx; simp [pD_sH, pN_sH, pL_sH, pH_sH, pS_sH, pB_sH, pA_sH, pW_sH, va_up, hx]
theorem ov_sS {T : CT3} {N : AH} {P : PS} {q : Nat} (h : pD P q = true) (hw : Wf P) (v : Nat) {x : Int32} (hx : x = nI v) : va_up (ov T N P) q (some (.inr (0, (pvl P q).set 3 (.int x)))) = ov T N (sS P q v) := by
  subst hx
  refine ov_set h hw rfl rfl rfl ?_ ?_
  · simp [pD_sS, pN_sS, pL_sS, pH_sS, pS_sS, pB_sS, pA_sS, pW_sS, va_up]
  · intro x hx; simp [pD_sS, pN_sS, pL_sS, pH_sS, pS_sS, pB_sS, pA_sS, pW_sS, va_up, hx]
theorem ov_sB {T : CT3} {N : AH} {P : PS} {q : Nat} (h : pD P q = true) (hw : Wf P) (k : Nat) (hk : k < 4) (v : Int32) : va_up (ov T N P) q (some (.inr (0, (pvl P q).set (5 + k) (.int v)))) = ov T N (sB P q k v) := by
  refine ov_set h hw rfl rfl rfl ?_ ?_
  · rcases (show k = 0 ∨ k = 1 ∨ k = 2 ∨ k = 3 by omega) with rfl | rfl | rfl | rfl <;> simp [pD_sB, pN_sB, pL_sB, pH_sB, pS_sB, pB_sB, pA_sB, pW_sB, va_up]
  · intro x hx; simp [pD_sB, pN_sB, pL_sB, pH_sB, pS_sB, pB_sB, pA_sB, pW_sB, va_up, hx]
theorem ov_sA {T : CT3} {N : AH} {P : PS} {q : Nat} (h : pD P q = true) (hw : Wf P) (f : Nat → Option Nat) : va_up (ov T N P) (q + 1) (some (eR T (pW P q) f)) = ov T N (sA P q f) := by
  funext x
  by_cases hx : x = q + 1
  · subst hx
    rw [va_up_self]
    have e : ov T N (sA P q f) (q + 1) = some (eR T (pW (sA P q f) q) (pA (sA P q f) q)) := ov_ar (P := sA P q f) hw h
    rw [e]
    simp [pD_sA, pN_sA, pL_sA, pH_sA, pS_sA, pB_sA, pA_sA, pW_sA, va_up]
  · rw [va_up_ne _ _ hx]
    unfold ov
    cases x with
    | zero => rfl
    | succ k =>
      have hk : k ≠ q := fun e => hx (by rw [e])
      simp [pvl, pD_sA, pN_sA, pL_sA, pH_sA, pS_sA, pB_sA, pA_sA, pW_sA, va_up, hk]
theorem ov_nw {T : CT3} {N : AH} {P : PS} {q : Nat} (n : Int32) (lv : Nat) (bx : Nat → Int32) (w : Nat) (hd : ∀ x, pD P x = true → x + 1 < q) {e0 : Option va_E} {vs : List Value} (hvs : vs = [.int n, .int (nI lv), .ref (q + 1), .int 0, .null, .int (bx 0), .int (bx 1), .int (bx 2), .int (bx 3)]) : va_up (va_up (va_up (ov T N P) q e0) q (some (.inr (0, vs)))) (q + 1) (some (eR T w (fun _ => none))) = ov T N (nwP P q n lv bx w) := by
  have h0 : ∀ x, q ≤ x + 1 → pD P x = false := by
    intro x hx
    cases hp : pD P x with
    | false => rfl
    | true => have := hd x hp; omega
  funext x
  by_cases h1 : x = q + 1
  · subst h1
    rw [va_up_self]
    unfold ov
    have := h0 (q + 1) (by omega)
    simp [pD_nwP, pN_nwP, pL_nwP, pH_nwP, pS_nwP, pB_nwP, pA_nwP, pW_nwP, va_up, this]
  · rw [va_up_ne _ _ h1]
    by_cases h2 : x = q
    · subst h2
      rw [va_up_self]
      unfold ov
      simp [pD_nwP, pN_nwP, pL_nwP, pH_nwP, pS_nwP, pB_nwP, pA_nwP, pW_nwP, va_up, hvs]
      exact ⟨rfl, rfl⟩
    · rw [va_up_ne _ _ h2, va_up_ne _ _ h2]
      unfold ov
      cases x with
      | zero => simp [pvl, pD_nwP, pN_nwP, pL_nwP, pH_nwP, pS_nwP, pB_nwP, pA_nwP, pW_nwP, va_up, h2]
      | succ k =>
        have hk : k ≠ q := fun e => h1 (by rw [e])
        simp [pvl, pD_nwP, pN_nwP, pL_nwP, pH_nwP, pS_nwP, pB_nwP, pA_nwP, pW_nwP, va_up, h2, hk]
/-- the class's object: its address, came, splitsInAll, top, allotments -/
abbrev FS : Type := Nat × Nat × Nat × Nat × (Nat → Option Nat)
def fO (F : FS) : Nat := F.1
def fC (F : FS) : Nat := F.2.1
def fS (F : FS) : Nat := F.2.2.1
def fT (F : FS) : Nat := F.2.2.2.1
def fA (F : FS) : Nat → Option Nat := F.2.2.2.2
abbrev fvl (F : FS) : List Value := [.ref (fO F + 1), .int (nI (fC F)), .int (nI (fS F)), .ref (fT F)]
def ovF (T : CT3) (N : AH) (F : FS) : AH := fun q => if q = fO F then some (.inr (1, fvl F)) else if q = fO F + 1 then some (eR T 60 (fA F)) else N q
def WfF (P : PS) (F : FS) : Prop := Wf P ∧ pD P (fO F) = false ∧ pD P (fO F + 1) = false ∧ ∀ k, k + 1 = fO F → pD P k = false
theorem ovF_o {T : CT3} {N : AH} {P : PS} {F : FS} (h : WfF P F) : ov T (ovF T N F) P (fO F) = some (.inr (1, fvl F)) := by
  rw [ov_no h.2.1 h.2.2.2]
  unfold ovF
  rw [if_pos rfl]
theorem ovF_a {T : CT3} {N : AH} {P : PS} {F : FS} (h : WfF P F) : ov T (ovF T N F) P (fO F + 1) = some (eR T 60 (fA F)) := by
  rw [ov_no h.2.2.1 (fun k hk => by rw [show k = fO F by omega]; exact h.2.1)]
  unfold ovF
  rw [if_neg (by omega), if_pos rfl]
theorem ovF_up {T : CT3} {N : AH} {P : PS} {F F' : FS} {vs : List Value} (h : WfF P F) (ho : fO F' = fO F) (ha : fA F' = fA F) (hv : vs = fvl F') : va_up (ov T (ovF T N F) P) (fO F) (some (.inr (1, vs))) = ov T (ovF T N F') P := by
  subst hv
  funext x
  by_cases hx : x = fO F
  · subst hx
    have h' : WfF P F' := by unfold WfF; rw [ho]; exact h
    rw [va_up_self, ← ho, ovF_o h']
  · rw [va_up_ne _ _ hx]
    have e : ovF T N F' x = ovF T N F x := by
      unfold ovF
      rw [ho, ha, if_neg hx, if_neg hx]
    unfold ov
    cases x with
    | zero => rw [e]
    | succ k => simp only [e]
theorem ovF_ua {T : CT3} {N : AH} {P : PS} {F : FS} (h : WfF P F) (f : Nat → Option Nat) : va_up (ov T (ovF T N F) P) (fO F + 1) (some (eR T 60 f)) = ov T (ovF T N (fO F, fC F, fS F, fT F, f)) P := by
  funext x
  by_cases hx : x = fO F + 1
  · subst hx
    have h' : WfF P (fO F, fC F, fS F, fT F, f) := h
    rw [va_up_self]
    exact (ovF_a h').symm
  · rw [va_up_ne _ _ hx]
    have e : ovF T N (fO F, fC F, fS F, fT F, f) x = ovF T N F x := by
      show (if x = fO F then some (Sum.inr (1, fvl F)) else if x = fO F + 1 then some (eR T 60 f) else N x) = if x = fO F then some (Sum.inr (1, fvl F)) else if x = fO F + 1 then some (eR T 60 (fA F)) else N x
      rw [if_neg hx, if_neg hx]
    unfold ov
    cases x with
    | zero => rw [e]
    | succ k => simp only [e]
theorem nar_rf (C : String) (r : Option Nat) : narrow (.object C) (va_rf r) = va_rf r ∧ fits (.object C) (va_rf r) = true := by
  cases r <;> exact ⟨rfl, rfl⟩
theorem cat_rf (r : Option Nat) : (va_rf r).category = 1 := by cases r <;> rfl
section Ldc
variable {X : Cx} {y : MethodName} {cc : ByteArray} {nL fr lo mc ms : Nat} {M : AH} {sz a b pc : Nat} {L : List (Nat × Value)} {st : List Value}
theorem g_ldc2 (hX : Ok X y cc nL fr lo mc ms) {idx : Nat} {v : Int64} (hk : Cond.constantLong y.cls idx v ∈ lw_tbl) (hdg : decode cc pc = .ok (.ldc2_w idx, 3)) (k : G X nL M sz a b (pc + 3) L (.long v :: st)) : G X nL M sz a b pc L st := by
  obtain ⟨p, l, e, R, s, m, args, below, meth, c, Q, A, D, T⟩ := X
  obtain ⟨hexec, hb, hml, hown, hlocks, hname, hK, hR, hA, hst⟩ := hX
  intro H locs ls hsz hwd hS hl hMA
  exact lv_ldc2 hexec hb hown (hK.2.use hk rfl) hdg (k H locs ls hsz hwd hS hl hMA)
end Ldc
