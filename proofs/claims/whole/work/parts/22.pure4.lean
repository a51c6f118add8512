theorem Alok.ho {P : PS} {F : FS} (h : Alok P F) {n : Int32} {q : Nat} (hq : hoI P F n = some q) : pD P q = true := by
  unfold hoI at hq
  split at hq
  · cases hq
  · rename_i x hx
    split at hq
    · cases hq
    · cases hq; exact h.al hx
theorem htm_n {P : PS} {F : FS} {r a : Nat} (h : hoI P F (nI a) = none) : htm P F r a = 0 := by unfold htm; rw [h]
theorem htm_s {P : PS} {F : FS} {r a q : Nat} (h : hoI P F (nI a) = some q) : htm P F r a = bI (mtB P q r) := by unfold htm; rw [h]
def hld (P : PS) (F : FS) (a : Nat) : Int32 := match hoI P F (nI a) with
  | none => 0
  | some _ => 1
theorem hld_n {P : PS} {F : FS} {a : Nat} (h : hoI P F (nI a) = none) : hld P F a = 0 := by unfold hld; rw [h]
theorem hld_s {P : PS} {F : FS} {a q : Nat} (h : hoI P F (nI a) = some q) : hld P F a = 1 := by unfold hld; rw [h]
theorem add0I (x : Int32) : x + 0 = x := Int32.add_zero x
theorem bI_0 {b : Bool} (h : bI b = 0) : b = false := by cases b; rfl; exact absurd h (by decide)
theorem bI_1 {b : Bool} (h : ¬ bI b = 0) : b = true := by cases b; exact absurd rfl h; rfl
/-- q's place in the frame that holds it -/
def Plc (P : PS) (pl : Nat → Nat) (q : Nat) : Prop := ∀ h, pH P q = some h → pD P h = true ∧ pS P h ≤ pW P h ∧ pW P h < 1000 ∧ pl q < pS P h ∧ pA P h (pl q) = some q ∧ ∀ j, j < pl q → pA P h j ≠ some q
def plI (P : PS) (pl : Nat → Nat) (q : Nat) : Int32 := match pH P q with
  | none => -1
  | some _ => nI (pl q)
def ansP (P : PS) (F : FS) (pl : Nat → Nat) (q : Nat) : Nat → Int32
  | 0 => pB P q 0
  | 1 => pB P q 1
  | 2 => pB P q 2
  | 3 => pB P q 3
  | 4 => arB P q
  | 5 => plI P pl q
  | 6 => match pH P q with
    | none => -1
    | some h => nI (pS P h)
  | 7 => match pH P q with
    | none => -1
    | some h => arB P h
  | _ => match pH P q with
    | none => sumI (htm P F q) (fC F)
    | some _ => sumI (htm P F q) (fC F) - 1
def cntP (P : PS) (F : FS) (n : Nat) : Nat → Int32
  | 0 => sumI (hld P F) (fC F)
  | 1 => nI (fC F)
  | 2 => frP P n (fT F)
  | 3 => nI (pL P (fT F)) - 1
  | 4 => haP P n (fT F)
  | 5 => arB P (fT F)
  | 6 => mpP P n (fT F)
  | 7 => nI (fS F)
  | _ => nI (pS P (fT F))
