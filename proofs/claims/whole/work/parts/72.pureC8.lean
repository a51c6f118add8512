def nrP (P : PS) (F : FS) (x y : Int32) : Nat → Option Nat
  | 0 => none
  | k + 1 => match hoI P F (nI k) with
    | none => nrP P F x y k
    | some c => match nrP P F x y k with
      | none => some c
      | some b => if sdI (pB P c) x y < sdI (pB P b) x y then some c else some b
def nrV (P : PS) : Option Nat → Int32
  | none => -1
  | some b => pN P b
theorem nrP_d {P : PS} {F : FS} (hal : Alok P F) {x y : Int32} : ∀ {k b : Nat}, nrP P F x y k = some b → pD P b = true := by
  intro k
  induction k with
  | zero => intro b h; cases h
  | succ k ih =>
    intro b h
    unfold nrP at h
    split at h
    · exact ih h
    · rename_i c hc
      split at h
      · cases h; exact hal.ho hc
      · rename_i b' hb
        split at h
        · cases h; exact hal.ho hc
        · cases h; exact ih hb
theorem nrP_0 {P : PS} {F : FS} {x y : Int32} {k : Nat} (h : hoI P F (nI k) = none) : nrP P F x y (k + 1) = nrP P F x y k := by
  show (match hoI P F (nI k) with | none => _ | some c => _) = _
  rw [h]
theorem nrP_1 {P : PS} {F : FS} {x y : Int32} {k c : Nat} (h : hoI P F (nI k) = some c) (hb : nrP P F x y k = none) : nrP P F x y (k + 1) = some c := by
  show (match hoI P F (nI k) with | none => _ | some c => _) = _
  rw [h]
  show (match nrP P F x y k with | none => _ | some b => _) = _
  rw [hb]
theorem nrP_2 {P : PS} {F : FS} {x y : Int32} {k c b : Nat} (h : hoI P F (nI k) = some c) (hb : nrP P F x y k = some b) : nrP P F x y (k + 1) = if sdI (pB P c) x y < sdI (pB P b) x y then some c else some b := by
  show (match hoI P F (nI k) with | none => _ | some c => _) = _
  rw [h]
  show (match nrP P F x y k with | none => _ | some b => _) = _
  rw [hb]
theorem isR_inv {x y : Int32} (h : isR x y x y = true) : ¬ x < 0 ∧ ¬ y < 0 ∧ ¬ 99 < x ∧ y ≤ 99 := by
  unfold isR at h
  simp only [Bool.and_eq_true, decide_eq_true_eq] at h
  exact ⟨Int32.not_lt.mpr h.1, Int32.not_lt.mpr h.2.1, Int32.not_lt.mpr h.2.2.1, h.2.2.2.1⟩
