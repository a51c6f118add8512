theorem drp_D (pl : Nat → Nat) : ∀ (n : Nat) (P : PS) (r : Option Nat), pD (drpP pl n P r) = pD P := by
  intro n
  induction n with
  | zero => intro P r; rfl
  | succ n ih =>
    intro P r
    rcases r with _ | f
    · rfl
    · rcases hab : pH P f with _ | ab
      · rw [drp_h hab, pD_tig]
      · by_cases h0 : pS P f = 0
        · rw [drp_t hab h0, ih]; rfl
        · rw [drp_f hab h0, ih, pD_tig]
theorem lw_D : ∀ (n : Nat) (P : PS) (F : FS), pD (lwP n P F).1 = pD P := by
  intro n
  induction n with
  | zero => intro P F; rfl
  | succ n ih =>
    intro P F
    unfold lwP
    split
    · rw [ih]; rfl
    · rfl
theorem lw_O : ∀ (n : Nat) (P : PS) (F : FS), fO (lwP n P F).2 = fO F := by
  intro n
  induction n with
  | zero => intro P F; rfl
  | succ n ih =>
    intro P F
    unfold lwP
    split
    · rw [ih]; rfl
    · rfl
theorem WfF.of {P P' : PS} {F F' : FS} (h : WfF P F) (hd : pD P' = pD P) (ho : fO F' = fO F) : WfF P' F' := by
  unfold WfF Wf at h ⊢
  rw [hd, ho]
  exact h
theorem isQ_n {w : Nat} (h : w ≤ 8) : isQ (nI w) = true := by
  rcases (show w = 0 ∨ w = 1 ∨ w = 2 ∨ w = 3 ∨ w = 4 ∨ w = 5 ∨ w = 6 ∨ w = 7 ∨ w = 8 by omega) with rfl | rfl | rfl | rfl | rfl | rfl | rfl | rfl | rfl <;> decide
