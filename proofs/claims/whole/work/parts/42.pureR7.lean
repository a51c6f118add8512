theorem uWP_c5 (S : RS) (c w p : Nat → Nat) (i j : Nat) : uC (uWP S (va_up c 5 i) w p) 5 j = uWP S (va_up c 5 j) w p := by
  show (va_up (va_up c 5 i) 5 j, _, _, _, _, _, _, _, _) = _
  rw [va_up2]
  rfl
theorem uWP_c5' (S : RS) (c w p : Nat → Nat) (j : Nat) : uC (uWP S c w p) 5 j = uWP S (va_up c 5 j) w p := rfl
theorem btR_1 {S : RS} {n x b : Nat} (h : gwR S n x - gwR S n b < 0) : btR S n x b = true := by unfold btR; rw [decide_eq_true h]; rfl
theorem btR_2 {S : RS} {n x b : Nat} (h : ¬ gwR S n x - gwR S n b < 0) (h2 : ¬ gwR S n x - gwR S n b = 0) : btR S n x b = false := by unfold btR; rw [decide_eq_false h, decide_eq_false h2]; rfl
theorem btR_3 {S : RS} {n x b : Nat} (h : ¬ gwR S n x - gwR S n b < 0) (h2 : gwR S n x - gwR S n b = 0) (h3 : arR S n x < arR S n b) : btR S n x b = true := by unfold btR; rw [decide_eq_false h, decide_eq_true h2, decide_eq_true h3]; rfl
theorem btR_4 {S : RS} {n x b : Nat} (h : ¬ gwR S n x - gwR S n b < 0) (h3 : ¬ arR S n x < arR S n b) : btR S n x b = false := by unfold btR; rw [decide_eq_false h, decide_eq_false h3, Bool.and_false]; rfl
/-- is allotment a below the frame f of level n -/
def hasP (S : RS) (a : Nat) : Nat → Nat → Prop
  | 0, f => ∃ k, k < rM S f ∧ rK S (5 * f + k) = a
  | n + 1, f => ∃ k, k < rM S f ∧ hasP S a n (rK S (5 * f + k))
theorem hasP_cg {S S' : RS} (hm : rM S' = rM S) (hk : rK S' = rK S) (a : Nat) : ∀ n f, hasP S' a n f ↔ hasP S a n f := by
  intro n
  induction n with
  | zero => intro f; unfold hasP; rw [hm, hk]
  | succ n ih =>
    intro f
    unfold hasP
    rw [hm, hk]
    exact ⟨fun ⟨k, h1, h2⟩ => ⟨k, h1, (ih _).mp h2⟩, fun ⟨k, h1, h2⟩ => ⟨k, h1, (ih _).mpr h2⟩⟩
/-- the way down from f to the frame that holds a -/
def Pth (S : RS) (n a : Nat) (fr ps : Nat → Nat) : Prop := (∀ i, i < n → ps i < rM S (fr i) ∧ fr (i + 1) = rK S (5 * fr i + ps i) ∧ ∀ k, k < ps i → ¬ hasP S a (n - (i + 1)) (rK S (5 * fr i + k))) ∧ ps n < rM S (fr n) ∧ rK S (5 * fr n + ps n) = a ∧ ∀ k, k < ps n → rK S (5 * fr n + k) ≠ a
theorem Pth.down {S : RS} {n a : Nat} {fr ps : Nat → Nat} (h : Pth S (n + 1) a fr ps) : Pth S n a (fun i => fr (i + 1)) (fun i => ps (i + 1)) := by
  refine ⟨fun i hi => ?_, h.2⟩
  have h1 := h.1 (i + 1) (by omega)
  rw [show n + 1 - (i + 1 + 1) = n - (i + 1) by omega] at h1
  exact h1
theorem Pth.cg {S S' : RS} (hm : rM S' = rM S) (hk : rK S' = rK S) {n a : Nat} {fr ps : Nat → Nat} (h : Pth S n a fr ps) : Pth S' n a fr ps := by
  unfold Pth at h ⊢
  rw [hm, hk]
  refine ⟨fun i hi => ?_, h.2⟩
  obtain ⟨h1, h2, h3⟩ := h.1 i hi
  exact ⟨h1, h2, fun k hk2 hh => h3 k hk2 ((hasP_cg hm hk a _ _).mp hh)⟩
theorem Pth_tr {S : RS} : ∀ {n a : Nat} {fr ps : Nat → Nat}, Pth S n a fr ps → TrR S n (fr 0) → TrR S 0 (fr n) := by
  intro n
  induction n with
  | zero => intro a fr ps _ h; exact h
  | succ n ih =>
    intro a fr ps h ht
    obtain ⟨h1, h2, -⟩ := h.1 0 (by omega)
    refine ih h.down ?_
    show TrR S n (fr 1)
    rw [h2]
    exact ht.k h1
