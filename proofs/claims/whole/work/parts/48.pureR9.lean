def rmR (S : RS) (f p : Nat) : RS := blkR (uM S f (rM S f - 1)) f (remG (fun k => rK S (5 * f + k)) (rM S f) p)
/-- frames that became empty are taken out, from the way's end upward -/
def gnR (fr ps : Nat → Nat) : Nat → RS → RS
  | 0, S => S
  | k + 1, S => if rM S (fr (k + 1)) = 0 then gnR fr ps k (rmR S (fr k) (ps k)) else S
def lowR : Nat → RS → RS
  | 0, S => S
  | n + 1, S => if rM S (rC S 4) = 1 then lowR n (uC S 4 (rK S (5 * rC S 4))) else S
theorem SE.rm {S S' : RS} (h : SE S S') (f p : Nat) : SE (rmR S f p) (rmR S' f p) := by
  obtain ⟨he, hd, hm, hk, hg, h1, h2, h3, h4⟩ := h
  unfold rmR
  refine ⟨he, hd, ?_, ?_, hg, h1, h2, h3, h4⟩
  · show va_up (rM S') f (rM S' f - 1) = va_up (rM S) f (rM S f - 1)
    rw [hm]
  · show (fun j => if 5 * f ≤ j ∧ j < 5 * f + 5 then remG (fun k => rK S' (5 * f + k)) (rM S' f) p (j - 5 * f) else rK S' j) = (fun j => if 5 * f ≤ j ∧ j < 5 * f + 5 then remG (fun k => rK S (5 * f + k)) (rM S f) p (j - 5 * f) else rK S j)
    rw [hm, hk]
theorem SE.gn {S S' : RS} (h : SE S S') (fr ps : Nat → Nat) (k : Nat) : SE (gnR fr ps k S) (gnR fr ps k S') := by
  induction k generalizing S S' with
  | zero => exact h
  | succ k ih =>
    unfold gnR
    rw [h.2.2.1]
    split
    · exact ih (h.rm _ _)
    · exact h
theorem SE.low {S S' : RS} (h : SE S S') (n : Nat) : SE (lowR n S) (lowR n S') := by
  induction n generalizing S S' with
  | zero => exact h
  | succ n ih =>
    have h' := h
    obtain ⟨he, hd, hm, hk, hg, h1, h2, h3, h4⟩ := h
    unfold lowR
    rw [hm, h4, hk]
    split
    · exact ih ⟨he, hd, hm, hk, hg, h1, h2, h3, rfl⟩
    · exact h'
theorem SE.uD {S S' : RS} (h : SE S S') (a v : Nat) : SE (uD S a v) (uD S' a v) := by
  obtain ⟨he, hd, hm, hk, hg, h1, h2, h3, h4⟩ := h
  refine ⟨he, ?_, hm, hk, hg, h1, h2, h3, h4⟩
  show va_up (rD S') a v = va_up (rD S) a v
  rw [hd]
theorem rm_C (S : RS) (f p : Nat) : rC (rmR S f p) = rC S := rfl
theorem rm_W (S : RS) (f p : Nat) : rW (rmR S f p) = rW S := rfl
theorem rm_P (S : RS) (f p : Nat) : rP (rmR S f p) = rP S := rfl
theorem rm_M (S : RS) (f p : Nat) : rM (rmR S f p) = va_up (rM S) f (rM S f - 1) := rfl
theorem gn_C (fr ps : Nat → Nat) (k : Nat) : ∀ S : RS, rC (gnR fr ps k S) = rC S := by
  induction k with
  | zero => intro S; rfl
  | succ k ih =>
    intro S
    unfold gnR
    split
    · rw [ih, rm_C]
    · rfl
theorem low_0 (n : Nat) : ∀ S : RS, rC (lowR n S) 0 = rC S 0 := by
  induction n with
  | zero => intro S; rfl
  | succ n ih =>
    intro S
    unfold lowR
    split
    · rw [ih]; rfl
    · rfl
theorem gn_t {fr ps : Nat → Nat} {k : Nat} {S : RS} (h : rM S (fr (k + 1)) = 0) : gnR fr ps (k + 1) S = gnR fr ps k (rmR S (fr k) (ps k)) := if_pos h
theorem gn_f {fr ps : Nat → Nat} {k : Nat} {S : RS} (h : ¬ rM S (fr (k + 1)) = 0) : gnR fr ps (k + 1) S = S := if_neg h
theorem low_t {n : Nat} {S : RS} (h : rM S (rC S 4) = 1) : lowR (n + 1) S = lowR n (uC S 4 (rK S (5 * rC S 4))) := if_pos h
theorem low_f {n : Nat} {S : RS} (h : ¬ rM S (rC S 4) = 1) : lowR (n + 1) S = S := if_neg h
theorem Pth_lv {S : RS} {a : Nat} : ∀ {n : Nat} {fr ps : Nat → Nat}, Pth S n a fr ps → TrR S n (fr 0) → ∀ i, i ≤ n → TrR S (n - i) (fr i) := by
  intro n
  induction n with
  | zero => intro fr ps _ h i hi; rw [show i = 0 by omega]; exact h
  | succ n ih =>
    intro fr ps h ht i hi
    cases i with
    | zero => exact ht
    | succ i =>
      obtain ⟨h1, h2, -⟩ := h.1 0 (by omega)
      have h3 : TrR S n (fr (0 + 1)) := by rw [h2]; exact ht.k h1
      have h4 := ih h.down h3 i (by omega)
      rw [show n + 1 - (i + 1) = n - i by omega]
      exact h4
theorem Pth_ne {S : RS} {n a : Nat} {fr ps : Nat → Nat} (h : Pth S n a fr ps) (ht : TrR S n (fr 0)) {i j : Nat} (hi : i < j) (hj : j ≤ n) : fr i ≠ fr j := by
  intro e
  have h1 := (Pth_lv h ht i (by omega)).g
  have h2 := (Pth_lv h ht j hj).g
  rw [e, h2] at h1
  omega
/-- what the removal's loop knows at k -/
def GnI (S : RS) (h : Nat) (fr ps : Nat → Nat) (k : Nat) : Prop := (∀ j, j ≤ h → rW S j = fr j) ∧ (∀ j, j < h → rP S j = ps j) ∧ (∀ j, j ≤ k → rM S (fr j) ≤ 5) ∧ (∀ j, j < k → ps j < rM S (fr j)) ∧ (∀ j, j ≤ h → fr j < 400) ∧ (∀ i j, i < j → j ≤ h → fr i ≠ fr j)
theorem GnI.w {S : RS} {h : Nat} {fr ps : Nat → Nat} {k : Nat} (g : GnI S h fr ps k) : ∀ j, j ≤ h → rW S j = fr j := g.1
theorem GnI.p {S : RS} {h : Nat} {fr ps : Nat → Nat} {k : Nat} (g : GnI S h fr ps k) : ∀ j, j < h → rP S j = ps j := g.2.1
theorem GnI.m {S : RS} {h : Nat} {fr ps : Nat → Nat} {k : Nat} (g : GnI S h fr ps k) : ∀ j, j ≤ k → rM S (fr j) ≤ 5 := g.2.2.1
theorem GnI.s {S : RS} {h : Nat} {fr ps : Nat → Nat} {k : Nat} (g : GnI S h fr ps k) : ∀ j, j < k → ps j < rM S (fr j) := g.2.2.2.1
theorem GnI.f {S : RS} {h : Nat} {fr ps : Nat → Nat} {k : Nat} (g : GnI S h fr ps k) : ∀ j, j ≤ h → fr j < 400 := g.2.2.2.2.1
theorem GnI.n {S : RS} {h : Nat} {fr ps : Nat → Nat} {k : Nat} (g : GnI S h fr ps k) : ∀ i j, i < j → j ≤ h → fr i ≠ fr j := g.2.2.2.2.2
theorem GnI.st {S : RS} {h : Nat} {fr ps : Nat → Nat} {k : Nat} (g : GnI S h fr ps (k + 1)) (hk : k + 1 ≤ h) : GnI (rmR S (fr k) (ps k)) h fr ps k := by
  refine ⟨g.w, g.p, fun j hj => ?_, fun j hj => ?_, g.f, g.n⟩
  · rw [rm_M]
    by_cases hjk : fr j = fr k
    · rw [hjk, va_up_self]; have := g.m k (by omega); omega
    · rw [va_up_ne _ _ hjk]; exact g.m j (by omega)
  · rw [rm_M, va_up_ne _ _ (g.n j k hj (by omega))]
    exact g.s j (by omega)
theorem gn_E (fr ps : Nat → Nat) (k : Nat) : ∀ S : RS, rE (gnR fr ps k S) = rE S := by
  induction k with
  | zero => intro S; rfl
  | succ k ih =>
    intro S
    unfold gnR
    split
    · rw [ih]; rfl
    · rfl
theorem low_E (n : Nat) : ∀ S : RS, rE (lowR n S) = rE S := by
  induction n with
  | zero => intro S; rfl
  | succ n ih =>
    intro S
    unfold lowR
    split
    · rw [ih]; rfl
    · rfl
