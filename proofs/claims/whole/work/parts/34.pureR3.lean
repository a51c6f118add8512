def uRf (S : RS) (r : Nat → Int32) : RS := (rC S, rE S, rD S, rM S, rK S, rG S, rW S, rP S, r)
theorem TrR.cg {S S' : RS} (hg : rG S' = rG S) (hm : rM S' = rM S) (hk : rK S' = rK S) : ∀ {n f : Nat}, TrR S n f → TrR S' n f := by
  intro n
  induction n with
  | zero => intro f h; unfold TrR at h ⊢; rw [hg, hm, hk]; exact h
  | succ n ih =>
    intro f h
    unfold TrR at h ⊢
    rw [hg, hm, hk]
    exact ⟨h.1, h.2.1, h.2.2.1, fun k hk2 => ⟨ih (h.2.2.2 k hk2).1, (h.2.2.2 k hk2).2⟩⟩
theorem edR_cg {S S' : RS} (he : rE S' = rE S) (hm : rM S' = rM S) (hk : rK S' = rK S) : ∀ n f, edR S' n f = edR S n f := by
  intro n
  induction n with
  | zero => intro f; unfold edR; rw [he, hm, hk]
  | succ n ih => intro f; unfold edR; rw [hm, hk]; congr 1; funext k; exact ih _
theorem arR_cg {S S' : RS} (he : rE S' = rE S) (hm : rM S' = rM S) (hk : rK S' = rK S) (n f : Nat) : arR S' n f = arR S n f := by unfold arR; rw [hm, edR_cg he hm hk]
theorem s2A_cg {S S' : RS} {g g' : Nat → Int32} {n f : Nat} (he : rE S' = rE S) (hm : rM S' = rM S) (hk : rK S' = rK S) (hg : ∀ k, g k = g' k) : ∀ k, s2A S' g n f k = s2A S g' n f k := by
  intro k
  induction k with
  | zero => rfl
  | succ k ih => unfold s2A mbR; rw [ih, hg k, hk]; congr 1; funext i; rw [edR_cg he hm hk, edR_cg he hm hk]
theorem s2R_cg {S S' : RS} (he : rE S' = rE S) (hm : rM S' = rM S) (hk : rK S' = rK S) : ∀ n f, s2R S' n f = s2R S n f := by
  intro n
  induction n with
  | zero => intro f; rfl
  | succ n ih => intro f; unfold s2R; rw [hm, hk, s2A_cg he hm hk (fun k => ih _)]
theorem uRf_self (S : RS) : uRf S (rR S) = S := rfl
