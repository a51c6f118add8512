/-- an edge of what a frame of level n holds -/
theorem cr_edgeOf (n : Nat) {S : RS} {f s : Nat} (ht : TrR S n f) (hs : s < 4) (hn : n < 1000) : ∀ k, k < rM S f → ∀ {l : Launch} (_ : l.stackTraces = false) {T : CT3} {D : va_G} {N : AH} {o : Nat} (sz : Nat), Ct l T D yX2_edgeOf cX2_edgeOf 5 (some .int) (2 * n + 1) (49 * n + 22) 0 0 [.ref o, .int (nI f), .int (nI k), .int (nI s)] (ovR T N o S) sz (fun v M' z' => v = some (.int (kidE S n (rK S (5 * f + k)) s)) ∧ M' = ovR T N o S ∧ sz = z') := by
  intro k hk l hl T D N o sz
  have h5 := ht.m
  cases n with
  | zero => exact cr_edgeOf0 hl sz ht.1 ht.g (by omega) (ht.2.2.2 k hk) hs
  | succ n => exact cr_edgeOfS (fr := 2 * n + 2) (lo := 49 * n + 46) hl sz ht.f ht.g (by omega) (by omega) (cr_edge n (ht.k hk) (ht.kn hk) hs (by omega))
def Kgo (S : RS) (f : Nat) (g : Nat → Nat) : Prop := ∀ k, k < rM S f → ∃ j, j < rM S f ∧ g k = rK S (5 * f + j)
theorem Kgo.st {S : RS} {f : Nat} : Kgo S f (fun k => rK S (5 * f + k)) := fun k hk => ⟨k, hk, rfl⟩
theorem Kgo.sw {S : RS} {f i : Nat} {g : Nat → Nat} (h : Kgo S f g) (hi : i + 1 < rM S f) : Kgo S f (swG g i) := by
  intro k hk
  unfold swG va_up
  by_cases h1 : k = i
  · rw [if_pos h1]; exact h (i + 1) hi
  · rw [if_neg h1]
    by_cases h2 : k = i + 1
    · rw [if_pos h2]; exact h i (by omega)
    · rw [if_neg h2]; exact h k hk
theorem Kgo.bub {S : RS} {f : Nat} {key : Nat → Int32} : ∀ {i : Nat} {g : Nat → Nat}, Kgo S f g → i < rM S f → Kgo S f (bubG key i g) := by
  intro i
  induction i with
  | zero => intro g h _; exact h
  | succ i ih =>
    intro g h hi
    unfold bubG
    split
    · exact ih (h.sw hi) (by omega)
    · exact h
theorem Kgo.bs {S : RS} {f : Nat} {key : Nat → Int32} {g : Nat → Nat} (h : Kgo S f g) : ∀ n, n < rM S f → Kgo S f (bsG key g n) := by
  intro n
  induction n with
  | zero => intro _; exact h
  | succ n ih => intro hn; exact (ih (by omega)).bub hn
theorem blk_tr {S : RS} {n f : Nat} {g : Nat → Nat} (ht : TrR S n f) (hg : Kgo S f g) : TrR (blkR S f g) n f ∧ ∀ k, k < rM S f → kidE (blkR S f g) n (g k) = kidE S n (g k) := by
  have h5 := ht.m
  have hlv := ht.g
  cases n with
  | zero =>
    refine ⟨⟨ht.1, ht.2.1, ht.2.2.1, fun k hk => ?_⟩, fun k hk => rfl⟩
    have hk' : k < rM S f := hk
    rw [blk_in (by omega)]
    obtain ⟨j, hj, e⟩ := hg k hk'
    rw [e]
    exact ht.2.2.2 j hj
  | succ n =>
    have lo : ∀ x, TrR S n x → TrR (blkR S f g) n x ∧ rM (blkR S f g) x = rM S x := fun x hx => low_tr (S := S) (S' := blkR S f g) (f := f) rfl (fun _ _ => rfl) (fun _ _ hk hx => blk_out hk hx) (by omega) hx
    refine ⟨⟨ht.f, ht.g, ht.2.2.1, fun k hk => ?_⟩, fun k hk => ?_⟩
    · have hk' : k < rM S f := hk
      rw [blk_in (by omega)]
      obtain ⟨j, hj, e⟩ := hg k hk'
      rw [e]
      exact ⟨(lo _ (ht.k hj)).1, ht.kn hj⟩
    · obtain ⟨j, hj, e⟩ := hg k hk
      rw [e]
      exact low_ed (S := S) (S' := blkR S f g) (f := f) rfl (fun _ _ => rfl) (fun _ _ hk hx => blk_out hk hx) (by omega) (ht.k hj) (ht.kn hj)
theorem bub_y {key : Nat → Int32} {i : Nat} {g : Nat → Nat} (h : key (g (i + 1)) < key (g i)) : bubG key (i + 1) g = bubG key i (swG g i) := by
  show (if _ then _ else _) = _
  rw [if_pos h]
theorem bub_n {key : Nat → Int32} {i : Nat} {g : Nat → Nat} (h : ¬ key (g (i + 1)) < key (g i)) : bubG key (i + 1) g = g := by
  show (if _ then _ else _) = _
  rw [if_neg h]
