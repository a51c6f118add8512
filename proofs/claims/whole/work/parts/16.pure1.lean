abbrev kd (P : PS) (q k : Nat) : Nat := (pA P q k).getD 0
/-- a row g of s pieces that are there -/
def Kids (P : PS) (g : Nat → Option Nat) (s : Nat) (R : Nat → Prop) : Prop := ∀ k, k < s → g k = some ((g k).getD 0) ∧ pD P ((g k).getD 0) = true ∧ R ((g k).getD 0)
theorem Kids.mk {P : PS} {g : Nat → Option Nat} {s : Nat} {R : Nat → Prop} (h : ∀ k, k < s → ∃ c, g k = some c ∧ pD P c = true ∧ R c) : Kids P g s R := by
  intro k hk
  obtain ⟨c, h1, h2, h3⟩ := h k hk
  rw [h1]
  exact ⟨rfl, h2, h3⟩
theorem Kids.ch {P : PS} {g : Nat → Option Nat} {s : Nat} {R : Nat → Prop} (h : Kids P g s R) : ∀ k c, k < s → g k = some c → pD P c = true := by
  intro k c hk hc
  have := (h k hk).2.1
  rw [hc] at this
  exact this
theorem Kids.ins {P : PS} {g : Nat → Option Nat} {s p r : Nat} {R : Nat → Prop} (h : Kids P g s R) (hp : p ≤ s) (hr : pD P r = true) (hR : R r) : Kids P (insF g s p r) (s + 1) R := by
  refine Kids.mk fun k hk => ?_
  unfold insF
  by_cases h1 : k < p
  · rw [if_pos h1]; exact ⟨_, h k (by omega)⟩
  · rw [if_neg h1]
    by_cases h2 : k = p
    · rw [if_pos h2]; exact ⟨r, rfl, hr, hR⟩
    · rw [if_neg h2, if_pos (by omega)]; exact ⟨_, h (k - 1) (by omega)⟩
theorem Kids.rem {P : PS} {g : Nat → Option Nat} {s p : Nat} {R : Nat → Prop} (h : Kids P g s R) : Kids P (remF g s p) (s - 1) R := by
  refine Kids.mk fun k hk => ?_
  unfold remF
  by_cases h1 : k < p
  · rw [if_pos h1]; exact ⟨_, h k (by omega)⟩
  · rw [if_neg h1, if_pos (by omega)]; exact ⟨_, h (k + 1) (by omega)⟩
theorem posK_le {key : Nat → Int32} {f : Nat → Option Nat} {n : Nat} : ∀ m p, p + m ≤ n → posK key f n m p ≤ n := by
  intro m
  induction m with
  | zero => intro p h; unfold posK; omega
  | succ m ih =>
    intro p h
    unfold posK
    split
    · exact ih (p + 1) (by omega)
    · omega
theorem Kids.srtS {P : PS} {g : Nat → Option Nat} {s n : Nat} {R : Nat → Prop} (key : Nat → Int32) (h : Kids P g s R) (hn : n < s) : Kids P (srtS key g s n) s R := by
  have h1 := (h.rem (p := n)).ins (p := posK key g n n 0) (r := (g n).getD 0) (by have := posK_le (key := key) (f := g) (n := n) n 0 (by omega); omega) (h n hn).2.1 (h n hn).2.2
  rw [show s - 1 + 1 = s by omega] at h1
  exact h1
theorem Kids.srtF {P : PS} {g : Nat → Option Nat} {s : Nat} {R : Nat → Prop} (key : Nat → Int32) (h : Kids P g s R) : ∀ n, n < s → Kids P (srtF key g s n) s R := by
  intro n
  induction n with
  | zero => intro _; exact h
  | succ n ih => intro hn; exact (ih (by omega)).srtS key hn
theorem up_back {α : Type} {f : Nat → α} {k : Nat} {v w : α} (h : f k = w) : va_up (va_up f k v) k w = f := by
  funext x
  unfold va_up
  by_cases hx : x = k
  · rw [if_pos hx, hx, h]
  · rw [if_neg hx, if_neg hx]
theorem srt_fold {P : PS} {q r s : Nat} {g h g' : Nat → Option Nat} (hs : pS P q = s) (h0 : 0 < s) (hr : pH P r = some q) : sS (sH (sA (sH (sS (sA (sA P q g) q h) q (s - 1)) r none) q g') r (some q)) q (s - 1 + 1) = sA P q g' := by
  have e1 : va_up (va_up (pH P) r none) r (some q) = pH P := up_back hr
  have e2 : va_up (va_up (pS P) q (s - 1)) q (s - 1 + 1) = pS P := up_back (by omega)
  have e3 : va_up (va_up (va_up (pA P) q g) q h) q g' = va_up (pA P) q g' := by rw [va_up2, va_up2]
  show (pD P, pN P, pL P, va_up (va_up (pH P) r none) r (some q), va_up (va_up (pS P) q (s - 1)) q (s - 1 + 1), pB P, va_up (va_up (va_up (pA P) q g) q h) q g', pW P) = _
  rw [e1, e2, e3]
  rfl
theorem posK_go {key : Nat → Int32} {f : Nat → Option Nat} {n p : Nat} (hp : p < n) (hk : key ((f p).getD 0) ≤ key ((f n).getD 0)) : posK key f n (n - p) p = posK key f n (n - (p + 1)) (p + 1) := by
  rw [show n - p = n - (p + 1) + 1 by omega]
  conv => lhs; unfold posK
  rw [if_pos ⟨hp, hk⟩]
theorem posK_stop {key : Nat → Int32} {f : Nat → Option Nat} {n p : Nat} (hk : ¬ key ((f p).getD 0) ≤ key ((f n).getD 0)) : posK key f n (n - p) p = p := by
  cases h : n - p with
  | zero => rfl
  | succ m =>
    unfold posK
    rw [if_neg (fun h => hk h.2)]
theorem posK_end {key : Nat → Int32} {f : Nat → Option Nat} {n : Nat} : posK key f n (n - n) n = n := by
  rw [Nat.sub_self]
  rfl
