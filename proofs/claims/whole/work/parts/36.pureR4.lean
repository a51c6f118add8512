def r4R (r : Nat → Int32) (h : Nat → Int32) : Nat → Int32 := va_up (va_up (va_up (va_up r 0 (h 0)) 1 (h 1)) 2 (h 2)) 3 (h 3)
theorem tk_r4 (S : RS) (r h : Nat → Int32) : tkR (uRf S r) (h 0) (h 1) (h 2) (h 3) = uRf S (r4R r h) := rfl
theorem mt_r4 (S : RS) (r h x : Nat → Int32) : mtR (uRf S (r4R r h)) x = mt2 x h := rfl
/-- with other scalars, way and places -/
def uWP (S : RS) (c w p : Nat → Nat) : RS := (c, rE S, rD S, rM S, rK S, rG S, w, p, rR S)
theorem uWP_self (S : RS) : uWP S (rC S) (rW S) (rP S) = S := rfl
theorem gwR_cg {S S' : RS} (he : rE S' = rE S) (hm : rM S' = rM S) (hk : rK S' = rK S) (hr : rR S' = rR S) (n f : Nat) : gwR S' n f = gwR S n f := by unfold gwR rctA; rw [hm, edR_cg he hm hk, hr]
/-- the way down for the rectangle: from a frame of level h -/
def pthR (S : RS) (h f : Nat) : Nat → Nat
  | 0 => f
  | i + 1 => rK S (5 * pthR S h f i + bstR S (h - (i + 1)) (pthR S h f i) (rM S (pthR S h f i) - 1))
def plcR (S : RS) (h f i : Nat) : Nat := bstR S (h - (i + 1)) (pthR S h f i) (rM S (pthR S h f i) - 1)
theorem pthR_tr {S : RS} {h f : Nat} (ht : TrR S h f) : ∀ i, i ≤ h → TrR S (h - i) (pthR S h f i) := by
  intro i
  induction i with
  | zero => intro _; exact ht
  | succ i ih =>
    intro hi
    have h1 := ih (by omega)
    obtain ⟨m, hm⟩ : ∃ m, h - i = m + 1 := ⟨h - i - 1, by omega⟩
    rw [hm] at h1
    have hb := bstR_le S (h - (i + 1)) (pthR S h f i) (rM S (pthR S h f i) - 1)
    have h0 := h1.m0
    have h2 := h1.k (k := bstR S (h - (i + 1)) (pthR S h f i) (rM S (pthR S h f i) - 1)) (by omega)
    rw [show h - (i + 1) = m by omega] at h2 ⊢
    unfold pthR
    rw [show h - (i + 1) = m by omega]
    exact h2
theorem bst_y {S : RS} {n f k : Nat} (h : btR S n (rK S (5 * f + (k + 1))) (rK S (5 * f + bstR S n f k)) = true) : bstR S n f (k + 1) = k + 1 := by
  show (if _ then _ else _) = _
  rw [if_pos h]
theorem bst_n {S : RS} {n f k : Nat} (h : btR S n (rK S (5 * f + (k + 1))) (rK S (5 * f + bstR S n f k)) = false) : bstR S n f (k + 1) = bstR S n f k := by
  show (if _ then _ else _) = _
  rw [if_neg (by rw [h]; decide)]
/-- frame f's block of holds replaced -/
def blkR (S : RS) (f : Nat) (g : Nat → Nat) : RS := (rC S, rE S, rD S, rM S, (fun j => if 5 * f ≤ j ∧ j < 5 * f + 5 then g (j - 5 * f) else rK S j), rG S, rW S, rP S, rR S)
theorem blk_self (S : RS) (f : Nat) : blkR S f (fun k => rK S (5 * f + k)) = S := by
  have e : (fun j => if 5 * f ≤ j ∧ j < 5 * f + 5 then rK S (5 * f + (j - 5 * f)) else rK S j) = rK S := by
    funext j
    by_cases h : 5 * f ≤ j ∧ j < 5 * f + 5
    · rw [if_pos h, show 5 * f + (j - 5 * f) = j by omega]
    · rw [if_neg h]
  unfold blkR
  rw [e]
  rfl
theorem blk_in {S : RS} {f k : Nat} {g : Nat → Nat} (hk : k < 5) : rK (blkR S f g) (5 * f + k) = g k := by
  show (if 5 * f ≤ 5 * f + k ∧ 5 * f + k < 5 * f + 5 then g (5 * f + k - 5 * f) else _) = _
  rw [if_pos (by omega), show 5 * f + k - 5 * f = k by omega]
theorem blk_out {S : RS} {f x k : Nat} {g : Nat → Nat} (hk : k < 5) (hx : x ≠ f) : rK (blkR S f g) (5 * x + k) = rK S (5 * x + k) := by
  show (if 5 * f ≤ 5 * x + k ∧ 5 * x + k < 5 * f + 5 then _ else _) = _
  rw [if_neg (by omega)]
theorem blk_st {S : RS} {f k v : Nat} {g : Nat → Nat} (hk : k < 5) : uK (blkR S f g) (5 * f + k) v = blkR S f (va_up g k v) := by
  have e : va_up (rK (blkR S f g)) (5 * f + k) v = rK (blkR S f (va_up g k v)) := by
    funext j
    show (if j = 5 * f + k then v else if 5 * f ≤ j ∧ j < 5 * f + 5 then g (j - 5 * f) else rK S j) = if 5 * f ≤ j ∧ j < 5 * f + 5 then (if j - 5 * f = k then v else g (j - 5 * f)) else rK S j
    by_cases h1 : j = 5 * f + k
    · subst h1; rw [if_pos rfl, if_pos (by omega), if_pos (by omega)]
    · rw [if_neg h1]
      by_cases h2 : 5 * f ≤ j ∧ j < 5 * f + 5
      · rw [if_pos h2, if_pos h2, if_neg (by omega)]
      · rw [if_neg h2, if_neg h2]
  show (rC (blkR S f g), rE (blkR S f g), rD (blkR S f g), rM (blkR S f g), va_up (rK (blkR S f g)) (5 * f + k) v, rG (blkR S f g), rW (blkR S f g), rP (blkR S f g), rR (blkR S f g)) = _
  rw [e]
  rfl
/-- insertion and removal in a block -/
def insG (g : Nat → Nat) (m p x : Nat) : Nat → Nat := fun k => if k < p then g k else if k = p then x else if k ≤ m then g (k - 1) else g k
def shG (g : Nat → Nat) (m i : Nat) : Nat → Nat := fun k => if i < k ∧ k ≤ m then g (k - 1) else g k
def remG (g : Nat → Nat) (m p : Nat) : Nat → Nat := fun k => if k < p then g k else if k + 1 < m then g (k + 1) else g k
def dnG (g : Nat → Nat) (p i : Nat) : Nat → Nat := fun k => if p ≤ k ∧ k < i then g (k + 1) else g k
theorem shG_s (g : Nat → Nat) (m : Nat) : shG g m m = g := by
  funext k; simp only [shG]; rw [if_neg (by omega)]
theorem shG_st {g : Nat → Nat} {m i : Nat} (h : 0 < i) (hs : i ≤ m) : va_up (shG g m i) i (shG g m i (i - 1)) = shG g m (i - 1) := by
  funext k
  simp only [shG, va_up]
  repeat' split
  all_goals first | rfl | (exfalso; omega) | (congr 1; omega) | (subst_vars; first | rfl | (exfalso; omega) | (congr 1; omega))
theorem shG_end {g : Nat → Nat} {m p x : Nat} (h : p ≤ m) : va_up (shG g m p) p x = insG g m p x := by
  funext k
  simp only [shG, va_up, insG]
  repeat' split
  all_goals first | rfl | (exfalso; omega) | (congr 1; omega) | (subst_vars; first | rfl | (exfalso; omega) | (congr 1; omega))
theorem dnG_0 (g : Nat → Nat) (p : Nat) : dnG g p p = g := by
  funext k; simp only [dnG]; rw [if_neg (by omega)]
theorem dnG_st {g : Nat → Nat} {p i : Nat} (h : p ≤ i) : va_up (dnG g p i) i (dnG g p i (i + 1)) = dnG g p (i + 1) := by
  funext k
  simp only [dnG, va_up]
  repeat' split
  all_goals first | rfl | (exfalso; omega) | (congr 1; omega) | (subst_vars; first | rfl | (exfalso; omega) | (congr 1; omega))
theorem dnG_end {g : Nat → Nat} {p m : Nat} : dnG g p (m - 1) = remG g m p := by
  funext k
  simp only [dnG, remG]
  repeat' split
  all_goals first | rfl | (exfalso; omega) | (congr 1; omega)
/-- sorting a block by exchanges -/
def swG (g : Nat → Nat) (i : Nat) : Nat → Nat := va_up (va_up g (i + 1) (g i)) i (g (i + 1))
def bubG (key : Nat → Int32) : Nat → (Nat → Nat) → (Nat → Nat)
  | 0, g => g
  | i + 1, g => if key (g (i + 1)) < key (g i) then bubG key i (swG g i) else g
def bsG (key : Nat → Int32) (g : Nat → Nat) : Nat → (Nat → Nat)
  | 0 => g
  | n + 1 => bubG key (n + 1) (bsG key g n)
def minG (key : Nat → Int32) (g : Nat → Nat) : Nat → Int32
  | 0 => key (g 0)
  | k + 1 => minI (minG key g k) (key (g (k + 1)))
def maxG (key : Nat → Int32) (g : Nat → Nat) : Nat → Int32
  | 0 => key (g 0)
  | k + 1 => maxI (maxG key g k) (key (g (k + 1)))
/-- a change of one frame's block and count leaves what lies lower -/
theorem low_tr {S S' : RS} {f : Nat} (hg : rG S' = rG S) (hm : ∀ x, x ≠ f → rM S' x = rM S x) (hk : ∀ x k, k < 5 → x ≠ f → rK S' (5 * x + k) = rK S (5 * x + k)) : ∀ {n x : Nat}, n < rG S f → TrR S n x → TrR S' n x ∧ rM S' x = rM S x := by
  intro n
  induction n with
  | zero =>
    intro x hn h
    have hx : x ≠ f := by intro e; subst e; have := h.g; omega
    refine ⟨?_, hm x hx⟩
    have h5 := h.m
    unfold TrR at h ⊢
    rw [hg, hm x hx]
    exact ⟨h.1, h.2.1, h.2.2.1, fun k hk2 => by rw [hk x k (by omega) hx]; exact h.2.2.2 k hk2⟩
  | succ n ih =>
    intro x hn h
    have hx : x ≠ f := by intro e; subst e; have := h.g; omega
    refine ⟨?_, hm x hx⟩
    have h5 := h.m
    unfold TrR at h ⊢
    rw [hg, hm x hx]
    refine ⟨h.1, h.2.1, h.2.2.1, fun k hk2 => ?_⟩
    rw [hk x k (by omega) hx]
    have h6 := ih (by omega) (h.2.2.2 k hk2).1
    exact ⟨h6.1, by rw [h6.2]; exact (h.2.2.2 k hk2).2⟩
theorem low_ed {S S' : RS} {f : Nat} (he : rE S' = rE S) (hm : ∀ x, x ≠ f → rM S' x = rM S x) (hk : ∀ x k, k < 5 → x ≠ f → rK S' (5 * x + k) = rK S (5 * x + k)) : ∀ {n x : Nat}, n < rG S f → TrR S n x → 0 < rM S x → edR S' n x = edR S n x := by
  have hul : ∀ (a b : Nat → Nat → Int32) k, (∀ j, j ≤ k → a j = b j) → hulL a k = hulL b k := by
    intro a b k
    induction k with
    | zero => intro h; exact h 0 (Nat.le_refl _)
    | succ k ih => intro h; unfold hulL; rw [ih (fun j hj => h j (by omega)), h (k + 1) (Nat.le_refl _)]
  intro n
  induction n with
  | zero =>
    intro x hn h h0
    have hx : x ≠ f := by intro e; subst e; have := h.g; omega
    have h5 := h.m
    unfold edR
    rw [hm x hx, he]
    refine hul _ _ _ fun j hj => ?_
    funext s
    rw [hk x j (by omega) hx]
  | succ n ih =>
    intro x hn h h0
    have hx : x ≠ f := by intro e; subst e; have := h.g; omega
    have h5 := h.m
    unfold edR
    rw [hm x hx]
    refine hul _ _ _ fun j hj => ?_
    rw [hk x j (by omega) hx]
    exact ih (by omega) (h.k (by omega)) (h.kn (by omega))
/-- a new frame that holds all -/
def gtR (S : RS) : RS := uC (uM (blkR (uG (uC S 3 (rC S 3 + 1)) (rC S 3) (rG S (rC S 4) + 1)) (rC S 3) (insG (fun k => rK S (5 * rC S 3 + k)) 0 0 (rC S 4))) (rC S 3) (0 + 1)) 4 (rC S 3)
