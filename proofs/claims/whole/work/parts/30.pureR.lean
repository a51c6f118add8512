/-! words of the reference -/
/-- edges of something that a frame of level n holds -/
def edR (S : RS) : Nat → Nat → (Nat → Int32)
  | 0, f => hulL (fun k s => rE S (4 * rK S (5 * f + k) + s)) (rM S f - 1)
  | n + 1, f => hulL (fun k => edR S n (rK S (5 * f + k))) (rM S f - 1)
def kidE (S : RS) : Nat → Nat → (Nat → Int32)
  | 0, x => fun s => rE S (4 * x + s)
  | n + 1, x => edR S n x
theorem edR_eq (S : RS) (n f : Nat) : edR S n f = hulL (fun k => kidE S n (rK S (5 * f + k))) (rM S f - 1) := by cases n <;> rfl
/-- a frame of level n in good order, and all below it -/
def TrR (S : RS) : Nat → Nat → Prop
  | 0, f => f < 400 ∧ rG S f = 0 ∧ rM S f ≤ 5 ∧ ∀ k, k < rM S f → rK S (5 * f + k) < 60
  | n + 1, f => f < 400 ∧ rG S f = n + 1 ∧ (rM S f ≤ 5 ∧ 0 < rM S f) ∧ ∀ k, k < rM S f → TrR S n (rK S (5 * f + k)) ∧ 0 < rM S (rK S (5 * f + k))
theorem TrR.f {S : RS} {n f : Nat} (h : TrR S n f) : f < 400 := by cases n <;> exact h.1
theorem TrR.g {S : RS} {n f : Nat} (h : TrR S n f) : rG S f = n := by cases n <;> exact h.2.1
theorem TrR.m {S : RS} {n f : Nat} (h : TrR S n f) : rM S f ≤ 5 := by
  cases n
  · exact h.2.2.1
  · exact h.2.2.1.1
theorem TrR.m0 {S : RS} {n f : Nat} (h : TrR S (n + 1) f) : 0 < rM S f := h.2.2.1.2
theorem TrR.k {S : RS} {n f : Nat} (h : TrR S (n + 1) f) {k : Nat} (hk : k < rM S f) : TrR S n (rK S (5 * f + k)) := (h.2.2.2 k hk).1
theorem TrR.kn {S : RS} {n f : Nat} (h : TrR S (n + 1) f) {k : Nat} (hk : k < rM S f) : 0 < rM S (rK S (5 * f + k)) := (h.2.2.2 k hk).2
def arR (S : RS) (n f : Nat) : Int32 := if rM S f = 0 then 0 else areaI (edR S n f 0) (edR S n f 1) (edR S n f 2) (edR S n f 3)
def rctA (S : RS) : Int32 := areaI (rR S 0) (rR S 1) (rR S 2) (rR S 3)
def gwR (S : RS) (n f : Nat) : Int32 := if rM S f = 0 then rctA S else growI (edR S n f) (rR S)
def mtR (S : RS) (h : Nat → Int32) : Bool := meetI (h 0) (h 1) (h 2) (h 3) (rR S 0) (rR S 1) (rR S 2) (rR S 3)
def isA (S : RS) (n : Int32) : Bool := decide (0 ≤ n) && decide (n < nI (rC S 1))
def tkR (S : RS) (a b c d : Int32) : RS := uR (uR (uR (uR S 0 a) 1 b) 2 c) 3 d
/-- is kid k of f better than kid b -/
def btR (S : RS) (n x b : Nat) : Bool := decide (gwR S n x - gwR S n b < 0) || (decide (gwR S n x - gwR S n b = 0) && decide (arR S n x < arR S n b))
def bstR (S : RS) (n f : Nat) : Nat → Nat
  | 0 => 0
  | k + 1 => if btR S n (rK S (5 * f + (k + 1))) (rK S (5 * f + bstR S n f k)) then k + 1 else bstR S n f k
theorem bstR_le (S : RS) (n f : Nat) : ∀ k, bstR S n f k ≤ k := by
  intro k
  induction k with
  | zero => exact Nat.le_refl _
  | succ k ih => unfold bstR; split <;> omega
def mta (S : RS) (a : Nat) : Int32 := bI (decide (rD S a = 1) && mtR S (fun s => rE S (4 * a + s)))
theorem hulL_s {g : Nat → Nat → Int32} {k s : Nat} (h : s < 2) : hulL g (k + 1) s = minI (hulL g k s) (g (k + 1) s) := by
  show (if s < 2 then _ else _) = _
  rw [if_pos h]
theorem hulL_b {g : Nat → Nat → Int32} {k s : Nat} (h : ¬ s < 2) : hulL g (k + 1) s = maxI (hulL g k s) (g (k + 1) s) := by
  show (if s < 2 then _ else _) = _
  rw [if_neg h]
