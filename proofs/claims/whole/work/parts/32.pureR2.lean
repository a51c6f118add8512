def offR (x lo hi : Int32) : Int32 := if x < lo then lo - x else if hi < x then x - hi else 0
def farR (S : RS) (a : Nat) (x y : Int32) : Int32 := offR x (rE S (4 * a)) (rE S (4 * a + 2)) * offR x (rE S (4 * a)) (rE S (4 * a + 2)) + offR y (rE S (4 * a + 1)) (rE S (4 * a + 3)) * offR y (rE S (4 * a + 1)) (rE S (4 * a + 3))
def aroR (S : RS) (a : Nat) : Int32 := areaI (rE S (4 * a)) (rE S (4 * a + 1)) (rE S (4 * a + 2)) (rE S (4 * a + 3))
def lkR (S : RS) : Nat → Nat → Int32
  | 0, _ => 1
  | n + 1, f => sumA 1 (fun k => if mtR S (edR S n (rK S (5 * f + k))) then lkR S n (rK S (5 * f + k)) else 0) (rM S f)
def s0R (S : RS) : Nat → Nat → Int32
  | 0, _ => 1
  | n + 1, f => sumA 1 (fun k => s0R S n (rK S (5 * f + k))) (rM S f)
def s1R (S : RS) : Nat → Nat → Int32
  | 0, f => arR S 0 f
  | n + 1, f => sumA (arR S (n + 1) f) (fun k => s1R S n (rK S (5 * f + k))) (rM S f)
/-- do two hedges overlap -/
def mt2 (h r : Nat → Int32) : Bool := meetI (h 0) (h 1) (h 2) (h 3) (r 0) (r 1) (r 2) (r 3)
def mbR (S : RS) (n f k : Nat) (z : Int32) (i : Nat) : Int32 := sumA z (fun i => bI (mt2 (edR S n (rK S (5 * f + i))) (edR S n (rK S (5 * f + k))))) i
def s2A (S : RS) (g : Nat → Int32) (n f : Nat) : Nat → Int32
  | 0 => 0
  | k + 1 => mbR S n f k (s2A S g n f k + g k) k
def s2R (S : RS) : Nat → Nat → Int32
  | 0, _ => 0
  | n + 1, f => s2A S (fun k => s2R S n (rK S (5 * f + k))) n f (rM S f)
def dg4R (S : RS) (n f : Nat) (d : Int64) : Nat → Int64
  | 0 => d * 31 + (nI (rM S f)).toInt64
  | k + 1 => dg4R S n f d k * 31 + (if rM S f = 0 then (0 : Int32) else edR S n f k).toInt64
def dgR (S : RS) : Nat → Nat → Int64 → Int64
  | 0, f, d => iterL (fun k d => d * 31 + (nI (rK S (5 * f + k))).toInt64) (dg4R S 0 f d 4) (rM S f)
  | n + 1, f, d => iterL (fun k d => dgR S n (rK S (5 * f + k)) d) (dg4R S (n + 1) f d 4) (rM S f)
theorem mta_s {S : RS} {a : Nat} (h : rD S a = 1) : mta S a = bI (mtR S (fun s => rE S (4 * a + s))) := by unfold mta; rw [decide_eq_true h]; rfl
theorem mta_n {S : RS} {a : Nat} (h : ¬ rD S a = 1) : mta S a = 0 := by unfold mta; rw [decide_eq_false h]; rfl
theorem mta_or (S : RS) (a : Nat) : mta S a = 0 ∨ mta S a = 1 := bI_or _
