def sprR (S : RS) (n f s : Nat) : Int32 := maxG (fun x => kidE S n x s) (fun k => rK S (5 * f + k)) (rM S f - 1) - minG (fun x => kidE S n x s) (fun k => rK S (5 * f + k)) (rM S f - 1)
def sdR (S : RS) (n f : Nat) : Nat := if sprR S n f 1 ≤ sprR S n f 0 then 0 else 1
def sgR (S : RS) (n f : Nat) : Nat → Nat := bsG (fun x => kidE S n x (sdR S n f)) (fun k => rK S (5 * f + k)) (rM S f - 1)
def sq3 (S : RS) (n f : Nat) : RS := uG (uC (blkR S f (sgR S n f)) 3 (rC S 3 + 1)) (rC S 3) (rG S f)
def sq4 (S : RS) (n f : Nat) : RS := uM (blkR (sq3 S n f) (rC S 3) (insG (fun k => rK (sq3 S n f) (5 * rC S 3 + k)) 0 0 (sgR S n f 3))) (rC S 3) (0 + 1)
def sq5 (S : RS) (n f : Nat) : RS := uM (blkR (sq4 S n f) (rC S 3) (insG (fun k => rK (sq4 S n f) (5 * rC S 3 + k)) 1 1 (sgR S n f 4))) (rC S 3) (1 + 1)
/-- what splitOff(f) leaves -/
def spR (S : RS) (n f : Nat) : RS := uC (uM (sq5 S n f) f 3) 2 (rC S 2 + 1)
theorem sq3_K {S : RS} {n f k : Nat} (hk : k < 5) : rK (sq3 S n f) (5 * f + k) = sgR S n f k := blk_in hk
theorem sq4_K {S : RS} {n f k : Nat} (hk : k < 5) (hf : f ≠ rC S 3) : rK (sq4 S n f) (5 * f + k) = sgR S n f k := by
  show rK (blkR (sq3 S n f) (rC S 3) _) (5 * f + k) = _
  rw [blk_out hk hf]
  exact sq3_K hk
theorem sq3_m {S : RS} {n f : Nat} (h : rM S (rC S 3) = 0) : rM (sq3 S n f) (rC S 3) = 0 := h
theorem sq4_m {S : RS} {n f : Nat} : rM (sq4 S n f) (rC S 3) = 1 := va_up_self _ _ _
