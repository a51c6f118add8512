def ptR (S : RS) (f p x : Nat) : RS := uM (blkR S f (insG (fun k => rK S (5 * f + k)) (rM S f) p x)) f (rM S f + 1)
/-- splits up the way, from place k -/
def spuR (Pt Pl : Nat → Nat) (h : Nat) : Nat → RS → RS
  | 0, S => if 4 < rM S (Pt 0) then ptR (gtR (spR S h (Pt 0))) (rC (gtR (spR S h (Pt 0))) 4) 1 (rC S 3) else S
  | k + 1, S => if 4 < rM S (Pt (k + 1)) then spuR Pt Pl h k (ptR (spR S (h - (k + 1)) (Pt (k + 1))) (Pt k) (Pl k + 1) (rC S 3)) else S
def SplI (S : RS) (n f : Nat) : Prop := TrR S n f ∧ rC S 3 < 400 ∧ rM S (rC S 3) = 0 ∧ f ≠ rC S 3
def GtI (S : RS) : Prop := rC S 3 < 400 ∧ rC S 4 < 400 ∧ rM S (rC S 3) = 0 ∧ rG S (rC S 4) < 1000 ∧ rC (gtR S) 4 < 400 ∧ rM (gtR S) (rC (gtR S) 4) ≤ 4 ∧ 1 ≤ rM (gtR S) (rC (gtR S) 4)
def PtI (S : RS) (f p : Nat) : Prop := f < 400 ∧ rM S f ≤ 4 ∧ p ≤ rM S f
def SpI (Pt Pl : Nat → Nat) (h : Nat) : Nat → RS → Prop
  | 0, S => Pt 0 < 400 ∧ rM S (Pt 0) ≤ 5 ∧ (4 < rM S (Pt 0) → SplI S h (Pt 0) ∧ GtI (spR S h (Pt 0)))
  | k + 1, S => Pt (k + 1) < 400 ∧ rM S (Pt (k + 1)) ≤ 5 ∧ (4 < rM S (Pt (k + 1)) → SplI S (h - (k + 1)) (Pt (k + 1)) ∧ PtI (spR S (h - (k + 1)) (Pt (k + 1))) (Pt k) (Pl k + 1) ∧ SpI Pt Pl h k (ptR (spR S (h - (k + 1)) (Pt (k + 1))) (Pt k) (Pl k + 1) (rC S 3)))
def cm1 (S : RS) (x1 y1 x2 y2 : Int32) (h : Nat) (w p : Nat → Nat) : RS := uWP (tkR (uC S 0 0) x1 y1 x2 y2) (va_up (rC (tkR (uC S 0 0) x1 y1 x2 y2)) 5 h) w p
def cm2 (S : RS) (c : Nat) : RS := uD (uEf S (va_cpy (rR S) (rE S) 0 (4 * c) 4)) c 1
def cm3 (S : RS) (c f : Nat) : RS := ptR (cm2 S c) f (rM (cm2 S c) f) c
theorem spR_C1 (S : RS) (n f : Nat) : rC (spR S n f) 1 = rC S 1 := rfl
theorem spR_W (S : RS) (n f : Nat) : rW (spR S n f) = rW S := rfl
theorem spR_P (S : RS) (n f : Nat) : rP (spR S n f) = rP S := rfl
theorem ptR_C (S : RS) (f p x : Nat) : rC (ptR S f p x) = rC S := rfl
theorem ptR_W (S : RS) (f p x : Nat) : rW (ptR S f p x) = rW S := rfl
theorem ptR_P (S : RS) (f p x : Nat) : rP (ptR S f p x) = rP S := rfl
theorem gtR_C1 (S : RS) : rC (gtR S) 1 = rC S 1 := rfl
theorem cm2_C (S : RS) (c : Nat) : rC (cm2 S c) = rC S := rfl
theorem cm2_W (S : RS) (c : Nat) : rW (cm2 S c) = rW S := rfl
theorem cm2_P (S : RS) (c : Nat) : rP (cm2 S c) = rP S := rfl
theorem cm2_M (S : RS) (c : Nat) : rM (cm2 S c) = rM S := rfl
theorem cm1_M (S : RS) (x1 y1 x2 y2 : Int32) (h : Nat) (w p : Nat → Nat) : rM (cm1 S x1 y1 x2 y2 h w p) = rM S := rfl
theorem cm1_C1 (S : RS) (x1 y1 x2 y2 : Int32) (h : Nat) (w p : Nat → Nat) : rC (cm1 S x1 y1 x2 y2 h w p) 1 = rC S 1 := rfl
theorem cm1_C5 (S : RS) (x1 y1 x2 y2 : Int32) (h : Nat) (w p : Nat → Nat) : rC (cm1 S x1 y1 x2 y2 h w p) 5 = h := va_up_self (rC (tkR (uC S 0 0) x1 y1 x2 y2)) 5 h
theorem cm1_W (S : RS) (x1 y1 x2 y2 : Int32) (h : Nat) (w p : Nat → Nat) : rW (cm1 S x1 y1 x2 y2 h w p) = w := rfl
theorem cm1_P (S : RS) (x1 y1 x2 y2 : Int32) (h : Nat) (w p : Nat → Nat) : rP (cm1 S x1 y1 x2 y2 h w p) = p := rfl
theorem spu_0t {Pt Pl : Nat → Nat} {h : Nat} {S : RS} (g : 4 < rM S (Pt 0)) : spuR Pt Pl h 0 S = ptR (gtR (spR S h (Pt 0))) (rC (gtR (spR S h (Pt 0))) 4) 1 (rC S 3) := if_pos g
theorem spu_0f {Pt Pl : Nat → Nat} {h : Nat} {S : RS} (g : ¬ 4 < rM S (Pt 0)) : spuR Pt Pl h 0 S = S := if_neg g
theorem spu_st {Pt Pl : Nat → Nat} {h k : Nat} {S : RS} (g : 4 < rM S (Pt (k + 1))) : spuR Pt Pl h (k + 1) S = spuR Pt Pl h k (ptR (spR S (h - (k + 1)) (Pt (k + 1))) (Pt k) (Pl k + 1) (rC S 3)) := if_pos g
theorem spu_sf {Pt Pl : Nat → Nat} {h k : Nat} {S : RS} (g : ¬ 4 < rM S (Pt (k + 1))) : spuR Pt Pl h (k + 1) S = S := if_neg g
theorem spu_C1 (Pt Pl : Nat → Nat) (h : Nat) : ∀ (k : Nat) (S : RS), rC (spuR Pt Pl h k S) 1 = rC S 1 := by
  intro k
  induction k with
  | zero =>
    intro S
    unfold spuR
    split
    · rw [ptR_C, gtR_C1, spR_C1]
    · rfl
  | succ k ih =>
    intro S
    unfold spuR
    split
    · rw [ih, ptR_C, spR_C1]
    · rfl
