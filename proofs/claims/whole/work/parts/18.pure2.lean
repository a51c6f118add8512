theorem sBx_sBx (P : PS) (q : Nat) (a b : Nat → Int32) : sBx (sBx P q a) q b = sBx P q b := by
  unfold sBx
  show (_, _, _, _, _, va_up (va_up (pB P) q a) q b, _, _) = _
  rw [va_up2]
  rfl
theorem pBq_sBx (P : PS) (q : Nat) (b : Nat → Int32) : pB (sBx P q b) q = b := by rw [pB_sBx]; exact va_up_self _ _ _
theorem pBr_sBx (P : PS) {q r : Nat} (b : Nat → Int32) (h : r ≠ q) : pB (sBx P q b) r = pB P r := by rw [pB_sBx]; exact va_up_ne _ _ h
theorem va_upC {α : Type} (f : Nat → α) {k j : Nat} (v w : α) (h : k ≠ j) : va_up (va_up f k v) j w = va_up (va_up f j w) k v := by
  funext x
  unfold va_up
  by_cases h1 : x = j
  · subst h1; rw [if_pos rfl, if_neg (fun e => h e.symm), if_pos rfl]
  · rw [if_neg h1]
    by_cases h2 : x = k
    · rw [if_pos h2, if_pos h2]
    · rw [if_neg h2, if_neg h2, if_neg h1]
/-- the hull of a frame's kids, by k of them and one -/
abbrev hulP (P : PS) (q k : Nat) : Nat → Int32 := hulL (fun j => pB P (kd P q j)) k
abbrev blkP : va_E := .inr (0, [.int 0, .int 0, .null, .int 0, .null, .int 0, .int 0, .int 0, .int 0])
