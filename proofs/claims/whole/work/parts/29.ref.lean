/-! the reference's world: scalars rC (thrown, came, split, made, top, steps), rows: edges rE, held rD, many rM, holds rK, high rG, way rW, places rP, rect rR; the object at o, its rows behind it -/
abbrev RS : Type := (Nat → Nat) × (Nat → Int32) × (Nat → Nat) × (Nat → Nat) × (Nat → Nat) × (Nat → Nat) × (Nat → Nat) × (Nat → Nat) × (Nat → Int32)
def rC (S : RS) : Nat → Nat := S.1
def rE (S : RS) : Nat → Int32 := S.2.1
def rD (S : RS) : Nat → Nat := S.2.2.1
def rM (S : RS) : Nat → Nat := S.2.2.2.1
def rK (S : RS) : Nat → Nat := S.2.2.2.2.1
def rG (S : RS) : Nat → Nat := S.2.2.2.2.2.1
def rW (S : RS) : Nat → Nat := S.2.2.2.2.2.2.1
def rP (S : RS) : Nat → Nat := S.2.2.2.2.2.2.2.1
def rR (S : RS) : Nat → Int32 := S.2.2.2.2.2.2.2.2
def uC (S : RS) (k : Nat) (v : Nat) : RS := (va_up (rC S) k v, rE S, rD S, rM S, rK S, rG S, rW S, rP S, rR S)
theorem rC_uC (S : RS) (k : Nat) (v : Nat) : rC (uC S k v) = va_up (rC S) k v := rfl
theorem rE_uC (S : RS) (k : Nat) (v : Nat) : rE (uC S k v) = rE S := rfl
theorem rD_uC (S : RS) (k : Nat) (v : Nat) : rD (uC S k v) = rD S := rfl
theorem rM_uC (S : RS) (k : Nat) (v : Nat) : rM (uC S k v) = rM S := rfl
theorem rK_uC (S : RS) (k : Nat) (v : Nat) : rK (uC S k v) = rK S := rfl
theorem rG_uC (S : RS) (k : Nat) (v : Nat) : rG (uC S k v) = rG S := rfl
theorem rW_uC (S : RS) (k : Nat) (v : Nat) : rW (uC S k v) = rW S := rfl
theorem rP_uC (S : RS) (k : Nat) (v : Nat) : rP (uC S k v) = rP S := rfl
theorem rR_uC (S : RS) (k : Nat) (v : Nat) : rR (uC S k v) = rR S := rfl
def uE (S : RS) (k : Nat) (v : Int32) : RS := (rC S, va_up (rE S) k v, rD S, rM S, rK S, rG S, rW S, rP S, rR S)
theorem rC_uE (S : RS) (k : Nat) (v : Int32) : rC (uE S k v) = rC S := rfl
theorem rE_uE (S : RS) (k : Nat) (v : Int32) : rE (uE S k v) = va_up (rE S) k v := rfl
theorem rD_uE (S : RS) (k : Nat) (v : Int32) : rD (uE S k v) = rD S := rfl
theorem rM_uE (S : RS) (k : Nat) (v : Int32) : rM (uE S k v) = rM S := rfl
theorem rK_uE (S : RS) (k : Nat) (v : Int32) : rK (uE S k v) = rK S := rfl
theorem rG_uE (S : RS) (k : Nat) (v : Int32) : rG (uE S k v) = rG S := rfl
theorem rW_uE (S : RS) (k : Nat) (v : Int32) : rW (uE S k v) = rW S := rfl
theorem rP_uE (S : RS) (k : Nat) (v : Int32) : rP (uE S k v) = rP S := rfl
theorem rR_uE (S : RS) (k : Nat) (v : Int32) : rR (uE S k v) = rR S := rfl
def uD (S : RS) (k : Nat) (v : Nat) : RS := (rC S, rE S, va_up (rD S) k v, rM S, rK S, rG S, rW S, rP S, rR S)
theorem rC_uD (S : RS) (k : Nat) (v : Nat) : rC (uD S k v) = rC S := rfl
theorem rE_uD (S : RS) (k : Nat) (v : Nat) : rE (uD S k v) = rE S := rfl
theorem rD_uD (S : RS) (k : Nat) (v : Nat) : rD (uD S k v) = va_up (rD S) k v := rfl
theorem rM_uD (S : RS) (k : Nat) (v : Nat) : rM (uD S k v) = rM S := rfl
theorem rK_uD (S : RS) (k : Nat) (v : Nat) : rK (uD S k v) = rK S := rfl
theorem rG_uD (S : RS) (k : Nat) (v : Nat) : rG (uD S k v) = rG S := rfl
theorem rW_uD (S : RS) (k : Nat) (v : Nat) : rW (uD S k v) = rW S := rfl
theorem rP_uD (S : RS) (k : Nat) (v : Nat) : rP (uD S k v) = rP S := rfl
theorem rR_uD (S : RS) (k : Nat) (v : Nat) : rR (uD S k v) = rR S := rfl
def uM (S : RS) (k : Nat) (v : Nat) : RS := (rC S, rE S, rD S, va_up (rM S) k v, rK S, rG S, rW S, rP S, rR S)
theorem rC_uM (S : RS) (k : Nat) (v : Nat) : rC (uM S k v) = rC S := rfl
theorem rE_uM (S : RS) (k : Nat) (v : Nat) : rE (uM S k v) = rE S := rfl
theorem rD_uM (S : RS) (k : Nat) (v : Nat) : rD (uM S k v) = rD S := rfl
theorem rM_uM (S : RS) (k : Nat) (v : Nat) : rM (uM S k v) = va_up (rM S) k v := rfl
theorem rK_uM (S : RS) (k : Nat) (v : Nat) : rK (uM S k v) = rK S := rfl
theorem rG_uM (S : RS) (k : Nat) (v : Nat) : rG (uM S k v) = rG S := rfl
theorem rW_uM (S : RS) (k : Nat) (v : Nat) : rW (uM S k v) = rW S := rfl
theorem rP_uM (S : RS) (k : Nat) (v : Nat) : rP (uM S k v) = rP S := rfl
theorem rR_uM (S : RS) (k : Nat) (v : Nat) : rR (uM S k v) = rR S := rfl
def uK (S : RS) (k : Nat) (v : Nat) : RS := (rC S, rE S, rD S, rM S, va_up (rK S) k v, rG S, rW S, rP S, rR S)
theorem rC_uK (S : RS) (k : Nat) (v : Nat) : rC (uK S k v) = rC S := rfl
theorem rE_uK (S : RS) (k : Nat) (v : Nat) : rE (uK S k v) = rE S := rfl
theorem rD_uK (S : RS) (k : Nat) (v : Nat) : rD (uK S k v) = rD S := rfl
theorem rM_uK (S : RS) (k : Nat) (v : Nat) : rM (uK S k v) = rM S := rfl
theorem rK_uK (S : RS) (k : Nat) (v : Nat) : rK (uK S k v) = va_up (rK S) k v := rfl
theorem rG_uK (S : RS) (k : Nat) (v : Nat) : rG (uK S k v) = rG S := rfl
theorem rW_uK (S : RS) (k : Nat) (v : Nat) : rW (uK S k v) = rW S := rfl
theorem rP_uK (S : RS) (k : Nat) (v : Nat) : rP (uK S k v) = rP S := rfl
theorem rR_uK (S : RS) (k : Nat) (v : Nat) : rR (uK S k v) = rR S := rfl
def uG (S : RS) (k : Nat) (v : Nat) : RS := (rC S, rE S, rD S, rM S, rK S, va_up (rG S) k v, rW S, rP S, rR S)
theorem rC_uG (S : RS) (k : Nat) (v : Nat) : rC (uG S k v) = rC S := rfl
theorem rE_uG (S : RS) (k : Nat) (v : Nat) : rE (uG S k v) = rE S := rfl
theorem rD_uG (S : RS) (k : Nat) (v : Nat) : rD (uG S k v) = rD S := rfl
theorem rM_uG (S : RS) (k : Nat) (v : Nat) : rM (uG S k v) = rM S := rfl
theorem rK_uG (S : RS) (k : Nat) (v : Nat) : rK (uG S k v) = rK S := rfl
theorem rG_uG (S : RS) (k : Nat) (v : Nat) : rG (uG S k v) = va_up (rG S) k v := rfl
theorem rW_uG (S : RS) (k : Nat) (v : Nat) : rW (uG S k v) = rW S := rfl
theorem rP_uG (S : RS) (k : Nat) (v : Nat) : rP (uG S k v) = rP S := rfl
theorem rR_uG (S : RS) (k : Nat) (v : Nat) : rR (uG S k v) = rR S := rfl
def uW (S : RS) (k : Nat) (v : Nat) : RS := (rC S, rE S, rD S, rM S, rK S, rG S, va_up (rW S) k v, rP S, rR S)
theorem rC_uW (S : RS) (k : Nat) (v : Nat) : rC (uW S k v) = rC S := rfl
theorem rE_uW (S : RS) (k : Nat) (v : Nat) : rE (uW S k v) = rE S := rfl
theorem rD_uW (S : RS) (k : Nat) (v : Nat) : rD (uW S k v) = rD S := rfl
theorem rM_uW (S : RS) (k : Nat) (v : Nat) : rM (uW S k v) = rM S := rfl
theorem rK_uW (S : RS) (k : Nat) (v : Nat) : rK (uW S k v) = rK S := rfl
theorem rG_uW (S : RS) (k : Nat) (v : Nat) : rG (uW S k v) = rG S := rfl
theorem rW_uW (S : RS) (k : Nat) (v : Nat) : rW (uW S k v) = va_up (rW S) k v := rfl
theorem rP_uW (S : RS) (k : Nat) (v : Nat) : rP (uW S k v) = rP S := rfl
theorem rR_uW (S : RS) (k : Nat) (v : Nat) : rR (uW S k v) = rR S := rfl
def uP (S : RS) (k : Nat) (v : Nat) : RS := (rC S, rE S, rD S, rM S, rK S, rG S, rW S, va_up (rP S) k v, rR S)
theorem rC_uP (S : RS) (k : Nat) (v : Nat) : rC (uP S k v) = rC S := rfl
theorem rE_uP (S : RS) (k : Nat) (v : Nat) : rE (uP S k v) = rE S := rfl
theorem rD_uP (S : RS) (k : Nat) (v : Nat) : rD (uP S k v) = rD S := rfl
theorem rM_uP (S : RS) (k : Nat) (v : Nat) : rM (uP S k v) = rM S := rfl
theorem rK_uP (S : RS) (k : Nat) (v : Nat) : rK (uP S k v) = rK S := rfl
theorem rG_uP (S : RS) (k : Nat) (v : Nat) : rG (uP S k v) = rG S := rfl
theorem rW_uP (S : RS) (k : Nat) (v : Nat) : rW (uP S k v) = rW S := rfl
theorem rP_uP (S : RS) (k : Nat) (v : Nat) : rP (uP S k v) = va_up (rP S) k v := rfl
theorem rR_uP (S : RS) (k : Nat) (v : Nat) : rR (uP S k v) = rR S := rfl
def uR (S : RS) (k : Nat) (v : Int32) : RS := (rC S, rE S, rD S, rM S, rK S, rG S, rW S, rP S, va_up (rR S) k v)
theorem rC_uR (S : RS) (k : Nat) (v : Int32) : rC (uR S k v) = rC S := rfl
theorem rE_uR (S : RS) (k : Nat) (v : Int32) : rE (uR S k v) = rE S := rfl
theorem rD_uR (S : RS) (k : Nat) (v : Int32) : rD (uR S k v) = rD S := rfl
theorem rM_uR (S : RS) (k : Nat) (v : Int32) : rM (uR S k v) = rM S := rfl
theorem rK_uR (S : RS) (k : Nat) (v : Int32) : rK (uR S k v) = rK S := rfl
theorem rG_uR (S : RS) (k : Nat) (v : Int32) : rG (uR S k v) = rG S := rfl
theorem rW_uR (S : RS) (k : Nat) (v : Int32) : rW (uR S k v) = rW S := rfl
theorem rP_uR (S : RS) (k : Nat) (v : Int32) : rP (uR S k v) = rP S := rfl
theorem rR_uR (S : RS) (k : Nat) (v : Int32) : rR (uR S k v) = va_up (rR S) k v := rfl
def uEf (S : RS) (f : Nat → Int32) : RS := (rC S, f, rD S, rM S, rK S, rG S, rW S, rP S, rR S)
theorem rC_uEf (S : RS) (f : Nat → Int32) : rC (uEf S f) = rC S := rfl
theorem rE_uEf (S : RS) (f : Nat → Int32) : rE (uEf S f) = f := rfl
theorem rD_uEf (S : RS) (f : Nat → Int32) : rD (uEf S f) = rD S := rfl
theorem rM_uEf (S : RS) (f : Nat → Int32) : rM (uEf S f) = rM S := rfl
theorem rK_uEf (S : RS) (f : Nat → Int32) : rK (uEf S f) = rK S := rfl
theorem rG_uEf (S : RS) (f : Nat → Int32) : rG (uEf S f) = rG S := rfl
theorem rW_uEf (S : RS) (f : Nat → Int32) : rW (uEf S f) = rW S := rfl
theorem rP_uEf (S : RS) (f : Nat → Int32) : rP (uEf S f) = rP S := rfl
theorem rR_uEf (S : RS) (f : Nat → Int32) : rR (uEf S f) = rR S := rfl
abbrev rvl (o : Nat) (S : RS) : List Value := [.int (nI (rC S 0)), .int (nI (rC S 1)), .int (nI (rC S 2)), .ref (o + 1), .ref (o + 2), .int (nI (rC S 3)), .int (nI (rC S 4)), .ref (o + 3), .ref (o + 4), .ref (o + 5), .ref (o + 6), .ref (o + 7), .int (nI (rC S 5)), .ref (o + 8)]
def rcel (T : CT3) (o : Nat) (S : RS) : Nat → Option va_E
  | 0 => some (.inr (2, rvl o S))
  | 1 => some (eI T 240 (rE S))
  | 2 => some (eI T 60 (fun j => nI (rD S j)))
  | 3 => some (eI T 400 (fun j => nI (rM S j)))
  | 4 => some (eI T 2000 (fun j => nI (rK S j)))
  | 5 => some (eI T 400 (fun j => nI (rG S j)))
  | 6 => some (eI T 60 (fun j => nI (rW S j)))
  | 7 => some (eI T 60 (fun j => nI (rP S j)))
  | 8 => some (eI T 4 (rR S))
  | _ => none
def ovR (T : CT3) (N : AH) (o : Nat) (S : RS) : AH := fun q => if q < o then N q else match rcel T o S (q - o) with
  | some e => some e
  | none => N q
theorem ovR_at {T : CT3} {N : AH} {o : Nat} {S : RS} (k : Nat) {e : va_E} (h : rcel T o S k = some e) : ovR T N o S (o + k) = some e := by
  unfold ovR
  rw [if_neg (by omega), Nat.add_sub_cancel_left, h]
theorem ovR_o {T : CT3} {N : AH} {o : Nat} {S : RS} : ovR T N o S o = some (.inr (2, rvl o S)) := ovR_at 0 rfl
theorem ovR_up {T : CT3} {N : AH} {o : Nat} {S S' : RS} (k : Nat) {e : va_E} (h : rcel T o S' k = some e) (ho : ∀ j, j ≠ k → rcel T o S' j = rcel T o S j) : va_up (ovR T N o S) (o + k) (some e) = ovR T N o S' := by
  funext x
  by_cases hx : x = o + k
  · subst hx
    rw [va_up_self, ovR_at k h]
  · rw [va_up_ne _ _ hx]
    unfold ovR
    by_cases h1 : x < o
    · rw [if_pos h1, if_pos h1]
    · rw [if_neg h1, if_neg h1, ho (x - o) (by omega)]
theorem nI_up (f : Nat → Nat) (k v : Nat) : va_up (fun j => nI (f j)) k (nI v) = fun j => nI (va_up f k v j) := by
  funext x
  unfold va_up
  split <;> rfl

theorem ovR_uE {T : CT3} {N : AH} {o : Nat} {S : RS} (k : Nat) (v : Int32) : va_up (ovR T N o S) (o + 1) (some (eI T 240 (va_up (rE S) k v))) = ovR T N o (uE S k v) := by
  exact ovR_up 1 rfl (by intro j hj; rcases j with _|_|_|_|_|_|_|_|_|j <;> first | rfl | exact absurd rfl hj)
theorem ovR_uD {T : CT3} {N : AH} {o : Nat} {S : RS} (k : Nat) (v : Nat) {x : Int32} (hx : x = nI v) : va_up (ovR T N o S) (o + 2) (some (eI T 60 (va_up (fun j => nI (rD S j)) k x))) = ovR T N o (uD S k v) := by
  subst hx
  rw [nI_up]
  exact ovR_up 2 rfl (by intro j hj; rcases j with _|_|_|_|_|_|_|_|_|j <;> first | rfl | exact absurd rfl hj)
theorem ovR_uM {T : CT3} {N : AH} {o : Nat} {S : RS} (k : Nat) (v : Nat) {x : Int32} (hx : x = nI v) : va_up (ovR T N o S) (o + 3) (some (eI T 400 (va_up (fun j => nI (rM S j)) k x))) = ovR T N o (uM S k v) := by
  subst hx
  rw [nI_up]
  exact ovR_up 3 rfl (by intro j hj; rcases j with _|_|_|_|_|_|_|_|_|j <;> first | rfl | exact absurd rfl hj)
theorem ovR_uK {T : CT3} {N : AH} {o : Nat} {S : RS} (k : Nat) (v : Nat) {x : Int32} (hx : x = nI v) : va_up (ovR T N o S) (o + 4) (some (eI T 2000 (va_up (fun j => nI (rK S j)) k x))) = ovR T N o (uK S k v) := by
  subst hx
  rw [nI_up]
  exact ovR_up 4 rfl (by intro j hj; rcases j with _|_|_|_|_|_|_|_|_|j <;> first | rfl | exact absurd rfl hj)
theorem ovR_uG {T : CT3} {N : AH} {o : Nat} {S : RS} (k : Nat) (v : Nat) {x : Int32} (hx : x = nI v) : va_up (ovR T N o S) (o + 5) (some (eI T 400 (va_up (fun j => nI (rG S j)) k x))) = ovR T N o (uG S k v) := by
  subst hx
  rw [nI_up]
  exact ovR_up 5 rfl (by intro j hj; rcases j with _|_|_|_|_|_|_|_|_|j <;> first | rfl | exact absurd rfl hj)
theorem ovR_uW {T : CT3} {N : AH} {o : Nat} {S : RS} (k : Nat) (v : Nat) {x : Int32} (hx : x = nI v) : va_up (ovR T N o S) (o + 6) (some (eI T 60 (va_up (fun j => nI (rW S j)) k x))) = ovR T N o (uW S k v) := by
  subst hx
  rw [nI_up]
  exact ovR_up 6 rfl (by intro j hj; rcases j with _|_|_|_|_|_|_|_|_|j <;> first | rfl | exact absurd rfl hj)
theorem ovR_uP {T : CT3} {N : AH} {o : Nat} {S : RS} (k : Nat) (v : Nat) {x : Int32} (hx : x = nI v) : va_up (ovR T N o S) (o + 7) (some (eI T 60 (va_up (fun j => nI (rP S j)) k x))) = ovR T N o (uP S k v) := by
  subst hx
  rw [nI_up]
  exact ovR_up 7 rfl (by intro j hj; rcases j with _|_|_|_|_|_|_|_|_|j <;> first | rfl | exact absurd rfl hj)
theorem ovR_uR {T : CT3} {N : AH} {o : Nat} {S : RS} (k : Nat) (v : Int32) : va_up (ovR T N o S) (o + 8) (some (eI T 4 (va_up (rR S) k v))) = ovR T N o (uR S k v) := by
  exact ovR_up 8 rfl (by intro j hj; rcases j with _|_|_|_|_|_|_|_|_|j <;> first | rfl | exact absurd rfl hj)
theorem ovR_uEf {T : CT3} {N : AH} {o : Nat} {S : RS} (f : Nat → Int32) : va_up (ovR T N o S) (o + 1) (some (eI T 240 f)) = ovR T N o (uEf S f) :=
  ovR_up 1 rfl (by intro j hj; rcases j with _|_|_|_|_|_|_|_|_|j <;> first | rfl | exact absurd rfl hj)
theorem ovR_uC0 {T : CT3} {N : AH} {o : Nat} {S : RS} (v : Nat) {x : Int32} (hx : x = nI v) : va_up (ovR T N o S) o (some (.inr (2, (rvl o S).set 0 (.int x)))) = ovR T N o (uC S 0 v) := by
  subst hx
  exact ovR_up (k := 0) rfl (by intro j hj; rcases j with _|_|_|_|_|_|_|_|_|j <;> first | rfl | exact absurd rfl hj)
theorem ovR_uC1 {T : CT3} {N : AH} {o : Nat} {S : RS} (v : Nat) {x : Int32} (hx : x = nI v) : va_up (ovR T N o S) o (some (.inr (2, (rvl o S).set 1 (.int x)))) = ovR T N o (uC S 1 v) := by
  subst hx
  exact ovR_up (k := 0) rfl (by intro j hj; rcases j with _|_|_|_|_|_|_|_|_|j <;> first | rfl | exact absurd rfl hj)
theorem ovR_uC2 {T : CT3} {N : AH} {o : Nat} {S : RS} (v : Nat) {x : Int32} (hx : x = nI v) : va_up (ovR T N o S) o (some (.inr (2, (rvl o S).set 2 (.int x)))) = ovR T N o (uC S 2 v) := by
  subst hx
  exact ovR_up (k := 0) rfl (by intro j hj; rcases j with _|_|_|_|_|_|_|_|_|j <;> first | rfl | exact absurd rfl hj)
theorem ovR_uC3 {T : CT3} {N : AH} {o : Nat} {S : RS} (v : Nat) {x : Int32} (hx : x = nI v) : va_up (ovR T N o S) o (some (.inr (2, (rvl o S).set 5 (.int x)))) = ovR T N o (uC S 3 v) := by
  subst hx
  exact ovR_up (k := 0) rfl (by intro j hj; rcases j with _|_|_|_|_|_|_|_|_|j <;> first | rfl | exact absurd rfl hj)
theorem ovR_uC4 {T : CT3} {N : AH} {o : Nat} {S : RS} (v : Nat) {x : Int32} (hx : x = nI v) : va_up (ovR T N o S) o (some (.inr (2, (rvl o S).set 6 (.int x)))) = ovR T N o (uC S 4 v) := by
  subst hx
  exact ovR_up (k := 0) rfl (by intro j hj; rcases j with _|_|_|_|_|_|_|_|_|j <;> first | rfl | exact absurd rfl hj)
theorem ovR_uC5 {T : CT3} {N : AH} {o : Nat} {S : RS} (v : Nat) {x : Int32} (hx : x = nI v) : va_up (ovR T N o S) o (some (.inr (2, (rvl o S).set 12 (.int x)))) = ovR T N o (uC S 5 v) := by
  subst hx
  exact ovR_up (k := 0) rfl (by intro j hj; rcases j with _|_|_|_|_|_|_|_|_|j <;> first | rfl | exact absurd rfl hj)
theorem ix5 (f p : Nat) : (5 : Int32) * nI f + nI p = nI (5 * f + p) := by rw [show (5 : Int32) = nI 5 from rfl, pk_mul, nI_add]
theorem ix4 (f p : Nat) : (4 : Int32) * nI f + nI p = nI (4 * f + p) := by rw [show (4 : Int32) = nI 4 from rfl, pk_mul, nI_add]
theorem ix40 (f : Nat) : (4 : Int32) * nI f = nI (4 * f) := by rw [show (4 : Int32) = nI 4 from rfl, pk_mul]
theorem ix41 (f : Nat) : (4 : Int32) * nI f + 1 = nI (4 * f + 1) := ix4 f 1
theorem ix42 (f : Nat) : (4 : Int32) * nI f + 2 = nI (4 * f + 2) := ix4 f 2
theorem ix43 (f : Nat) : (4 : Int32) * nI f + 3 = nI (4 * f + 3) := ix4 f 3
theorem ix5m (f p : Nat) (h : 0 < p) : (5 : Int32) * nI f + nI p - 1 = nI (5 * f + (p - 1)) := by rw [ix5, nI_m1 (by omega), show 5 * f + p - 1 = 5 * f + (p - 1) by omega]
theorem ix5p (f p : Nat) : (5 : Int32) * nI f + nI p + 1 = nI (5 * f + (p + 1)) := by rw [ix5, nI_1]; rfl
set_option maxHeartbeats 1000000 in
theorem g_acopy {X : Cx} {y : MethodName} {cc : ByteArray} {nL fr lo mc ms : Nat} {M : AH} {sz a b pc idx : Nat} {L : List (Nat × Value)} (st : List Value) (hX : Ok X y cc nL fr lo mc ms) (hlk : Cond.methodLink y.cls idx arraycopyName ∈ lw_tbl) (hnat : Cond.native arraycopyName ∈ lw_tbl) (hstat : Cond.static arraycopyName ∈ lw_tbl) (hini : Cond.initialized "java/lang/System" ∈ lw_tbl) (hfr : 1 ≤ fr) (hlo : 50 ≤ lo) (hcat : (st.map fun v => v.category).sum ≤ 8) {q0 q1 n0 n1 : Nat} {f g : Nat → Int32} (h0 : M q0 = some (eI (cxT X) n0 f)) (h1 : M q1 = some (eI (cxT X) n1 g)) {sp dp n : Int32} (s' d' k : Nat) (hs : sp = nI s') (hd : dp = nI d') (hk : n = nI k) (hb0 : s' + k ≤ n0) (hb1 : d' + k ≤ n1) (hn0 : n0 < 100000) (hn1 : n1 < 100000) (hdg : decode cc pc = .ok (.invokestatic idx, 3))
    (kk : G X nL (va_up M q1 (some (eI (cxT X) n1 (va_cpy f g s' d' k)))) sz a b (pc + 3) L st) : G X nL M sz a b pc L (.int n :: .int dp :: .ref q1 :: .int sp :: .ref q0 :: st) := by
  obtain ⟨p, l, e, R, s, m, args, below, meth, c, Q, A, D, T⟩ := X
  obtain ⟨hexec, hb, hml, hown, hlocks, hname, hK, hR, hA, hst⟩ := hX
  intro H locs ls hsz hwd hS hl hMA T0 hT X0
  subst hs; subst hd; subst hk
  have e1 : (nI s').toNatClampNeg = s' := nI_clamp (by omega)
  have e2 : (nI d').toNatClampNeg = d' := nI_clamp (by omega)
  have e3 : (nI k).toNatClampNeg = k := nI_clamp (by omega)
  have i1 : (nI s').toInt = s' := nI_toInt (by omega)
  have i2 : (nI d').toInt = d' := nI_toInt (by omega)
  have i3 : (nI k).toInt = k := nI_toInt (by omega)
  have hw : nativeFrameWords "java/lang/System" "arraycopy" 5 + 11 ≤ 42 := by decide +kernel
  have hc0 : H[q0]? = some (vp_cell T.1 (n0, .inl f)) := hwd q0 _ h0
  have hc1 : H[q1]? = some (vp_cell T.1 (n1, .inl g)) := hwd q1 _ h1
  have hAq := hMA q1 (by rw [h1]; exact fun h => by cases h)
  obtain ⟨-, k0, hk0, cm0, hkk0⟩ := (hK.1.2 0 _ rfl).1 n0 (fun j => .int (f j))
  obtain ⟨vm', X', step⟩ := X0.arraycopy hexec hown (hK.2.use hlk rfl) (hK.2.use hnat rfl) (hK.2.use hstat rfl) (hK.2.use hini rfl) (src := q0) (dst := q1) (cs := vp_cell T.1 (n0, .inl f)) (cd := vp_cell T.1 (n1, .inl g)) (srcPos := nI s') (destPos := nI d') (n := nI k) (by rw [hT]; exact hc0) (by rw [hT]; exact hc1)
    (fun _ h => by cases h) (fun _ h => by cases h) (fun h => by cases h) (fun h => by cases h) hk0 hk0 hkk0 hkk0 (by simp [refKind]) (nI_pos (by omega)) (nI_pos (by omega)) (nI_pos (by omega))
    (by rw [i1, i3]; show ¬ _ > ((arrV T.1 n0 (fun j => .int (f j))).slots.size : Int); rw [arrV_size]; omega)
    (by rw [i2, i3]; show ¬ _ > ((arrV T.1 n1 (fun j => .int (g j))).slots.size : Int); rw [arrV_size]; omega)
    (fun vm₁ _ i hi => by
      rw [e3] at hi
      have e : (vp_cell T.1 (n0, .inl f)).slots.getD ((nI s').toNatClampNeg + i) .null = .int (f (s' + i)) := by
        rw [e1]
        show (arrV T.1 n0 (fun j => .int (f j))).slots.getD _ _ = _
        rw [Array.getD_eq_getD_getElem?, arrV_read _ _ (by omega)]
        rfl
      refine ⟨?_, ?_⟩
      · rw [e]; rfl
      · rw [e]; exact trivial)
    (g := F0 m pc ls (.int (nI k) :: .int (nI d') :: .ref q1 :: .int (nI s') :: .ref q0 :: st)) rfl (by rw [hml]; exact hl.1) (rest := st) rfl (by rw [hb]; exact hdg) (by rw [hR]; exact hfr) (by rw [hR]; show 2 * 0 + _ + _ ≤ lo; omega)
  have ec : copied (vp_cell T.1 (n0, .inl f)) (vp_cell T.1 (n1, .inl g)) (nI s') (nI d') (nI k) = vp_cell T.1 (n1, .inl (va_cpy f g s' d' k)) := by
    have : copied (vp_cell T.1 (n0, .inl f)) (vp_cell T.1 (n1, .inl g)) (nI s') (nI d') (nI k) = vp_cell T.1 (n1, .inl (va_cpy f g (nI s').toNatClampNeg (nI d').toNatClampNeg (nI k).toNatClampNeg)) := va_copied (fun z => .int z) T.1 T.1 f g (show (nI s').toNatClampNeg + (nI k).toNatClampNeg ≤ n0 by rw [e1, e3]; exact hb0)
    rw [e1, e2, e3] at this
    exact this
  rw [ec] at X' step
  have hl1 : q1 < H.size := (Array.getElem?_eq_some_iff.mp hc1).1
  have hheap : ((T0.setVm vm').setCell q1 (vp_cell T.1 (n1, .inl (va_cpy f g s' d' k)))).heap = H.setIfInBounds q1 (vp_cell T.1 (n1, .inl (va_cpy f g s' d' k))) := by rw [← hT]; rfl
  have oq : ∀ q : Nat, q ≠ q1 → (H.setIfInBounds q1 (vp_cell T.1 (n1, .inl (va_cpy f g s' d' k))))[q]? = H[q]? := fun q hq => by simp [Array.getElem?_setIfInBounds, Ne.symm hq]
  obtain ⟨t, a1, b1⟩ := kk (H.setIfInBounds q1 (vp_cell T.1 (n1, .inl (va_cpy f g s' d' k)))) _ ls (by simp; exact hsz) (wd_up hwd (show (H.setIfInBounds q1 _)[q1]? = some _ by simp [Array.getElem?_setIfInBounds, hl1]) oq) ⟨by simp; exact hS.1, fun q g1 g2 => by
      rw [oq q (fun e => g2 (by rw [e]; exact hAq))]
      exact hS.2.1 q g1 g2, fun q hq => by
      rcases List.mem_append.mp hq with h | h
      · exact hS.2.2 q h
      · obtain ⟨z, -, hz⟩ := List.mem_map.mp h
        rw [← hz]
        exact hAq⟩ hl (dom_up hMA hAq) _ hheap X'
  exact ⟨t, step t a1, b1⟩

