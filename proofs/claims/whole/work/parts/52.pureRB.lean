def zR : RS := (fun _ => 0, fun _ => 0, fun _ => 0, fun _ => 0, fun _ => 0, fun _ => 0, fun _ => 0, fun _ => 0, fun _ => 0)
/-- a new object's state -/
def iR : RS := uC zR 3 1
/-- the object in the making, with its first n rows -/
def inR (T : CT3) (N : AH) (o n : Nat) (vs : List Value) : AH := fun q => if q < o then N q else if q = o then some (.inr (2, vs)) else if q - o ≤ n then rcel T o zR (q - o) else N q
theorem inR_o {T : CT3} {N : AH} {o n : Nat} {vs : List Value} : inR T N o n vs o = some (.inr (2, vs)) := by
  unfold inR
  rw [if_neg (by omega), if_pos rfl]
theorem inR_up {T : CT3} {N : AH} {o n : Nat} {vs : List Value} (vs' : List Value) : va_up (inR T N o n vs) o (some (.inr (2, vs'))) = inR T N o n vs' := by
  funext x
  by_cases hx : x = o
  · subst hx; rw [va_up_self, inR_o]
  · rw [va_up_ne _ _ hx]
    unfold inR
    rw [if_neg hx, if_neg hx]
theorem inR_new {T : CT3} {N : AH} {o : Nat} (n : Nat) {vs : List Value} {e : va_E} (h : rcel T o zR (n + 1) = some e) : va_up (inR T N o n vs) (o + (n + 1)) (some e) = inR T N o (n + 1) vs := by
  funext x
  by_cases hx : x = o + (n + 1)
  · subst hx
    rw [va_up_self]
    unfold inR
    rw [if_neg (by omega), if_neg (by omega), if_pos (by omega), show o + (n + 1) - o = n + 1 by omega, h]
  · rw [va_up_ne _ _ hx]
    unfold inR
    by_cases h1 : x < o
    · rw [if_pos h1, if_pos h1]
    · rw [if_neg h1, if_neg h1]
      by_cases h2 : x = o
      · rw [if_pos h2, if_pos h2]
      · rw [if_neg h2, if_neg h2]
        by_cases h3 : x - o ≤ n
        · rw [if_pos h3, if_pos (by omega)]
        · rw [if_neg h3, if_neg (by omega)]
theorem inR_0 {T : CT3} {N : AH} {o : Nat} {vs : List Value} : va_up N o (some (.inr (2, vs))) = inR T N o 0 vs := by
  funext x
  by_cases hx : x = o
  · subst hx; rw [va_up_self, inR_o]
  · rw [va_up_ne _ _ hx]
    unfold inR
    by_cases h1 : x < o
    · rw [if_pos h1]
    · rw [if_neg h1, if_neg hx, if_neg (by omega)]
theorem rcel_9 {T : CT3} {o : Nat} {S : RS} {k : Nat} (h : 9 ≤ k) : rcel T o S k = none := by
  obtain ⟨j, rfl⟩ : ∃ j, k = j + 9 := ⟨k - 9, by omega⟩
  rfl
theorem rcel_z {T : CT3} {o : Nat} {k : Nat} (h : 0 < k) (h2 : k ≤ 8) : ∃ e, rcel T o iR k = some e ∧ rcel T o zR k = some e := by
  rcases (show k = 1 ∨ k = 2 ∨ k = 3 ∨ k = 4 ∨ k = 5 ∨ k = 6 ∨ k = 7 ∨ k = 8 by omega) with rfl | rfl | rfl | rfl | rfl | rfl | rfl | rfl <;> exact ⟨_, rfl, rfl⟩
theorem inR_8 {T : CT3} {N : AH} {o : Nat} : inR T N o 8 (rvl o iR) = ovR T N o iR := by
  funext x
  unfold inR ovR
  by_cases h1 : x < o
  · rw [if_pos h1, if_pos h1]
  · rw [if_neg h1, if_neg h1]
    by_cases h2 : x = o
    · rw [if_pos h2, h2, Nat.sub_self]; rfl
    · rw [if_neg h2]
      by_cases h3 : x - o ≤ 8
      · rw [if_pos h3]
        obtain ⟨e, he1, he2⟩ := rcel_z (T := T) (o := o) (k := x - o) (by omega) h3
        rw [he1, he2]
      · rw [if_neg h3, rcel_9 (by omega)]
