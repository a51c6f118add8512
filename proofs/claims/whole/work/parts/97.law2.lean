/-! the law's world: out's row, the reference's object, the class's object and pieces -/
theorem Ct.po {l : Launch} {T : CT3} {D : va_G} {y : MethodName} {cc : ByteArray} {nL : Nat} {ret : Option FieldType} {fr lo mc ms : Nat} {as : List Value} {M : AH} {sz : Nat} {post post' : Option Value → AH → Nat → Prop} (h : Ct l T D y cc nL ret fr lo mc ms as M sz post) (hp : ∀ v M' z', post v M' z' → post' v M' z') : Ct l T D y cc nL ret fr lo mc ms as M sz post' := by
  intro p e ha hc hk s m args below hf happ hP ht
  obtain ⟨n, o, h1, h2, h3, ⟨⟨v, M', q1, q2, q3⟩, q4⟩, q5⟩ := h p e ha hc hk s m args below hf happ hP ht
  exact ⟨n, o, h1, h2, h3, ⟨⟨v, M', q1, hp _ _ _ q2, q3⟩, q4⟩, q5⟩
theorem CtN.po {l : Launch} {T : CT3} {D : va_G} {y : MethodName} {cc : ByteArray} {nL : Nat} {ret : Option FieldType} {hh : List (Nat × Nat × Nat × Nat)} {fr lo mc ms : Nat} {as : List Value} {M : AH} {sz : Nat} {post post' : Option Value → AH → Nat → Prop} (h : CtN l T D y cc nL ret hh fr lo mc ms as M sz post) (hp : ∀ v M' z', post v M' z' → post' v M' z') : CtN l T D y cc nL ret hh fr lo mc ms as M sz post' := by
  intro p e ha hc hk s m args below hf happ hP ht
  obtain ⟨n, o, h1, h2, h3, hQ⟩ := h p e ha hc hk s m args below hf happ hP ht
  refine ⟨n, o, h1, h2, h3, ?_⟩
  rcases hQ with ⟨⟨⟨v, M', q1, q2, q3⟩, q4⟩, q5⟩ | hX
  · exact Or.inl ⟨⟨⟨v, M', q1, hp _ _ _ q2, q3⟩, q4⟩, q5⟩
  · exact Or.inr hX
def N2 (T : CT3) (qo : Nat) (f : Nat → Int64) : AH := fun q => if q = qo then some (eL T 1 f) else none
def Wd (T : CT3) (x : Nat) (P : PS) (F : FS) (S : RS) (f : Nat → Int64) : AH := ov T (ovF T (ovR T (N2 T (x + 13) f) (x + 4) S) F) P
/-- what lies where -/
def Gm (x : Nat) (P : PS) (F : FS) (z : Nat) : Prop := fO F = x ∧ WfF P F ∧ (∀ q, pD P q = true → q + 1 < z ∧ (q = x + 2 ∨ x + 14 ≤ q)) ∧ x + 14 ≤ z
theorem ovR_lo {T : CT3} {N : AH} {o q : Nat} {S : RS} (h : q < o) : ovR T N o S q = N q := if_pos h
theorem ovR_hi {T : CT3} {N : AH} {o q : Nat} {S : RS} (h : o + 9 ≤ q) : ovR T N o S q = N q := by
  unfold ovR
  rw [if_neg (by omega), rcel_9 (by omega)]
theorem ovR_k {T : CT3} {N N' : AH} {o q : Nat} {S : RS} (h1 : o ≤ q) (h2 : q < o + 9) : ovR T N o S q = ovR T N' o S q := by
  obtain ⟨k, rfl⟩ : ∃ k, q = o + k := ⟨q - o, by omega⟩
  unfold ovR
  rw [if_neg (by omega), if_neg (by omega), show o + k - o = k by omega]
  have hk : k < 9 := by omega
  have he : ∃ e, rcel T o S k = some e := by
    rcases (show k = 0 ∨ k = 1 ∨ k = 2 ∨ k = 3 ∨ k = 4 ∨ k = 5 ∨ k = 6 ∨ k = 7 ∨ k = 8 by omega) with rfl | rfl | rfl | rfl | rfl | rfl | rfl | rfl | rfl <;> exact ⟨_, rfl⟩
  obtain ⟨e, he⟩ := he
  rw [he]
theorem ovF_ne {T : CT3} {N : AH} {F : FS} {q : Nat} (h1 : q ≠ fO F) (h2 : q ≠ fO F + 1) : ovF T N F q = N q := by
  unfold ovF
  rw [if_neg h1, if_neg h2]
section
variable {T : CT3} {x z : Nat} {P : PS} {F : FS} {S S' : RS} {f : Nat → Int64}
theorem Gm.no (g : Gm x P F z) {q : Nat} (h1 : x + 4 ≤ q) (h2 : q ≤ x + 13) : pD P q = false ∧ ∀ k, k + 1 = q → pD P k = false := by
  obtain ⟨g1, g2, g3, g4⟩ := g
  constructor
  · cases e : pD P q with
    | false => rfl
    | true => have := (g3 q e).2; omega
  · intro k hk
    cases e : pD P k with
    | false => rfl
    | true => have := (g3 k e).2; omega
theorem Wd_mid (g : Gm x P F z) {q : Nat} (h1 : x + 4 ≤ q) (h2 : q ≤ x + 13) : Wd T x P F S f q = ovR T (N2 T (x + 13) f) (x + 4) S q := by
  obtain ⟨n1, n2⟩ := g.no h1 h2
  unfold Wd
  rw [ov_no n1 n2, ovF_ne (by rw [g.1]; omega) (by rw [g.1]; omega)]
theorem Wd_x (g : Gm x P F z) : Wd T x P F S f x = some (.inr (1, fvl F)) := by
  have := ovF_o (T := T) (N := ovR T (N2 T (x + 13) f) (x + 4) S) g.2.1
  rw [g.1] at this
  exact this
theorem Wd_o (g : Gm x P F z) : Wd T x P F S f (x + 4) = some (.inr (2, rvl (x + 4) S)) := by
  rw [Wd_mid g (by omega) (by omega)]
  exact ovR_o
theorem Wd_out (g : Gm x P F z) : Wd T x P F S f (x + 13) = some (eL T 1 f) := by
  rw [Wd_mid g (by omega) (by omega), ovR_hi (by omega)]
  unfold N2
  rw [if_pos rfl]
/-- out's row is written -/
theorem Wd_up (g : Gm x P F z) (f' : Nat → Int64) : va_up (Wd T x P F S f) (x + 13) (some (eL T 1 f')) = Wd T x P F S f' := by
  funext q
  by_cases e : q = x + 13
  · subst e; rw [va_up_self, Wd_out g]
  · rw [va_up_ne _ _ e]
    have hN : ∀ q, q ≠ x + 13 → N2 T (x + 13) f q = N2 T (x + 13) f' q := fun q h => by unfold N2; rw [if_neg h, if_neg h]
    have hR : ovR T (N2 T (x + 13) f) (x + 4) S q = ovR T (N2 T (x + 13) f') (x + 4) S q := by
      by_cases c1 : q < x + 4
      · rw [ovR_lo c1, ovR_lo c1, hN q e]
      · by_cases c2 : q < x + 4 + 9
        · exact ovR_k (by omega) c2
        · rw [ovR_hi (by omega), ovR_hi (by omega), hN q e]
    have hF : ovF T (ovR T (N2 T (x + 13) f) (x + 4) S) F q = ovF T (ovR T (N2 T (x + 13) f') (x + 4) S) F q := by
      unfold ovF; rw [hR]
    unfold Wd ov
    cases q with
    | zero => rw [hF]
    | succ q => simp only [hF]
/-- the world, seen from the reference -/
theorem Wd_R (g : Gm x P F z) : ovR T (Wd T x P F S f) (x + 4) S' = Wd T x P F S' f := by
  funext q
  have key : ∀ q, (q < x + 4 ∨ x + 4 + 9 ≤ q) → Wd T x P F S f q = Wd T x P F S' f q := by
    intro q hq
    have hR : ovR T (N2 T (x + 13) f) (x + 4) S q = ovR T (N2 T (x + 13) f) (x + 4) S' q := by
      rcases hq with c | c
      · rw [ovR_lo c, ovR_lo c]
      · rw [ovR_hi c, ovR_hi c]
    have hF : ovF T (ovR T (N2 T (x + 13) f) (x + 4) S) F q = ovF T (ovR T (N2 T (x + 13) f) (x + 4) S') F q := by
      unfold ovF; rw [hR]
    unfold Wd ov
    cases q with
    | zero => rw [hF]
    | succ q => simp only [hF]
  by_cases c1 : q < x + 4
  · rw [ovR_lo c1]; exact key q (Or.inl c1)
  · by_cases c2 : q < x + 4 + 9
    · rw [Wd_mid g (by omega) (by omega)]; exact ovR_k (by omega) c2
    · rw [ovR_hi (by omega)]; exact key q (Or.inr (by omega))
theorem Gm.dom (g : Gm x P F z) : ∀ q, pD P q = true → q + 1 < z := fun q hq => (g.2.2.1 q hq).1
theorem Gm.ob (g : Gm x P F z) : fO F + 1 < z := by have := g.1; have := g.2.2.2; omega
theorem Gm.nw (g : Gm x P F z) (n : Int32) (lv : Nat) (bx : Nat → Int32) (w : Nat) : Gm x (nwP P z n lv bx w) F (z + 1 + 1) := by
  refine ⟨g.1, g.2.1.nw g.dom g.ob n lv bx w, fun q hq => ?_, by have := g.2.2.2; omega⟩
  have hq : va_up (pD P) z true q = true := hq
  by_cases e : q = z
  · have := g.2.2.2; omega
  · rw [va_up_ne _ _ e] at hq
    have := g.2.2.1 q hq
    omega
theorem Gm.mono (g : Gm x P F z) {z' : Nat} (h : z ≤ z') : Gm x P F z' := ⟨g.1, g.2.1, fun q hq => ⟨Nat.lt_of_lt_of_le (g.2.2.1 q hq).1 h, (g.2.2.1 q hq).2⟩, Nat.le_trans g.2.2.2 h⟩
theorem Gm.pn (g : Gm x P F z) : pD P z = false := by
  cases e : pD P z with
  | false => rfl
  | true => have := g.dom z e; omega
end
/-- the law's state between calls -/
def LW (T : CT3) (x : Nat) (M : AH) (z : Nat) : Prop := ∃ (P : PS) (F : FS) (S : RS) (φ al : Nat → Nat) (L : Nat → Prop) (h : Nat) (f : Nat → Int64), M = Wd T x P F S f ∧ Gm x P F z ∧ Inv P F S φ al L h
/-- behind both calls: the class answered k, the reference c -/
def LA (T : CT3) (x : Nat) (k c : Int32) (M : AH) (z : Nat) : Prop := ∃ (P : PS) (F : FS) (S : RS) (φ al : Nat → Nat) (L : Nat → Prop) (h : Nat) (f : Nat → Int64), M = Wd T x P F S f ∧ Gm x P F z ∧ Inv P F S φ al L h ∧ k = nI (rC S 0) ∧ (k = 0 → f 0 = c.toInt64)
theorem LA.lw {T : CT3} {x : Nat} {k c : Int32} {M : AH} {z : Nat} (h : LA T x k c M z) : LW T x M z := by
  obtain ⟨P, F, S, φ, al, L, h, f, h1, h2, h3, _⟩ := h
  exact ⟨P, F, S, φ, al, L, h, f, h1, h2, h3⟩
theorem LA.v {X : Cx} {y : MethodName} {cc : ByteArray} {nL fr lo mc ms : Nat} (hX : Ok X y cc nL fr lo mc ms) {x : Nat} {k c : Int32} {M : AH} {z : Nat} (h : LA (cxT X) x k c M z) : (∃ fs, M (x + 4) = some (.inr (2, fs))) ∧ Ct (cxl X) (cxT X) (cxD X) yX2_thrown cX2_thrown 1 (some .int) 0 0 0 0 [.ref (x + 4)] M z (fun v M'' z'' => v = some (.int k) ∧ M'' = M ∧ z = z'') ∧ (k = 0 → ∃ f, M (x + 13) = some (eL (cxT X) 1 f) ∧ f 0 = c.toInt64) := by
  obtain ⟨P, F, S, φ, al, L, h, f, rfl, h2, h3, rfl, h5⟩ := h
  refine ⟨⟨_, Wd_o h2⟩, ?_, fun h0 => ⟨f, Wd_out h2, h5 h0⟩⟩
  have hc := cr_thrown hX.st (T := cxT X) (D := cxD X) (N := Wd (cxT X) x P F S f) (o := x + 4) (S := S) z
  rw [Wd_R h2] at hc
  exact hc
