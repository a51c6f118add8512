/-! what the reference's split leaves, field by field -/
theorem ptR_k {S : RS} {f p x g k : Nat} (hk : k < 5) : rk (ptR S f p x) g k = if g = f then insG (rk S f) (rM S f) p x k else rk S g k := by
  show rK (blkR S f (insG (fun k => rK S (5 * f + k)) (rM S f) p x)) (5 * g + k) = _
  by_cases e : g = f
  · subst e; rw [if_pos rfl, blk_in hk]
  · rw [if_neg e, blk_out hk e]
theorem ptR_o (S : RS) (f p x : Nat) : rE (ptR S f p x) = rE S ∧ rD (ptR S f p x) = rD S ∧ rG (ptR S f p x) = rG S ∧ rC (ptR S f p x) = rC S := ⟨rfl, rfl, rfl, rfl⟩
theorem ptR_M {S : RS} {f p x g : Nat} : rM (ptR S f p x) g = if g = f then rM S f + 1 else rM S g := rfl
theorem bm_k (A : RS) (m v : Nat) (g : Nat → Nat) {x k : Nat} (hk : k < 5) : rk (uM (blkR A m g) m v) x k = if x = m then g k else rk A x k := by
  show rK (blkR A m g) (5 * x + k) = _
  by_cases e : x = m
  · subst e; rw [if_pos rfl, blk_in hk]
  · rw [if_neg e, blk_out hk e]
theorem bm_M (A : RS) (m v : Nat) (g : Nat → Nat) (x : Nat) : rM (uM (blkR A m g) m v) x = if x = m then v else rM A x := rfl
theorem bm_o (A : RS) (m v : Nat) (g : Nat → Nat) : rE (uM (blkR A m g) m v) = rE A ∧ rD (uM (blkR A m g) m v) = rD A ∧ rG (uM (blkR A m g) m v) = rG A ∧ rC (uM (blkR A m g) m v) = rC A := ⟨rfl, rfl, rfl, rfl⟩
theorem um_o (A : RS) (f v w : Nat) : rE (uC (uM A f v) 2 w) = rE A ∧ rD (uC (uM A f v) 2 w) = rD A ∧ rG (uC (uM A f v) 2 w) = rG A ∧ rK (uC (uM A f v) 2 w) = rK A ∧ (∀ g, rM (uC (uM A f v) 2 w) g = if g = f then v else rM A g) ∧ rC (uC (uM A f v) 2 w) 3 = rC A 3 ∧ rC (uC (uM A f v) 2 w) 2 = w ∧ rC (uC (uM A f v) 2 w) 4 = rC A 4 := ⟨rfl, rfl, rfl, rfl, fun _ => rfl, rfl, rfl, rfl⟩
theorem q3_o (S : RS) (f x v : Nat) (g : Nat → Nat) : rE (uG (uC (blkR S f g) 3 v) x (rG S f)) = rE S ∧ rD (uG (uC (blkR S f g) 3 v) x (rG S f)) = rD S ∧ (∀ y, rG (uG (uC (blkR S f g) 3 v) x (rG S f)) y = if y = x then rG S f else rG S y) ∧ rM (uG (uC (blkR S f g) 3 v) x (rG S f)) = rM S ∧ rC (uG (uC (blkR S f g) 3 v) x (rG S f)) 3 = v ∧ rC (uG (uC (blkR S f g) 3 v) x (rG S f)) 4 = rC S 4 ∧ (∀ y k, k < 5 → rk (uG (uC (blkR S f g) 3 v) x (rG S f)) y k = if y = f then g k else rk S y k) := by
  refine ⟨rfl, rfl, fun _ => rfl, rfl, rfl, rfl, fun y k hk => ?_⟩
  show rK (blkR S f g) (5 * y + k) = _
  by_cases e : y = f
  · subst e; rw [if_pos rfl, blk_in hk]
  · rw [if_neg e, blk_out hk e]
theorem spR_f {S : RS} {n f : Nat} (hf : f ≠ rC S 3) : rE (spR S n f) = rE S ∧ rD (spR S n f) = rD S ∧ (∀ g, rG (spR S n f) g = if g = rC S 3 then rG S f else rG S g) ∧ (∀ g, rM (spR S n f) g = if g = f then 3 else if g = rC S 3 then 2 else rM S g) ∧ (∀ k, k < 5 → rk (spR S n f) f k = sgR S n f k) ∧ (rk (spR S n f) (rC S 3) 0 = sgR S n f 3 ∧ rk (spR S n f) (rC S 3) 1 = sgR S n f 4) ∧ (∀ g k, k < 5 → g ≠ f → g ≠ rC S 3 → rk (spR S n f) g k = rk S g k) ∧ rC (spR S n f) 3 = rC S 3 + 1 ∧ rC (spR S n f) 2 = rC S 2 + 1 ∧ rC (spR S n f) 4 = rC S 4 := by
  obtain ⟨a1, a2, a3, a4, a5, a6, a7⟩ := q3_o S f (rC S 3) (rC S 3 + 1) (sgR S n f)
  unfold spR sq5 sq4 sq3
  generalize uG (uC (blkR S f (sgR S n f)) 3 (rC S 3 + 1)) (rC S 3) (rG S f) = A at *
  have b1 := bm_o A (rC S 3) (0 + 1) (insG (fun k => rK A (5 * rC S 3 + k)) 0 0 (sgR S n f 3))
  have b2 := bm_M A (rC S 3) (0 + 1) (insG (fun k => rK A (5 * rC S 3 + k)) 0 0 (sgR S n f 3))
  have b3 : ∀ x k, k < 5 → _ := fun x k hk => bm_k A (rC S 3) (0 + 1) (insG (fun k => rK A (5 * rC S 3 + k)) 0 0 (sgR S n f 3)) (x := x) (k := k) hk
  generalize uM (blkR A (rC S 3) (insG (fun k => rK A (5 * rC S 3 + k)) 0 0 (sgR S n f 3))) (rC S 3) (0 + 1) = B at *
  have c1 := bm_o B (rC S 3) (1 + 1) (insG (fun k => rK B (5 * rC S 3 + k)) 1 1 (sgR S n f 4))
  have c2 := bm_M B (rC S 3) (1 + 1) (insG (fun k => rK B (5 * rC S 3 + k)) 1 1 (sgR S n f 4))
  have c3 : ∀ x k, k < 5 → _ := fun x k hk => bm_k B (rC S 3) (1 + 1) (insG (fun k => rK B (5 * rC S 3 + k)) 1 1 (sgR S n f 4)) (x := x) (k := k) hk
  have hB0 : rk B (rC S 3) 0 = sgR S n f 3 := by rw [b3 _ 0 (by omega), if_pos rfl]; rfl
  have hI : insG (fun k => rK B (5 * rC S 3 + k)) 1 1 (sgR S n f 4) 0 = sgR S n f 3 ∧ insG (fun k => rK B (5 * rC S 3 + k)) 1 1 (sgR S n f 4) 1 = sgR S n f 4 := ⟨hB0, rfl⟩
  generalize insG (fun k => rK B (5 * rC S 3 + k)) 1 1 (sgR S n f 4) = I at *
  generalize uM (blkR B (rC S 3) I) (rC S 3) (1 + 1) = E at *
  obtain ⟨d1, d2, d3, d4, d5, d6, d7, d8⟩ := um_o E f 3 (rC S 2 + 1)
  generalize uC (uM E f 3) 2 (rC S 2 + 1) = G at *
  have hk5 : ∀ x k, k < 5 → rk G x k = rk E x k := fun x k _ => by unfold rk; rw [d4]
  refine ⟨by rw [d1, c1.1, b1.1, a1], by rw [d2, c1.2.1, b1.2.1, a2], fun g => by rw [d3, c1.2.2.1, b1.2.2.1, a3], fun g => ?_, fun k hk => ?_, ⟨?_, ?_⟩, fun g k hk h1 h2 => ?_, ?_, d7, ?_⟩
  · rw [d5, c2, b2, a4]
    by_cases e : g = f
    · rw [if_pos e, if_pos e]
    · rw [if_neg e, if_neg e]
      by_cases e2 : g = rC S 3
      · rw [if_pos e2, if_pos e2]
      · rw [if_neg e2, if_neg e2, if_neg e2]
  · rw [hk5 f k hk, c3 f k hk, if_neg hf, b3 f k hk, if_neg hf, a7 f k hk, if_pos rfl]
  · rw [hk5 _ 0 (by omega), c3 _ 0 (by omega), if_pos rfl]; exact hI.1
  · rw [hk5 _ 1 (by omega), c3 _ 1 (by omega), if_pos rfl]; exact hI.2
  · rw [hk5 g k hk, c3 g k hk, if_neg h2, b3 g k hk, if_neg h2, a7 g k hk, if_neg h1]
  · rw [d6, c1.2.2.2, b1.2.2.2, a5]
  · rw [d8, c1.2.2.2, b1.2.2.2, a6]
theorem sps_mid {S : RS} {n f p k0 : Nat} (hf : f ≠ rC S 3) (hp : p ≠ rC S 3) (hfp : f ≠ p) (hn : rG S f = n) : SpS S (ptR (spR S n f) p (k0 + 1) (rC S 3)) n f p k0 (rC S 3) (sgR S n f) := by
  obtain ⟨q1, q2, q3, q4, q5, ⟨q6, q6'⟩, q7, q8, _, _⟩ := spR_f (n := n) hf
  generalize spR S n f = A at *
  obtain ⟨o1, o2, o3, o4⟩ := ptR_o A p (k0 + 1) (rC S 3)
  refine ⟨by rw [o1, q1], by rw [o2, q2], fun g => ?_, fun g => ?_, fun k hk => ?_, ⟨?_, ?_⟩, fun k hk => ?_, fun g k hk h1 h2 h3 => ?_, ?_, ?_⟩
  · rw [o3, q3, hn]
  · rw [ptR_M, q4 p, q4 g, if_neg (show ¬ p = f from fun e => hfp e.symm), if_neg hp]
    by_cases e : g = p
    · rw [if_pos e, if_pos e]
    · rw [if_neg e, if_neg e]
      by_cases e2 : g = f
      · rw [if_pos e2, if_neg (by rw [e2]; exact hf), if_pos e2]
      · rw [if_neg e2]
        by_cases e3 : g = rC S 3
        · rw [if_pos e3, if_pos e3]
        · rw [if_neg e3, if_neg e3, if_neg e2]
  · rw [ptR_k (by omega), if_neg hfp, q5 k (by omega)]
  · rw [ptR_k (by omega), if_neg (fun e => hp e.symm), q6]
  · rw [ptR_k (by omega), if_neg (fun e => hp e.symm), q6']
  · rw [ptR_k hk, if_pos rfl, q4 p, if_neg (show ¬ p = f from fun e => hfp e.symm), if_neg hp]
    unfold insG
    by_cases c1 : k < k0 + 1
    · rw [if_pos c1, if_pos c1, q7 p k hk (fun e => hfp e.symm) hp]
    · rw [if_neg c1, if_neg c1]
      by_cases c2 : k = k0 + 1
      · rw [if_pos c2, if_pos c2]
      · rw [if_neg c2, if_neg c2, q7 p k hk (fun e => hfp e.symm) hp, q7 p (k - 1) (by omega) (fun e => hfp e.symm) hp]
  · rw [ptR_k hk, if_neg h3, q7 g k hk h1 h2]
  · rw [o4, q8]; omega
  · rw [o4, q8]; omega
/-- a new top u over t -/
def RaS (S Sa : RS) (u t : Nat) : Prop := rE Sa = rE S ∧ rD Sa = rD S ∧ (∀ g, rG Sa g = if g = u then rG S t + 1 else rG S g) ∧ (∀ g, rM Sa g = if g = u then 1 else rM S g) ∧ rk Sa u 0 = t ∧ (∀ g k, k < 5 → g ≠ u → rk Sa g k = rk S g k) ∧ u < rC Sa 3 ∧ rC S 3 ≤ rC Sa 3
def raR (S : RS) (u t : Nat) : RS := uC (uG (uM (uK S (5 * u) t) u 1) u (rG S t + 1)) 3 (rC S 3 + 2)
theorem ra_s {S : RS} {u t : Nat} (hu : u < rC S 3 + 2) : RaS S (raR S u t) u t := by
  refine ⟨rfl, rfl, fun g => rfl, fun g => rfl, va_up_self _ _ _, fun g k hk hg => va_up_ne _ _ (by omega), hu, by show rC S 3 ≤ rC S 3 + 2; omega⟩
theorem gt_o (A : RS) : rE (gtR A) = rE A ∧ rD (gtR A) = rD A ∧ (∀ g, rG (gtR A) g = if g = rC A 3 then rG A (rC A 4) + 1 else rG A g) ∧ (∀ g, rM (gtR A) g = if g = rC A 3 then 1 else rM A g) ∧ (∀ g k, k < 5 → rk (gtR A) g k = if g = rC A 3 then insG (rk A (rC A 3)) 0 0 (rC A 4) k else rk A g k) ∧ rC (gtR A) 3 = rC A 3 + 1 ∧ rC (gtR A) 4 = rC A 3 ∧ rC (gtR A) 2 = rC A 2 := by
  refine ⟨rfl, rfl, fun g => rfl, fun g => rfl, fun g k hk => ?_, rfl, rfl, rfl⟩
  show rK (blkR (uG (uC A 3 (rC A 3 + 1)) (rC A 3) (rG A (rC A 4) + 1)) (rC A 3) (insG (fun k => rK A (5 * rC A 3 + k)) 0 0 (rC A 4))) (5 * g + k) = _
  by_cases e : g = rC A 3
  · subst e; rw [if_pos rfl, blk_in hk]
  · rw [if_neg e, blk_out hk e]; rfl
theorem sps_top {S : RS} {t h : Nat} (ht : t ≠ rC S 3) (ht2 : t ≠ rC S 3 + 1) (h4 : rC S 4 = t) (hn : rG S t = h) (h0 : rM S (rC S 3 + 1) = 0) : SpS (raR S (rC S 3 + 1) t) (ptR (gtR (spR S h t)) (rC (gtR (spR S h t)) 4) 1 (rC S 3)) h t (rC S 3 + 1) 0 (rC S 3) (sgR S h t) ∧ rC (gtR (spR S h t)) 4 = rC S 3 + 1 ∧ rG (gtR (spR S h t)) (rC S 3 + 1) = h + 1 := by
  obtain ⟨q1, q2, q3, q4, q5, ⟨q6, q6'⟩, q7, q8, q9, q10⟩ := spR_f (n := h) ht
  generalize spR S h t = A at *
  obtain ⟨g1, g2, hG, hM, hK, hG3, eu, _⟩ := gt_o A
  have hgt : rG A (rC A 4) = h := by rw [q10, h4, q3, if_neg ht, hn]
  rw [q8] at hG hM hK hG3 eu
  rw [hgt] at hG
  rw [q10, h4] at hK
  rw [show rC S 3 + 1 + 1 = rC S 3 + 2 from rfl] at hG3
  generalize gtR A = B at *
  obtain ⟨o1, o2, o3, o4⟩ := ptR_o B (rC S 3 + 1) 1 (rC S 3)
  obtain ⟨r1, r2, r3, r4, r5, r6, r7, r8⟩ := ra_s (S := S) (u := rC S 3 + 1) (t := t) (by omega)
  have r9 : rC (raR S (rC S 3 + 1) t) 3 = rC S 3 + 2 := rfl
  have rn : ∀ j, j < 5 → j ≠ 0 → rk (raR S (rC S 3 + 1) t) (rC S 3 + 1) j = rk S (rC S 3 + 1) j := fun j h1 h2 => va_up_ne _ _ (by omega)
  generalize raR S (rC S 3 + 1) t = R at *
  rw [eu]
  refine ⟨⟨by rw [o1, g1, q1, r1], by rw [o2, g2, q2, r2], fun g => ?_, fun g => ?_, fun k hk => ?_, ⟨?_, ?_⟩, fun k hk => ?_, fun g k hk h1 h2 h3 => ?_, ?_, ?_⟩, rfl, by rw [hG, if_pos rfl]⟩
  · rw [o3, hG, q3, hn, r3, hn]
    by_cases e : g = rC S 3 + 1
    · rw [if_pos e, if_neg (by omega), if_pos e]
    · rw [if_neg e, if_neg e]
  · rw [ptR_M, hM (rC S 3 + 1), hM g, if_pos rfl, q4, r4 (rC S 3 + 1), if_pos rfl, r4 g]
    by_cases e : g = rC S 3 + 1
    · rw [if_pos e, if_pos e]
    · rw [if_neg e, if_neg e, if_neg e, if_neg e]
      by_cases e2 : g = t
      · rw [if_pos e2, if_neg (by rw [e2]; exact ht), if_pos e2]
      · rw [if_neg e2]
        by_cases e3 : g = rC S 3
        · rw [if_pos e3, if_pos e3]
        · rw [if_neg e3, if_neg e3, if_neg e2]
  · rw [ptR_k (by omega), if_neg ht2, hK t k (by omega), if_neg ht2, q5 k (by omega)]
  · rw [ptR_k (by omega), if_neg (by omega), hK _ 0 (by omega), if_neg (by omega), q6]
  · rw [ptR_k (by omega), if_neg (by omega), hK _ 1 (by omega), if_neg (by omega), q6']
  · rw [ptR_k hk, if_pos rfl, hM, if_pos rfl]
    rw [r4, if_pos rfl]
    have r0 : rk R (rC S 3 + 1) 0 = t := r5
    unfold insG
    by_cases c1 : k < 1
    · rw [if_pos c1, if_pos c1, show k = 0 by omega, hK _ 0 (by omega), if_pos rfl, r0]; rfl
    · rw [if_neg c1, if_neg c1]
      by_cases c2 : k = 1
      · rw [if_pos c2, if_pos c2]
      · rw [if_neg c2, if_neg c2, if_neg (by omega), if_neg (by omega), hK _ k hk, if_pos rfl, rn k hk (by omega)]
        unfold insG
        rw [if_neg (by omega), if_neg (by omega), if_neg (by omega), q7 _ k hk (fun e => ht2 e.symm) (by omega)]
  · rw [ptR_k hk, if_neg h3, hK g k hk, if_neg h3, q7 g k hk h1 h2]
    rw [r6 g k hk h3]
  · rw [o4, hG3]; omega
  · rw [o4, hG3, r9]; omega
section
variable {P : PS} {F : FS} {z : Nat}
theorem rsP_D (x : Nat) : pD (rsP P F z) x = if x = z then true else pD P x := rfl
theorem rsP_N (x : Nat) : pN (rsP P F z) x = if x = z then -1 else pN P x := rfl
theorem rsP_L (x : Nat) : pL (rsP P F z) x = if x = z then pL P (fT F) + 1 else pL P x := rfl
theorem rsP_W (x : Nat) : pW (rsP P F z) x = if x = z then 5 else pW P x := rfl
theorem rsP_B (x : Nat) : pB (rsP P F z) x = if x = z then bx0 else pB P x := rfl
theorem rsP_S (x : Nat) : pS (rsP P F z) x = if x = z then 1 else pS P x := by
  show va_up (va_up (pS P) z 0) z (0 + 1) x = _
  unfold va_up
  by_cases e : x = z
  · rw [if_pos e, if_pos e]
  · rw [if_neg e, if_neg e, if_neg e]
theorem rsP_A (x : Nat) : pA (rsP P F z) x = if x = z then insF (fun _ => none) 0 0 (fT F) else pA P x := by
  show va_up (va_up (pA P) z (fun _ => none)) z (insF (fun _ => none) 0 0 (fT F)) x = _
  unfold va_up
  by_cases e : x = z
  · rw [if_pos e, if_pos e]
  · rw [if_neg e, if_neg e, if_neg e]
theorem rsP_H (x : Nat) : pH (rsP P F z) x = if x = fT F then some z else if x = z then none else pH P x := rfl
end
theorem Sm.rai {P : PS} {F : FS} {S Sa : RS} {φ al : Nat → Nat} {c t h u z : Nat} {L X X' : Nat → Prop} (hs : Sm P S φ al c L X) (ht : Tp P S φ L t h) (hu : ¬ L u) (hF : fT F = φ t) (hz : ∀ x, pD P x = true → x + 1 < z) (ra : RaS S Sa u t) (hX : ∀ g, L g → X g → X' g) (hXu : X' u) : Sm (rsP P F z) Sa (va_up φ u z) al c (fun g => L g ∨ g = u) X' ∧ Tp (rsP P F z) Sa (va_up φ u z) (fun g => L g ∨ g = u) u (h + 1) := by
  have hzz : ∀ x, pD P x = true → x ≠ z := fun x hx e => by have := hz x hx; omega
  have hφz : ∀ g, L g → φ g ≠ z := fun g hg => hzz _ (hs.lv hg).1
  have hkz : ∀ j x, OkK S c L j x → kaF φ al j x ≠ z := fun j x hx => hzz _ (hs.kaD hx)
  have gu : ∀ g, L g → g ≠ u := fun g hg e => hu (e ▸ hg)
  have hφ : ∀ g, L g → va_up φ u z g = φ g := fun g hg => va_up_ne _ _ (gu g hg)
  have hφu : va_up φ u z u = z := va_up_self _ _ _
  obtain ⟨s1, s2, s3, s4, s5, s6, s7, s8⟩ := ra
  have hok : ∀ j x, OkK S c L j x → OkK Sa c (fun g => L g ∨ g = u) j x ∧ kaF (va_up φ u z) al j x = kaF φ al j x := by
    intro j x hx
    cases j with
    | zero => exact ⟨⟨hx.1, by rw [s2]; exact hx.2⟩, rfl⟩
    | succ j => exact ⟨⟨Or.inl hx.1, by rw [s3, if_neg (gu x hx.1)]; exact hx.2⟩, hφ x hx.1⟩
  have hH : ∀ x, x ≠ z → pH P x ≠ none → pH (rsP P F z) x = pH P x := by
    intro x hx h1
    rw [rsP_H, if_neg, if_neg hx]
    intro e
    rw [e, hF, ht.2.1] at h1
    exact h1 rfl
  constructor
  · refine ⟨fun g hg => ⟨?_, ?_, fun hx => ?_⟩, fun a ha => ?_, ?_, hs.c60⟩
    · rcases hg with hg | rfl
      · have h1 := hs.lv hg
        unfold LvF
        rw [hφ g hg, rsP_D, rsP_L, rsP_W, rsP_S, if_neg (hφz g hg), if_neg (hφz g hg), if_neg (hφz g hg), if_neg (hφz g hg), s3, if_neg (gu g hg), s4, if_neg (gu g hg)]
        exact ⟨h1.1, h1.2.1, h1.2.2.1, h1.2.2.2.1, h1.2.2.2.2.1, by have := h1.2.2.2.2.2; omega⟩
      · unfold LvF
        rw [hφu, rsP_D, rsP_L, rsP_W, rsP_S, if_pos rfl, if_pos rfl, if_pos rfl, if_pos rfl, s3, if_pos rfl, s4, if_pos rfl, hF, (hs.lv ht.1).2.1]
        exact ⟨rfl, rfl, rfl, rfl, by omega, s7⟩
    · rcases hg with hg | rfl
      · intro k hk
        rw [s4, if_neg (gu g hg)] at hk
        have h0 := hs.lv hg
        have h1 := hs.kx hg k hk
        obtain ⟨o1, o2⟩ := hok _ _ h1.1
        rw [hφ g hg, rsP_A, if_neg (hφz g hg), s3, if_neg (gu g hg), s6 g k (by have := h0.2.2.2.2.1; omega) (gu g hg), o2]
        refine ⟨o1, h1.2.1, ?_, fun j hj => ?_⟩
        · rw [hH _ (hkz _ _ h1.1) (by rw [h1.2.2.1]; simp)]; exact h1.2.2.1
        · rw [s6 g j (by have := h0.2.2.2.2.1; omega) (gu g hg)]; exact h1.2.2.2 j hj
      · intro k hk
        rw [s4, if_pos rfl] at hk
        obtain rfl : k = 0 := by omega
        rw [hφu, rsP_A, if_pos rfl, s3, if_pos rfl, s5]
        have e : kaF (va_up φ g z) al (rG S t + 1) t = φ t := hφ t ht.1
        rw [e]
        refine ⟨⟨Or.inl ht.1, by rw [s3, if_neg (gu t ht.1)]⟩, ?_, ?_, fun j hj => absurd hj (by omega)⟩
        · rw [← hF]; rfl
        · rw [rsP_H, hF, if_pos rfl]
    · rcases hg with hg | rfl
      · intro i hi
        have h0 := hs.lv hg
        rw [hφ g hg, rsP_B, if_neg (hφz g hg), hs.bx hg (fun e => hx (hX g hg e)) i hi, s4, if_neg (gu g hg)]
        by_cases z0 : rM S g = 0
        · rw [if_pos z0, if_pos z0]
        · rw [if_neg z0, if_neg z0]
          unfold hulK
          rw [s4, if_neg (gu g hg), s3, if_neg (gu g hg)]
          refine hulL_cg _ (fun k hk j hj => ?_) i hi
          have h1 := hs.kx hg k (by omega)
          rw [s6 g k (by have := h0.2.2.2.2.1; omega) (gu g hg), (hok _ _ h1.1).2, rsP_B, if_neg (hkz _ _ h1.1)]
      · exact absurd hXu hx
    · have h1 := hs.am ha
      have haz : al a ≠ z := hzz _ h1.1
      unfold AlF
      rw [rsP_D, rsP_N, rsP_L, rsP_B, if_neg haz, if_neg haz, if_neg haz, if_neg haz, s1, s2]
      refine ⟨h1.1, h1.2.1, h1.2.2.1, h1.2.2.2.1, h1.2.2.2.2.1, ?_⟩
      rcases h1.2.2.2.2.2 with h2 | h2
      · refine Or.inl ⟨h2.1, ?_⟩
        rw [rsP_H, if_neg (by rw [hF]; exact fun e => hs.ne ht.1 ha e.symm), if_neg haz]; exact h2.2
      · obtain ⟨d1, g, k, hg, hg0, hk, hx⟩ := h2
        refine Or.inr ⟨d1, g, k, Or.inl hg, by rw [s3, if_neg (gu g hg)]; exact hg0, by rw [s4, if_neg (gu g hg)]; exact hk, by rw [s6 g k (by have := (hs.lv hg).2.2.2.2.1; omega) (gu g hg)]; exact hx⟩
    · intro a b ha hb e
      rcases ha with ha | rfl
      · rcases hb with hb | rfl
        · rw [hφ a ha, hφ b hb] at e; exact hs.inj ha hb e
        · rw [hφ a ha, hφu] at e; exact absurd e (hφz a ha)
      · rcases hb with hb | rfl
        · rw [hφ b hb, hφu] at e; exact absurd e.symm (hφz b hb)
        · rfl
  · refine ⟨Or.inr rfl, ?_, by rw [s3, if_pos rfl, ht.2.2.1], fun g hg hgu => ?_⟩
    · rw [hφu, rsP_H, if_neg (by rw [hF]; exact fun e => hφz t ht.1 e.symm), if_pos rfl]
    · rcases hg with hg | rfl
      · rw [s3, if_neg (gu g hg)]
        refine ⟨by have := ht.le hg; omega, ?_⟩
        by_cases e : g = t
        · subst e
          exact ⟨u, 0, Or.inr rfl, by rw [s3, if_pos rfl], by rw [s4, if_pos rfl]; omega, s5⟩
        · obtain ⟨_, g1, k1, v1, v2, v3, v4⟩ := ht.2.2.2 g hg e
          exact ⟨g1, k1, Or.inl v1, by rw [s3, if_neg (gu g1 v1)]; exact v2, by rw [s4, if_neg (gu g1 v1)]; exact v3, by rw [s6 g1 k1 (by have := (hs.lv v1).2.2.2.2.1; omega) (gu g1 v1)]; exact v4⟩
      · exact absurd rfl hgu
theorem PmG.cg {g g2 g' : Nat → Nat} {s : Nat} (h : PmG g g' s) (e : ∀ k, k < s → g2 k = g k) : PmG g2 g' s := by
  refine ⟨fun k hk => ?_, fun j hj => ?_, fun hi => h.2.2 (fun a b ha hb hab => ?_)⟩
  · obtain ⟨j, hj, q⟩ := h.1 k hk; exact ⟨j, hj, by rw [e j hj]; exact q⟩
  · obtain ⟨k, hk, q⟩ := h.2.1 j hj; exact ⟨k, hk, by rw [e j hj]; exact q⟩
  · rw [← e a ha, ← e b hb]; exact hi a b ha hb hab
/-- sums under one change -/
theorem sumE_c {f g : Nat → Nat} : ∀ n, (∀ k, k < n → f k = g k) → sumE f n = sumE g n := by
  intro n
  induction n with
  | zero => intro _; rfl
  | succ n ih => intro h; show sumE f n + f n = sumE g n + g n; rw [ih (fun k hk => h k (by omega)), h n (by omega)]
theorem sumE_up {f g : Nat → Nat} {p : Nat} (hfg : ∀ k, k ≠ p → f k = g k) : ∀ n, p < n → sumE f n + g p = sumE g n + f p := by
  intro n
  induction n with
  | zero => intro h; omega
  | succ n ih =>
    intro h
    show sumE f n + f n + g p = sumE g n + g n + f p
    by_cases e : p = n
    · subst e
      rw [sumE_c p (fun k hk => hfg k (by omega))]
      omega
    · have h1 := ih (by omega)
      rw [hfg n (fun x => e x.symm)]
      omega
