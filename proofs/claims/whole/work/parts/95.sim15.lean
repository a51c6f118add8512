/-- two new objects hold the same -/
theorem Inv.start (o : Nat) : Inv (iP o) (iF o) iR (fun _ => o + 2) (fun _ => 0) (fun g => g = 0) 0 := by
  have hq : pD (iP o) (o + 2) = true ∧ pL (iP o) (o + 2) = 1 ∧ pW (iP o) (o + 2) = 5 ∧ pS (iP o) (o + 2) = 0 ∧ pH (iP o) (o + 2) = none ∧ pB (iP o) (o + 2) = bx0 := ⟨va_up_self _ _ _, va_up_self _ _ _, va_up_self _ _ _, va_up_self _ _ _, va_up_self _ _ _, va_up_self _ _ _⟩
  have hM : ∀ g, rM iR g = 0 := fun g => rfl
  have hG : ∀ g, rG iR g = 0 := fun g => rfl
  have h1 : rC iR 1 = 0 := rfl
  have h2 : rC iR 2 = 0 := rfl
  have h3 : rC iR 3 = 1 := rfl
  have h4 : rC iR 4 = 0 := rfl
  have hD : ∀ g, rD iR g = 0 := fun g => rfl
  have hsum : sumE (fun g => rM iR g - 3) 400 = 0 := by
    have := sumE_le (g := fun g => rM iR g - 3) (m := 0) 400 (fun k _ => by show rM iR k - 3 ≤ 0; rw [hM]; omega)
    omega
  have hFF : FF (iF o) iR (fun _ => o + 2) (fun _ => 0) 0 0 := ⟨rfl, rfl, rfl, fun a ha => absurd ha (by omega), fun a q e => absurd e (by show ¬ (none : Option Nat) = some q; simp)⟩
  generalize iR = S at *
  generalize iP o = P at *
  generalize iF o = F at *
  refine ⟨⟨fun f hf => ⟨?_, fun k hk => absurd hk (by rw [hM]; omega), fun _ i hi => ?_⟩, fun a ha => absurd ha (by rw [h1]; omega), fun f g hf hg _ => hf.trans hg.symm, by rw [h1]; omega⟩, ⟨h4, hq.2.2.2.2.1, hG _, fun f hf e => absurd (hf.trans h4.symm) e⟩, by rw [h1, h4]; exact hFF, ⟨by rw [hsum, h1, h2]; exact Nat.le_refl 0, by rw [h3, h2]; exact Nat.le_refl 1, by omega, fun g _ => hM g, by rw [h1]; omega⟩, fun g hg => ⟨by rw [hM]; omega, fun e => absurd (hg.trans h4.symm) e⟩, fun e => by omega, fun a _ => hD a⟩
  · exact ⟨hq.1, by rw [hG]; exact hq.2.1, hq.2.2.1, by rw [hM]; exact hq.2.2.2.1, by rw [hM]; omega, by rw [h3, hf]; omega⟩
  · rw [hq.2.2.2.2.2, if_pos (hM f)]
