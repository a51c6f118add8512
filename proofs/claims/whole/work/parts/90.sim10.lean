theorem Sm.u1 {P : PS} {S : RS} {φ al : Nat → Nat} {c v : Nat} {L X : Nat → Prop} (hs : Sm P S φ al c L X) : Sm P (uC S 1 v) φ al c L X := ⟨fun f hf => ⟨hs.lv hf, hs.kx hf, hs.bx hf⟩, fun a ha => hs.am ha, hs.2.2⟩
theorem Inv.mk1 {P : PS} {F : FS} {S : RS} {φ al : Nat → Nat} {c h : Nat} {L : Nat → Prop} (hs : Sm P S φ al c L (fun _ => False)) (ht : Tp P S φ L (rC S 4) h) (hF : FF F S φ al c (rC S 4)) (hb : Bd S c h) (h4 : ∀ g, L g → rM S g ≤ 4 ∧ (g ≠ rC S 4 → 0 < rM S g)) (h2 : 0 < h → 2 ≤ rM S (rC S 4)) (hd : ∀ a, c ≤ a → rD S a = 0) : Inv P F (uC S 1 c) φ al L h := ⟨hs.u1, ht, hF, hb, h4, h2, hd⟩
theorem WfF.spl {P : PS} {F F' : FS} {q ab k0 z : Nat} (hw : WfF P F) (hz : ∀ x, pD P x = true → x + 1 < z) (ho : fO F + 1 < z) (hF : fO F' = fO F) : WfF (spP P q ab k0 z) F' := WfF.of (hw.nw hz ho (-1) 0 bx0 5) rfl hF
theorem WfF.rai {P : PS} {F : FS} {z : Nat} (hw : WfF P F) (hz : ∀ x, pD P x = true → x + 1 < z) (ho : fO F + 1 < z) : WfF (rsP P F z) F := WfF.of (hw.nw hz ho (-1) 0 bx0 5) rfl rfl
theorem FF.top {F : FS} {S S' : RS} {φ φ' al : Nat → Nat} {c t z u : Nat} (h : FF F S φ al c t) (e2 : rC S' 2 = rC S 2 + 1) (hu : φ' u = z) : FF (sSp (sT F z) (fS F + 1)) S' φ' al c u := by
  obtain ⟨f1, f2, f3, f4, f5⟩ := h
  exact ⟨f1, by rw [e2, ← f2]; rfl, hu.symm, f4, f5⟩
section
variable {P : PS} {F : FS} {S S' : RS} {φ al : Nat → Nat} {c : Nat} {L : Nat → Prop} {fr ps pl sg : Nat → Nat} {h k e z : Nat}
theorem CIg.end0 (hc : CIg P F S φ al c L fr ps pl h 0 0 z) (h4 : rM S (fr 0) ≤ 4) : pH P (φ (fr 0)) = none ∧ Inv (tigP P (φ (fr 0))) F (uC S 1 c) φ al L h := by
  obtain ⟨c1, c2, c3, ⟨w0, w1, w2⟩, c5, ⟨b1, b2, b3, b4, b5⟩, d, c8, c9, c10, c11⟩ := hc
  have hH : pH P (φ (fr 0)) = none := by rw [w0]; exact c2.2.1
  refine ⟨hH, Inv.mk1 (c1.tig (w1 0 (Nat.le_refl 0)).1 (fun g hg => ?_) (fun g hg e => ?_)) (c2.tig _) c3 ⟨b1, b2, b3, b5, c1.c60⟩ (fun g hg => ⟨?_, fun _ => c5.2 g hg⟩) c10 c9⟩
  · obtain ⟨i, hi, e⟩ := hg
    exact Or.inr (by rw [e, show i = 0 by omega])
  · rw [hH] at e; exact absurd e (by simp)
  · by_cases e : g = fr 0
    · rw [e]; exact h4
    · exact c5.1 g hg e
/-- after the split of the top -/
theorem CIg.top (hc : CIg P F S φ al c L fr ps pl h 0 0 z) (h5 : rM S (fr 0) = 5) (sp : SpS (raR S (rC S 3 + 1) (fr 0)) S' h (fr 0) (rC S 3 + 1) 0 (rC S 3) (sgR S h (fr 0))) (e2 : rC S' 2 = rC S 2 + 1) (e3 : rC S' 3 = rC S 3 + 2) (e4 : rC S' 4 = rC S 3 + 1) : pH P (φ (fr 0)) = none ∧ SpC pl P F (φ (fr 0)) ∧ (∃ φ' L', Inv (tigP (tigP (spP (rsP P F z) (φ (fr 0)) z 0 (z + 1 + 1)) (φ (fr 0))) z) (sSp (sT F z) (fS F + 1)) (uC S' 1 c) φ' al L' (h + 1)) ∧ WfF (spP (rsP P F z) (φ (fr 0)) z 0 (z + 1 + 1)) (sSp (sT F z) (fS F + 1)) ∧ TigI (spP (rsP P F z) (φ (fr 0)) z 0 (z + 1 + 1)) (φ (fr 0)) ∧ pH (spP (rsP P F z) (φ (fr 0)) z 0 (z + 1 + 1)) (φ (fr 0)) = some z ∧ (pD (tigP (spP (rsP P F z) (φ (fr 0)) z 0 (z + 1 + 1)) (φ (fr 0))) z = true ∧ pS (tigP (spP (rsP P F z) (φ (fr 0)) z 0 (z + 1 + 1)) (φ (fr 0))) z = 2 ∧ TigI (tigP (spP (rsP P F z) (φ (fr 0)) z 0 (z + 1 + 1)) (φ (fr 0))) z ∧ pH (tigP (spP (rsP P F z) (φ (fr 0)) z 0 (z + 1 + 1)) (φ (fr 0))) z = none) := by
  have hm121 := hc.m
  have hnm := fun g hg => hc.nm (g := g) hg
  have hsrt := hc.kids h5
  obtain ⟨c1, c2, c3, ⟨w0, w1, w2⟩, c5, ⟨b1, b2, b3, b4, b5⟩, ⟨d1, d2, d3⟩, c8, c9, c10, c11⟩ := hc
  have hH : pH P (φ (fr 0)) = none := by rw [w0]; exact c2.2.1
  have hT : fT F = φ (fr 0) := by rw [w0]; exact c3.2.2.1
  have hf := w1 0 (Nat.le_refl 0)
  have hg0 : rG S (fr 0) = h := by omega
  rw [hg0] at hsrt
  rw [← w0] at c2
  generalize ht : fr 0 = t at *
  have hml := hnm t hf.1
  have hmL : ¬ L (rC S 3) := fun e => by have := hnm _ e; omega
  have huL : ¬ L (rC S 3 + 1) := fun e => by have := hnm _ e; omega
  have ra := ra_s (S := S) (u := rC S 3 + 1) (t := t) (by omega)
  obtain ⟨R1, R2⟩ := c1.rai (X' := fun g => g = t ∨ g = rC S 3 + 1) c2 huL hT d1 ra (fun g hg hx => by
    obtain ⟨i, hi, e⟩ := hx
    rw [show i = 0 by omega, ht] at e
    exact Or.inl e) (Or.inr rfl)
  have ht1 : va_up φ (rC S 3 + 1) z t = φ t := va_up_ne _ _ (by omega)
  have hu1 : va_up φ (rC S 3 + 1) z (rC S 3 + 1) = z := va_up_self _ _ _
  have hzz : ∀ x, pD P x = true → x ≠ z := fun x hx e => by have := d1 x hx; omega
  have hk1 : ∀ x, OkK S c L h x → kaF (va_up φ (rC S 3 + 1) z) al h x = kaF φ al h x := by
    intro x hx
    cases h with
    | zero => rfl
    | succ n => exact va_up_ne _ _ (fun e => huL (e ▸ hx.1))
  have hsgk : ∀ j, j < 5 → OkK S c L h (sgR S h t j) := by
    intro j hj
    obtain ⟨i, hi, e⟩ := hsrt.2.1 j hj
    have := (c1.kx hf.1 i (by omega)).1
    rw [hg0] at this
    rw [e]; exact this
  have hz1 : ∀ x, pD (rsP P F z) x = true → x + 1 < z + 1 + 1 := by
    intro x hx
    rw [rsP_D] at hx
    by_cases e5 : x = z
    · omega
    · rw [if_neg e5] at hx
      have := d1 x hx
      omega
  have hsr1 : ∀ j, j < 5 → srP (rsP P F z) (va_up φ (rC S 3 + 1) z t) j = some (kaF (va_up φ (rC S 3 + 1) z) al h (sgR S h t j)) := by
    intro j hj
    rw [ht1, hk1 _ (hsgk j hj)]
    have hl := c1.lv hf.1
    have h1 := sort_eq (P := rsP P F z) (S := S) (q := φ t) (n := h) (f := t) (ρ := kaF φ al h) (by rw [rsP_S, if_neg (hzz _ hl.1)]; exact hl.2.2.2.1) (by omega) (fun j hj => by
      have := (c1.kx hf.1 j hj).2.1
      rw [hg0] at this
      rw [rsP_A, if_neg (hzz _ hl.1)]; exact this) (fun j hj i hi => by
      have hx := (c1.kx hf.1 j hj).1
      rw [hg0] at hx
      rw [rsP_B, if_neg (hzz _ (c1.kaD hx))]
      exact c1.ed h (fun g hg hl => ⟨fun hx => by
        obtain ⟨i, hi, e⟩ := hx
        rw [show i = 0 by omega, ht] at e
        rw [e, hg0] at hl
        omega, c5.2 g hg⟩) _ hx i (by omega))
    exact h1.1 j (by omega)
  have r4 := ra.2.2.2.1
  have r3 := ra.2.2.1
  have r6 := ra.2.2.2.2.2.1
  generalize raR S (rC S 3 + 1) t = Ra at *
  have hMt : rM Ra t = 5 := by rw [r4, if_neg (by omega)]; exact h5
  have hMu : rM Ra (rC S 3 + 1) = 1 := by rw [r4, if_pos rfl]
  have hGt : rG Ra t = h := by rw [r3, if_neg (by omega)]; exact hg0
  have hGu : rG Ra (rC S 3 + 1) = h + 1 := by rw [r3, if_pos rfl, hg0]
  have hpm1 : PmG (rk Ra t) (sgR S h t) 5 := hsrt.2.cg (fun j hj => r6 t j hj (by omega))
  have hmL1 : ¬ (L (rC S 3) ∨ rC S 3 = rC S 3 + 1) := fun e => by rcases e with e | e; exact hmL e; omega
  have Q1 := R1.spl (Or.inl hf.1) (Or.inr rfl) hmL1 hMt (by omega) (by omega) ra.2.2.2.2.1 hGt hGu (Or.inl rfl) (Or.inr rfl) hz1 hsr1 hpm1 sp
  have Q2 := Tp.spl R1 R2 (Or.inl hf.1) (Or.inr rfl) hmL1 hMt (by omega) (by omega) hGt hGu hz1 hsr1 hpm1 sp
  rw [ht1, hu1] at Q1 Q2
  obtain ⟨s1, s2, s3, s4, s5, s6, s7, s8, s9, s10⟩ := sp
  have hφ2t : va_up (va_up φ (rC S 3 + 1) z) (rC S 3) (z + 1 + 1) t = φ t := by rw [va_up_ne _ _ (by omega), ht1]
  have hφ2u : va_up (va_up φ (rC S 3 + 1) z) (rC S 3) (z + 1 + 1) (rC S 3 + 1) = z := by rw [va_up_ne _ _ (by omega), hu1]
  have hMu' : rM S' (rC S 3 + 1) = 2 := by rw [s4, if_pos rfl, hMu]
  have hkt := Q1.kx (f := rC S 3 + 1) (Or.inl (Or.inr rfl)) 0 (by omega)
  have hr0 : rk S' (rC S 3 + 1) 0 = t := by
    rw [s7 0 (by omega)]; unfold insG; rw [if_pos (by omega)]; exact ra.2.2.2.2.1
  have hGu' : rG S' (rC S 3 + 1) = h + 1 := by rw [s3, if_neg (by omega)]; exact hGu
  rw [hr0, hGu', hφ2u, show kaF (va_up (va_up φ (rC S 3 + 1) z) (rC S 3) (z + 1 + 1)) al (h + 1) t = φ t from hφ2t] at hkt
  have hHt := hkt.2.2.1
  have Q3 := Q1.tig (X' := fun g => g = rC S 3 + 1) (f := t) (Or.inl (Or.inl hf.1)) (fun g hg => by
    rcases hg with e | e
    · exact Or.inr e
    · exact Or.inl e) (fun g hg e => by
    rw [hφ2t, hHt] at e
    exact Q1.inj hg (Or.inl (Or.inr rfl)) (by rw [hφ2u]; exact (Option.some.inj e).symm))
  rw [hφ2t] at Q3
  have Q4 := Q2.tig (φ t)
  have hHu : pH (tigP (spP (rsP P F z) (φ t) z 0 (z + 1 + 1)) (φ t)) z = none := by
    have := Q4.2.1
    rw [hφ2u] at this
    exact this
  have Q5 := Q3.tig (X' := fun _ => False) (f := rC S 3 + 1) (Or.inl (Or.inr rfl)) (fun g hg => Or.inr hg) (fun g hg e => by
    rw [hφ2u, hHu] at e
    exact absurd e (by simp))
  rw [hφ2u] at Q5
  have Q6 := Q4.tig z
  have T1 := Q1.tigI (g := t) (Or.inl (Or.inl hf.1))
  rw [hφ2t] at T1
  have T2 := Q3.tigI (g := rC S 3 + 1) (Or.inl (Or.inr rfl))
  rw [hφ2u] at T2
  have hlu := Q3.lv (f := rC S 3 + 1) (Or.inl (Or.inr rfl))
  unfold LvF at hlu
  rw [hφ2u] at hlu
  have hW : WfF (spP (rsP P F z) (φ t) z 0 (z + 1 + 1)) (sSp (sT F z) (fS F + 1)) := by
    exact (d2.rai d1 d3).spl hz1 (by omega) rfl
  refine ⟨hH, ?_, ⟨_, _, Inv.mk1 Q5 (by rw [e4]; exact Q6) ?_ ⟨?_, ?_, ?_, fun g hg => ?_, c1.c60⟩ (fun g hg => ?_) (fun _ => ?_) (fun a ha => ?_)⟩, hW, T1, hHt, hlu.1, by rw [hlu.2.2.2.1, hMu'], T2, hHu⟩
  · refine c1.spC hf.1 (fun _ _ => hT.symm) (fun _ ab e => ?_)
    rw [hH] at e; exact absurd e (by simp)
  · rw [e4]; exact c3.top e2 hφ2u
  · have u1 := sumE_up (f := fun g => if g = t then 0 else rM S g - 3) (g := fun g => rM S g - 3) (p := t) (fun j hj => if_neg hj) 400 (by omega)
    have u4 : sumE (fun g => rM S' g - 3) 400 = sumE (fun g => if g = t then 0 else rM S g - 3) 400 := by
      refine sumE_c 400 (fun g hg => ?_)
      show rM S' g - 3 = _
      rw [s4, hMu, r4]
      by_cases q1 : g = rC S 3 + 1
      · rw [if_pos q1, if_neg (by omega), b5 g (by omega)]
      · rw [if_neg q1, if_neg q1]
        by_cases q2 : g = rC S 3
        · rw [if_pos q2, if_neg (by omega), b5 g (by omega)]
        · rw [if_neg q2]
          by_cases q3 : g = t
          · rw [if_pos q3, if_pos q3]
          · rw [if_neg q3, if_neg q3]
    simp only [if_pos, h5] at u1
    rw [u4, e2]
    omega
  · rw [e3, e2]; omega
  · have q1 : (h + 1) * (h + 1 + 1) = h * (h + 1) + 2 * (h + 1) := by
      rw [show h + 1 + 1 = h + 2 from rfl, Nat.mul_add, Nat.mul_comm (h + 1) h, Nat.mul_comm (h + 1) 2]
    have := b4 (by omega)
    rw [q1, e2]
    omega
  · rw [e3] at hg
    rw [s4, if_neg (by omega), if_neg (by omega), if_neg (by omega), r4, if_neg (by omega)]
    exact b5 g (by omega)
  · rw [s4, hMu]
    by_cases q1 : g = rC S 3 + 1
    · rw [if_pos q1]; omega
    · rw [if_neg q1]
      by_cases q2 : g = rC S 3
      · rw [if_pos q2]; omega
      · rw [if_neg q2]
        by_cases q3 : g = t
        · rw [if_pos q3]; omega
        · rw [if_neg q3, r4, if_neg q1]
          rcases hg with (hg | hg) | hg
          · exact ⟨c5.1 g hg q3, fun _ => c5.2 g hg⟩
          · exact absurd hg q1
          · exact absurd hg q2
  · rw [e4, hMu']; omega
  · rw [s2, ra.2.1]; exact c9 a ha
end
