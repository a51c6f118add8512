/-! coming: up the way, splitting and tightening -/
def CIg (P : PS) (F : FS) (S : RS) (φ al : Nat → Nat) (c : Nat) (L : Nat → Prop) (fr ps pl : Nat → Nat) (h k e z : Nat) : Prop := Sm P S φ al c L (fun g => ∃ i, i ≤ k ∧ g = fr i) ∧ Tp P S φ L (rC S 4) h ∧ FF F S φ al c (rC S 4) ∧ Way S L (rC S 4) h fr ps k ∧ ((∀ g, L g → g ≠ fr e → rM S g ≤ 4) ∧ ∀ g, L g → 0 < rM S g) ∧ (sumE (fun g => rM S g - 3) 400 + rC S 2 ≤ c ∧ rC S 3 ≤ 1 + 2 * rC S 2 ∧ h * (h + 1) ≤ 2 * rC S 2 ∧ (4 < rM S (fr e) → h * (h + 1) + 2 * (h - e) ≤ 2 * rC S 2) ∧ ∀ g, rC S 3 ≤ g → rM S g = 0) ∧ ((∀ x, pD P x = true → x + 1 < z) ∧ WfF P F ∧ fO F + 1 < z) ∧ (∀ i, i < k → pl (φ (fr (i + 1))) = ps i) ∧ (∀ a, c ≤ a → rD S a = 0) ∧ (0 < h → 2 ≤ rM S (rC S 4)) ∧ k ≤ h
section
variable {P : PS} {F : FS} {S S' : RS} {φ al : Nat → Nat} {c : Nat} {L : Nat → Prop} {fr ps pl sg : Nat → Nat} {h k e z : Nat}
theorem CIg.m (hc : CIg P F S φ al c L fr ps pl h k e z) : rC S 3 ≤ 121 ∧ rC S 2 ≤ 60 := by
  obtain ⟨c1, c2, c3, c4, c5, ⟨b1, b2, b3, b4, b5⟩, _⟩ := hc
  have := c1.c60
  omega
theorem CIg.nm (hc : CIg P F S φ al c L fr ps pl h k e z) {g : Nat} (hg : L g) : g < rC S 3 := (hc.1.lv hg).2.2.2.2.2
theorem CIg.kids (hc : CIg P F S φ al c L fr ps pl h k e z) (hm : rM S (fr k) = 5) : (∀ j, j < 5 → srP P (φ (fr k)) j = some (kaF φ al (rG S (fr k)) (sgR S (rG S (fr k)) (fr k) j))) ∧ PmG (rk S (fr k)) (sgR S (rG S (fr k)) (fr k)) 5 := by
  obtain ⟨c1, c2, c3, c4, c5, _⟩ := hc
  have hL := c4.2.1 k (Nat.le_refl k)
  have h1 := sort_eq (P := P) (S := S) (q := φ (fr k)) (n := rG S (fr k)) (f := fr k) (ρ := kaF φ al (rG S (fr k))) (c1.lv hL.1).2.2.2.1 (by omega) (fun j hj => (c1.kx hL.1 j hj).2.1) (fun j hj i hi => c1.ed (rG S (fr k)) (fun g hg hl => ⟨?_, c5.2 g hg⟩) _ (c1.kx hL.1 j hj).1 i (by omega))
  · rw [hm] at h1; exact h1
  · rintro ⟨i, hi, rfl⟩
    have := (c4.2.1 i hi).2
    omega
/-- after the split in the middle -/
theorem CIg.sp (hc : CIg P F S φ al c L fr ps pl h (k + 1) (k + 1) z) (h5 : rM S (fr (k + 1)) = 5) (hsr : ∀ j, j < 5 → srP P (φ (fr (k + 1))) j = some (kaF φ al (rG S (fr (k + 1))) (sg j))) (hpm : PmG (rk S (fr (k + 1))) sg 5) (sp : SpS S S' (rG S (fr (k + 1))) (fr (k + 1)) (fr k) (ps k) (rC S 3) sg) (e2 : rC S' 2 = rC S 2 + 1) (e3 : rC S' 3 = rC S 3 + 1) (e4 : rC S' 4 = rC S 4) : CIg (spP P (φ (fr (k + 1))) (φ (fr k)) (ps k) z) (sSp F (fS F + 1)) S' (va_up φ (rC S 3) z) al c (fun g => L g ∨ g = rC S 3) fr ps pl h (k + 1) k (z + 2) := by
  have hm121 := hc.m
  have hnm := fun g hg => hc.nm (g := g) hg
  obtain ⟨c1, c2, c3, c4, c5, ⟨b1, b2, b3, b4, b5⟩, ⟨d1, d2, d3⟩, c8, c9, c10, c11⟩ := hc
  obtain ⟨w0, w1, w2⟩ := c4
  have hf := w1 (k + 1) (Nat.le_refl _)
  have hp := w1 k (by omega)
  have hmL : ¬ L (rC S 3) := fun e => by have := hnm _ e; omega
  have hlv : ∀ i, i ≤ k + 1 → ∀ j, j ≤ k + 1 → i ≠ j → fr i ≠ fr j := by
    intro i hi j hj hij e
    have h1 := (w1 i hi).2
    have h2 := (w1 j hj).2
    rw [e] at h1
    omega
  have hfp : fr (k + 1) ≠ fr k := hlv _ (by omega) _ (by omega) (by omega)
  have hp4 : rM S (fr k) ≤ 4 := c5.1 _ hp.1 (fun e => hfp e.symm)
  have hk0 := w2 k (by omega)
  have hpn : rG S (fr k) = rG S (fr (k + 1)) + 1 := by omega
  have hSm := c1.spl hf.1 hp.1 hmL h5 hp4 hk0.1 hk0.2 rfl hpn ⟨k + 1, Nat.le_refl _, rfl⟩ ⟨k, by omega, rfl⟩ d1 hsr hpm sp
  have hTp := Tp.spl c1 c2 hf.1 hp.1 hmL h5 hp4 hk0.1 rfl hpn d1 hsr hpm sp
  have gm : ∀ g, L g → g ≠ rC S 3 := fun g hg e => hmL (e ▸ hg)
  obtain ⟨s1, s2, s3, s4, s5, s6, s7, s8, s9, s10⟩ := sp
  have hmM : rM S (rC S 3) = 0 := b5 _ (Nat.le_refl _)
  refine ⟨hSm, by rw [e4]; exact hTp, ?_, ⟨by rw [e4]; exact w0, fun i hi => ⟨Or.inl (w1 i hi).1, ?_⟩, fun i hi => ?_⟩, ⟨fun g hg hgk => ?_, fun g hg => ?_⟩, ⟨?_, ?_, ?_, ?_, fun g hg => ?_⟩, ⟨fun x hx => ?_, ?_, ?_⟩, fun i hi => ?_, fun a ha => by rw [s2]; exact c9 a ha, fun hh => ?_, c11⟩
  · obtain ⟨f1, f2, f3, f4, f5⟩ := c3
    refine ⟨f1, ?_, ?_, f4, f5⟩
    · rw [e2, ← f2]; rfl
    · rw [e4, va_up_ne _ _ (gm _ c2.1)]; exact f3
  · rw [s3, if_neg (gm _ (w1 i hi).1)]; exact (w1 i hi).2
  · have h1 := w2 i hi
    have h2 := (w1 i (by omega)).1
    by_cases ei : i = k
    · subst ei
      rw [s4, if_pos rfl, s7 _ (by omega)]
      refine ⟨by omega, ?_⟩
      unfold insG
      rw [if_pos (by omega)]
      exact h1.2
    · have n1 : fr i ≠ fr k := hlv i (by omega) k (by omega) ei
      have n2 : fr i ≠ fr (k + 1) := hlv i (by omega) _ (by omega) (by omega)
      rw [s4, if_neg n1, if_neg (gm _ h2), if_neg n2, s8 _ _ (by have := c5.1 _ h2 n2; omega) n2 (gm _ h2) n1]
      exact h1
  · rw [s4, if_neg hgk]
    rcases hg with hg | hg
    · rw [if_neg (gm g hg)]
      by_cases e5 : g = fr (k + 1)
      · rw [if_pos e5]; omega
      · rw [if_neg e5]; exact c5.1 g hg e5
    · rw [if_pos hg]; omega
  · rw [s4]
    by_cases e5 : g = fr k
    · rw [if_pos e5]; omega
    · rw [if_neg e5]
      rcases hg with hg | hg
      · rw [if_neg (gm g hg)]
        by_cases e6 : g = fr (k + 1)
        · rw [if_pos e6]; omega
        · rw [if_neg e6]; exact c5.2 g hg
      · rw [if_pos hg]; omega
  · have u1 := sumE_up (f := fun g => if g = fr (k + 1) then 0 else rM S g - 3) (g := fun g => rM S g - 3) (p := fr (k + 1)) (fun j hj => if_neg hj) 400 (by have := hnm _ hf.1; omega)
    have u2 := sumE_up (f := fun g => if g = rC S 3 then 0 else if g = fr (k + 1) then 0 else rM S g - 3) (g := fun g => if g = fr (k + 1) then 0 else rM S g - 3) (p := rC S 3) (fun j hj => if_neg hj) 400 (by omega)
    have u3 := sumE_up (f := fun g => if g = fr k then rM S (fr k) + 1 - 3 else if g = rC S 3 then 0 else if g = fr (k + 1) then 0 else rM S g - 3) (g := fun g => if g = rC S 3 then 0 else if g = fr (k + 1) then 0 else rM S g - 3) (p := fr k) (fun j hj => if_neg hj) 400 (by have := hnm _ hp.1; omega)
    have u4 : sumE (fun g => rM S' g - 3) 400 = sumE (fun g => if g = fr k then rM S (fr k) + 1 - 3 else if g = rC S 3 then 0 else if g = fr (k + 1) then 0 else rM S g - 3) 400 := by
      refine sumE_c 400 (fun g hg => ?_)
      show rM S' g - 3 = _
      rw [s4]
      by_cases q1 : g = fr k
      · rw [if_pos q1, if_pos q1]
      · rw [if_neg q1, if_neg q1]
        by_cases q2 : g = rC S 3
        · rw [if_pos q2, if_pos q2]
        · rw [if_neg q2, if_neg q2]
          by_cases q3 : g = fr (k + 1)
          · rw [if_pos q3, if_pos q3]
          · rw [if_neg q3, if_neg q3]
    simp only [if_pos, if_neg (gm _ hp.1), if_neg (show ¬ rC S 3 = fr (k + 1) from fun e => gm _ hf.1 e.symm), if_neg (show ¬ fr k = fr (k + 1) from fun e => hfp e.symm), hmM, h5] at u1 u2 u3
    rw [u4, e2]
    omega
  · rw [e3, e2]; omega
  · rw [e2]; omega
  · intro _
    have := b4 (by omega)
    rw [e2]
    omega
  · rw [e3] at hg
    have q1 := hnm _ hp.1
    have q2 := hnm _ hf.1
    rw [s4, if_neg (by omega), if_neg (by omega), if_neg (by omega)]
    exact b5 g (by omega)
  · rw [spP_D] at hx
    by_cases e5 : x = z
    · omega
    · rw [if_neg e5] at hx
      have := d1 x hx
      omega
  · exact WfF.of (d2.nw d1 d3 (-1) 0 bx0 5) rfl rfl
  · show fO F + 1 < z + 2; omega
  · have h1 := c8 i hi
    rw [va_up_ne _ _ (gm _ (w1 (i + 1) (by omega)).1)]
    exact h1
  · rw [e4, s4]
    have h1 := c10 hh
    by_cases e5 : rC S 4 = fr k
    · rw [if_pos e5]
      have := c5.2 _ hp.1
      omega
    · rw [if_neg e5, if_neg (gm _ c2.1), if_neg]
      · exact h1
      · intro e6
        have := hlv 0 (by omega) (k + 1) (by omega) (by omega)
        rw [w0] at this
        exact this e6
/-- after tightening -/
theorem CIg.tg (hc : CIg P F S φ al c L fr ps pl h (k + 1) k z) : CIg (tigP P (φ (fr (k + 1)))) F S φ al c L fr ps pl h k k z ∧ pH (tigP P (φ (fr (k + 1)))) (φ (fr (k + 1))) = some (φ (fr k)) ∧ pH P (φ (fr (k + 1))) = some (φ (fr k)) := by
  obtain ⟨c1, c2, c3, c4, c5, c6, ⟨d1, d2, d3⟩, c8, c9, c10, c11⟩ := hc
  obtain ⟨w0, w1, w2⟩ := id c4
  have hH := (c1.wayK c4 (i := k) (by omega)).1
  refine ⟨⟨c1.tig (w1 (k + 1) (Nat.le_refl _)).1 (fun g hg => ?_) (fun g hg e => ?_), c2.tig _, c3, ⟨w0, fun i hi => w1 i (by omega), fun i hi => w2 i (by omega)⟩, c5, c6, ⟨fun x hx => ?_, WfF_tig d2 _, d3⟩, fun i hi => c8 i (by omega), c9, c10, by omega⟩, ?_, hH⟩
  · obtain ⟨i, hi, e⟩ := hg
    by_cases ei : i = k + 1
    · subst ei; exact Or.inr e
    · exact Or.inl ⟨i, by omega, e⟩
  · rw [hH] at e
    exact ⟨k, Nat.le_refl _, (c1.inj (w1 k (by omega)).1 hg (Option.some.inj e)).symm⟩
  · rw [pD_tig] at hx; exact d1 x hx
  · rw [pH_tig]; exact hH
end
theorem scI_n (pl : Nat → Nat) (n : Nat) (P : PS) (F : FS) (z : Nat) : ScI pl n P F z none := by
  cases n with
  | zero => exact rfl
  | succ n => exact fun f e => absurd e (by simp)
theorem Sm.spC {P : PS} {F : FS} {S : RS} {φ al pl : Nat → Nat} {c : Nat} {L X : Nat → Prop} (hs : Sm P S φ al c L X) {f : Nat} (hf : L f) (h1 : 4 < rM S f → pH P (φ f) = none → φ f = fT F) (h2 : 4 < rM S f → ∀ ab, pH P (φ f) = some ab → ∃ p k0, L p ∧ ab = φ p ∧ f ≠ p ∧ rM S p ≤ 4 ∧ k0 < rM S p ∧ rG S p = rG S f + 1 ∧ rk S p k0 = f ∧ pl (φ f) = k0) : SpC pl P F (φ f) := by
  have hl := hs.lv hf
  refine ⟨hl.1, by rw [hl.2.2.2.1]; exact hl.2.2.2.2.1, fun h4 => ⟨fun hn => ⟨?_, hl.2.2.1, fun k hk => ?_⟩, fun ab hab => ?_⟩⟩
  · rw [hl.2.2.2.1] at h4; exact h1 h4 hn
  · have hk2 := hs.kids hf k hk
    exact ⟨hk2.1, hk2.2.1, hk2.2.2.1, hk2.2.2.2.2⟩
  · rw [hl.2.2.2.1] at h4
    obtain ⟨p, k0, hp, rfl, hfp, hp4, hk0, hg, hr, hpl⟩ := h2 h4 ab hab
    have hlp := hs.lv hp
    have hkk := hs.kx hp k0 hk0
    rw [hpl]
    refine ⟨hl.2.2.1, fun k hk => ?_, hlp.1, by rw [hlp.2.2.2.1]; exact hp4, hlp.2.2.1, (hs.kids hp).ch, fun e => hfp (hs.inj hp hf e).symm, by rw [hlp.2.2.2.1]; exact hk0, ?_, ?_⟩
    · have hk2 := hs.kids hf k hk
      exact ⟨hk2.1, hk2.2.1, hk2.2.2.1⟩
    · have := hkk.2.1
      rw [hg, hr] at this
      exact this
    · have := hs.pA_ne hp hk0
      rw [hg, hr] at this
      exact this
/-- what the loop leaves -/
def CR (al : Nat → Nat) (c : Nat) (P : PS) (F : FS) (z : Nat) (R : PS × FS × Nat) (S' : RS) : Prop := (∃ φ' L' h', Inv R.1 R.2.1 (uC S' 1 c) φ' al L' h') ∧ WfF R.1 R.2.1 ∧ fO R.2.1 = fO F ∧ (∀ x, pD R.1 x = true → pD P x = true ∨ z ≤ x) ∧ (∀ x, pD R.1 x = true → x + 1 < R.2.2) ∧ z ≤ R.2.2
theorem CR.of {al : Nat → Nat} {c : Nat} {P P1 : PS} {F F1 : FS} {z z1 : Nat} {R : PS × FS × Nat} {S' : RS} (h : CR al c P1 F1 z1 R S') (ho : fO F1 = fO F) (hz : z ≤ z1) (hd : ∀ x, pD P1 x = true → pD P x = true ∨ z ≤ x) : CR al c P F z R S' := by
  obtain ⟨h1, h2, h3, h4, h5, h6⟩ := h
  refine ⟨h1, h2, by rw [h3, ho], fun x hx => ?_, h5, by omega⟩
  rcases h4 x hx with e | e
  · exact hd x e
  · exact Or.inr (by omega)
