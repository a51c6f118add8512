/-! tightening; splitting, and its two worlds -/
theorem tig_B {P : PS} {f q : Nat} : pB (tigP P f) q = if q = f then (if pS P f = 0 then bx0 else hulP P f (pS P f - 1)) else pB P q := by
  unfold tigP
  by_cases h : pS P f = 0
  · rw [if_pos h, if_pos h, pB_sBx]; rfl
  · rw [if_neg h, if_neg h, pB_sBx]; rfl
theorem tig_o {P : PS} {f : Nat} : pN (tigP P f) = pN P ∧ pL (tigP P f) = pL P ∧ pS (tigP P f) = pS P ∧ pA (tigP P f) = pA P ∧ pW (tigP P f) = pW P := by
  unfold tigP
  by_cases h : pS P f = 0
  · rw [if_pos h]; exact ⟨rfl, rfl, rfl, rfl, rfl⟩
  · rw [if_neg h]; exact ⟨rfl, rfl, rfl, rfl, rfl⟩
section
variable {P : PS} {S : RS} {φ al : Nat → Nat} {c t h : Nat} {L X : Nat → Prop}
theorem Sm.tig (hs : Sm P S φ al c L X) {f : Nat} (hf : L f) {X' : Nat → Prop} (hX : ∀ g, X g → X' g ∨ g = f) (hu : ∀ g, L g → pH P (φ f) = some (φ g) → X' g) : Sm (tigP P (φ f)) S φ al c L X' := by
  obtain ⟨t1, t2, t3, t4, t5⟩ := tig_o (P := P) (f := φ f)
  have hd := pD_tig P (φ f)
  have hh := pH_tig P (φ f)
  refine ⟨fun g hg => ⟨?_, ?_, fun hx => ?_⟩, fun a ha => ?_, hs.2.2⟩
  · unfold LvF; rw [hd, t2, t3, t5]; exact hs.lv hg
  · unfold KdF; rw [t4, hh]; exact hs.kx hg
  · intro i hi
    have hkid : ∀ k, k < rM S g → pB (tigP P (φ f)) (kaF φ al (rG S g) (rk S g k)) = pB P (kaF φ al (rG S g) (rk S g k)) := by
      intro k hk
      rw [tig_B, if_neg]
      intro e
      by_cases eg : g = f
      · subst eg
        have h1 := hs.kaL (hs.kx hg k hk).1
        rw [e, (hs.lv hg).2.1] at h1
        omega
      · have h1 := (hs.kx hg k hk).2.2.1
        rw [e] at h1
        exact hx (hu g hg h1)
    by_cases eg : g = f
    · subst eg
      rw [tig_B, if_pos rfl, (hs.lv hg).2.2.2.1]
      by_cases h0 : rM S g = 0
      · rw [if_pos h0, if_pos h0]
      · rw [if_neg h0, if_neg h0]
        refine hulL_cg _ (fun k hk j hj => ?_) i hi
        show pB P (kd P (φ g) k) j = _
        rw [hkid k (by omega), hs.kdq hg (by omega)]
    · rw [tig_B, if_neg (fun e => eg (hs.inj hg hf e)), hs.bx hg (fun e => by rcases hX g e with e2 | e2; exact hx e2; exact eg e2) i hi]
      by_cases h0 : rM S g = 0
      · rw [if_pos h0, if_pos h0]
      · rw [if_neg h0, if_neg h0]
        refine hulL_cg _ (fun k hk j hj => ?_) i hi
        rw [hkid k (by omega)]
  · have h1 := hs.am ha
    unfold AlF
    rw [hd, hh, t1, t2, tig_B, if_neg (fun e => hs.ne hf ha e.symm)]
    exact h1
theorem Tp.tig (ht : Tp P S φ L t h) (f : Nat) : Tp (tigP P f) S φ L t h := by
  unfold Tp
  rw [pH_tig]
  exact ht
end
section
variable {P : PS} {q z ab k0 : Nat}
theorem spP_D (x : Nat) : pD (spP P q ab k0 z) x = if x = z then true else pD P x := rfl
theorem spP_N (x : Nat) : pN (spP P q ab k0 z) x = if x = z then -1 else pN P x := rfl
theorem spP_L (x : Nat) : pL (spP P q ab k0 z) x = if x = z then pL P q else pL P x := rfl
theorem spP_W (x : Nat) : pW (spP P q ab k0 z) x = if x = z then 5 else pW P x := rfl
theorem spP_S (x : Nat) : pS (spP P q ab k0 z) x = if x = ab then pS P ab + 1 else if x = z then 2 else if x = q then 3 else pS P x := by
  show va_up (va_up (va_up (va_up (va_up (va_up (pS P) z 0) q 4) z 1) q 3) z 2) ab (pS P ab + 1) x = _
  unfold va_up
  by_cases e1 : x = ab
  · rw [if_pos e1, if_pos e1]
  · rw [if_neg e1, if_neg e1]
    by_cases e2 : x = z
    · rw [if_pos e2, if_pos e2]
    · rw [if_neg e2, if_neg e2]
      by_cases e3 : x = q
      · rw [if_pos e3, if_pos e3, if_neg e2]
      · rw [if_neg e3, if_neg e3, if_neg e2, if_neg e3, if_neg e2]
theorem spP_A (x : Nat) : pA (spP P q ab k0 z) x = if x = ab then insF (pA P ab) (pS P ab) (k0 + 1) z else if x = z then insF (insF (fun _ => none) 0 0 (sr3 P q)) 1 1 (sr4 P q) else if x = q then remF (remF (srP P q) 5 3) 4 3 else pA P x := by
  show va_up (va_up (va_up (va_up (va_up (va_up (va_up (pA P) q (srP P q)) z (fun _ => none)) q (remF (srP P q) 5 3)) z (insF (fun _ => none) 0 0 (sr3 P q))) q (remF (remF (srP P q) 5 3) 4 3)) z (insF (insF (fun _ => none) 0 0 (sr3 P q)) 1 1 (sr4 P q))) ab (insF (pA P ab) (pS P ab) (k0 + 1) z) x = _
  unfold va_up
  by_cases e1 : x = ab
  · rw [if_pos e1, if_pos e1]
  · rw [if_neg e1, if_neg e1]
    by_cases e2 : x = z
    · rw [if_pos e2, if_pos e2]
    · rw [if_neg e2, if_neg e2]
      by_cases e3 : x = q
      · rw [if_pos e3, if_pos e3, if_neg e2]
      · rw [if_neg e3, if_neg e3, if_neg e2, if_neg e3, if_neg e2, if_neg e3]
theorem spP_H (x : Nat) : pH (spP P q ab k0 z) x = if x = z then some ab else if x = sr4 P q then some z else if x = sr3 P q then some z else pH P x := by
  show va_up (va_up (va_up (va_up (va_up (va_up (pH P) z none) (sr3 P q) none) (sr3 P q) (some z)) (sr4 P q) none) (sr4 P q) (some z)) z (some ab) x = _
  unfold va_up
  by_cases e1 : x = z
  · rw [if_pos e1, if_pos e1]
  · rw [if_neg e1, if_neg e1]
    by_cases e2 : x = sr4 P q
    · rw [if_pos e2, if_pos e2, if_neg e1]
    · rw [if_neg e2, if_neg e2, if_neg e2]
      by_cases e3 : x = sr3 P q
      · rw [if_pos e3, if_pos e3, if_neg e1]
      · rw [if_neg e3, if_neg e3, if_neg e3, if_neg e1]
theorem spP_B (x : Nat) (h3 : sr3 P q ≠ z) (h4 : sr4 P q ≠ z) : pB (spP P q ab k0 z) x = if x = z then hulB (pB P (sr3 P q)) (pB P (sr4 P q)) else pB P x := by
  show va_up (va_up (pB P) z bx0) z (hulP (sp6 P q z) z 1) x = _
  unfold va_up
  by_cases e1 : x = z
  · rw [if_pos e1, if_pos e1]
    show hulB (pB (sp6 P q z) (kd (sp6 P q z) z 0)) (pB (sp6 P q z) (kd (sp6 P q z) z 1)) = _
    have hk : pA (sp6 P q z) z = insF (insF (fun _ => none) 0 0 (sr3 P q)) 1 1 (sr4 P q) := sp6_Az
    rw [show kd (sp6 P q z) z 0 = sr3 P q by show (pA (sp6 P q z) z 0).getD 0 = _; rw [hk]; rfl, show kd (sp6 P q z) z 1 = sr4 P q by show (pA (sp6 P q z) z 1).getD 0 = _; rw [hk]; rfl]
    show hulB (va_up (pB P) z bx0 (sr3 P q)) (va_up (pB P) z bx0 (sr4 P q)) = _
    rw [va_up_ne _ _ h3, va_up_ne _ _ h4]
  · rw [if_neg e1, if_neg e1, if_neg e1]
end
def SpS (S S' : RS) (n f p k0 m : Nat) (sg : Nat → Nat) : Prop := rE S' = rE S ∧ rD S' = rD S ∧ (∀ g, rG S' g = if g = m then n else rG S g) ∧ (∀ g, rM S' g = if g = p then rM S p + 1 else if g = m then 2 else if g = f then 3 else rM S g) ∧ (∀ k, k < 3 → rk S' f k = sg k) ∧ (rk S' m 0 = sg 3 ∧ rk S' m 1 = sg 4) ∧ (∀ k, k < 5 → rk S' p k = insG (rk S p) (rM S p) (k0 + 1) m k) ∧ (∀ g k, k < 5 → g ≠ f → g ≠ m → g ≠ p → rk S' g k = rk S g k) ∧ m < rC S' 3 ∧ rC S 3 ≤ rC S' 3
section
variable {P : PS} {S S' : RS} {φ al sg : Nat → Nat} {c t h n f p k0 m z : Nat} {L X : Nat → Prop}
theorem SpS.ok (sp : SpS S S' n f p k0 m sg) (hm : ¬ L m) {j x : Nat} (hx : OkK S c L j x) : OkK S' c (fun g => L g ∨ g = m) j x ∧ kaF (va_up φ m z) al j x = kaF φ al j x := by
  cases j with
  | zero => exact ⟨⟨hx.1, by rw [sp.2.1]; exact hx.2⟩, rfl⟩
  | succ j =>
    have e : x ≠ m := fun e => hm (e ▸ hx.1)
    refine ⟨⟨Or.inl hx.1, ?_⟩, va_up_ne _ _ e⟩
    rw [sp.2.2.1, if_neg e]; exact hx.2
/-- where a row's member is after the split -/
theorem SpS.at (sp : SpS S S' n f p k0 m sg) (hpm : PmG (rk S f) sg 5) (h5 : rM S f = 5) (hk0 : k0 < rM S p) (hp4 : rM S p ≤ 4) (hmf : m ≠ f) (hmp : m ≠ p) (hfp : f ≠ p) {g k : Nat} (hg : g ≠ m) (hk : k < rM S g) (hk5 : k < 5) : ∃ g' k', (g' = g ∨ g' = m ∧ g = f) ∧ k' < rM S' g' ∧ rk S' g' k' = rk S g k := by
  obtain ⟨s1, s2, s3, s4, s5, ⟨s6, s6'⟩, s7, s8, _⟩ := sp
  by_cases e1 : g = f
  · subst e1
    obtain ⟨k', hk', e⟩ := hpm.2.1 k hk5
    by_cases c3 : k' < 3
    · exact ⟨g, k', Or.inl rfl, by rw [s4, if_neg hfp, if_neg hg, if_pos rfl]; exact c3, by rw [s5 k' c3, e]⟩
    · refine ⟨m, k' - 3, Or.inr ⟨rfl, rfl⟩, by rw [s4, if_neg hmp, if_pos rfl]; omega, ?_⟩
      rcases (show k' = 3 ∨ k' = 4 by omega) with rfl | rfl
      · show rk S' m 0 = _; rw [s6, e]
      · show rk S' m 1 = _; rw [s6', e]
  · by_cases e2 : g = p
    · subst e2
      by_cases c : k < k0 + 1
      · refine ⟨g, k, Or.inl rfl, by rw [s4, if_pos rfl]; omega, ?_⟩
        rw [s7 k hk5]; unfold insG; rw [if_pos c]
      · refine ⟨g, k + 1, Or.inl rfl, by rw [s4, if_pos rfl]; omega, ?_⟩
        rw [s7 (k + 1) (by omega)]; unfold insG
        rw [if_neg (by omega), if_neg (by omega), if_pos (by omega)]; rfl
    · refine ⟨g, k, Or.inl rfl, by rw [s4, if_neg e2, if_neg hg, if_neg e1]; exact hk, s8 g k hk5 e1 hg e2⟩
end
set_option maxHeartbeats 4000000 in
theorem Sm.spl {P : PS} {S S' : RS} {φ al sg : Nat → Nat} {c n f p k0 m z : Nat} {L X : Nat → Prop} (hs : Sm P S φ al c L X) (hf : L f) (hp : L p) (hm : ¬ L m) (h5 : rM S f = 5) (hp4 : rM S p ≤ 4) (hk0 : k0 < rM S p) (hr : rk S p k0 = f) (hn : rG S f = n) (hpn : rG S p = n + 1) (hXf : X f) (hXp : X p) (hz : ∀ x, pD P x = true → x + 1 < z) (hsr : ∀ k, k < 5 → srP P (φ f) k = some (kaF φ al n (sg k))) (hpm : PmG (rk S f) sg 5) (sp : SpS S S' n f p k0 m sg) : Sm (spP P (φ f) (φ p) k0 z) S' (va_up φ m z) al c (fun g => L g ∨ g = m) X := by
  have hfp : f ≠ p := fun e => by rw [e] at hn; omega
  have hmf : m ≠ f := fun e => hm (e ▸ hf)
  have hmp : m ≠ p := fun e => hm (e ▸ hp)
  have hzz : ∀ x, pD P x = true → x ≠ z := fun x hx e => by have := hz x hx; omega
  have hφz : ∀ g, L g → φ g ≠ z := fun g hg => hzz _ (hs.lv hg).1
  have hkz : ∀ j x, OkK S c L j x → kaF φ al j x ≠ z := fun j x hx => hzz _ (hs.kaD hx)
  have hsgo : ∀ k, k < 5 → OkK S c L n (sg k) ∧ pH P (kaF φ al n (sg k)) = some (φ f) := by
    intro k hk
    obtain ⟨j, hj, e⟩ := hpm.1 k hk
    have h1 := hs.kx hf j (by omega)
    rw [hn] at h1
    rw [e]
    exact ⟨h1.1, h1.2.2.1⟩
  have hrd : ∀ a b, a < 5 → b < 5 → a ≠ b → rk S f a ≠ rk S f b := by
    intro a b ha hb hab
    rcases Nat.lt_or_gt_of_ne hab with h1 | h1
    · exact (hs.kx hf b (by omega)).2.2.2 a h1
    · exact fun e => (hs.kx hf a (by omega)).2.2.2 b h1 e.symm
  have hsd := hpm.2.2 hrd
  have e3 : sr3 P (φ f) = kaF φ al n (sg 3) := by show (srP P (φ f) 3).getD 0 = _; rw [hsr 3 (by omega)]; rfl
  have e4 : sr4 P (φ f) = kaF φ al n (sg 4) := by show (srP P (φ f) 4).getD 0 = _; rw [hsr 4 (by omega)]; rfl
  have h3z : sr3 P (φ f) ≠ z := by rw [e3]; exact hkz _ _ (hsgo 3 (by omega)).1
  have h4z : sr4 P (φ f) ≠ z := by rw [e4]; exact hkz _ _ (hsgo 4 (by omega)).1
  -- those whose holder stays
  have hH : ∀ x, x ≠ z → pH P x ≠ some (φ f) → pH (spP P (φ f) (φ p) k0 z) x = pH P x := by
    intro x hx h1
    rw [spP_H, if_neg hx, if_neg, if_neg]
    · intro e; rw [e, e3, (hsgo 3 (by omega)).2] at h1; exact h1 rfl
    · intro e; rw [e, e4, (hsgo 4 (by omega)).2] at h1; exact h1 rfl
  have hkd : ∀ k, k < 5 → k < 3 → pH (spP P (φ f) (φ p) k0 z) (kaF φ al n (sg k)) = some (φ f) := by
    intro k hk k3
    have h1 := hsgo k hk
    rw [spP_H, if_neg (hkz _ _ h1.1), if_neg, if_neg]
    · exact h1.2
    · rw [e3]; exact fun e => hsd k 3 hk (by omega) (by omega) (hs.kai h1.1 (hsgo 3 (by omega)).1 e)
    · rw [e4]; exact fun e => hsd k 4 hk (by omega) (by omega) (hs.kai h1.1 (hsgo 4 (by omega)).1 e)
  have h34 : pH (spP P (φ f) (φ p) k0 z) (kaF φ al n (sg 3)) = some z ∧ pH (spP P (φ f) (φ p) k0 z) (kaF φ al n (sg 4)) = some z := by
    constructor
    · rw [spP_H, ← e3, if_neg h3z]
      by_cases e : sr3 P (φ f) = sr4 P (φ f)
      · rw [if_pos e]
      · rw [if_neg e, if_pos rfl]
    · rw [spP_H, ← e4, if_neg h4z, if_pos rfl]
  have hok : ∀ j x, OkK S c L j x → OkK S' c (fun g => L g ∨ g = m) j x ∧ kaF (va_up φ m z) al j x = kaF φ al j x := fun j x hx => sp.ok hm hx
  have hφ : ∀ g, L g → va_up φ m z g = φ g := fun g hg => va_up_ne _ _ (fun e => hm (e ▸ hg))
  have hφm : va_up φ m z m = z := va_up_self _ _ _
  obtain ⟨s1, s2, s3, s4, s5, ⟨s6, s6'⟩, s7, s8, s9, s10⟩ := id sp
  have gm : ∀ g, L g → g ≠ m := fun g hg e => hm (e ▸ hg)
  have hB : ∀ x, x ≠ z → pB (spP P (φ f) (φ p) k0 z) x = pB P x := fun x hx => by rw [spP_B x h3z h4z, if_neg hx]
  refine ⟨fun g hg => ⟨?_, ?_, fun hx => ?_⟩, fun a ha => ?_, ?_, hs.c60⟩
  · -- a frame's own
    rcases hg with hg | rfl
    · have h1 := hs.lv hg
      unfold LvF
      rw [hφ g hg, spP_D, spP_L, spP_W, spP_S, if_neg (hφz g hg), if_neg (hφz g hg), if_neg (hφz g hg), if_neg (hφz g hg), s3, if_neg (gm g hg), s4]
      refine ⟨h1.1, h1.2.1, h1.2.2.1, ?_, ?_, by have := h1.2.2.2.2.2; omega⟩
      · by_cases c1 : g = p
        · rw [if_pos (by rw [c1]), if_pos c1, (hs.lv hp).2.2.2.1]
        · rw [if_neg (fun e => c1 (hs.inj hg hp e)), if_neg c1, if_neg (gm g hg)]
          by_cases c2 : g = f
          · rw [if_pos (by rw [c2]), if_pos c2]
          · rw [if_neg (fun e => c2 (hs.inj hg hf e)), if_neg c2]; exact h1.2.2.2.1
      · by_cases c1 : g = p
        · rw [if_pos c1]; omega
        · rw [if_neg c1, if_neg (gm g hg)]
          by_cases c2 : g = f
          · rw [if_pos c2]; omega
          · rw [if_neg c2]; exact h1.2.2.2.2.1
    · unfold LvF
      rw [hφm, spP_D, spP_L, spP_W, spP_S, if_pos rfl, if_pos rfl, if_pos rfl, if_neg (fun e => hφz p hp e.symm), if_pos rfl, s3, if_pos rfl, s4, if_neg hmp, if_pos rfl, (hs.lv hf).2.1, hn]
      exact ⟨rfl, rfl, rfl, rfl, by omega, s9⟩
  · -- its row
    rcases hg with hg | rfl
    · intro k hk
      rw [s4] at hk
      have hgz := hφz g hg
      rw [hφ g hg, spP_A, s3, if_neg (gm g hg)]
      by_cases c1 : g = p
      · subst c1
        rw [if_pos rfl] at hk
        rw [if_pos rfl, hpn, s7 k (by omega)]
        have hpS := (hs.lv hp).2.2.2.1
        by_cases k1 : k < k0 + 1
        · have h1 := hs.kx hg k (by omega)
          rw [hpn] at h1
          have eI : insG (rk S g) (rM S g) (k0 + 1) m k = rk S g k := by unfold insG; rw [if_pos k1]
          rw [eI]
          obtain ⟨o1, o2⟩ := hok _ _ h1.1
          refine ⟨o1, ?_, ?_, fun j hj => ?_⟩
          · unfold insF; rw [if_pos k1, o2]; exact h1.2.1
          · rw [o2, hH _ (hkz _ _ h1.1) (by rw [h1.2.2.1]; exact fun e => hfp (hs.inj hf hp (Option.some.inj e).symm))]; exact h1.2.2.1
          · rw [s7 j (by omega)]; unfold insG; rw [if_pos (by omega)]; exact h1.2.2.2 j hj
        · by_cases k2 : k = k0 + 1
          · have eI : insG (rk S g) (rM S g) (k0 + 1) m k = m := by unfold insG; rw [if_neg k1, if_pos k2]
            rw [eI]
            refine ⟨⟨Or.inr rfl, by rw [s3, if_pos rfl]⟩, ?_, ?_, fun j hj => ?_⟩
            · unfold insF; rw [if_neg k1, if_pos k2]; exact congrArg some hφm.symm
            · show pH _ (va_up φ m z m) = _; rw [hφm, spP_H, if_pos rfl]
            · rw [s7 j (by omega)]; unfold insG; rw [if_pos (by omega)]
              have h1 := (hs.kx hg j (by omega)).1
              rw [hpn] at h1
              exact gm _ h1.1
          · have h1 := hs.kx hg (k - 1) (by omega)
            rw [hpn] at h1
            have eI : insG (rk S g) (rM S g) (k0 + 1) m k = rk S g (k - 1) := by unfold insG; rw [if_neg k1, if_neg k2, if_pos (by omega)]
            rw [eI]
            obtain ⟨o1, o2⟩ := hok _ _ h1.1
            refine ⟨o1, ?_, ?_, fun j hj => ?_⟩
            · unfold insF; rw [if_neg k1, if_neg k2, if_pos (by omega), o2]; exact h1.2.1
            · rw [o2, hH _ (hkz _ _ h1.1) (by rw [h1.2.2.1]; exact fun e => hfp (hs.inj hf hp (Option.some.inj e).symm))]; exact h1.2.2.1
            · rw [s7 j (by omega)]; unfold insG
              by_cases j1 : j < k0 + 1
              · rw [if_pos j1]; exact h1.2.2.2 j (by omega)
              · rw [if_neg j1]
                by_cases j2 : j = k0 + 1
                · rw [if_pos j2]; exact fun e => gm _ h1.1.1 e.symm
                · rw [if_neg j2, if_pos (by omega)]; exact h1.2.2.2 (j - 1) (by omega)
      · rw [if_neg c1, if_neg (gm g hg)] at hk
        rw [if_neg (fun e => c1 (hs.inj hg hp e)), if_neg hgz]
        by_cases c2 : g = f
        · subst c2
          rw [if_pos rfl] at hk
          rw [if_pos rfl, hn, s5 k hk]
          have h1 := hsgo k (by omega)
          obtain ⟨o1, o2⟩ := hok _ _ h1.1
          refine ⟨o1, ?_, ?_, fun j hj => ?_⟩
          · unfold remF; rw [if_pos hk, if_pos hk, o2]; exact hsr k (by omega)
          · rw [o2]; exact hkd k (by omega) hk
          · rw [s5 j (by omega)]; exact hsd j k (by omega) (by omega) (by omega)
        · rw [if_neg c2] at hk
          rw [if_neg (fun e => c2 (hs.inj hg hf e))]
          have h0 := hs.lv hg
          have h1 := hs.kx hg k hk
          rw [s8 g k (by have := h0.2.2.2.2.1; omega) c2 (gm g hg) c1]
          obtain ⟨o1, o2⟩ := hok _ _ h1.1
          refine ⟨o1, by rw [o2]; exact h1.2.1, ?_, fun j hj => ?_⟩
          · rw [o2, hH _ (hkz _ _ h1.1) (by rw [h1.2.2.1]; exact fun e => c2 (hs.inj hg hf (Option.some.inj e)))]; exact h1.2.2.1
          · rw [s8 g j (by have := h0.2.2.2.2.1; omega) c2 (gm g hg) c1]; exact h1.2.2.2 j hj
    · intro k hk
      rw [s4, if_neg hmp, if_pos rfl] at hk
      rw [hφm, spP_A, if_neg (fun e => hφz p hp e.symm), if_pos rfl, s3, if_pos rfl]
      rcases (show k = 0 ∨ k = 1 by omega) with rfl | rfl
      · have h1 := hsgo 3 (by omega)
        obtain ⟨o1, o2⟩ := hok _ _ h1.1
        rw [s6]
        refine ⟨o1, ?_, by rw [o2]; exact h34.1, fun j hj => absurd hj (by omega)⟩
        rw [o2, ← e3]; rfl
      · have h1 := hsgo 4 (by omega)
        obtain ⟨o1, o2⟩ := hok _ _ h1.1
        rw [s6']
        refine ⟨o1, ?_, by rw [o2]; exact h34.2, fun j hj => ?_⟩
        · rw [o2, ← e4]; rfl
        · rw [show j = 0 by omega, s6]; exact hsd 3 4 (by omega) (by omega) (by omega)
  · -- its hedge
    rcases hg with hg | rfl
    · have c1 : g ≠ p := fun e => hx (e ▸ hXp)
      have c2 : g ≠ f := fun e => hx (e ▸ hXf)
      intro i hi
      have h0 := hs.lv hg
      rw [hφ g hg, hB _ (hφz g hg), hs.bx hg hx i hi, s4, if_neg c1, if_neg (gm g hg), if_neg c2]
      by_cases z0 : rM S g = 0
      · rw [if_pos z0, if_pos z0]
      · rw [if_neg z0, if_neg z0]
        unfold hulK
        rw [s4, if_neg c1, if_neg (gm g hg), if_neg c2, s3, if_neg (gm g hg)]
        refine hulL_cg _ (fun k hk j hj => ?_) i hi
        have h1 := hs.kx hg k (by omega)
        rw [s8 g k (by have := h0.2.2.2.2.1; omega) c2 (gm g hg) c1, (hok _ _ h1.1).2, hB _ (hkz _ _ h1.1)]
    · intro i hi
      rw [hφm, spP_B z h3z h4z, if_pos rfl, s4, if_neg hmp, if_pos rfl, if_neg (by omega)]
      unfold hulK
      rw [s4, if_neg hmp, if_pos rfl, s3, if_pos rfl]
      show hulB _ _ i = hulB (pB _ (kaF (va_up φ g z) al n (rk S' g 0))) (pB _ (kaF (va_up φ g z) al n (rk S' g 1))) i
      rw [s6, s6', (hok _ _ (hsgo 3 (by omega)).1).2, (hok _ _ (hsgo 4 (by omega)).1).2, hB _ (hkz _ _ (hsgo 3 (by omega)).1), hB _ (hkz _ _ (hsgo 4 (by omega)).1), e3, e4]
  · -- an allotment
    have h1 := hs.am ha
    have haz : al a ≠ z := hzz _ h1.1
    unfold AlF
    rw [spP_D, spP_N, spP_L, if_neg haz, if_neg haz, if_neg haz, hB _ haz, s1, s2]
    refine ⟨h1.1, h1.2.1, h1.2.2.1, h1.2.2.2.1, h1.2.2.2.2.1, ?_⟩
    rcases h1.2.2.2.2.2 with h2 | h2
    · refine Or.inl ⟨h2.1, ?_⟩
      rw [hH _ haz (by rw [h2.2]; simp)]; exact h2.2
    · obtain ⟨d1, g, k, hg, hg0, hk, hx⟩ := h2
      obtain ⟨g', k', u1, u2, u3⟩ := sp.at hpm h5 hk0 hp4 hmf hmp hfp (gm g hg) hk (by have := (hs.lv hg).2.2.2.2.1; omega)
      refine Or.inr ⟨d1, g', k', ?_, ?_, u2, by rw [u3, hx]⟩
      · rcases u1 with e | e
        · exact Or.inl (e ▸ hg)
        · exact Or.inr e.1
      · rcases u1 with e | e
        · rw [s3, e, if_neg (gm g hg)]; exact hg0
        · rw [s3, if_pos e.1, ← hn, ← e.2]; exact hg0
  · intro a b ha hb e
    rcases ha with ha | rfl
    · rcases hb with hb | rfl
      · rw [hφ a ha, hφ b hb] at e; exact hs.inj ha hb e
      · rw [hφ a ha, hφm] at e; exact absurd e (hφz a ha)
    · rcases hb with hb | rfl
      · rw [hφ b hb, hφm] at e; exact absurd e.symm (hφz b hb)
      · rfl
theorem Tp.spl {P : PS} {S S' : RS} {φ al sg : Nat → Nat} {c n f p k0 m z t h : Nat} {L X : Nat → Prop} (hs : Sm P S φ al c L X) (ht : Tp P S φ L t h) (hf : L f) (hp : L p) (hm : ¬ L m) (h5 : rM S f = 5) (hp4 : rM S p ≤ 4) (hk0 : k0 < rM S p) (hn : rG S f = n) (hpn : rG S p = n + 1) (hz : ∀ x, pD P x = true → x + 1 < z) (hsr : ∀ k, k < 5 → srP P (φ f) k = some (kaF φ al n (sg k))) (hpm : PmG (rk S f) sg 5) (sp : SpS S S' n f p k0 m sg) : Tp (spP P (φ f) (φ p) k0 z) S' (va_up φ m z) (fun g => L g ∨ g = m) t h := by
  have hfp : f ≠ p := fun e => by rw [e] at hn; omega
  have hmf : m ≠ f := fun e => hm (e ▸ hf)
  have hmp : m ≠ p := fun e => hm (e ▸ hp)
  have gm : ∀ g, L g → g ≠ m := fun g hg e => hm (e ▸ hg)
  have hsgo : ∀ k, k < 5 → pH P (kaF φ al n (sg k)) = some (φ f) := by
    intro k hk
    obtain ⟨j, hj, e⟩ := hpm.1 k hk
    have h1 := hs.kx hf j (by omega)
    rw [hn] at h1
    rw [e]
    exact h1.2.2.1
  obtain ⟨s1, s2, s3, s4, s5, ⟨s6, s6'⟩, s7, s8, s9, s10⟩ := id sp
  refine ⟨Or.inl ht.1, ?_, ?_, fun g hg hgt => ?_⟩
  · rw [va_up_ne _ _ (gm t ht.1), spP_H, if_neg, if_neg, if_neg]
    · exact ht.2.1
    · intro e
      have h1 := hsgo 3 (by omega)
      rw [show kaF φ al n (sg 3) = φ t by rw [e]; show _ = (srP P (φ f) 3).getD 0; rw [hsr 3 (by omega)]; rfl, ht.2.1] at h1
      exact absurd h1 (by simp)
    · intro e
      have h1 := hsgo 4 (by omega)
      rw [show kaF φ al n (sg 4) = φ t by rw [e]; show _ = (srP P (φ f) 4).getD 0; rw [hsr 4 (by omega)]; rfl, ht.2.1] at h1
      exact absurd h1 (by simp)
    · intro e
      have := hz _ (hs.lv ht.1).1
      omega
  · rw [s3, if_neg (gm t ht.1)]; exact ht.2.2.1
  · rcases hg with hg | rfl
    · obtain ⟨u1, g1, k1, v1, v2, v3, v4⟩ := ht.2.2.2 g hg hgt
      rw [s3, if_neg (gm g hg)]
      refine ⟨u1, ?_⟩
      obtain ⟨g', k', w1, w2, w3⟩ := sp.at hpm h5 hk0 hp4 hmf hmp hfp (gm g1 v1) v3 (by have := (hs.lv v1).2.2.2.2.1; omega)
      refine ⟨g', k', ?_, ?_, w2, by rw [w3, v4]⟩
      · rcases w1 with e | e
        · exact Or.inl (e ▸ v1)
        · exact Or.inr e.1
      · rcases w1 with e | e
        · rw [s3, e, if_neg (gm g1 v1)]; exact v2
        · rw [s3, if_pos e.1, ← hn, ← e.2]; exact v2
    · rw [s3, if_pos rfl]
      have hpl := ht.le hp
      refine ⟨by omega, p, k0 + 1, Or.inl hp, ?_, by rw [s4, if_pos rfl]; omega, ?_⟩
      · rw [s3, if_neg (gm p hp)]; exact hpn
      · rw [s7 (k0 + 1) (by omega)]; unfold insG; rw [if_neg (by omega), if_pos rfl]
