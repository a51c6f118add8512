/-! going -/
theorem tkP_f (P : PS) (ab f p x : Nat) : pD (tkP P ab f p) x = pD P x ∧ pN (tkP P ab f p) x = pN P x ∧ pL (tkP P ab f p) x = pL P x ∧ pB (tkP P ab f p) x = pB P x ∧ pW (tkP P ab f p) x = pW P x ∧ pH (tkP P ab f p) x = (if x = f then none else pH P x) ∧ pS (tkP P ab f p) x = (if x = ab then pS P ab - 1 else pS P x) ∧ pA (tkP P ab f p) x = (if x = ab then remF (pA P ab) (pS P ab) p else pA P x) := ⟨rfl, rfl, rfl, rfl, rfl, rfl, rfl, rfl⟩
/-- x, of level n, leaves the place k0 in p -/
def RmS (S S' : RS) (n x p k0 : Nat) : Prop := rE S' = rE S ∧ (∀ y, rD S' y = if n = 0 ∧ y = x then 0 else rD S y) ∧ rG S' = rG S ∧ (∀ g, rM S' g = if g = p then rM S p - 1 else rM S g) ∧ (∀ g k, k < 5 → rk S' g k = if g = p then remG (rk S p) (rM S p) k0 k else rk S g k) ∧ rC S' = rC S
def LfS (L L' : Nat → Prop) (n x : Nat) : Prop := ∀ g, L' g ↔ L g ∧ (n ≠ 0 → g ≠ x)
section
variable {P : PS} {S S' : RS} {φ al : Nat → Nat} {c t h n x p k0 : Nat} {L L' X : Nat → Prop}
theorem RmS.at (r : RmS S S' n x p k0) (hk0 : k0 < rM S p) {g k : Nat} (hk : k < rM S g) (hk5 : rM S g ≤ 5) (hne : ¬ (g = p ∧ k = k0)) : ∃ k', k' < rM S' g ∧ rk S' g k' = rk S g k := by
  obtain ⟨r1, r2, r3, r4, r5, r6⟩ := r
  by_cases e : g = p
  · subst e
    have hkn : k ≠ k0 := fun e => hne ⟨rfl, e⟩
    by_cases c1 : k < k0
    · refine ⟨k, by rw [r4, if_pos rfl]; omega, ?_⟩
      rw [r5 g k (by omega), if_pos rfl]; unfold remG; rw [if_pos c1]
    · refine ⟨k - 1, by rw [r4, if_pos rfl]; omega, ?_⟩
      rw [r5 g _ (by omega), if_pos rfl]; unfold remG
      rw [if_neg (by omega), if_pos (by omega), show k - 1 + 1 = k by omega]
  · exact ⟨k, by rw [r4, if_neg e]; exact hk, by rw [r5 g k (by omega), if_neg e]⟩
theorem Sm.rem (hs : Sm P S φ al c L X) (hp : L p) (hk0 : k0 < rM S p) (hn : rG S p = n) (hx : rk S p k0 = x) (hX : X p) (h0 : n ≠ 0 → rM S x = 0) (r : RmS S S' n x p k0) (hL : LfS L L' n x) : Sm (tkP P (φ p) (kaF φ al n x) k0) S' φ al c L' X := by
  have hkx := hs.kx hp k0 hk0
  rw [hn, hx] at hkx
  have hat := fun g k => r.at (g := g) (k := k) hk0
  obtain ⟨r1, r2, r3, r4, r5, r6⟩ := r
  have hlp := hs.lv hp
  have hF := tkP_f P (φ p) (kaF φ al n x) k0
  generalize tkP P (φ p) (kaF φ al n x) k0 = P' at *
  have hL1 : ∀ g, L' g → L g := fun g hg => ((hL g).mp hg).1
  -- another kid
  have hne : ∀ g k, L g → k < rM S g → ¬ (g = p ∧ k = k0) → kaF φ al (rG S g) (rk S g k) ≠ kaF φ al n x := by
    intro g k hg hk hgk e
    have h1 := hs.kx hg k hk
    rw [e, hkx.2.2.1] at h1
    have e2 := hs.inj hp hg (Option.some.inj h1.2.2.1)
    subst e2
    rw [hn] at h1 e
    have e3 := hs.kai h1.1 hkx.1 e
    have e4 : k ≠ k0 := fun e => hgk ⟨rfl, e⟩
    rcases Nat.lt_or_gt_of_ne e4 with u | u
    · exact hkx.2.2.2 k u (by rw [e3])
    · have := h1.2.2.2 k0 u
      rw [hx, e3] at this
      exact this rfl
  have hok : ∀ g k, L g → k < rM S g → ¬ (g = p ∧ k = k0) → OkK S' c L' (rG S g) (rk S g k) := by
    intro g k hg hk hgk
    have h1 := hne g k hg hk hgk
    have h2 := (hs.kx hg k hk).1
    generalize rk S g k = y at *
    generalize rG S g = j at *
    cases j with
    | zero =>
      refine ⟨h2.1, ?_⟩
      rw [r2, if_neg]
      · exact h2.2
      · rintro ⟨e1, e2⟩
        rw [e1, e2] at h1
        exact h1 rfl
    | succ j =>
      refine ⟨(hL y).mpr ⟨h2.1, fun e1 e2 => ?_⟩, by rw [r3]; exact h2.2⟩
      obtain ⟨m, rfl⟩ : ∃ m, n = m + 1 := ⟨n - 1, by omega⟩
      rw [e2] at h1
      exact h1 rfl
  refine ⟨fun g hg' => ⟨?_, fun k hk => ?_, fun hx' i hi => ?_⟩, fun a ha => ?_, fun a b ha hb e => hs.inj (hL1 a ha) (hL1 b hb) e, hs.c60⟩
  · have hg := hL1 g hg'
    have hl := hs.lv hg
    obtain ⟨u1, u2, u3, u4, u5, u6, u7, u8⟩ := hF (φ g)
    unfold LvF
    rw [u1, u3, u5, u7, r3, r4, r6]
    refine ⟨hl.1, hl.2.1, hl.2.2.1, ?_, ?_, hl.2.2.2.2.2⟩
    · by_cases e : g = p
      · rw [e, if_pos rfl, if_pos rfl, hlp.2.2.2.1]
      · rw [if_neg (fun e2 => e (hs.inj hg hp e2)), if_neg e]; exact hl.2.2.2.1
    · by_cases e : g = p
      · rw [if_pos e]; have := hlp.2.2.2.2.1; omega
      · rw [if_neg e]; exact hl.2.2.2.2.1
  · have hg := hL1 g hg'
    have hl := hs.lv hg
    have h5 := hl.2.2.2.2.1
    rw [r4] at hk
    -- from which place it comes
    have hfrom : ∃ k', k' < rM S g ∧ ¬ (g = p ∧ k' = k0) ∧ rk S' g k = rk S g k' ∧ pA P' (φ g) k = pA P (φ g) k' ∧ ∀ j, j < k → ∃ j', j' < k' ∧ rk S' g j = rk S g j' := by
      by_cases e : g = p
      · subst e
        rw [if_pos rfl] at hk
        have hA := (hF (φ g)).2.2.2.2.2.2.2
        rw [if_pos rfl, hl.2.2.2.1] at hA
        by_cases c1 : k < k0
        · refine ⟨k, by omega, fun e => by have := e.2; omega, ?_, ?_, fun j hj => ⟨j, hj, ?_⟩⟩
          · rw [r5 g k (by omega), if_pos rfl]; unfold remG; rw [if_pos c1]
          · rw [hA]; unfold remF; rw [if_pos c1]
          · rw [r5 g j (by omega), if_pos rfl]; unfold remG; rw [if_pos (by omega)]
        · refine ⟨k + 1, by omega, fun e => by have := e.2; omega, ?_, ?_, fun j hj => ?_⟩
          · rw [r5 g k (by omega), if_pos rfl]; unfold remG; rw [if_neg c1, if_pos (by omega)]
          · rw [hA]; unfold remF; rw [if_neg c1, if_pos (by omega)]
          · by_cases c2 : j < k0
            · exact ⟨j, by omega, by rw [r5 g j (by omega), if_pos rfl]; unfold remG; rw [if_pos c2]⟩
            · exact ⟨j + 1, by omega, by rw [r5 g j (by omega), if_pos rfl]; unfold remG; rw [if_neg c2, if_pos (by omega)]⟩
      · rw [if_neg e] at hk
        refine ⟨k, hk, fun e2 => e e2.1, by rw [r5 g k (by omega), if_neg e], ?_, fun j hj => ⟨j, hj, by rw [r5 g j (by omega), if_neg e]⟩⟩
        rw [(hF (φ g)).2.2.2.2.2.2.2, if_neg (fun e2 => e (hs.inj hg hp e2))]
    obtain ⟨k', h1, h2, h3, h4, h6⟩ := hfrom
    have hk2 := hs.kx hg k' h1
    rw [r3, h3, h4]
    refine ⟨hok g k' hg h1 h2, hk2.2.1, ?_, fun j hj => ?_⟩
    · rw [(hF _).2.2.2.2.2.1, if_neg (hne g k' hg h1 h2)]; exact hk2.2.2.1
    · obtain ⟨j', q1, q2⟩ := h6 j hj
      rw [q2]; exact hk2.2.2.2 j' q1
  · have hg := hL1 g hg'
    have e : g ≠ p := fun e => hx' (e ▸ hX)
    have h5 := (hs.lv hg).2.2.2.2.1
    rw [(hF (φ g)).2.2.2.1, hs.bx hg hx' i hi, r4, if_neg e]
    by_cases z0 : rM S g = 0
    · rw [if_pos z0, if_pos z0]
    · rw [if_neg z0, if_neg z0]
      unfold hulK
      rw [r4, if_neg e, r3]
      refine hulL_cg _ (fun k hk j hj => ?_) i hi
      rw [r5 g k (by omega), if_neg e, (hF _).2.2.2.1]
  · have h1 := hs.am ha
    obtain ⟨u1, u2, u3, u4, u5, u6, u7, u8⟩ := hF (al a)
    unfold AlF
    rw [u1, u2, u3, u4, u6, r1]
    refine ⟨h1.1, h1.2.1, h1.2.2.1, h1.2.2.2.1, h1.2.2.2.2.1, ?_⟩
    by_cases e : n = 0 ∧ a = x
    · rw [r2, if_pos e, if_pos (by rw [e.1, e.2]; rfl)]
      exact Or.inl ⟨rfl, rfl⟩
    · have hax : al a ≠ kaF φ al n x := by
        intro e2
        cases n with
        | zero => exact e ⟨rfl, hs.ali ha hkx.1.1 e2⟩
        | succ n => exact hs.ne hkx.1.1 ha e2.symm
      rw [r2, if_neg e, if_neg hax]
      rcases h1.2.2.2.2.2 with h2 | h2
      · exact Or.inl h2
      · obtain ⟨d1, g, k, hg, hg0, hk, hxk⟩ := h2
        have hnek : ¬ (g = p ∧ k = k0) := by
          rintro ⟨rfl, rfl⟩
          exact e ⟨by rw [← hn]; exact hg0, by rw [← hxk]; exact hx⟩
        obtain ⟨k', q1, q2⟩ := hat g k hk (hs.lv hg).2.2.2.2.1 hnek
        refine Or.inr ⟨d1, g, k', (hL g).mpr ⟨hg, fun e1 e2 => ?_⟩, by rw [r3]; exact hg0, q1, by rw [q2]; exact hxk⟩
        have := h0 e1
        rw [e2] at hk
        omega
theorem Tp.rem (ht : Tp P S φ L t h) (hs : Sm P S φ al c L X) (hp : L p) (hk0 : k0 < rM S p) (hn : rG S p = n) (hx : rk S p k0 = x) (h0 : n ≠ 0 → rM S x = 0) (hxt : n ≠ 0 → x ≠ t) (r : RmS S S' n x p k0) (hL : LfS L L' n x) : Tp (tkP P (φ p) (kaF φ al n x) k0) S' φ L' t h := by
  have hat := fun g k => r.at (g := g) (k := k) hk0
  have hkx := hs.kx hp k0 hk0
  rw [hn, hx] at hkx
  obtain ⟨r1, r2, r3, r4, r5, r6⟩ := r
  refine ⟨(hL t).mpr ⟨ht.1, fun e1 e2 => hxt e1 e2.symm⟩, ?_, by rw [r3]; exact ht.2.2.1, fun g hg e => ?_⟩
  · rw [(tkP_f _ _ _ _ _).2.2.2.2.2.1]
    by_cases e : φ t = kaF φ al n x
    · rw [if_pos e]
    · rw [if_neg e]; exact ht.2.1
  · obtain ⟨hg1, hg2⟩ := (hL g).mp hg
    obtain ⟨u, g1, k1, v1, v2, v3, v4⟩ := ht.2.2.2 g hg1 e
    have hnek : ¬ (g1 = p ∧ k1 = k0) := by
      rintro ⟨rfl, rfl⟩
      exact hg2 (by omega) (by rw [← v4]; exact hx)
    obtain ⟨k', q1, q2⟩ := hat g1 k1 v3 (hs.lv v1).2.2.2.2.1 hnek
    refine ⟨by rw [r3]; exact u, g1, k', (hL g1).mpr ⟨v1, fun e1 e2 => ?_⟩, by rw [r3]; exact v2, q1, by rw [q2]; exact v4⟩
    have := h0 e1
    rw [e2] at v3
    omega
end
theorem rm_s {S : RS} {n x p k0 : Nat} (hn : n ≠ 0) : RmS S (rmR S p k0) n x p k0 := by
  refine ⟨rfl, fun y => by rw [if_neg (fun e => hn e.1)]; rfl, rfl, fun g => rfl, fun g k hk => ?_, rfl⟩
  show rK (blkR (uM S p (rM S p - 1)) p (remG (fun k => rK S (5 * p + k)) (rM S p) k0)) (5 * g + k) = _
  by_cases e : g = p
  · subst e; rw [if_pos rfl, blk_in hk]
  · rw [if_neg e, blk_out hk e]; rfl
theorem rm_s0 {S : RS} {a p k0 : Nat} : RmS S (uD (rmR S p k0) a 0) 0 a p k0 := by
  obtain ⟨h1, h2, h3, h4, h5, h6⟩ := rm_s (S := S) (n := 1) (x := a) (p := p) (k0 := k0) (by omega)
  have h2 : ∀ y, rD (rmR S p k0) y = rD S y := fun y => by rw [h2]; rfl
  generalize rmR S p k0 = A at *
  refine ⟨h1, fun y => ?_, h3, h4, h5, h6⟩
  show va_up (rD A) a 0 y = _
  unfold va_up
  by_cases e : y = a
  · rw [if_pos e, if_pos ⟨rfl, e⟩]
  · rw [if_neg e, if_neg (fun q => e q.2), h2]
