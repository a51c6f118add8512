/-- the frames of L hang below t, whose level is h -/
def Tp (P : PS) (S : RS) (φ : Nat → Nat) (L : Nat → Prop) (t h : Nat) : Prop := L t ∧ pH P (φ t) = none ∧ rG S t = h ∧ ∀ f, L f → f ≠ t → rG S f < h ∧ ∃ g k, L g ∧ rG S g = rG S f + 1 ∧ k < rM S g ∧ rk S g k = f
/-- a way down from t, n steps long -/
def Way (S : RS) (L : Nat → Prop) (t h : Nat) (fr ps : Nat → Nat) (n : Nat) : Prop := fr 0 = t ∧ (∀ i, i ≤ n → L (fr i) ∧ rG S (fr i) + i = h) ∧ ∀ i, i < n → ps i < rM S (fr i) ∧ rk S (fr i) (ps i) = fr (i + 1)
def upH (P : PS) : Nat → Nat → Option Nat
  | 0, q => some q
  | n + 1, q => (upH P n q).bind (pH P)
section
variable {P : PS} {S : RS} {φ al : Nat → Nat} {c t h : Nat} {L X : Nat → Prop}
theorem way_ex (ht : Tp P S φ L t h) : ∀ j f, L f → rG S f + j = h → ∃ fr ps, Way S L t h fr ps j ∧ fr j = f := by
  intro j
  induction j with
  | zero =>
    intro f hf hg
    have e : f = t := by
      by_cases e : f = t
      · exact e
      · have := (ht.2.2.2 f hf e).1; omega
    subst e
    exact ⟨fun _ => f, fun _ => 0, ⟨rfl, fun i hi => ⟨hf, by show rG S f + i = h; omega⟩, fun i hi => absurd hi (by omega)⟩, rfl⟩
  | succ j ih =>
    intro f hf hg
    have e : f ≠ t := by
      intro e
      have := ht.2.2.1
      rw [e] at hg
      omega
    obtain ⟨_, g, k, hg1, hg2, hk, hx⟩ := ht.2.2.2 f hf e
    obtain ⟨fr, ps, ⟨w0, w1, w2⟩, hj⟩ := ih g hg1 (by omega)
    refine ⟨va_up fr (j + 1) f, va_up ps j k, ⟨?_, ?_, ?_⟩, va_up_self _ _ _⟩
    · rw [va_up_ne _ _ (by omega)]; exact w0
    · intro i hi
      by_cases e2 : i = j + 1
      · subst e2; rw [va_up_self]; exact ⟨hf, hg⟩
      · rw [va_up_ne _ _ e2]; exact w1 i (by omega)
    · intro i hi
      by_cases e2 : i = j
      · subst e2
        rw [va_up_self, va_up_self, va_up_ne _ _ (by omega), hj]
        exact ⟨hk, hx⟩
      · rw [va_up_ne _ _ e2, va_up_ne _ _ (by omega), va_up_ne _ _ (by omega)]
        exact w2 i (by omega)
theorem Tp.le (ht : Tp P S φ L t h) {f : Nat} (hf : L f) : rG S f ≤ h := by
  by_cases e : f = t
  · rw [e, ht.2.2.1]; exact Nat.le_refl h
  · exact Nat.le_of_lt (ht.2.2.2 f hf e).1
theorem Sm.has (hs : Sm P S φ al c L X) {a : Nat} : ∀ m x, L x → rG S x = m → hasP S a m x → upH P (m + 1) (al a) = some (φ x) := by
  intro m
  induction m with
  | zero =>
    intro x hx hg hh
    obtain ⟨k, hk, e⟩ := hh
    have := (hs.kx hx k hk).2.2.1
    rw [hg, show rk S x k = a from e] at this
    exact this
  | succ m ih =>
    intro x hx hg hh
    obtain ⟨k, hk, e⟩ := hh
    have hk2 := hs.kx hx k hk
    rw [hg] at hk2
    have h1 := ih (rk S x k) hk2.1.1 hk2.1.2 e
    show (upH P (m + 1) (al a)).bind (pH P) = _
    rw [h1]
    exact hk2.2.2.1
theorem Sm.wayK (hs : Sm P S φ al c L X) {fr ps : Nat → Nat} {n : Nat} (hw : Way S L t h fr ps n) {i : Nat} (hi : i < n) : pH P (φ (fr (i + 1))) = some (φ (fr i)) ∧ pA P (φ (fr i)) (ps i) = some (φ (fr (i + 1))) := by
  obtain ⟨w0, w1, w2⟩ := hw
  have h1 := w2 i hi
  have h2 := hs.kx (w1 i (by omega)).1 (ps i) h1.1
  have e : rG S (fr i) = rG S (fr (i + 1)) + 1 := by
    have := (w1 i (by omega)).2
    have := (w1 (i + 1) (by omega)).2
    omega
  rw [e, h1.2] at h2
  exact ⟨h2.2.2.1, h2.2.1⟩
theorem Sm.pth (hs : Sm P S φ al c L X) {fr ps : Nat → Nat} {a : Nat} (hw : Way S L t h fr ps h) (h1 : ps h < rM S (fr h)) (h2 : rk S (fr h) (ps h) = a) : Pth S h a fr ps := by
  have hd : ∀ d, d ≤ h → hasP S a d (fr (h - d)) := by
    intro d
    induction d with
    | zero => intro _; exact ⟨ps h, h1, h2⟩
    | succ d ih =>
      intro hd
      have h3 := hw.2.2 (h - (d + 1)) (by omega)
      refine ⟨ps (h - (d + 1)), h3.1, ?_⟩
      have e := h3.2
      rw [show h - (d + 1) + 1 = h - d by omega] at e
      show hasP S a d (rk S _ _)
      rw [e]
      exact ih (by omega)
  refine ⟨fun i hi => ?_, h1, h2, fun k hk => ?_⟩
  · have h3 := hw.2.2 i hi
    refine ⟨h3.1, h3.2.symm, fun k hk hh => ?_⟩
    have hL := hw.2.1 i (by omega)
    have hk2 := hs.kx hL.1 k (by omega)
    have hp2 := hs.kx hL.1 (ps i) h3.1
    have e : rG S (fr i) = h - (i + 1) + 1 := by omega
    rw [e] at hk2 hp2
    have u1 := hs.has (h - (i + 1)) (rk S (fr i) k) hk2.1.1 hk2.1.2 hh
    have u2 := hs.has (h - (i + 1)) (rk S (fr i) (ps i)) hp2.1.1 hp2.1.2 (by
      rw [h3.2]
      have := hd (h - (i + 1)) (by omega)
      rw [show h - (h - (i + 1)) = i + 1 by omega] at this
      exact this)
    rw [u1] at u2
    exact hp2.2.2.2 k hk (hs.inj hk2.1.1 hp2.1.1 (Option.some.inj u2))
  · have hL := hw.2.1 h (Nat.le_refl h)
    have := (hs.kx hL.1 (ps h) h1).2.2.2 k hk
    rw [h2] at this
    exact this
theorem Sm.pA_ne (hs : Sm P S φ al c L X) {g k : Nat} (hg : L g) (hk : k < rM S g) : ∀ j, j < k → pA P (φ g) j ≠ some (kaF φ al (rG S g) (rk S g k)) := by
  intro j hj e
  have h1 := hs.kx hg j (by omega)
  have h2 := hs.kx hg k hk
  rw [h1.2.1] at e
  exact h2.2.2.2 j hj (hs.kai h1.1 h2.1 (Option.some.inj e))
theorem Sm.plc (hs : Sm P S φ al c L X) {g k : Nat} (hg : L g) (hk : k < rM S g) {pl : Nat → Nat} {q : Nat} (hq : q = kaF φ al (rG S g) (rk S g k)) (hp : pl q = k) : Plc P pl q := by
  intro hh e
  have h1 := hs.kx hg k hk
  rw [hq, h1.2.2.1] at e
  obtain rfl := (Option.some.inj e).symm
  have h2 := hs.lv hg
  rw [hp]
  refine ⟨h2.1, by rw [h2.2.2.1, h2.2.2.2.1]; exact h2.2.2.2.2.1, by rw [h2.2.2.1]; omega, by rw [h2.2.2.2.1]; exact hk, by rw [hq]; exact h1.2.1, by rw [hq]; exact hs.pA_ne hg hk⟩
theorem Sm.tkI (hs : Sm P S φ al c L X) {g k : Nat} (hg : L g) (hk : k < rM S g) {q : Nat} (hq : q = kaF φ al (rG S g) (rk S g k)) : TkI P (φ g) q k := by
  have h1 := hs.kx hg k hk
  have h2 := hs.lv hg
  subst hq
  refine ⟨h2.1, by rw [h2.2.2.1, h2.2.2.2.1]; exact h2.2.2.2.2.1, by rw [h2.2.2.1]; omega, by rw [h2.2.2.2.1]; exact hk, h1.2.1, hs.pA_ne hg hk, (hs.kids hg).ch⟩
theorem Sm.tigI (hs : Sm P S φ al c L X) {g : Nat} (hg : L g) : TigI P (φ g) := by
  have h2 := hs.lv hg
  refine ⟨h2.1, by rw [h2.2.2.1, h2.2.2.2.1]; exact h2.2.2.2.2.1, by rw [h2.2.2.1]; omega, fun k hk => ?_⟩
  have h3 := hs.kids hg k hk
  exact ⟨h3.1, h3.2.1, h3.2.2.2.2⟩
end
/-- nothing that is there changes -/
def Agr (P P' : PS) : Prop := ∀ q, pD P q = true → pD P' q = true ∧ pN P' q = pN P q ∧ pL P' q = pL P q ∧ pH P' q = pH P q ∧ pS P' q = pS P q ∧ pB P' q = pB P q ∧ pA P' q = pA P q ∧ pW P' q = pW P q
theorem Agr.nw {P : PS} {z : Nat} (hz : pD P z = false) (n : Int32) (lv : Nat) (bx : Nat → Int32) (w : Nat) : Agr P (nwP P z n lv bx w) := by
  intro q hq
  have e : q ≠ z := by intro e; rw [e, hz] at hq; exact absurd hq (by decide)
  simp [pD_nwP, pN_nwP, pL_nwP, pH_nwP, pS_nwP, pB_nwP, pA_nwP, pW_nwP, va_up, e, hq]
section
variable {P P' : PS} {S : RS} {φ al : Nat → Nat} {c t h : Nat} {L X : Nat → Prop}
theorem Sm.agr (hs : Sm P S φ al c L X) (e : Agr P P') : Sm P' S φ al c L X := by
  refine ⟨fun f hf => ⟨?_, ?_, ?_⟩, fun a ha => ?_, hs.2.2⟩
  · have h1 := hs.lv hf
    obtain ⟨e1, e2, e3, e4, e5, e6, e7, e8⟩ := e _ h1.1
    unfold LvF
    rw [e3, e5, e8]
    exact ⟨e1, h1.2⟩
  · intro k hk
    have h1 := hs.kx hf k hk
    have a1 := e _ (hs.lv hf).1
    have a2 := e _ (hs.kaD h1.1)
    rw [a1.2.2.2.2.2.2.1, a2.2.2.2.1]
    exact h1
  · intro hx i hi
    have h1 := hs.bx hf hx i hi
    rw [(e _ (hs.lv hf).1).2.2.2.2.2.1, h1]
    by_cases h0 : rM S f = 0
    · rw [if_pos h0, if_pos h0]
    · rw [if_neg h0, if_neg h0]
      refine hulL_cg _ (fun k hk j hj => ?_) i hi
      have h1 := hs.kx hf k (by omega)
      show _ = pB P' _ j
      rw [(e _ (hs.kaD h1.1)).2.2.2.2.2.1]
  · have h1 := hs.am ha
    obtain ⟨e1, e2, e3, e4, e5, e6, e7, e8⟩ := e _ h1.1
    unfold AlF
    rw [e2, e3, e4, e6]
    exact ⟨e1, h1.2⟩
theorem Tp.agr (ht : Tp P S φ L t h) (hD : pD P (φ t) = true) (e : Agr P P') : Tp P' S φ L t h := by
  refine ⟨ht.1, ?_, ht.2.2⟩
  rw [(e _ hD).2.2.2.1]; exact ht.2.1
theorem Sm.se {S' : RS} (hs : Sm P S φ al c L X) (e : SE S S') : Sm P S' φ al c L X := by
  obtain ⟨c0, e0, d0, m0, k0, g0, w0, p0, r0⟩ := S
  obtain ⟨c1, e1, d1, m1, k1, g1, w1, p1, r1⟩ := S'
  obtain ⟨q1, q2, q3, q4, q5, q6, q7, q8, q9⟩ := e
  simp only [rE, rD, rM, rK, rG] at q1 q2 q3 q4 q5
  subst q1 q2 q3 q4 q5
  refine ⟨fun f hf => ⟨?_, hs.kx hf, hs.bx hf⟩, fun a ha => hs.am ha, hs.2.2⟩
  have h1 := hs.lv hf
  exact ⟨h1.1, h1.2.1, h1.2.2.1, h1.2.2.2.1, h1.2.2.2.2.1, by rw [q8]; exact h1.2.2.2.2.2⟩
theorem Tp.se {S' : RS} (ht : Tp P S φ L t h) (e : SE S S') : Tp P S' φ L t h := by
  unfold Tp rk at *
  rw [e.2.2.1, e.2.2.2.1, e.2.2.2.2.1]
  exact ht
end
def FF (F : FS) (S : RS) (φ al : Nat → Nat) (c t : Nat) : Prop := fC F = c ∧ fS F = rC S 2 ∧ fT F = φ t ∧ (∀ a, a < c → fA F a = some (al a)) ∧ ∀ a q, fA F a = some q → a < c
def sumE (g : Nat → Nat) : Nat → Nat
  | 0 => 0
  | n + 1 => sumE g n + g n
/-- how many frames there can be, and how high they stand -/
def Bd (S : RS) (c h : Nat) : Prop := sumE (fun g => rM S g - 3) 400 + rC S 2 ≤ c ∧ rC S 3 ≤ 1 + 2 * rC S 2 ∧ h * (h + 1) ≤ 2 * rC S 2 ∧ (∀ g, rC S 3 ≤ g → rM S g = 0) ∧ c ≤ 60
theorem Bd.h {S : RS} {c h : Nat} (b : Bd S c h) : h ≤ 10 := by
  have h1 := b.1
  have h2 := b.2.2.1
  have h3 := b.2.2.2.2
  by_cases e : h ≤ 10
  · exact e
  · have : 11 * 12 ≤ h * (h + 1) := Nat.mul_le_mul (by omega) (by omega)
    omega
theorem Bd.m {S : RS} {c h : Nat} (b : Bd S c h) : rC S 3 ≤ 121 := by
  have h1 := b.1
  have h2 := b.2.1
  have h3 := b.2.2.2.2
  omega
/-- the two hold the same, between calls -/
def Inv (P : PS) (F : FS) (S : RS) (φ al : Nat → Nat) (L : Nat → Prop) (h : Nat) : Prop := Sm P S φ al (rC S 1) L (fun _ => False) ∧ Tp P S φ L (rC S 4) h ∧ FF F S φ al (rC S 1) (rC S 4) ∧ Bd S (rC S 1) h ∧ (∀ g, L g → rM S g ≤ 4 ∧ (g ≠ rC S 4 → 0 < rM S g)) ∧ (0 < h → 2 ≤ rM S (rC S 4)) ∧ ∀ a, rC S 1 ≤ a → rD S a = 0
section
variable {P P' : PS} {F : FS} {S S' : RS} {φ al : Nat → Nat} {h : Nat} {L : Nat → Prop}
theorem Inv.agr (i : Inv P F S φ al L h) (e : Agr P P') : Inv P' F S φ al L h := ⟨i.1.agr e, i.2.1.agr (i.1.lv i.2.1.1).1 e, i.2.2⟩
theorem Inv.se (i : Inv P F S φ al L h) (e : SE S S') : Inv P F S' φ al L h := by
  obtain ⟨q1, q2, q3, q4, q5, q6, q7, q8, q9⟩ := e
  have e : SE S S' := ⟨q1, q2, q3, q4, q5, q6, q7, q8, q9⟩
  refine ⟨by rw [q6]; exact i.1.se e, by rw [q9]; exact i.2.1.se e, ?_⟩
  obtain ⟨i1, i2, i3, i4, i5, i6, i7⟩ := i
  unfold FF Bd at *
  rw [q2, q3, q6, q7, q8, q9]
  exact ⟨i3, i4, i5, i6, i7⟩
theorem Inv.ne (i : Inv P F S φ al L h) : ∀ g, L g → rG S g < h → 0 < rM S g := by
  intro g hg hl
  refine (i.2.2.2.2.1 g hg).2 (fun e => ?_)
  have := i.2.1.2.2.1
  rw [← e] at this
  omega
theorem Inv.t0 (i : Inv P F S φ al L h) : 0 < h → 0 < rM S (rC S 4) := fun h0 => by have := i.2.2.2.2.2.1 h0; omega
theorem Inv.trR (i : Inv P F S φ al L h) : TrR S h (rC S 4) := i.1.trR (by have := i.2.2.2.1.m; omega) h i.ne (rC S 4) i.2.1.1 i.2.1.2.2.1 i.t0
theorem Inv.trP (i : Inv P F S φ al L h) : TrP P h (fT F) := by rw [i.2.2.1.2.2.1]; exact i.1.trP (fun g hg => (i.2.2.2.2.1 g hg).1) h i.ne (rC S 4) i.2.1.1 i.2.1.2.2.1 i.t0
theorem Inv.c60 (i : Inv P F S φ al L h) : rC S 1 ≤ 60 := i.1.c60
theorem Inv.d1 (i : Inv P F S φ al L h) : ∀ a, a < 60 → rD S a ≤ 1 := by
  intro a _
  by_cases ha : a < rC S 1
  · rcases (i.1.am ha).2.2.2.2.2 with h1 | h1
    · rw [h1.1]; omega
    · rw [h1.1]; omega
  · rw [i.2.2.2.2.2.2 a (by omega)]; omega
theorem Inv.alok (i : Inv P F S φ al L h) : Alok P F := by
  obtain ⟨f1, f2, f3, f4, f5⟩ := i.2.2.1
  refine ⟨by rw [f1]; exact i.c60, fun a q hq => ?_⟩
  have ha := f5 a q hq
  rw [f4 a ha] at hq
  rw [← Option.some.inj hq]
  exact (i.1.am ha).1
theorem Inv.alE (i : Inv P F S φ al L h) {a : Nat} (ha : a < rC S 1) : alI F (nI a) = some (al a) := by
  obtain ⟨f1, f2, f3, f4, f5⟩ := i.2.2.1
  rw [alI_n (by rw [f1]; exact ha) (by rw [f1]; exact i.c60), f4 a ha]
theorem Inv.ho1 (i : Inv P F S φ al L h) {a : Nat} (ha : a < rC S 1) (hd : rD S a = 1) : hoI P F (nI a) = some (al a) := by
  unfold hoI
  rw [i.alE ha]
  rcases (i.1.am ha).2.2.2.2.2 with h1 | h1
  · omega
  · obtain ⟨_, f, k, hf, hg, hk, hx⟩ := h1
    have := (i.1.kx hf k hk).2.2.1
    rw [hg, hx] at this
    show (match pH P (al a) with | none => none | some _ => some (al a)) = _
    rw [show pH P (al a) = some (φ f) from this]
theorem Inv.ho0 (i : Inv P F S φ al L h) {a : Nat} (ha : a < rC S 1) (hd : ¬ rD S a = 1) : hoI P F (nI a) = none := by
  unfold hoI
  rw [i.alE ha]
  rcases (i.1.am ha).2.2.2.2.2 with h1 | h1
  · show (match pH P (al a) with | none => none | some _ => some (al a)) = _
    rw [h1.2]
  · exact absurd h1.1 hd
/-- the way to an allotment that is held -/
theorem Inv.way (i : Inv P F S φ al L h) {a : Nat} (ha : a < rC S 1) (hd : rD S a = 1) : ∃ fr ps, Way S L (rC S 4) h fr ps h ∧ ps h < rM S (fr h) ∧ rk S (fr h) (ps h) = a ∧ Pth S h a fr ps ∧ fr 0 = rC S 4 := by
  rcases (i.1.am ha).2.2.2.2.2 with h1 | h1
  · omega
  · obtain ⟨_, f, k, hf, hg, hk, hx⟩ := h1
    obtain ⟨fr, ps, hw, he⟩ := way_ex i.2.1 h f hf (by omega)
    refine ⟨fr, va_up ps h k, ?_, ?_, ?_, ?_⟩
    · refine ⟨hw.1, hw.2.1, fun j hj => ?_⟩
      rw [va_up_ne _ _ (by omega)]; exact hw.2.2 j hj
    · rw [va_up_self, he]; exact hk
    · rw [va_up_self, he]; exact hx
    · refine ⟨i.1.pth ⟨hw.1, hw.2.1, fun j hj => ?_⟩ ?_ ?_, hw.1⟩
      · rw [va_up_ne _ _ (by omega)]; exact hw.2.2 j hj
      · rw [va_up_self, he]; exact hk
      · rw [va_up_self, he]; exact hx
end
