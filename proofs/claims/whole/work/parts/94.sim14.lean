/-! going: up the way, taking out what became empty; then the top goes down -/
def GI (P : PS) (F : FS) (S : RS) (φ al : Nat → Nat) (c : Nat) (L X : Nat → Prop) (t h : Nat) : Prop := Sm P S φ al c L X ∧ Tp P S φ L t h ∧ FF F S φ al c t ∧ rC S 4 = t ∧ rC S 1 = c ∧ Bd S c h ∧ (∀ g, L g → rM S g ≤ 4) ∧ (0 < h → 1 ≤ rM S t) ∧ ∀ a, c ≤ a → rD S a = 0
theorem Bd.rm {S S' : RS} {c h n x p k0 : Nat} (b : Bd S c h) (r : RmS S S' n x p k0) (hp : p < rC S 3) : Bd S' c h := by
  have hm := b.m
  obtain ⟨b1, b2, b3, b4, b5⟩ := b
  obtain ⟨r1, r2, r3, r4, r5, r6⟩ := r
  refine ⟨?_, by rw [r6]; exact b2, by rw [r6]; exact b3, fun g hg => ?_, b5⟩
  · have u1 := sumE_up (f := fun g => if g = p then rM S p - 1 - 3 else rM S g - 3) (g := fun g => rM S g - 3) (p := p) (fun j hj => if_neg hj) 400 (by omega)
    have u4 : sumE (fun g => rM S' g - 3) 400 = sumE (fun g => if g = p then rM S p - 1 - 3 else rM S g - 3) 400 := by
      refine sumE_c 400 (fun g hg => ?_)
      show rM S' g - 3 = _
      rw [r4]
      by_cases q1 : g = p
      · rw [if_pos q1, if_pos q1]
      · rw [if_neg q1, if_neg q1]
    simp only [if_pos] at u1
    rw [u4, r6]
    omega
  · rw [r6] at hg
    rw [r4]
    by_cases e : g = p
    · omega
    · rw [if_neg e]; exact b4 g hg
theorem gn_id {fr ps : Nat → Nat} {k : Nat} {S : RS} (h : rM S (fr k) ≠ 0) : gnR fr ps k S = S := by
  cases k with
  | zero => rfl
  | succ k => exact gn_f h
theorem go_loop {F : FS} {φ al fr ps pl : Nat → Nat} {c t h : Nat} : ∀ k (P : PS) (S : RS) (L : Nat → Prop), GI P F S φ al c L (fun g => ∃ i, i ≤ k ∧ g = fr i) t h → Way S L t h fr ps k → (∀ g, L g → g ≠ fr k → 0 < rM S g) → (0 < k → 2 ≤ rM S t) → (∀ i, i < k → pl (φ (fr (i + 1))) = ps i) → ∀ N, k + 1 ≤ N → DrI pl N P (some (φ (fr k))) ∧ ∃ L', GI (drpP pl N P (some (φ (fr k)))) F (gnR fr ps k S) φ al c L' (fun _ => False) t h ∧ ∀ g, L' g → g ≠ t → 0 < rM (gnR fr ps k S) g := by
  intro k
  induction k with
  | zero =>
    intro P S L hG hw hne h2 hpl N hN
    obtain ⟨n, rfl⟩ : ∃ n, N = n + 1 := ⟨N - 1, by omega⟩
    obtain ⟨g1, g2, g3, g4, g5, g6, g7, g8, g9⟩ := hG
    have hf := hw.2.1 0 (Nat.le_refl 0)
    have hH : pH P (φ (fr 0)) = none := by rw [hw.1]; exact g2.2.1
    constructor
    · intro f e
      obtain rfl := Option.some.inj e
      exact ⟨g1.tigI hf.1, fun ab e => by rw [hH] at e; exact absurd e (by simp)⟩
    · rw [drp_h hH]
      refine ⟨L, ⟨g1.tig hf.1 (fun g hg => ?_) (fun g hg e => ?_), g2.tig _, g3, g4, g5, g6, g7, g8, g9⟩, fun g hg e => hne g hg (by rw [hw.1]; exact e)⟩
      · obtain ⟨i, hi, e⟩ := hg
        exact Or.inr (by rw [e, show i = 0 by omega])
      · rw [hH] at e; exact absurd e (by simp)
  | succ k ih =>
    intro P S L hG hw hne h2 hpl N hN
    obtain ⟨n, rfl⟩ : ∃ n, N = n + 1 := ⟨N - 1, by omega⟩
    obtain ⟨g1, g2, g3, g4, g5, g6, g7, g8, g9⟩ := hG
    have hf := hw.2.1 (k + 1) (Nat.le_refl _)
    have hp := hw.2.1 k (by omega)
    have hwk := g1.wayK hw (i := k) (by omega)
    have hk0 := hw.2.2 k (by omega)
    have hlf := g1.lv hf.1
    have hlp := g1.lv hp.1
    have hlv : ∀ i, i ≤ k + 1 → ∀ j, j ≤ k + 1 → i ≠ j → fr i ≠ fr j := by
      intro i hi j hj hij e
      have h1 := (hw.2.1 i hi).2
      have h2 := (hw.2.1 j hj).2
      rw [e] at h1
      omega
    have hft : fr (k + 1) ≠ t := by rw [← hw.1]; exact hlv _ (by omega) _ (by omega) (by omega)
    have hpn : rG S (fr k) = rG S (fr (k + 1)) + 1 := by omega
    by_cases h0 : rM S (fr (k + 1)) = 0
    · -- it became empty
      have r := rm_s (S := S) (n := rG S (fr (k + 1)) + 1) (x := fr (k + 1)) (p := fr k) (k0 := ps k) (by omega)
      have hL : LfS L (fun g => L g ∧ g ≠ fr (k + 1)) (rG S (fr (k + 1)) + 1) (fr (k + 1)) := fun g => ⟨fun ⟨a, b⟩ => ⟨a, fun _ => b⟩, fun ⟨a, b⟩ => ⟨a, b (by omega)⟩⟩
      have k1 := g1.rem hp.1 hk0.1 hpn hk0.2 ⟨k, by omega, rfl⟩ (fun _ => h0) r hL
      have k2 := Tp.rem g2 g1 hp.1 hk0.1 hpn hk0.2 (fun _ => h0) (fun _ => hft) r hL
      have k6 := g6.rm r hlp.2.2.2.2.2
      have k9 : ∀ a, c ≤ a → rD (rmR S (fr k) (ps k)) a = 0 := fun a ha => by rw [r.2.1, if_neg (fun e => by have := e.1; omega)]; exact g9 a ha
      have hTk := g1.tkI hp.1 hk0.1 (q := φ (fr (k + 1))) (by rw [hpn, hk0.2]; rfl)
      have hplk := hpl k (by omega)
      have eS : gnR fr ps (k + 1) S = gnR fr ps k (rmR S (fr k) (ps k)) := gn_t h0
      have rC' : rC (rmR S (fr k) (ps k)) = rC S := r.2.2.2.2.2
      obtain ⟨r1, r2, r3, r4, r5, r6⟩ := r
      have k3 : FF F (rmR S (fr k) (ps k)) φ al c t := by
        obtain ⟨f1, f2, f3, f4, f5⟩ := g3
        exact ⟨f1, by rw [rC']; exact f2, f3, f4, f5⟩
      rw [eS]
      generalize rmR S (fr k) (ps k) = S' at *
      have e1 : kaF φ al (rG S (fr (k + 1)) + 1) (fr (k + 1)) = φ (fr (k + 1)) := rfl
      rw [e1] at k1 k2
      have hK := ih (tkP P (φ (fr k)) (φ (fr (k + 1))) (ps k)) S' (fun g => L g ∧ g ≠ fr (k + 1)) ⟨⟨fun g hg => ⟨k1.lv hg, k1.kx hg, fun hx => k1.bx hg (fun hx2 => ?_)⟩, k1.2⟩, k2, k3, by rw [r6]; exact g4, by rw [r6]; exact g5, k6, fun g hg => ?_, fun hh => ?_, k9⟩ ⟨hw.1, fun i hi => ⟨⟨(hw.2.1 i (by omega)).1, hlv i (by omega) _ (by omega) (by omega)⟩, by rw [r3]; exact (hw.2.1 i (by omega)).2⟩, fun i hi => ?_⟩ (fun g hg e => ?_) (fun hk => ?_) (fun i hi => hpl i (by omega)) n (by omega)
      · obtain ⟨j1, j2⟩ := hK
        constructor
        · intro f e
          obtain rfl := Option.some.inj e
          refine ⟨g1.tigI hf.1, fun ab e => ⟨fun _ => ?_, fun e2 => absurd (by rw [hlf.2.2.2.1]; exact h0) e2⟩⟩
          rw [hwk.1] at e
          obtain rfl := Option.some.inj e
          rw [hplk]
          exact ⟨hTk, j1⟩
        · rw [drp_t hwk.1 (by rw [hlf.2.2.2.1]; exact h0), hplk]
          exact j2
      · obtain ⟨i, hi, e⟩ := hx2
        by_cases ei : i = k + 1
        · subst ei; exact hg.2 e
        · exact hx ⟨i, by omega, e⟩
      · rw [r4]
        by_cases e : g = fr k
        · rw [if_pos e]; have := g7 _ hp.1; omega
        · rw [if_neg e]; exact g7 g hg.1
      · rw [r4]
        by_cases e : t = fr k
        · rw [if_pos e, ← e]; have := h2 (by omega); omega
        · rw [if_neg e]; exact g8 hh
      · rw [r4, r5 (fr i) (ps i) (by have := (hw.2.2 i (by omega)).1; have := g7 _ (hw.2.1 i (by omega)).1; omega), if_neg (hlv i (by omega) k (by omega) (by omega)), if_neg (hlv i (by omega) k (by omega) (by omega))]
        exact hw.2.2 i (by omega)
      · rw [r4, if_neg e]; exact hne g hg.1 hg.2
      · rw [r4, if_neg (by rw [← hw.1]; exact hlv 0 (by omega) k (by omega) (by omega))]; exact h2 (by omega)
    · -- it holds something yet
      have eS : gnR fr ps (k + 1) S = S := gn_f h0
      have hp0 : 0 < rM S (fr k) := hne _ hp.1 (hlv k (by omega) _ (by omega) (by omega))
      have hK := ih (tigP P (φ (fr (k + 1)))) S L ⟨g1.tig hf.1 (fun g hg => ?_) (fun g hg e => ?_), g2.tig _, g3, g4, g5, g6, g7, g8, g9⟩ ⟨hw.1, fun i hi => hw.2.1 i (by omega), fun i hi => hw.2.2 i (by omega)⟩ (fun g hg e => ?_) (fun hk => h2 (by omega)) (fun i hi => hpl i (by omega)) n (by omega)
      · obtain ⟨j1, j2⟩ := hK
        rw [gn_id (by omega)] at j2
        rw [eS]
        constructor
        · intro f e
          obtain rfl := Option.some.inj e
          refine ⟨g1.tigI hf.1, fun ab e => ⟨fun e2 => absurd (by rw [hlf.2.2.2.1] at e2; exact e2) h0, fun _ => ?_⟩⟩
          rw [hwk.1] at e
          obtain rfl := Option.some.inj e
          exact j1
        · rw [drp_f hwk.1 (by rw [hlf.2.2.2.1]; exact h0)]
          exact j2
      · obtain ⟨i, hi, e⟩ := hg
        by_cases ei : i = k + 1
        · subst ei; exact Or.inr e
        · exact Or.inl ⟨i, by omega, e⟩
      · rw [hwk.1] at e
        exact ⟨k, Nat.le_refl _, (g1.inj hp.1 hg (Option.some.inj e)).symm⟩
      · by_cases e2 : g = fr (k + 1)
        · rw [e2]; omega
        · exact hne g hg e2
theorem Sm.low {P : PS} {S : RS} {φ al : Nat → Nat} {c t x n : Nat} {L : Nat → Prop} (hs : Sm P S φ al c L (fun _ => False)) (ht : Tp P S φ L t (n + 1)) (hx : rk S t 0 = x) (h1 : rM S t = 1) : Sm (tkP P (φ t) (φ x) 0) (uC S 4 x) φ al c (fun g => L g ∧ g ≠ t) (fun _ => False) ∧ Tp (tkP P (φ t) (φ x) 0) (uC S 4 x) φ (fun g => L g ∧ g ≠ t) x n ∧ L x ∧ x ≠ t := by
  have hF := tkP_f P (φ t) (φ x) 0
  generalize tkP P (φ t) (φ x) 0 = P' at *
  have hkx := hs.kx ht.1 0 (by omega)
  rw [ht.2.2.1, hx] at hkx
  have hLx : L x := hkx.1.1
  have hxt : x ≠ t := fun e => by have h1 := hkx.1.2; rw [e, ht.2.2.1] at h1; omega
  have hnt : ∀ g, L g → g ≠ t → φ g ≠ φ t := fun g hg e e2 => e (hs.inj hg ht.1 e2)
  have hok : ∀ g k, L g → g ≠ t → k < rM S g → OkK (uC S 4 x) c (fun g => L g ∧ g ≠ t) (rG S g) (rk S g k) ∧ kaF φ al (rG S g) (rk S g k) ≠ φ x := by
    intro g k hg hgt hk
    have h2 := hs.kx hg k hk
    have h3 : kaF φ al (rG S g) (rk S g k) ≠ φ x := by
      intro e
      have e3 : pH P (φ x) = some (φ t) := hkx.2.2.1
      have := h2.2.2.1
      rw [e, e3] at this
      exact hgt (hs.inj ht.1 hg (Option.some.inj this)).symm
    refine ⟨?_, h3⟩
    have h4 := h2.1
    have h5 := h2.2.2.1
    generalize rk S g k = y at *
    generalize rG S g = j at *
    cases j with
    | zero => exact h4
    | succ j =>
      refine ⟨⟨h4.1, fun e => ?_⟩, h4.2⟩
      rw [e, show kaF φ al (j + 1) t = φ t from rfl, ht.2.1] at h5
      exact absurd h5 (by simp)
  have hM : rM (uC S 4 x) = rM S := rfl
  have hG : rG (uC S 4 x) = rG S := rfl
  have hK : rK (uC S 4 x) = rK S := rfl
  have hE : rE (uC S 4 x) = rE S := rfl
  have hD : rD (uC S 4 x) = rD S := rfl
  have hC : rC (uC S 4 x) 3 = rC S 3 := rfl
  have hrk : ∀ g k, rk (uC S 4 x) g k = rk S g k := fun g k => rfl
  generalize uC S 4 x = S' at *
  refine ⟨⟨fun g hg => ⟨?_, fun k hk => ?_, fun _ i hi => ?_⟩, fun a ha => ?_, fun a b ha hb e => hs.inj ha.1 hb.1 e, hs.c60⟩, ⟨⟨hLx, hxt⟩, ?_, by rw [hG]; exact hkx.1.2, fun g hg e => ?_⟩, hLx, hxt⟩
  · have hl := hs.lv hg.1
    obtain ⟨u1, u2, u3, u4, u5, u6, u7, u8⟩ := hF (φ g)
    unfold LvF
    rw [u1, u3, u5, u7, if_neg (hnt g hg.1 hg.2), hG, hM, hC]
    exact hl
  · rw [hM] at hk
    obtain ⟨o1, o2⟩ := hok g k hg.1 hg.2 hk
    have h2 := hs.kx hg.1 k hk
    rw [hG, hrk, (hF (φ g)).2.2.2.2.2.2.2, if_neg (hnt g hg.1 hg.2), (hF _).2.2.2.2.2.1, if_neg o2]
    exact ⟨o1, h2.2.1, h2.2.2.1, fun j hj => by rw [hrk]; exact h2.2.2.2 j hj⟩
  · rw [(hF (φ g)).2.2.2.1, hs.bx hg.1 id i hi, hM]
    by_cases z0 : rM S g = 0
    · rw [if_pos z0, if_pos z0]
    · rw [if_neg z0, if_neg z0]
      unfold hulK
      rw [hM, hG]
      refine hulL_cg _ (fun k hk j hj => ?_) i hi
      rw [hrk, (hF _).2.2.2.1]
  · have h2 := hs.am ha
    obtain ⟨u1, u2, u3, u4, u5, u6, u7, u8⟩ := hF (al a)
    unfold AlF
    rw [u1, u2, u3, u4, u6, if_neg (fun e => hs.ne hLx ha e.symm), hE, hD]
    refine ⟨h2.1, h2.2.1, h2.2.2.1, h2.2.2.2.1, h2.2.2.2.2.1, ?_⟩
    rcases h2.2.2.2.2.2 with h3 | h3
    · exact Or.inl h3
    · obtain ⟨d1, g, k, hg, hg0, hk, hxk⟩ := h3
      exact Or.inr ⟨d1, g, k, ⟨hg, fun e => by rw [e, ht.2.2.1] at hg0; omega⟩, by rw [hG]; exact hg0, by rw [hM]; exact hk, by rw [hrk]; exact hxk⟩
  · rw [(hF _).2.2.2.2.2.1, if_pos rfl]
  · obtain ⟨u, g1, k1, v1, v2, v3, v4⟩ := ht.2.2.2 g hg.1 hg.2
    have hg1t : g1 ≠ t := by
      rintro rfl
      have : k1 = 0 := by omega
      rw [this, hx] at v4
      exact e v4.symm
    have hu := (ht.2.2.2 g1 v1 hg1t).1
    exact ⟨by rw [hG]; omega, g1, k1, ⟨v1, hg1t⟩, by rw [hG]; exact v2, by rw [hM]; exact v3, by rw [hrk]; exact v4⟩
theorem lw_loop {φ al : Nat → Nat} {c : Nat} : ∀ h (P : PS) (F : FS) (S : RS) (L : Nat → Prop) (t : Nat), GI P F S φ al c L (fun _ => False) t h → (∀ g, L g → g ≠ t → 0 < rM S g) → ∀ m, h ≤ m → LwI m P F ∧ ∃ L' h', Inv (lwP m P F).1 (lwP m P F).2 (lowR h S) φ al L' h' := by
  intro h
  induction h with
  | zero =>
    intro P F S L t hG hne m hm
    obtain ⟨g1, g2, g3, g4, g5, g6, g7, g8, g9⟩ := hG
    have hl := g1.lv g2.1
    have hT : fT F = φ t := g3.2.2.1
    have hpl : pL P (fT F) = 1 := by rw [hT, hl.2.1, g2.2.2.1]
    constructor
    · cases m with
      | zero => trivial
      | succ m => exact ⟨⟨by rw [hT]; exact hl.1, by rw [hpl]; omega, by rw [hT, hl.2.2.2.1, hl.2.2.1]; exact hl.2.2.2.2.1, by rw [hT, hl.2.2.1]; omega⟩, fun e => by rw [hpl] at e; omega⟩
    · have e : lwP m P F = (P, F) := by
        cases m with
        | zero => rfl
        | succ m => exact lw_f (fun e => by have := e.1; rw [hpl] at this; omega)
      rw [e]
      refine ⟨L, 0, ?_⟩
      show Inv P F S φ al L 0
      exact ⟨by rw [g5]; exact g1, by rw [g4]; exact g2, by rw [g4, g5]; exact g3, by rw [g5]; exact g6, fun g hg => ⟨g7 g hg, fun e => hne g hg (by rw [← g4]; exact e)⟩, fun e => by omega, by rw [g5]; exact g9⟩
  | succ h ih =>
    intro P F S L t hG hne m hm
    obtain ⟨g1, g2, g3, g4, g5, g6, g7, g8, g9⟩ := hG
    have hl := g1.lv g2.1
    have hT : fT F = φ t := g3.2.2.1
    have hpl : pL P (fT F) = h + 2 := by rw [hT, hl.2.1, g2.2.2.1]
    have hpS : pS P (fT F) = rM S t := by rw [hT, hl.2.2.2.1]
    have hh := g6.h
    obtain ⟨m, rfl⟩ : ∃ n, m = n + 1 := ⟨m - 1, by omega⟩
    have hC : LwC P F := ⟨by rw [hT]; exact hl.1, by rw [hpl]; omega, by rw [hT, hl.2.2.2.1, hl.2.2.1]; exact hl.2.2.2.2.1, by rw [hT, hl.2.2.1]; omega⟩
    by_cases h1 : rM S t = 1
    · have hkq := g1.kdq g2.1 (k := 0) (by omega)
      rw [g2.2.2.1] at hkq
      have hkd : kd P (fT F) 0 = φ (rk S t 0) := by rw [hT]; exact hkq
      obtain ⟨q1, q2, q3, q4⟩ := g1.low g2 rfl h1
      have eR : lowR (h + 1) S = lowR h (uC S 4 (rk S t 0)) := by rw [low_t (by rw [g4]; exact h1), g4]; rfl
      have eW : lwP (m + 1) P F = lwP m (tkP P (φ t) (φ (rk S t 0)) 0) (sT F (φ (rk S t 0))) := by
        rw [lw_t (by rw [hpl]; omega) (by rw [hpS]; exact h1), hkd, hT]
      have hGI : GI (tkP P (φ t) (φ (rk S t 0)) 0) (sT F (φ (rk S t 0))) (uC S 4 (rk S t 0)) φ al c (fun g => L g ∧ g ≠ t) (fun _ => False) (rk S t 0) h := by
        refine ⟨q1, q2, ⟨g3.1, g3.2.1, rfl, g3.2.2.2⟩, rfl, g5, ⟨g6.1, g6.2.1, ?_, g6.2.2.2⟩, fun g hg => g7 g hg.1, fun _ => hne _ q3 q4, g9⟩
        have h3 := g6.2.2.1
        have h4 : h * (h + 1) ≤ (h + 1) * (h + 1 + 1) := Nat.mul_le_mul (by omega) (by omega)
        exact Nat.le_trans h4 h3
      obtain ⟨j1, j2⟩ := ih _ _ _ _ _ hGI (fun g hg e => hne g hg.1 hg.2) m (by omega)
      constructor
      · refine ⟨hC, fun _ _ => ⟨?_, by rw [hkd, hT]; exact j1⟩⟩
        have hk2 := g1.kids g2.1
        unfold LwK
        rw [hT]
        refine ⟨?_, ?_, hk2.ch⟩
        · exact (hk2 0 (by rw [hl.2.2.2.1]; omega)).1
        · exact (hk2 0 (by rw [hl.2.2.2.1]; omega)).2.1
      · rw [eW, eR]
        exact j2
    · have eR : lowR (h + 1) S = S := low_f (by rw [g4]; exact h1)
      have eW : lwP (m + 1) P F = (P, F) := lw_f (fun e => by have := e.2; rw [hpS] at this; exact h1 this)
      rw [eW, eR]
      constructor
      · exact ⟨hC, fun _ e => by rw [hpS] at e; exact absurd e h1⟩
      · refine ⟨L, h + 1, ?_⟩
        show Inv P F S φ al L (h + 1)
        exact ⟨by rw [g5]; exact g1, by rw [g4]; exact g2, by rw [g4, g5]; exact g3, by rw [g5]; exact g6, fun g hg => ⟨g7 g hg, fun e => hne g hg (by rw [← g4]; exact e)⟩, fun _ => by rw [g4]; have := g8 (by omega); omega, by rw [g5]; exact g9⟩
theorem gn_uD {fr ps : Nat → Nat} {a v : Nat} : ∀ k (S : RS), gnR fr ps k (uD S a v) = uD (gnR fr ps k S) a v := by
  intro k
  induction k with
  | zero => intro S; rfl
  | succ k ih =>
    intro S
    by_cases h : rM S (fr (k + 1)) = 0
    · rw [gn_t h, gn_t (show rM (uD S a v) (fr (k + 1)) = 0 from h), ← ih]; rfl
    · rw [gn_f h, gn_f (show ¬ rM (uD S a v) (fr (k + 1)) = 0 from h)]
theorem low_uD {a v : Nat} : ∀ k (S : RS), lowR k (uD S a v) = uD (lowR k S) a v := by
  intro k
  induction k with
  | zero => intro S; rfl
  | succ k ih =>
    intro S
    by_cases h : rM S (rC S 4) = 1
    · rw [low_t h, low_t (show rM (uD S a v) (rC (uD S a v) 4) = 1 from h), ← ih]; rfl
    · rw [low_f h, low_f (show ¬ rM (uD S a v) (rC (uD S a v) 4) = 1 from h)]
/-- all that going needs, and what it leaves -/
theorem Inv.left {P : PS} {F : FS} {S : RS} {φ al : Nat → Nat} {h : Nat} {L : Nat → Prop} (i : Inv P F S φ al L h) {a : Nat} (ha : a < rC S 1) (hd : rD S a = 1) : ∃ (fr ps pl : Nat → Nat) (k0 : Nat), Pth S h a fr ps ∧ fr 0 = rC S 4 ∧ pH P (al a) = some (φ (fr h)) ∧ TkI P (φ (fr h)) (al a) k0 ∧ DrI pl (h + 1) (tkP P (φ (fr h)) (al a) k0) (some (φ (fr h))) ∧ TrR (gnR fr ps h (rmR S (fr h) (ps h))) h (rC S 4) ∧ LwI 40 (drpP pl (h + 1) (tkP P (φ (fr h)) (al a) k0) (some (φ (fr h)))) F ∧ ∃ L' h', Inv (lwP 40 (drpP pl (h + 1) (tkP P (φ (fr h)) (al a) k0) (some (φ (fr h)))) F).1 (lwP 40 (drpP pl (h + 1) (tkP P (φ (fr h)) (al a) k0) (some (φ (fr h)))) F).2 (uD (lowR h (gnR fr ps h (rmR S (fr h) (ps h)))) a 0) φ al L' h' := by
  obtain ⟨fr, ps, hw, hp, hr, hPth, hf0⟩ := i.way ha hd
  obtain ⟨u1, u2, u3, u4⟩ := i.ho hw hp hr
  have hh := i.2.2.2.1.h
  have hinj : ∀ a b, a < h → b < h → a ≠ b → φ (fr (a + 1)) ≠ φ (fr (b + 1)) := by
    intro a b ha hb hab e
    have h1 := hw.2.1 (a + 1) (by omega)
    have h2 := hw.2.1 (b + 1) (by omega)
    have e2 := i.1.inj h1.1 h2.1 e
    rw [e2] at h1
    omega
  obtain ⟨pl, hpl⟩ := pl_ex (q := fun i => φ (fr (i + 1))) (ps := ps) h hinj
  have hlv : ∀ i, i ≤ h → ∀ j, j ≤ h → i ≠ j → fr i ≠ fr j := by
    intro i hi j hj hij e
    have h1 := (hw.2.1 i hi).2
    have h2 := (hw.2.1 j hj).2
    rw [e] at h1
    omega
  have r := rm_s0 (S := S) (a := a) (p := fr h) (k0 := ps h)
  have hL : LfS L L 0 a := fun g => ⟨fun e => ⟨e, fun e => absurd rfl e⟩, fun e => e.1⟩
  have k1 := Sm.rem (X := fun g => ∃ i, i ≤ h ∧ g = fr i) (S' := uD (rmR S (fr h) (ps h)) a 0) ⟨fun f hf => ⟨i.1.lv hf, i.1.kx hf, fun _ => i.1.bx hf id⟩, i.1.2⟩ u2 hp u3 hr ⟨h, Nat.le_refl h, rfl⟩ (fun e => absurd rfl e) r hL
  have k2 := Tp.rem i.2.1 i.1 u2 hp u3 hr (fun e => absurd rfl e) (fun e => absurd rfl e) r hL
  have k6 := i.2.2.2.1.rm r (i.1.lv u2).2.2.2.2.2
  obtain ⟨r1, r2, r3, r4, r5, r6⟩ := r
  have hGI : GI (tkP P (φ (fr h)) (al a) (ps h)) F (uD (rmR S (fr h) (ps h)) a 0) φ al (rC S 1) L (fun g => ∃ i, i ≤ h ∧ g = fr i) (rC S 4) h := by
    refine ⟨k1, k2, ?_, by rw [r6], by rw [r6], k6, fun g hg => ?_, fun h0 => ?_, fun b hb => ?_⟩
    · obtain ⟨f1, f2, f3, f4, f5⟩ := i.2.2.1
      exact ⟨f1, by rw [r6]; exact f2, f3, f4, f5⟩
    · rw [r4]
      have := (i.2.2.2.2.1 g hg).1
      by_cases e : g = fr h
      · rw [if_pos e, ← e]; omega
      · rw [if_neg e]; exact this
    · have := i.2.2.2.2.2.1 h0
      rw [r4]
      by_cases e : rC S 4 = fr h
      · rw [if_pos e, ← e]; omega
      · rw [if_neg e]; omega
    · rw [r2, if_neg (fun e => by have := e.2; omega)]; exact i.2.2.2.2.2.2 b hb
  obtain ⟨j1, L1, j2, j3⟩ := go_loop h _ _ _ hGI ⟨hw.1, fun j hj => ⟨(hw.2.1 j hj).1, by rw [r3]; exact (hw.2.1 j hj).2⟩, fun j hj => by
    rw [r4, r5 (fr j) (ps j) (by have := (hw.2.2 j hj).1; have := (i.2.2.2.2.1 _ (hw.2.1 j (by omega)).1).1; omega), if_neg (hlv j (by omega) h (by omega) (by omega)), if_neg (hlv j (by omega) h (by omega) (by omega))]
    exact hw.2.2 j hj⟩ (fun g hg e => by
    rw [r4, if_neg e]
    by_cases e2 : g = rC S 4
    · by_cases h0 : 0 < h
      · rw [e2]; exact i.t0 h0
      · obtain rfl : h = 0 := by omega
        exact absurd (e2.trans hw.1.symm) e
    · exact (i.2.2.2.2.1 g hg).2 e2) (fun h0 => by
    rw [r4, if_neg (by rw [← hw.1]; exact hlv 0 (by omega) h (by omega) (by omega))]
    exact i.2.2.2.2.2.1 h0) hpl (h + 1) (Nat.le_refl _)
  rw [gn_uD] at j2 j3
  obtain ⟨l1, L2, h2, l2⟩ := lw_loop h _ _ _ _ _ j2 j3 40 (by omega)
  rw [low_uD] at l2
  refine ⟨fr, ps, pl, ps h, hPth, hf0, u1, i.1.tkI u2 hp (by rw [u3, hr]; rfl), j1, ?_, l1, L2, h2, l2⟩
  have ht := j2.1.trR (by have := j2.2.2.2.2.2.1.m; omega) h (fun g hg hl => j3 g hg (fun e => by rw [e, j2.2.1.2.2.1] at hl; omega)) (rC S 4) j2.2.1.1 j2.2.1.2.2.1 (fun h0 => j2.2.2.2.2.2.2.2.1 h0)
  generalize gnR fr ps h (rmR S (fr h) (ps h)) = G at *
  exact TrR.cg (S := uD G a 0) (S' := G) rfl rfl rfl ht
