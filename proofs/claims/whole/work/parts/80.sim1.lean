/-! the two worlds hold the same: the reference's frame f is the piece φ f, its allotment a is the piece al a -/
def kaF (φ al : Nat → Nat) : Nat → Nat → Nat
  | 0, x => al x
  | _ + 1, x => φ x
def OkK (S : RS) (c : Nat) (L : Nat → Prop) : Nat → Nat → Prop
  | 0, x => x < c ∧ rD S x = 1
  | n + 1, x => L x ∧ rG S x = n
abbrev rk (S : RS) (f k : Nat) : Nat := rK S (5 * f + k)
def LvF (P : PS) (S : RS) (φ : Nat → Nat) (f : Nat) : Prop := pD P (φ f) = true ∧ pL P (φ f) = rG S f + 1 ∧ pW P (φ f) = 5 ∧ pS P (φ f) = rM S f ∧ rM S f ≤ 5 ∧ f < rC S 3
def KdF (P : PS) (S : RS) (φ al : Nat → Nat) (c : Nat) (L : Nat → Prop) (f : Nat) : Prop := ∀ k, k < rM S f → OkK S c L (rG S f) (rk S f k) ∧ pA P (φ f) k = some (kaF φ al (rG S f) (rk S f k)) ∧ pH P (kaF φ al (rG S f) (rk S f k)) = some (φ f) ∧ ∀ j, j < k → rk S f j ≠ rk S f k
def hulK (P : PS) (S : RS) (φ al : Nat → Nat) (f : Nat) : Nat → Int32 := hulL (fun k => pB P (kaF φ al (rG S f) (rk S f k))) (rM S f - 1)
def BxF (P : PS) (S : RS) (φ al : Nat → Nat) (f : Nat) : Prop := ∀ i, i < 4 → pB P (φ f) i = if rM S f = 0 then bx0 i else hulK P S φ al f i
def AlF (P : PS) (S : RS) (al : Nat → Nat) (L : Nat → Prop) (a : Nat) : Prop := pD P (al a) = true ∧ pN P (al a) = nI a ∧ pL P (al a) = 0 ∧ (∀ i, i < 4 → pB P (al a) i = rE S (4 * a + i)) ∧ isR (rE S (4 * a)) (rE S (4 * a + 1)) (rE S (4 * a + 2)) (rE S (4 * a + 3)) = true ∧ (rD S a = 0 ∧ pH P (al a) = none ∨ rD S a = 1 ∧ ∃ f k, L f ∧ rG S f = 0 ∧ k < rM S f ∧ rk S f k = a)
def Sm (P : PS) (S : RS) (φ al : Nat → Nat) (c : Nat) (L X : Nat → Prop) : Prop := (∀ f, L f → LvF P S φ f ∧ KdF P S φ al c L f ∧ (¬ X f → BxF P S φ al f)) ∧ (∀ a, a < c → AlF P S al L a) ∧ (∀ f g, L f → L g → φ f = φ g → f = g) ∧ c ≤ 60
theorem OkK.s {S : RS} {c n x : Nat} {L : Nat → Prop} (h : OkK S c L (n + 1) x) : L x ∧ rG S x = n := h
theorem OkK.z {S : RS} {c x : Nat} {L : Nat → Prop} (h : OkK S c L 0 x) : x < c ∧ rD S x = 1 := h
section
variable {P : PS} {S : RS} {φ al : Nat → Nat} {c : Nat} {L X : Nat → Prop}
theorem Sm.lv (h : Sm P S φ al c L X) {f : Nat} (hf : L f) : LvF P S φ f := (h.1 f hf).1
theorem Sm.kx (h : Sm P S φ al c L X) {f : Nat} (hf : L f) : KdF P S φ al c L f := (h.1 f hf).2.1
theorem Sm.bx (h : Sm P S φ al c L X) {f : Nat} (hf : L f) (hx : ¬ X f) : BxF P S φ al f := (h.1 f hf).2.2 hx
theorem Sm.am (h : Sm P S φ al c L X) {a : Nat} (ha : a < c) : AlF P S al L a := h.2.1 a ha
theorem Sm.inj (h : Sm P S φ al c L X) {f g : Nat} (hf : L f) (hg : L g) (e : φ f = φ g) : f = g := h.2.2.1 f g hf hg e
theorem Sm.c60 (h : Sm P S φ al c L X) : c ≤ 60 := h.2.2.2
theorem Sm.ali (h : Sm P S φ al c L X) {a b : Nat} (ha : a < c) (hb : b < c) (e : al a = al b) : a = b := by
  have h1 := (h.am ha).2.1
  have h2 := (h.am hb).2.1
  have hc := h.c60
  rw [e, h2] at h1
  exact ((nI_eq (a := b) (b := a) (by omega) (by omega)).mp h1).symm
theorem Sm.ne (h : Sm P S φ al c L X) {f a : Nat} (hf : L f) (ha : a < c) : φ f ≠ al a := by
  intro e
  have h1 := (h.lv hf).2.1
  rw [e, (h.am ha).2.2.1] at h1
  omega
theorem Sm.kaD (h : Sm P S φ al c L X) {n x : Nat} (hx : OkK S c L n x) : pD P (kaF φ al n x) = true := by
  cases n with
  | zero => exact (h.am hx.1).1
  | succ n => exact (h.lv hx.1).1
theorem Sm.kaL (h : Sm P S φ al c L X) {n x : Nat} (hx : OkK S c L n x) : pL P (kaF φ al n x) = n := by
  cases n with
  | zero => exact (h.am hx.1).2.2.1
  | succ n => rw [show kaF φ al (n + 1) x = φ x from rfl, (h.lv hx.1).2.1, hx.2]
theorem Sm.kai (h : Sm P S φ al c L X) {n x y : Nat} (hx : OkK S c L n x) (hy : OkK S c L n y) (e : kaF φ al n x = kaF φ al n y) : x = y := by
  cases n with
  | zero => exact h.ali hx.1 hy.1 e
  | succ n => exact h.inj hx.1 hy.1 e
theorem Sm.kdq (h : Sm P S φ al c L X) {f k : Nat} (hf : L f) (hk : k < rM S f) : kd P (φ f) k = kaF φ al (rG S f) (rk S f k) := by
  show (pA P (φ f) k).getD 0 = _
  rw [((h.kx hf) k hk).2.1]; rfl
theorem Sm.kids (h : Sm P S φ al c L X) {f : Nat} (hf : L f) : Kids P (pA P (φ f)) (pS P (φ f)) (fun c => pH P c = some (φ f) ∧ pL P c = rG S f ∧ c ≠ φ f) := by
  intro k hk
  rw [(h.lv hf).2.2.2.1] at hk
  obtain ⟨h1, h2, h3, h4⟩ := (h.kx hf) k hk
  rw [h2]
  refine ⟨rfl, h.kaD h1, h3, h.kaL h1, fun e => ?_⟩
  have a1 := h.kaL h1
  have a2 := (h.lv hf).2.1
  have e' : kaF φ al (rG S f) (rk S f k) = φ f := e
  rw [e'] at a1
  omega
end
theorem hulL_cg {g g' : Nat → Nat → Int32} : ∀ m, (∀ k, k ≤ m → ∀ i, i < 4 → g k i = g' k i) → ∀ i, i < 4 → hulL g m i = hulL g' m i := by
  intro m
  induction m with
  | zero => intro h i hi; exact h 0 (Nat.le_refl 0) i hi
  | succ m ih =>
    intro h i hi
    show hulB _ _ i = hulB _ _ i
    unfold hulB
    rw [ih (fun k hk => h k (by omega)) i hi, h (m + 1) (Nat.le_refl _) i hi]
section
variable {P : PS} {S : RS} {φ al : Nat → Nat} {c : Nat} {L X : Nat → Prop}
/-- a piece's box is the hedge that the reference works out -/
theorem Sm.ed (h : Sm P S φ al c L X) : ∀ n, (∀ g, L g → rG S g < n → ¬ X g ∧ 0 < rM S g) → ∀ x, OkK S c L n x → ∀ i, i < 4 → pB P (kaF φ al n x) i = kidE S n x i := by
  intro n
  induction n with
  | zero => intro _ x hx i hi; exact (h.am hx.1).2.2.2.1 i hi
  | succ n ih =>
    intro hg x hx i hi
    obtain ⟨hL, hn⟩ := hx
    have hx2 := hg x hL (by omega)
    show pB P (φ x) i = edR S n x i
    rw [edR_eq, h.bx hL hx2.1 i hi, if_neg (by omega)]
    unfold hulK
    rw [hn]
    refine hulL_cg _ (fun k hk j hj => ?_) i hi
    have hk2 := (h.kx hL k (by omega)).1
    rw [hn] at hk2
    exact ih (fun g hg1 hg2 => hg g hg1 (by omega)) _ hk2 j hj
theorem Sm.trR (h : Sm P S φ al c L X) (h3 : rC S 3 ≤ 400) : ∀ n, (∀ g, L g → rG S g < n → 0 < rM S g) → ∀ f, L f → rG S f = n → (0 < n → 0 < rM S f) → TrR S n f := by
  intro n
  induction n with
  | zero =>
    intro _ f hf hn _
    have h1 := h.lv hf
    refine ⟨by have := h1.2.2.2.2.2; omega, hn, h1.2.2.2.2.1, fun k hk => ?_⟩
    have := (h.kx hf k hk).1
    rw [hn] at this
    have := this.1
    have := h.c60
    show rk S f k < 60
    omega
  | succ n ih =>
    intro hg f hf hn h0
    have h1 := h.lv hf
    refine ⟨by have := h1.2.2.2.2.2; omega, hn, ⟨h1.2.2.2.2.1, h0 (by omega)⟩, fun k hk => ?_⟩
    have hk2 := (h.kx hf k hk).1
    rw [hn] at hk2
    have h2 : 0 < rM S (rk S f k) := hg _ hk2.1 (by have := hk2.2; omega)
    exact ⟨ih (fun g hg1 hg2 => hg g hg1 (by omega)) _ hk2.1 hk2.2 (fun _ => h2), h2⟩
theorem Sm.trP (h : Sm P S φ al c L X) (h4 : ∀ g, L g → rM S g ≤ 4) : ∀ n, (∀ g, L g → rG S g < n → 0 < rM S g) → ∀ f, L f → rG S f = n → (0 < n → 0 < rM S f) → TrP P n (φ f) := by
  intro n
  induction n with
  | zero =>
    intro _ f hf hn _
    have h1 := h.lv hf
    refine ⟨h1.1, by rw [h1.2.1, hn], h1.2.2.1, by rw [h1.2.2.2.1]; exact h4 f hf, fun k hk => ?_⟩
    have h2 := h.kids hf k hk
    exact ⟨h2.1, h2.2.1, by show pL P _ = 0; rw [h2.2.2.2.1, hn]⟩
  | succ n ih =>
    intro hg f hf hn h0
    have h1 := h.lv hf
    refine ⟨h1.1, by rw [h1.2.1, hn], h1.2.2.1, ⟨by rw [h1.2.2.2.1]; exact h4 f hf, by rw [h1.2.2.2.1]; exact h0 (by omega)⟩, fun k hk => ?_⟩
    have h2 := h.kids hf k hk
    refine ⟨h2.1, h2.2.1, ?_⟩
    rw [h1.2.2.2.1] at hk
    have hk2 := (h.kx hf k hk).1
    rw [hn] at hk2
    rw [show (pA P (φ f) k).getD 0 = kaF φ al (rG S f) (rk S f k) from h.kdq hf hk, hn]
    exact ih (fun g hg1 hg2 => hg g hg1 (by omega)) _ hk2.1 hk2.2 (fun _ => hg _ hk2.1 (by have := hk2.2; omega))
end
/-- boxes with edges in their order, on the board -/
def VB (b : Nat → Int32) : Prop := ∃ a0 a1 a2 a3 : Nat, a0 ≤ a2 ∧ a2 ≤ 99 ∧ a1 ≤ a3 ∧ a3 ≤ 99 ∧ b 0 = nI a0 ∧ b 1 = nI a1 ∧ b 2 = nI a2 ∧ b 3 = nI a3
theorem i32_nat {x : Int32} (h0 : 0 ≤ x) (h1 : x ≤ 99) : ∃ n, n ≤ 99 ∧ x = nI n := by
  refine ⟨x.toNatClampNeg, ?_, ?_⟩
  · have a1 := Int32.le_iff_toInt_le.mp h0
    have a2 := Int32.le_iff_toInt_le.mp h1
    have e0 : (0 : Int32).toInt = 0 := by decide
    have e1 : (99 : Int32).toInt = 99 := by decide
    rw [e0] at a1; rw [e1] at a2
    show x.toInt.toNat ≤ 99
    omega
  · have a1 := Int32.le_iff_toInt_le.mp h0
    have e0 : (0 : Int32).toInt = 0 := by decide
    rw [e0] at a1
    apply Int32.toInt_inj.mp
    have a2 := Int32.le_iff_toInt_le.mp h1
    have e1 : (99 : Int32).toInt = 99 := by decide
    rw [e1] at a2
    show x.toInt = (Int32.ofNat x.toInt.toNat).toInt
    rw [Int32.toInt_ofNat_of_lt (by omega)]
    omega
theorem isR_nat {a b c d : Int32} (h : isR a b c d = true) : ∃ a0 a1 a2 a3 : Nat, a0 ≤ a2 ∧ a2 ≤ 99 ∧ a1 ≤ a3 ∧ a3 ≤ 99 ∧ a = nI a0 ∧ b = nI a1 ∧ c = nI a2 ∧ d = nI a3 := by
  unfold isR at h
  simp only [Bool.and_eq_true, decide_eq_true_eq] at h
  obtain ⟨h1, h2, h3, h4, h5, h6⟩ := h
  obtain ⟨a2, u2, rfl⟩ := i32_nat (Int32.le_trans h1 h5) h3
  obtain ⟨a3, u3, rfl⟩ := i32_nat (Int32.le_trans h2 h6) h4
  obtain ⟨a0, u0, rfl⟩ := i32_nat h1 (Int32.le_trans h5 h3)
  obtain ⟨a1, u1, rfl⟩ := i32_nat h2 (Int32.le_trans h6 h4)
  exact ⟨a0, a1, a2, a3, (nI_leI (by omega) (by omega)).mp h5, u2, (nI_leI (by omega) (by omega)).mp h6, u3, rfl, rfl, rfl, rfl⟩
theorem minI_n {a b : Nat} (ha : a ≤ 99) (hb : b ≤ 99) : minI (nI a) (nI b) = nI (min a b) := by
  unfold minI
  by_cases h : b < a
  · rw [if_pos ((nI_ltI (by omega) (by omega)).mpr h), Nat.min_eq_right (by omega)]
  · rw [if_neg (fun e => h ((nI_ltI (by omega) (by omega)).mp e)), Nat.min_eq_left (by omega)]
theorem maxI_n {a b : Nat} (ha : a ≤ 99) (hb : b ≤ 99) : maxI (nI a) (nI b) = nI (max a b) := by
  unfold maxI
  by_cases h : a < b
  · rw [if_pos ((nI_ltI (by omega) (by omega)).mpr h), Nat.max_eq_right (by omega)]
  · rw [if_neg (fun e => h ((nI_ltI (by omega) (by omega)).mp e)), Nat.max_eq_left (by omega)]
theorem VB.hul {h r : Nat → Int32} (hh : VB h) (hr : VB r) : VB (hulB h r) := by
  obtain ⟨a0, a1, a2, a3, q1, q2, q3, q4, e0, e1, e2, e3⟩ := hh
  obtain ⟨b0, b1, b2, b3, p1, p2, p3, p4, d0, d1, d2, d3⟩ := hr
  refine ⟨min a0 b0, min a1 b1, max a2 b2, max a3 b3, by omega, by omega, by omega, by omega, ?_, ?_, ?_, ?_⟩
  · show minI (h 0) (r 0) = _; rw [e0, d0]; exact minI_n (by omega) (by omega)
  · show minI (h 1) (r 1) = _; rw [e1, d1]; exact minI_n (by omega) (by omega)
  · show maxI (h 2) (r 2) = _; rw [e2, d2]; exact maxI_n (by omega) (by omega)
  · show maxI (h 3) (r 3) = _; rw [e3, d3]; exact maxI_n (by omega) (by omega)
theorem VB.hulL {g : Nat → Nat → Int32} : ∀ m, (∀ k, k ≤ m → VB (g k)) → VB (hulL g m) := by
  intro m
  induction m with
  | zero => intro h; exact h 0 (Nat.le_refl 0)
  | succ m ih => intro h; exact VB.hul (ih (fun k hk => h k (by omega))) (h (m + 1) (Nat.le_refl _))
theorem VB.cg {b b' : Nat → Int32} (h : VB b) (e : ∀ i, i < 4 → b' i = b i) : VB b' := by
  obtain ⟨a0, a1, a2, a3, q1, q2, q3, q4, e0, e1, e2, e3⟩ := h
  exact ⟨a0, a1, a2, a3, q1, q2, q3, q4, by rw [e 0 (by omega), e0], by rw [e 1 (by omega), e1], by rw [e 2 (by omega), e2], by rw [e 3 (by omega), e3]⟩
theorem Sm.vb {P : PS} {S : RS} {φ al : Nat → Nat} {c : Nat} {L X : Nat → Prop} (h : Sm P S φ al c L X) : ∀ n, (∀ g, L g → rG S g < n → 0 < rM S g) → ∀ x, OkK S c L n x → VB (kidE S n x) := by
  intro n
  induction n with
  | zero =>
    intro _ x hx
    exact isR_nat (h.am hx.1).2.2.2.2.1
  | succ n ih =>
    intro hg x hx
    obtain ⟨hL, hn⟩ := hx
    show VB (edR S n x)
    rw [edR_eq]
    have h0 := hg x hL (by omega)
    refine VB.hulL _ (fun k hk => ?_)
    have hk2 := (h.kx hL k (by omega)).1
    rw [hn] at hk2
    exact ih (fun g hg1 hg2 => hg g hg1 (by omega)) _ hk2
theorem nI_sub' {a b : Nat} (h : b ≤ a) : nI a - nI b = nI (a - b) := by
  have e : nI a = nI (a - b) + nI b := by rw [nI_add]; congr 1; omega
  rw [e]
  exact Int32.add_sub_cancel _ _
theorem areaI_n {a0 a1 a2 a3 : Nat} (h1 : a0 ≤ a2) (h2 : a1 ≤ a3) : areaI (nI a0) (nI a1) (nI a2) (nI a3) = nI ((a2 - a0 + 1) * (a3 - a1 + 1)) := by
  unfold areaI
  rw [nI_sub' h1, nI_sub' h2, nI_1, nI_1, pk_mul]
theorem area_b {a0 a1 a2 a3 : Nat} (h1 : a0 ≤ a2) (h2 : a2 ≤ 99) (h3 : a1 ≤ a3) (h4 : a3 ≤ 99) : 0 < (a2 - a0 + 1) * (a3 - a1 + 1) ∧ (a2 - a0 + 1) * (a3 - a1 + 1) ≤ 10000 := by
  constructor
  · exact Nat.mul_pos (by omega) (by omega)
  · exact Nat.mul_le_mul (show a2 - a0 + 1 ≤ 100 by omega) (show a3 - a1 + 1 ≤ 100 by omega)
theorem VB.ar {b : Nat → Int32} (h : VB b) : ∃ n, areaI (b 0) (b 1) (b 2) (b 3) = nI n ∧ 0 < n ∧ n ≤ 10000 := by
  obtain ⟨a0, a1, a2, a3, q1, q2, q3, q4, e0, e1, e2, e3⟩ := h
  rw [e0, e1, e2, e3, areaI_n q1 q3]
  exact ⟨_, rfl, area_b q1 q2 q3 q4⟩
theorem VB.ar0 {b : Nat → Int32} (h : VB b) : areaI (b 0) (b 1) (b 2) (b 3) ≠ 0 := by
  obtain ⟨n, e, h1, h2⟩ := h.ar
  rw [e]
  intro e2
  have := (nI_eq (a := n) (b := 0) (by omega) (by omega)).mp e2
  omega
theorem VB.gr {b r : Nat → Int32} (h : VB b) (hr : VB r) : ∃ n, growI b r = nI n ∧ n ≤ 10000 := by
  have hh : VB (hulB b r) := VB.hul h hr
  obtain ⟨a0, a1, a2, a3, q1, q2, q3, q4, e0, e1, e2, e3⟩ := h
  obtain ⟨b0, b1, b2, b3, p1, p2, p3, p4, d0, d1, d2, d3⟩ := hr
  unfold growI
  rw [e0, e1, e2, e3, d0, d1, d2, d3, minI_n (by omega) (by omega), minI_n (by omega) (by omega), maxI_n (by omega) (by omega), maxI_n (by omega) (by omega), areaI_n (by omega) (by omega), areaI_n q1 q3]
  have hb := area_b (a0 := min a0 b0) (a1 := min a1 b1) (a2 := max a2 b2) (a3 := max a3 b3) (by omega) (by omega) (by omega) (by omega)
  have hm : (a2 - a0 + 1) * (a3 - a1 + 1) ≤ (max a2 b2 - min a0 b0 + 1) * (max a3 b3 - min a1 b1 + 1) := Nat.mul_le_mul (by omega) (by omega)
  rw [nI_sub' hm]
  exact ⟨_, rfl, by omega⟩
theorem lt_sub {a b : Nat} (ha : a ≤ 10000) (hb : b ≤ 10000) : (nI a - nI b < 0 ↔ nI a < nI b) ∧ (nI a - nI b = 0 ↔ nI a = nI b) := by
  have e : (nI a).toInt = a := Int32.toInt_ofNat_of_lt (by omega)
  have e2 : (nI b).toInt = b := Int32.toInt_ofNat_of_lt (by omega)
  have e3 : (nI a - nI b).toInt = (a : Int) - b := by
    rw [Int32.toInt_sub, e, e2]
    rw [Int.bmod_eq_of_le (by omega) (by omega)]
  constructor
  · rw [Int32.lt_iff_toInt_lt, Int32.lt_iff_toInt_lt, e3, e, e2, show (0 : Int32).toInt = 0 by decide]; omega
  · rw [← Int32.toInt_inj, ← Int32.toInt_inj, e3, e, e2, show (0 : Int32).toInt = 0 by decide]; omega
