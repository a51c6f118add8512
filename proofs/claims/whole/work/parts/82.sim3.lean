/-! the answers to questions are the same -/
theorem sumA_c {f g : Nat → Int32} : ∀ {z : Int32} n, (∀ k, k < n → f k = g k) → sumA z f n = sumA z g n := by
  intro z n
  induction n with
  | zero => intro _; rfl
  | succ n ih =>
    intro h
    show sumA z f n + f n = sumA z g n + g n
    rw [ih (fun k hk => h k (by omega)), h n (by omega)]
theorem iterL_c {f g : Nat → Int64 → Int64} : ∀ {z : Int64} n, (∀ k, k < n → ∀ d, f k d = g k d) → iterL f z n = iterL g z n := by
  intro z n
  induction n with
  | zero => intro _; rfl
  | succ n ih =>
    intro h
    rw [iterL_s, iterL_s, ih (fun k hk => h k (by omega)), h n (by omega)]
theorem grow_cg {b b' r r' : Nat → Int32} (hb : ∀ i, i < 4 → b i = b' i) (hr : ∀ i, i < 4 → r i = r' i) : growI b r = growI b' r' := by
  unfold growI
  rw [hb 0 (by omega), hb 1 (by omega), hb 2 (by omega), hb 3 (by omega), hr 0 (by omega), hr 1 (by omega), hr 2 (by omega), hr 3 (by omega)]
section
variable {P : PS} {F : FS} {S : RS} {φ al : Nat → Nat} {h : Nat} {L : Nat → Prop}
theorem Inv.ed (i : Inv P F S φ al L h) {n x : Nat} (hn : n ≤ h) (hx : OkK S (rC S 1) L n x) : ∀ j, j < 4 → pB P (kaF φ al n x) j = kidE S n x j :=
  i.1.ed n (fun g hg hl => ⟨id, i.ne g hg (by omega)⟩) x hx
theorem Inv.bx (i : Inv P F S φ al L h) {f : Nat} (hf : L f) : ∀ j, j < 4 → pB P (φ f) j = if rM S f = 0 then bx0 j else edR S (rG S f) f j := by
  intro j hj
  rw [i.1.bx hf id j hj]
  by_cases h0 : rM S f = 0
  · rw [if_pos h0, if_pos h0]
  · rw [if_neg h0, if_neg h0, edR_eq]
    refine hulL_cg _ (fun k hk m hm => ?_) j hj
    exact i.ed (i.2.1.le hf) (i.1.kx hf k (by omega)).1 m hm
theorem Inv.bx1 (i : Inv P F S φ al L h) {f : Nat} (hf : L f) (h0 : 0 < rM S f) : ∀ j, j < 4 → pB P (φ f) j = edR S (rG S f) f j := by
  intro j hj
  rw [i.bx hf j hj, if_neg (by omega)]
theorem Inv.vbE (i : Inv P F S φ al L h) {f : Nat} (hf : L f) (h0 : 0 < rM S f) : VB (edR S (rG S f) f) := by
  rw [edR_eq]
  refine VB.hulL _ (fun k hk => ?_)
  exact i.1.vb (rG S f) (fun g hg hl => i.ne g hg (by have := i.2.1.le hf; omega)) _ (i.1.kx hf k (by omega)).1
theorem Inv.ar (i : Inv P F S φ al L h) {f : Nat} (hf : L f) : arB P (φ f) = arR S (rG S f) f := by
  unfold arR
  have hb := i.bx hf
  by_cases h0 : rM S f = 0
  · rw [if_pos h0]
    have e : ∀ j, j < 4 → pB P (φ f) j = bx0 j := fun j hj => by rw [hb j hj, if_pos h0]
    show areaI (pB P (φ f) 0) (pB P (φ f) 1) (pB P (φ f) 2) (pB P (φ f) 3) = 0
    rw [e 0 (by omega), e 1 (by omega), e 2 (by omega), e 3 (by omega)]
    decide
  · rw [if_neg h0]
    have e : ∀ j, j < 4 → pB P (φ f) j = edR S (rG S f) f j := fun j hj => by rw [hb j hj, if_neg h0]
    show areaI (pB P (φ f) 0) (pB P (φ f) 1) (pB P (φ f) 2) (pB P (φ f) 3) = _
    rw [e 0 (by omega), e 1 (by omega), e 2 (by omega), e 3 (by omega)]
theorem Inv.gr (i : Inv P F S φ al L h) {r f : Nat} (hr : ∀ j, j < 4 → pB P r j = rR S j) (hf : L f) : grB P (φ f) r = gwR S (rG S f) f := by
  unfold grB gwR
  rw [i.ar hf]
  unfold arR
  by_cases h0 : rM S f = 0
  · rw [if_pos h0, if_pos rfl, if_pos h0]
    show areaI (pB P r 0) (pB P r 1) (pB P r 2) (pB P r 3) = rctA S
    rw [hr 0 (by omega), hr 1 (by omega), hr 2 (by omega), hr 3 (by omega)]
    rfl
  · rw [if_neg h0, if_neg (i.vbE hf (by omega)).ar0, if_neg h0]
    exact grow_cg (i.bx1 hf (by omega)) hr
theorem Inv.gwn (i : Inv P F S φ al L h) (hv : VB (rR S)) {f : Nat} (hf : L f) : ∃ n, gwR S (rG S f) f = nI n ∧ n ≤ 10000 := by
  unfold gwR
  by_cases h0 : rM S f = 0
  · rw [if_pos h0]
    obtain ⟨n, e, _, h2⟩ := hv.ar
    exact ⟨n, e, h2⟩
  · rw [if_neg h0]
    exact (i.vbE hf (by omega)).gr hv
theorem Inv.kid1 (i : Inv P F S φ al L h) {f n k : Nat} (hf : L f) (hn : rG S f = n + 1) (hk : k < rM S f) : kd P (φ f) k = φ (rk S f k) ∧ L (rk S f k) ∧ rG S (rk S f k) = n ∧ 0 < rM S (rk S f k) := by
  have h1 := i.1.kx hf k hk
  have h2 := i.1.kdq hf hk
  rw [hn] at h1 h2
  refine ⟨h2, h1.1.1, h1.1.2, i.ne _ h1.1.1 ?_⟩
  have h3 := h1.1.2
  have h4 := i.2.1.le hf
  omega
theorem Inv.kid0 (i : Inv P F S φ al L h) {f k : Nat} (hf : L f) (hn : rG S f = 0) (hk : k < rM S f) : kd P (φ f) k = al (rk S f k) ∧ rk S f k < rC S 1 ∧ rD S (rk S f k) = 1 := by
  have h1 := i.1.kx hf k hk
  have h2 := i.1.kdq hf hk
  rw [hn] at h1 h2
  exact ⟨h2, h1.1⟩
theorem Inv.bet (i : Inv P F S φ al L h) {r x y n : Nat} (hr : ∀ j, j < 4 → pB P r j = rR S j) (hv : VB (rR S)) (hx : L x) (hy : L y) (gx : rG S x = n) (gy : rG S y = n) : betB P r (φ x) (φ y) = btR S n x y := by
  unfold betB btR
  rw [i.gr hr hx, i.gr hr hy, i.ar hx, i.ar hy, gx, gy]
  obtain ⟨a, ea, ha⟩ := i.gwn hv hx
  obtain ⟨b, eb, hb⟩ := i.gwn hv hy
  rw [gx] at ea
  rw [gy] at eb
  rw [ea, eb]
  have hl := lt_sub ha hb
  rw [decide_eq_decide.mpr hl.1, decide_eq_decide.mpr hl.2]
theorem Inv.bst (i : Inv P F S φ al L h) {r f n : Nat} (hr : ∀ j, j < 4 → pB P r j = rR S j) (hv : VB (rR S)) (hf : L f) (hn : rG S f = n + 1) : ∀ k, k < rM S f → bstP P (φ f) r k = bstR S n f k := by
  intro k
  induction k with
  | zero => intro _; rfl
  | succ k ih =>
    intro hk
    have hb := bstR_le S n f k
    have k1 := i.kid1 hf hn hk
    have k2 := i.kid1 hf hn (k := bstR S n f k) (by omega)
    unfold bstP bstR
    rw [ih (by omega), k1.1, k2.1, i.bet hr hv k1.2.1 k2.2.1 k1.2.2.1 k2.2.2.1]
/-- the way down to where a rectangle would come -/
theorem Inv.go (i : Inv P F S φ al L h) : Way S L (rC S 4) h (pthR S h (rC S 4)) (plcR S h (rC S 4)) h := by
  have hp : ∀ j, j ≤ h → L (pthR S h (rC S 4) j) ∧ rG S (pthR S h (rC S 4) j) + j = h := by
    intro j
    induction j with
    | zero => intro _; exact ⟨i.2.1.1, by rw [show pthR S h (rC S 4) 0 = rC S 4 from rfl, i.2.1.2.2.1]; omega⟩
    | succ j ih =>
      intro hj
      obtain ⟨h1, h2⟩ := ih (by omega)
      have hb := bstR_le S (h - (j + 1)) (pthR S h (rC S 4) j) (rM S (pthR S h (rC S 4) j) - 1)
      have hm : 0 < rM S (pthR S h (rC S 4) j) := by
        by_cases e : pthR S h (rC S 4) j = rC S 4
        · rw [e]; exact i.t0 (by omega)
        · exact (i.2.2.2.2.1 _ h1).2 e
      have k1 := i.kid1 (n := h - (j + 1)) h1 (by omega) (k := bstR S (h - (j + 1)) (pthR S h (rC S 4) j) (rM S (pthR S h (rC S 4) j) - 1)) (by omega)
      refine ⟨k1.2.1, ?_⟩
      have := k1.2.2.1
      show rG S (rk S _ _) + (j + 1) = h
      omega
  refine ⟨rfl, hp, fun j hj => ⟨?_, rfl⟩⟩
  have hb := bstR_le S (h - (j + 1)) (pthR S h (rC S 4) j) (rM S (pthR S h (rC S 4) j) - 1)
  obtain ⟨h1, h2⟩ := hp j (by omega)
  have hm : 0 < rM S (pthR S h (rC S 4) j) := by
    by_cases e : pthR S h (rC S 4) j = rC S 4
    · rw [e]; exact i.t0 (by omega)
    · exact (i.2.2.2.2.1 _ h1).2 e
  show bstR S (h - (j + 1)) (pthR S h (rC S 4) j) (rM S (pthR S h (rC S 4) j) - 1) < _
  omega
theorem Inv.ff (i : Inv P F S φ al L h) {r : Nat} (hr : ∀ j, j < 4 → pB P r j = rR S j) (hv : VB (rR S)) : ffP P r h (fT F) = φ (pthR S h (rC S 4) h) := by
  have hw := i.go
  have hs : ∀ j, j ≤ h → ffP P r h (fT F) = ffP P r (h - j) (φ (pthR S h (rC S 4) j)) := by
    intro j
    induction j with
    | zero => intro _; rw [i.2.2.1.2.2.1]; rfl
    | succ j ih =>
      intro hj
      rw [ih (by omega), show h - j = h - (j + 1) + 1 by omega]
      have h1 := hw.2.1 j (by omega)
      have h2 := hw.2.2 j (by omega)
      have hn : rG S (pthR S h (rC S 4) j) = h - (j + 1) + 1 := by omega
      show ffP P r (h - (j + 1)) (kd P _ (bstP P _ r (pS P _ - 1))) = _
      rw [(i.1.lv h1.1).2.2.2.1, i.bst hr hv h1.1 hn _ (by omega)]
      exact congrArg (ffP P r (h - (j + 1))) (i.kid1 h1.1 hn h2.1).1
  rw [hs h (Nat.le_refl h), Nat.sub_self]
  rfl
theorem Inv.lk (i : Inv P F S φ al L h) {r : Nat} (hr : ∀ j, j < 4 → pB P r j = rR S j) : ∀ n f, L f → rG S f = n → lkP P r n (φ f) = lkR S n f := by
  intro n
  induction n with
  | zero => intro f _ _; rfl
  | succ n ih =>
    intro f hf hn
    show sumA 1 _ (pS P (φ f)) = sumA 1 _ (rM S f)
    rw [(i.1.lv hf).2.2.2.1]
    refine sumA_c _ (fun k hk => ?_)
    have k1 := i.kid1 hf hn hk
    have hb := i.bx1 k1.2.1 k1.2.2.2
    rw [k1.2.2.1] at hb
    have e : mtB P (φ (rk S f k)) r = mtR S (edR S n (rk S f k)) := by
      show meetI _ _ _ _ _ _ _ _ = meetI _ _ _ _ _ _ _ _
      rw [hb 0 (by omega), hb 1 (by omega), hb 2 (by omega), hb 3 (by omega), hr 0 (by omega), hr 1 (by omega), hr 2 (by omega), hr 3 (by omega)]
    show (if mtB P (kd P (φ f) k) r then lkP P r n (kd P (φ f) k) else 0) = if mtR S (edR S n (rk S f k)) then lkR S n (rk S f k) else 0
    rw [k1.1, e, ih _ k1.2.1 k1.2.2.1]
theorem Inv.ab (i : Inv P F S φ al L h) {a : Nat} (ha : a < rC S 1) : ∀ j, j < 4 → pB P (al a) j = rE S (4 * a + j) := (i.1.am ha).2.2.2.1
theorem Inv.htmE (i : Inv P F S φ al L h) {r : Nat} (hr : ∀ j, j < 4 → pB P r j = rR S j) : ∀ a, a < rC S 1 → htm P F r a = mta S a := by
  intro a ha
  by_cases hd : rD S a = 1
  · rw [htm_s (i.ho1 ha hd), mta_s hd]
    congr 1
    have hb := i.ab ha
    show meetI _ _ _ _ _ _ _ _ = meetI _ _ _ _ _ _ _ _
    rw [hb 0 (by omega), hb 1 (by omega), hb 2 (by omega), hb 3 (by omega), hr 0 (by omega), hr 1 (by omega), hr 2 (by omega), hr 3 (by omega)]
  · rw [htm_n (i.ho0 ha hd), mta_n hd]
theorem Inv.lapE (i : Inv P F S φ al L h) {a : Nat} (ha : a < rC S 1) : sumI (htm P F (al a)) (fC F) = lapR S a := by
  rw [i.2.2.1.1]
  unfold lapR
  refine sumA_c _ (fun b hb => ?_)
  have e1 := i.ab hb
  have e2 := i.ab ha
  by_cases hd : rD S b = 1
  · rw [htm_s (i.ho1 hb hd), decide_eq_true hd, Bool.true_and]
    congr 1
    show meetI _ _ _ _ _ _ _ _ = meetI _ _ _ _ _ _ _ _
    rw [e1 0 (by omega), e1 1 (by omega), e1 2 (by omega), e1 3 (by omega), e2 0 (by omega), e2 1 (by omega), e2 2 (by omega), e2 3 (by omega)]
  · rw [htm_n (i.ho0 hb hd), decide_eq_false hd]
    rfl
end
