/-! both sort a row alike -/
theorem bub_at {κ : Nat → Int32} : ∀ i (g : Nat → Nat) (p : Nat), p ≤ i → (∀ j, p ≤ j → j < i → κ (g i) < κ (g j)) → (p = 0 ∨ ¬ κ (g i) < κ (g (p - 1))) → bubG κ i g = fun k => if k < p then g k else if k = p then g i else if k ≤ i then g (k - 1) else g k := by
  intro i
  induction i with
  | zero =>
    intro g p hp _ _
    obtain rfl : p = 0 := by omega
    funext k
    show g k = _
    by_cases h : k = 0
    · rw [if_neg (by omega), if_pos h, h]
    · rw [if_neg (by omega), if_neg h, if_neg (by omega)]
  | succ i ih =>
    intro g p hp h1 h2
    by_cases hpi : p = i + 1
    · have h3 : ¬ κ (g (i + 1)) < κ (g i) := by
        rcases h2 with h2 | h2
        · omega
        · rw [hpi] at h2; exact h2
      rw [bub_n h3]
      funext k
      by_cases c1 : k < p
      · rw [if_pos c1]
      · by_cases c2 : k = p
        · rw [if_neg c1, if_pos c2, c2, hpi]
        · rw [if_neg c1, if_neg c2, if_neg (by omega)]
    · have h3 : κ (g (i + 1)) < κ (g i) := h1 i (by omega) (by omega)
      have s0 : swG g i i = g (i + 1) := va_up_self _ _ _
      have s1 : swG g i (i + 1) = g i := by unfold swG; rw [va_up_ne _ _ (by omega), va_up_self]
      have s2 : ∀ k, k ≠ i → k ≠ i + 1 → swG g i k = g k := fun k e1 e2 => by unfold swG; rw [va_up_ne _ _ e1, va_up_ne _ _ e2]
      rw [bub_y h3, ih (swG g i) p (by omega) (fun j hj1 hj2 => by rw [s0, s2 j (by omega) (by omega)]; exact h1 j hj1 (by omega)) (by
        rcases h2 with h2 | h2
        · exact Or.inl h2
        · by_cases e : p = 0
          · exact Or.inl e
          · refine Or.inr ?_
            rw [s0, s2 (p - 1) (by omega) (by omega)]
            exact h2)]
      funext k
      by_cases c1 : k < p
      · rw [if_pos c1, if_pos c1, s2 k (by omega) (by omega)]
      · by_cases c2 : k = p
        · rw [if_neg c1, if_neg c1, if_pos c2, if_pos c2, s0]
        · rw [if_neg c1, if_neg c1, if_neg c2, if_neg c2]
          by_cases c3 : k ≤ i
          · rw [if_pos c3, if_pos (by omega), s2 (k - 1) (by omega) (by omega)]
          · rw [if_neg c3]
            by_cases c4 : k = i + 1
            · rw [if_pos (by omega), c4, s1]; rfl
            · rw [if_neg (by omega), s2 k (by omega) c4]
theorem pos_at {key : Nat → Int32} {f : Nat → Option Nat} {n : Nat} : ∀ m p, p + m = n → p ≤ posK key f n m p ∧ posK key f n m p ≤ n ∧ (∀ j, p ≤ j → j < posK key f n m p → key ((f j).getD 0) ≤ key ((f n).getD 0)) ∧ (posK key f n m p < n → ¬ key ((f (posK key f n m p)).getD 0) ≤ key ((f n).getD 0)) := by
  intro m
  induction m with
  | zero => intro p hp; exact ⟨Nat.le_refl _, by show p ≤ n; omega, fun j h1 h2 => absurd h2 (by show ¬ j < p; omega), fun h => absurd h (by show ¬ p < n; omega)⟩
  | succ m ih =>
    intro p hp
    by_cases c : p < n ∧ key ((f p).getD 0) ≤ key ((f n).getD 0)
    · have e : posK key f n (m + 1) p = posK key f n m (p + 1) := if_pos c
      rw [e]
      obtain ⟨i1, i2, i3, i4⟩ := ih (p + 1) (by omega)
      refine ⟨by omega, i2, fun j h1 h2 => ?_, i4⟩
      by_cases e2 : j = p
      · rw [e2]; exact c.2
      · exact i3 j (by omega) h2
    · have e : posK key f n (m + 1) p = p := if_neg c
      rw [e]
      exact ⟨Nat.le_refl _, by omega, fun j h1 h2 => absurd h2 (by omega), fun h h2 => c ⟨h, h2⟩⟩
theorem srtS_at {key : Nat → Int32} {f : Nat → Option Nat} {s n : Nat} (hn : n < s) {y : Nat} (hy : f n = some y) {k : Nat} (hk : k < s) : srtS key f s n k = if k < posK key f n n 0 then f k else if k = posK key f n n 0 then f n else if k ≤ n then f (k - 1) else f k := by
  have hp := (pos_at (key := key) (f := f) (n := n) n 0 (by omega)).2.1
  unfold srtS insF
  by_cases c1 : k < posK key f n n 0
  · rw [if_pos c1, if_pos c1]
    unfold remF
    rw [if_pos (by omega)]
  · rw [if_neg c1, if_neg c1]
    by_cases c2 : k = posK key f n n 0
    · rw [if_pos c2, if_pos c2, hy]; rfl
    · rw [if_neg c2, if_neg c2, if_pos (by omega)]
      unfold remF
      by_cases c3 : k ≤ n
      · rw [if_pos c3, if_pos (by omega)]
      · rw [if_neg c3, if_neg (by omega), if_pos (by omega), show k - 1 + 1 = k by omega]
theorem srt_eq {key κ : Nat → Int32} {f : Nat → Option Nat} {g ρ : Nat → Nat} {s : Nat} (hf : ∀ k, k < s → f k = some (ρ (g k))) (hk : ∀ k, k < s → key (ρ (g k)) = κ (g k)) : ∀ n, n < s → (∀ k, k < s → srtF key f s n k = some (ρ (bsG κ g n k))) ∧ (∀ a b, a ≤ b → b ≤ n → κ (bsG κ g n a) ≤ κ (bsG κ g n b)) ∧ ∀ k, k < s → key (ρ (bsG κ g n k)) = κ (bsG κ g n k) := by
  intro n
  induction n with
  | zero =>
    intro _
    refine ⟨hf, fun a b h1 h2 => ?_, hk⟩
    rw [show a = b by omega]
    exact Int32.le_refl _
  | succ n ih =>
    intro hn
    obtain ⟨i1, i2, i3⟩ := ih (by omega)
    have hg : ∀ j, j < s → ((srtF key f s n) j).getD 0 = ρ (bsG κ g n j) := fun j hj => by rw [i1 j hj]; rfl
    have hkk : ∀ j, j < s → key (((srtF key f s n) j).getD 0) = κ (bsG κ g n j) := fun j hj => by rw [hg j hj, i3 j hj]
    obtain ⟨p1, p2, p3, p4⟩ := pos_at (key := key) (f := srtF key f s n) (n := n + 1) (n + 1) 0 (by omega)
    generalize hp : posK key (srtF key f s n) (n + 1) (n + 1) 0 = p at p1 p2 p3 p4
    have hb : bsG κ g (n + 1) = fun k => if k < p then bsG κ g n k else if k = p then bsG κ g n (n + 1) else if k ≤ n + 1 then bsG κ g n (k - 1) else bsG κ g n k := by
      refine bub_at (n + 1) (bsG κ g n) p p2 (fun j h1 h2 => ?_) ?_
      · have h3 := p4 (by omega)
        rw [hkk p (by omega), hkk (n + 1) hn] at h3
        exact Int32.lt_of_lt_of_le (Int32.not_le.mp h3) (i2 p j h1 (by omega))
      · by_cases e : p = 0
        · exact Or.inl e
        · refine Or.inr ?_
          have h3 := p3 (p - 1) (by omega) (by omega)
          rw [hkk (p - 1) (by omega), hkk (n + 1) hn] at h3
          exact Int32.not_lt.mpr h3
    refine ⟨fun k hk => ?_, ?_, ?_⟩
    · show srtS key (srtF key f s n) s (n + 1) k = _
      rw [srtS_at hn (i1 (n + 1) hn) hk, hp, hb]
      by_cases c1 : k < p
      · rw [if_pos c1, i1 k hk]; show _ = some (ρ (if _ then _ else _)); rw [if_pos c1]
      · rw [if_neg c1]
        show _ = some (ρ (if _ then _ else _))
        rw [if_neg c1]
        by_cases c2 : k = p
        · rw [if_pos c2, if_pos c2, i1 (n + 1) hn]
        · rw [if_neg c2, if_neg c2]
          by_cases c3 : k ≤ n + 1
          · rw [if_pos c3, if_pos c3, i1 (k - 1) (by omega)]
          · rw [if_neg c3, if_neg c3, i1 k hk]
    · have hlo : ∀ j, j < p → κ (bsG κ g n j) ≤ κ (bsG κ g n (n + 1)) := by
        intro j hj
        have h3 := p3 j (by omega) hj
        rw [hkk j (by omega), hkk (n + 1) hn] at h3
        exact h3
      have hhi : ∀ j, p ≤ j → j ≤ n → κ (bsG κ g n (n + 1)) ≤ κ (bsG κ g n j) := by
        intro j h1 h2
        have h3 := p4 (by omega)
        rw [hkk p (by omega), hkk (n + 1) hn] at h3
        exact Int32.le_of_lt (Int32.lt_of_lt_of_le (Int32.not_le.mp h3) (i2 p j h1 h2))
      intro a b hab hbn
      rw [hb]
      show κ (if _ then _ else _) ≤ κ (if _ then _ else _)
      by_cases a1 : a < p
      · rw [if_pos a1]
        by_cases b1 : b < p
        · rw [if_pos b1]; exact i2 a b hab (by omega)
        · rw [if_neg b1]
          by_cases b2 : b = p
          · rw [if_pos b2]; exact hlo a a1
          · rw [if_neg b2, if_pos hbn]; exact i2 a (b - 1) (by omega) (by omega)
      · rw [if_neg a1, if_neg (show ¬ b < p by omega)]
        by_cases a2 : a = p
        · rw [if_pos a2]
          by_cases b2 : b = p
          · rw [if_pos b2]; exact Int32.le_refl _
          · rw [if_neg b2, if_pos hbn]; exact hhi (b - 1) (by omega) (by omega)
        · rw [if_neg a2, if_neg (show ¬ b = p by omega), if_pos hbn, if_pos (by omega)]
          exact i2 (a - 1) (b - 1) (by omega) (by omega)
    · intro k hk
      rw [hb]
      show key (ρ (if _ then _ else _)) = κ (if _ then _ else _)
      by_cases c1 : k < p
      · rw [if_pos c1]; exact i3 k hk
      · rw [if_neg c1]
        by_cases c2 : k = p
        · rw [if_pos c2]; exact i3 _ hn
        · rw [if_neg c2]
          by_cases c3 : k ≤ n + 1
          · rw [if_pos c3]; exact i3 _ (by omega)
          · rw [if_neg c3]; exact i3 k hk
/-- sorting is a rearrangement -/
def PmG (g g' : Nat → Nat) (s : Nat) : Prop := (∀ k, k < s → ∃ j, j < s ∧ g' k = g j) ∧ (∀ j, j < s → ∃ k, k < s ∧ g' k = g j) ∧ ((∀ a b, a < s → b < s → a ≠ b → g a ≠ g b) → ∀ a b, a < s → b < s → a ≠ b → g' a ≠ g' b)
theorem PmG.rfl' (g : Nat → Nat) (s : Nat) : PmG g g s := ⟨fun k hk => ⟨k, hk, rfl⟩, fun k hk => ⟨k, hk, rfl⟩, id⟩
theorem PmG.trans {g g' g'' : Nat → Nat} {s : Nat} (h : PmG g g' s) (h2 : PmG g' g'' s) : PmG g g'' s := by
  refine ⟨fun k hk => ?_, fun j hj => ?_, fun hi => h2.2.2 (h.2.2 hi)⟩
  · obtain ⟨j, hj, e⟩ := h2.1 k hk
    obtain ⟨i, hi, e2⟩ := h.1 j hj
    exact ⟨i, hi, by rw [e, e2]⟩
  · obtain ⟨k, hk, e⟩ := h.2.1 j hj
    obtain ⟨i, hi, e2⟩ := h2.2.1 k hk
    exact ⟨i, hi, by rw [e2, e]⟩
theorem PmG.sw {g : Nat → Nat} {s i : Nat} (hi : i + 1 < s) : PmG g (swG g i) s := by
  have s0 : swG g i i = g (i + 1) := va_up_self _ _ _
  have s1 : swG g i (i + 1) = g i := by unfold swG; rw [va_up_ne _ _ (by omega), va_up_self]
  have s2 : ∀ k, k ≠ i → k ≠ i + 1 → swG g i k = g k := fun k e1 e2 => by unfold swG; rw [va_up_ne _ _ e1, va_up_ne _ _ e2]
  have hall : ∀ k, k < s → ∃ j, j < s ∧ swG g i k = g j ∧ swG g i j = g k ∧ (k = i ∧ j = i + 1 ∨ k = i + 1 ∧ j = i ∨ k ≠ i ∧ k ≠ i + 1 ∧ j = k) := by
    intro k hk
    by_cases e1 : k = i
    · subst e1; exact ⟨k + 1, hi, s0, s1, Or.inl ⟨rfl, rfl⟩⟩
    · by_cases e2 : k = i + 1
      · subst e2; exact ⟨i, by omega, s1, s0, Or.inr (Or.inl ⟨rfl, rfl⟩)⟩
      · exact ⟨k, hk, s2 k e1 e2, s2 k e1 e2, Or.inr (Or.inr ⟨e1, e2, rfl⟩)⟩
  refine ⟨fun k hk => ?_, fun j hj => ?_, fun hg a b ha hb hab => ?_⟩
  · obtain ⟨j, h1, h2, _⟩ := hall k hk; exact ⟨j, h1, h2⟩
  · obtain ⟨k, h1, _, h2, _⟩ := hall j hj; exact ⟨k, h1, h2⟩
  · obtain ⟨j, h1, h2, _, h3⟩ := hall a ha
    obtain ⟨k, h4, h5, _, h6⟩ := hall b hb
    rw [h2, h5]
    exact hg j k h1 h4 (by omega)
theorem PmG.bub {κ : Nat → Int32} {s : Nat} : ∀ i (g : Nat → Nat), i < s → PmG g (bubG κ i g) s := by
  intro i
  induction i with
  | zero => intro g _; exact PmG.rfl' g s
  | succ i ih =>
    intro g hi
    by_cases h : κ (g (i + 1)) < κ (g i)
    · rw [bub_y h]; exact (PmG.sw hi).trans (ih _ (by omega))
    · rw [bub_n h]; exact PmG.rfl' g s
theorem PmG.bs {κ : Nat → Int32} {g : Nat → Nat} {s : Nat} : ∀ n, n < s → PmG g (bsG κ g n) s := by
  intro n
  induction n with
  | zero => intro _; exact PmG.rfl' g s
  | succ n ih => intro hn; exact (ih (by omega)).trans (PmG.bub (n + 1) _ hn)
theorem maxK_eq {key κ : Nat → Int32} {f : Nat → Option Nat} {g : Nat → Nat} : ∀ n, (∀ k, k ≤ n → key ((f k).getD 0) = κ (g k)) → maxK key f n = maxG κ g n ∧ minK key f n = minG κ g n := by
  intro n
  induction n with
  | zero => intro h; exact ⟨h 0 (Nat.le_refl 0), h 0 (Nat.le_refl 0)⟩
  | succ n ih =>
    intro h
    obtain ⟨h1, h2⟩ := ih (fun k hk => h k (by omega))
    exact ⟨by show maxI _ _ = maxI _ _; rw [h1, h (n + 1) (Nat.le_refl _)], by show minI _ _ = minI _ _; rw [h2, h (n + 1) (Nat.le_refl _)]⟩
/-- a frame's row, sorted by the axis that spreads more -/
theorem sort_eq {P : PS} {S : RS} {q n f : Nat} {ρ : Nat → Nat} (hs : pS P q = rM S f) (h0 : 0 < rM S f) (hr : ∀ k, k < rM S f → pA P q k = some (ρ (rk S f k))) (hb : ∀ k, k < rM S f → ∀ i, i < 2 → pB P (ρ (rk S f k)) i = kidE S n (rk S f k) i) : (∀ k, k < rM S f → srP P q k = some (ρ (sgR S n f k))) ∧ PmG (rk S f) (sgR S n f) (rM S f) := by
  have hl1 : ∀ k, k < rM S f → lowE P (((pA P q) k).getD 0) true = kidE S n (rk S f k) 0 := fun k hk => by
    rw [hr k hk]; exact hb k hk 0 (by omega)
  have hl0 : ∀ k, k < rM S f → lowE P (((pA P q) k).getD 0) false = kidE S n (rk S f k) 1 := fun k hk => by
    rw [hr k hk]; exact hb k hk 1 (by omega)
  have e1 : sprB P q true = sprR S n f 0 := by
    unfold sprB sprR
    rw [hs]
    obtain ⟨a, b⟩ := maxK_eq (key := fun c => lowE P c true) (κ := fun x => kidE S n x 0) (f := pA P q) (g := rk S f) (rM S f - 1) (fun k hk => hl1 k (by omega))
    rw [a, b]
  have e0 : sprB P q false = sprR S n f 1 := by
    unfold sprB sprR
    rw [hs]
    obtain ⟨a, b⟩ := maxK_eq (key := fun c => lowE P c false) (κ := fun x => kidE S n x 1) (f := pA P q) (g := rk S f) (rM S f - 1) (fun k hk => hl0 k (by omega))
    rw [a, b]
  refine ⟨?_, PmG.bs _ (by omega)⟩
  unfold srP sxP sgR sdR
  rw [e1, e0, hs]
  by_cases c : sprR S n f 1 ≤ sprR S n f 0
  · rw [if_pos c, decide_eq_true c]
    exact (srt_eq (g := rk S f) (ρ := ρ) (κ := fun x => kidE S n x 0) hr (fun k hk => hb k hk 0 (by omega)) (rM S f - 1) (by omega)).1
  · rw [if_neg c, decide_eq_false c]
    exact (srt_eq (g := rk S f) (ρ := ρ) (κ := fun x => kidE S n x 1) hr (fun k hk => hb k hk 1 (by omega)) (rM S f - 1) (by omega)).1
