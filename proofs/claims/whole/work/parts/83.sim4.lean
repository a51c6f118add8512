theorem upG_all {g : Nat → Int32} {H : Nat → Option Nat} {q : Nat → Nat} (h0 : H (q 0) = none) : ∀ n z, (∀ i, i < n → H (q (i + 1)) = some (q i)) → upG g H (n + 1) z (some (q n)) = z + sumA 0 (fun i => g (q i)) (n + 1) := by
  intro n
  induction n with
  | zero =>
    intro z _
    show upG g H 0 (z + g (q 0)) (H (q 0)) = z + (0 + g (q 0))
    rw [Int32.zero_add]
    rfl
  | succ n ih =>
    intro z hs
    show upG g H (n + 1) (z + g (q (n + 1))) (H (q (n + 1))) = z + (sumA 0 (fun i => g (q i)) (n + 1) + g (q (n + 1)))
    rw [hs n (by omega), ih _ (fun i hi => hs i (by omega)), Int32.add_assoc, Int32.add_comm (g (q (n + 1)))]
theorem upI_all {D : Nat → Prop} {H : Nat → Option Nat} {q : Nat → Nat} (h0 : H (q 0) = none) : ∀ n, (∀ i, i < n → H (q (i + 1)) = some (q i)) → (∀ i, i ≤ n → D (q i)) → UpI D H (n + 1) (some (q n)) := by
  intro n
  induction n with
  | zero =>
    intro _ hd f e
    obtain rfl := Option.some.inj e
    exact ⟨hd 0 (Nat.le_refl 0), h0⟩
  | succ n ih =>
    intro hs hd f e
    obtain rfl := Option.some.inj e
    refine ⟨hd (n + 1) (Nat.le_refl _), ?_⟩
    rw [hs n (by omega)]
    exact ih (fun i hi => hs i (by omega)) (fun i hi => hd i (by omega))
theorem upS_all {c : Nat → Prop} [DecidablePred c] {H : Nat → Option Nat} {q : Nat → Nat} (h0 : H (q 0) = none) (n j : Nat) (hs : ∀ i, i < n → H (q (i + 1)) = some (q i)) (hj : j ≤ n + 1) (hc : ∀ i, i < j → c (q (n - i))) (he : j = n + 1 ∨ ¬ c (q (n - j))) : upS c H (n + 1) 0 (some (q n)) = j := by
  have hst : ∀ m, m ≤ j → upS c H (n + 1) 0 (some (q n)) = upS c H (n + 1 - m) m (if m = n + 1 then none else some (q (n - m))) := by
    intro m
    induction m with
    | zero => intro _; rw [if_neg (by omega)]; rfl
    | succ m ih =>
      intro hm
      rw [ih (by omega), if_neg (by omega), show n + 1 - m = (n + 1 - (m + 1)) + 1 by omega, upS_t (hc m (by omega))]
      congr 1
      by_cases e : m + 1 = n + 1
      · rw [if_pos e, show n - m = 0 by omega, h0]
      · rw [if_neg e, show n - m = (n - (m + 1)) + 1 by omega, hs _ (by omega)]
  rw [hst j (Nat.le_refl j)]
  rcases he with e | e
  · rw [if_pos e, upS_n]
  · by_cases e2 : j = n + 1
    · rw [if_pos e2, upS_n]
    · rw [if_neg e2, show n + 1 - j = (n - j) + 1 by omega, upS_f e]
theorem dif_i {a b : Nat} (ha : a ≤ 10000) (hb : b < 2147483648) : (nI a - nI b).toInt = (a : Int) - b := by
  have e : (nI a).toInt = a := Int32.toInt_ofNat_of_lt (by omega)
  have e2 : (nI b).toInt = b := Int32.toInt_ofNat_of_lt (by omega)
  rw [Int32.toInt_sub, e, e2, Int.bmod_eq_of_le (by omega) (by omega)]
theorem off_eq {x lo hi : Nat} (hx : x ≤ 99) (h1 : lo ≤ hi) (h2 : hi ≤ 99) : offI (nI x) (nI lo) (nI hi) = offR (nI x) (nI lo) (nI hi) := by
  have d1 : (nI lo - nI x).toInt = (lo : Int) - x := dif_i (by omega) (by omega)
  have d2 : (nI x - nI hi).toInt = (x : Int) - hi := dif_i (by omega) (by omega)
  have z0 : (0 : Int32).toInt = 0 := by decide
  have l1 : (nI x < nI lo) ↔ x < lo := nI_ltI (by omega) (by omega)
  have l2 : (nI hi < nI x) ↔ hi < x := nI_ltI (by omega) (by omega)
  unfold offI offR maxI
  have m1 : (nI lo - nI x < nI x - nI hi) ↔ (lo : Int) - x < (x : Int) - hi := by rw [Int32.lt_iff_toInt_lt, d1, d2]
  have p1 : (0 < nI lo - nI x) ↔ (0 : Int) < (lo : Int) - x := by rw [Int32.lt_iff_toInt_lt, d1, z0]
  have p2 : (0 < nI x - nI hi) ↔ (0 : Int) < (x : Int) - hi := by rw [Int32.lt_iff_toInt_lt, d2, z0]
  by_cases c3 : (lo : Int) - x < (x : Int) - hi
  · rw [if_pos (m1.mpr c3)]
    by_cases c4 : (0 : Int) < (x : Int) - hi
    · rw [if_pos (p2.mpr c4), if_neg (fun e => by have := l1.mp e; omega), if_pos (l2.mpr (by omega))]
    · rw [if_neg (fun e => c4 (p2.mp e)), if_neg (fun e => by have := l1.mp e; omega), if_neg (fun e => by have := l2.mp e; omega)]
  · have n3 : ¬ (nI lo - nI x < nI x - nI hi) := fun e => c3 (m1.mp e)
    rw [if_neg n3]
    by_cases c4 : (0 : Int) < (lo : Int) - x
    · rw [if_pos (p1.mpr c4), if_pos (l1.mpr (by omega))]
    · rw [if_neg (fun e => c4 (p1.mp e)), if_neg (fun e => by have := l1.mp e; omega), if_neg (fun e => by have := l2.mp e; omega)]
section
variable {P : PS} {F : FS} {S : RS} {φ al : Nat → Nat} {h : Nat} {L : Nat → Prop}
theorem Inv.chain (i : Inv P F S φ al L h) {fr ps : Nat → Nat} {n : Nat} (hw : Way S L (rC S 4) h fr ps n) : pH P (φ (fr 0)) = none ∧ ∀ j, j < n → pH P (φ (fr (j + 1))) = some (φ (fr j)) :=
  ⟨by rw [hw.1]; exact i.2.1.2.1, fun j hj => (i.1.wayK hw hj).1⟩
theorem Inv.overlapsV (i : Inv P F S φ al L h) {r : Nat} (hr : ∀ j, j < 4 → pB P r j = rR S j) : sumI (htm P F r) (fC F) = sumA 0 (mta S) (rC S 1) := by
  rw [i.2.2.1.1]
  exact sumA_c _ (i.htmE hr)
theorem Inv.growsV (i : Inv P F S φ al L h) {r : Nat} (hr : ∀ j, j < 4 → pB P r j = rR S j) (hv : VB (rR S)) : UpI (fun f => pD P f = true) (pH P) (h + 1) (some (ffP P r h (fT F))) ∧ upG (fun f => grB P f r) (pH P) (h + 1) 0 (some (ffP P r h (fT F))) = sumA 0 (fun j => gwR S (h - j) (pthR S h (rC S 4) j)) (h + 1) := by
  have hw := i.go
  obtain ⟨c0, c1⟩ := i.chain hw
  rw [i.ff hr hv]
  constructor
  · exact upI_all (q := fun j => φ (pthR S h (rC S 4) j)) c0 h c1 (fun j hj => (i.1.lv (hw.2.1 j hj).1).1)
  · rw [upG_all (q := fun j => φ (pthR S h (rC S 4) j)) c0 h 0 c1, Int32.zero_add]
    refine sumA_c _ (fun j hj => ?_)
    have h1 := hw.2.1 j (by omega)
    rw [i.gr hr h1.1, show rG S (pthR S h (rC S 4) j) = h - j by omega]
theorem Inv.splitsV (i : Inv P F S φ al L h) {r : Nat} (hr : ∀ j, j < 4 → pB P r j = rR S j) (hv : VB (rR S)) {j : Nat} (hj : j ≤ h + 1) (hc : ∀ m, m < j → rM S (pthR S h (rC S 4) (h - m)) = 4) (he : j = h + 1 ∨ rM S (pthR S h (rC S 4) (h - j)) ≠ 4) : UpI (fun f => pD P f = true ∧ pS P f < 1000) (pH P) (h + 1) (some (ffP P r h (fT F))) ∧ upS (fun f => 4 ≤ pS P f) (pH P) (h + 1) 0 (some (ffP P r h (fT F))) = j := by
  have hw := i.go
  obtain ⟨c0, c1⟩ := i.chain hw
  rw [i.ff hr hv]
  constructor
  · exact upI_all (q := fun j => φ (pthR S h (rC S 4) j)) c0 h c1 (fun j hj => by
      have h1 := i.1.lv (hw.2.1 j hj).1
      exact ⟨h1.1, by rw [h1.2.2.2.1]; have := h1.2.2.2.2.1; omega⟩)
  · refine upS_all (q := fun j => φ (pthR S h (rC S 4) j)) c0 h j c1 hj (fun m hm => ?_) ?_
    · have h1 := i.1.lv (hw.2.1 (h - m) (by omega)).1
      show 4 ≤ pS P _
      rw [h1.2.2.2.1, hc m hm]
      exact Nat.le_refl 4
    · rcases he with e | e
      · exact Or.inl e
      · refine Or.inr (fun e2 => e ?_)
        have h1 := hw.2.1 (h - j) (by omega)
        have h2 := i.1.lv h1.1
        have h3 := (i.2.2.2.2.1 _ h1.1).1
        have e2 : 4 ≤ pS P (φ (pthR S h (rC S 4) (h - j))) := e2
        rw [h2.2.2.2.1] at e2
        omega
theorem Inv.nearV (i : Inv P F S φ al L h) {x y : Int32} (hr : isR x y x y = true) : ∀ k, k ≤ rC S 1 → nrP P F x y k = (nrR S x y k).map al := by
  obtain ⟨x0, y0, _, _, _, hx, _, hy, rfl, rfl, _, _⟩ := isR_nat hr
  have hsd : ∀ a, a < rC S 1 → sdI (pB P (al a)) (nI x0) (nI y0) = farR S a (nI x0) (nI y0) := by
    intro a ha
    have hb := i.ab ha
    obtain ⟨a0, a1, a2, a3, q1, q2, q3, q4, e0, e1, e2, e3⟩ := isR_nat (i.1.am ha).2.2.2.2.1
    unfold sdI farR
    rw [hb 0 (by omega), hb 1 (by omega), hb 2 (by omega), hb 3 (by omega), show 4 * a + 0 = 4 * a from rfl, e0, e1, e2, e3, off_eq (by omega) q1 q2, off_eq (by omega) q3 q4]
  intro k
  induction k with
  | zero => intro _; rfl
  | succ k ih =>
    intro hk
    have ih := ih (by omega)
    show _ = (if rD S k = 1 then (match nrR S (nI x0) (nI y0) k with | none => some k | some b => if farR S k (nI x0) (nI y0) < farR S b (nI x0) (nI y0) then some k else some b) else nrR S (nI x0) (nI y0) k).map al
    by_cases hd : rD S k = 1
    · rw [if_pos hd]
      cases hb : nrR S (nI x0) (nI y0) k with
      | none =>
        rw [hb] at ih
        rw [nrP_1 (i.ho1 (by omega) hd) ih]
        rfl
      | some b =>
        have hbl := nrR_lt hb
        rw [hb] at ih
        rw [nrP_2 (i.ho1 (by omega) hd) ih, hsd k (by omega), hsd b (by omega)]
        show _ = (if _ then some k else some b).map al
        by_cases hc : farR S k (nI x0) (nI y0) < farR S b (nI x0) (nI y0)
        · rw [if_pos hc, if_pos hc]; rfl
        · rw [if_neg hc, if_neg hc]; rfl
    · rw [if_neg hd, nrP_0 (i.ho0 (by omega) hd), ih]
theorem Inv.nearE (i : Inv P F S φ al L h) {x y : Int32} (hr : isR x y x y = true) : nrV P (nrP P F x y (fC F)) = onI (nrR S x y (rC S 1)) := by
  rw [i.2.2.1.1, i.nearV hr _ (Nat.le_refl _)]
  cases hb : nrR S x y (rC S 1) with
  | none => rfl
  | some b => exact (i.1.am (nrR_lt hb)).2.1
theorem Inv.ho (i : Inv P F S φ al L h) {fr ps : Nat → Nat} {a : Nat} (hw : Way S L (rC S 4) h fr ps h) (h1 : ps h < rM S (fr h)) (h2 : rk S (fr h) (ps h) = a) : pH P (al a) = some (φ (fr h)) ∧ L (fr h) ∧ rG S (fr h) = 0 ∧ pA P (φ (fr h)) (ps h) = some (al a) := by
  have hL := hw.2.1 h (Nat.le_refl h)
  have h3 := i.1.kx hL.1 (ps h) h1
  have e : rG S (fr h) = 0 := by omega
  rw [e, h2] at h3
  exact ⟨h3.2.2.1, hL.1, e, h3.2.1⟩
theorem Inv.toldV (i : Inv P F S φ al L h) {fr ps : Nat → Nat} {a : Nat} (ha : a < rC S 1) (hp : rD S a = 1 → Way S L (rC S 4) h fr ps h ∧ ps h < rM S (fr h) ∧ rk S (fr h) (ps h) = a) {pl : Nat → Nat} (hpl : pl (al a) = ps h) : Plc P pl (al a) ∧ ∀ w, w ≤ 8 → ansP P F pl (al a) w = alR S h fr ps a w := by
  have hb := i.ab ha
  have hq : ∀ w, w < 4 → alR S h fr ps a w = rE S (4 * a + w) := fun w hw => alR_3 hw
  have h8 := i.lapE ha
  have har : arB P (al a) = aroR S a := by
    show areaI (pB P (al a) 0) (pB P (al a) 1) (pB P (al a) 2) (pB P (al a) 3) = _
    rw [hb 0 (by omega), hb 1 (by omega), hb 2 (by omega), hb 3 (by omega)]
    rfl
  by_cases hd : rD S a = 1
  · obtain ⟨w, h1, h2⟩ := hp hd
    obtain ⟨u1, u2, u3, u4⟩ := i.ho w h1 h2
    constructor
    · exact i.1.plc u2 h1 (by rw [u3, h2]; rfl) hpl
    · intro n hn
      rcases (show n = 0 ∨ n = 1 ∨ n = 2 ∨ n = 3 ∨ n = 4 ∨ n = 5 ∨ n = 6 ∨ n = 7 ∨ n = 8 by omega) with rfl | rfl | rfl | rfl | rfl | rfl | rfl | rfl | rfl
      · rw [hq 0 (by omega)]; exact hb 0 (by omega)
      · rw [hq 1 (by omega)]; exact hb 1 (by omega)
      · rw [hq 2 (by omega)]; exact hb 2 (by omega)
      · rw [hq 3 (by omega)]; exact hb 3 (by omega)
      · exact har
      · show plI P pl (al a) = if rD S a = 0 then -1 else nI (ps h)
        unfold plI
        rw [u1, if_neg (by omega), ← hpl]
      · show (match pH P (al a) with | none => (-1 : Int32) | some h => nI (pS P h)) = if rD S a = 0 then -1 else nI (rM S (fr h))
        rw [u1, if_neg (by omega)]
        show nI (pS P (φ (fr h))) = _
        rw [(i.1.lv u2).2.2.2.1]
      · show (match pH P (al a) with | none => (-1 : Int32) | some h => arB P h) = if rD S a = 0 then -1 else arR S 0 (fr h)
        rw [u1, if_neg (by omega)]
        show arB P (φ (fr h)) = _
        rw [i.ar u2, u3]
      · show (match pH P (al a) with | none => sumI (htm P F (al a)) (fC F) | some _ => sumI (htm P F (al a)) (fC F) - 1) = lapR S a - nI (rD S a)
        rw [u1, h8, hd]
        rfl
  · have hd0 : rD S a = 0 := by
      rcases (i.1.am ha).2.2.2.2.2 with e | e
      · exact e.1
      · exact absurd e.1 hd
    have u1 : pH P (al a) = none := by
      rcases (i.1.am ha).2.2.2.2.2 with e | e
      · exact e.2
      · exact absurd e.1 hd
    constructor
    · intro hh e; rw [u1] at e; exact absurd e (by simp)
    · intro n hn
      rcases (show n = 0 ∨ n = 1 ∨ n = 2 ∨ n = 3 ∨ n = 4 ∨ n = 5 ∨ n = 6 ∨ n = 7 ∨ n = 8 by omega) with rfl | rfl | rfl | rfl | rfl | rfl | rfl | rfl | rfl
      · rw [hq 0 (by omega)]; exact hb 0 (by omega)
      · rw [hq 1 (by omega)]; exact hb 1 (by omega)
      · rw [hq 2 (by omega)]; exact hb 2 (by omega)
      · rw [hq 3 (by omega)]; exact hb 3 (by omega)
      · exact har
      · show plI P pl (al a) = if rD S a = 0 then -1 else nI (ps h)
        unfold plI
        rw [u1, if_pos hd0]
      · show (match pH P (al a) with | none => (-1 : Int32) | some h => nI (pS P h)) = if rD S a = 0 then -1 else nI (rM S (fr h))
        rw [u1, if_pos hd0]
      · show (match pH P (al a) with | none => (-1 : Int32) | some h => arB P h) = if rD S a = 0 then -1 else arR S 0 (fr h)
        rw [u1, if_pos hd0]
      · show (match pH P (al a) with | none => sumI (htm P F (al a)) (fC F) | some _ => sumI (htm P F (al a)) (fC F) - 1) = lapR S a - nI (rD S a)
        rw [u1, h8, hd0]
        show lapR S a = lapR S a - 0
        rw [Int32.sub_zero]
end
