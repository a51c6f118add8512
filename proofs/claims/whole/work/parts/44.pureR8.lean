def cnR (S : RS) (h : Nat) : Nat → Int32
  | 0 => sumA 0 (fun a => nI (rD S a)) (rC S 1)
  | 1 => nI (rC S 1)
  | 2 => s0R S h (rC S 4)
  | 3 => nI h
  | 4 => s1R S h (rC S 4)
  | 5 => arR S h (rC S 4)
  | 6 => s2R S h (rC S 4)
  | 7 => nI (rC S 2)
  | _ => nI (rM S (rC S 4))
/-- how many allotments overlap allotment a, itself among them -/
def lapR (S : RS) (a : Nat) : Int32 := sumA 0 (fun b => bI (decide (rD S b = 1) && mt2 (fun s => rE S (4 * b + s)) (fun s => rE S (4 * a + s)))) (rC S 1)
def alR (S : RS) (h : Nat) (fr ps : Nat → Nat) (a : Nat) : Nat → Int32
  | 4 => aroR S a
  | 5 => if rD S a = 0 then -1 else nI (ps h)
  | 6 => if rD S a = 0 then -1 else nI (rM S (fr h))
  | 7 => if rD S a = 0 then -1 else arR S 0 (fr h)
  | 8 => lapR S a - nI (rD S a)
  | w => rE S (4 * a + w)
/-- alike but for what is written anew before it is read -/
def SE (S S' : RS) : Prop := rE S' = rE S ∧ rD S' = rD S ∧ rM S' = rM S ∧ rK S' = rK S ∧ rG S' = rG S ∧ rC S' 1 = rC S 1 ∧ rC S' 2 = rC S 2 ∧ rC S' 3 = rC S 3 ∧ rC S' 4 = rC S 4
theorem SE.rfl' (S : RS) : SE S S := ⟨rfl, rfl, rfl, rfl, rfl, rfl, rfl, rfl, rfl⟩
theorem SE.trans {A B C : RS} (h : SE A B) (g : SE B C) : SE A C := by
  obtain ⟨a1, a2, a3, a4, a5, a6, a7, a8, a9⟩ := h
  obtain ⟨b1, b2, b3, b4, b5, b6, b7, b8, b9⟩ := g
  exact ⟨b1.trans a1, b2.trans a2, b3.trans a3, b4.trans a4, b5.trans a5, b6.trans a6, b7.trans a7, b8.trans a8, b9.trans a9⟩
theorem SE.tr {S S' : RS} (h : SE S S') {n f : Nat} (ht : TrR S n f) : TrR S' n f := ht.cg h.2.2.2.2.1 h.2.2.1 h.2.2.2.1
theorem SE.tt {S S' : RS} (h : SE S S') {n : Nat} (ht : TrR S n (rC S 4)) : TrR S' n (rC S' 4) := by rw [h.2.2.2.2.2.2.2.2]; exact h.tr ht
theorem SE.pth {S S' : RS} (h : SE S S') {n a : Nat} {fr ps : Nat → Nat} (ht : Pth S n a fr ps) : Pth S' n a fr ps := ht.cg h.2.2.1 h.2.2.2.1
theorem s0R_cg {S S' : RS} (hm : rM S' = rM S) (hk : rK S' = rK S) : ∀ n f, s0R S' n f = s0R S n f := by
  intro n
  induction n with
  | zero => intro f; rfl
  | succ n ih => intro f; unfold s0R; rw [hm, hk]; simp only [ih]
theorem s1R_cg {S S' : RS} (he : rE S' = rE S) (hm : rM S' = rM S) (hk : rK S' = rK S) : ∀ n f, s1R S' n f = s1R S n f := by
  intro n
  induction n with
  | zero => intro f; exact arR_cg he hm hk _ _
  | succ n ih => intro f; unfold s1R; rw [hm, hk, arR_cg he hm hk]; simp only [ih]
theorem dg4R_cg {S S' : RS} (he : rE S' = rE S) (hm : rM S' = rM S) (hk : rK S' = rK S) (n f : Nat) (d : Int64) : ∀ k, dg4R S' n f d k = dg4R S n f d k := by
  intro k
  induction k with
  | zero => unfold dg4R; rw [hm]
  | succ k ih => unfold dg4R; rw [ih, hm, edR_cg he hm hk]
theorem dgR_cg {S S' : RS} (he : rE S' = rE S) (hm : rM S' = rM S) (hk : rK S' = rK S) : ∀ n f d, dgR S' n f d = dgR S n f d := by
  intro n
  induction n with
  | zero => intro f d; unfold dgR; rw [dg4R_cg he hm hk, hm, hk]
  | succ n ih => intro f d; unfold dgR; rw [dg4R_cg he hm hk, hm, hk]; simp only [ih]
theorem SE.cn {S S' : RS} (h : SE S S') (n w : Nat) : cnR S' n w = cnR S n w := by
  obtain ⟨he, hd, hm, hk, hg, h1, h2, h3, h4⟩ := h
  unfold cnR
  split
  · rw [hd, h1]
  · rw [h1]
  · rw [h4, s0R_cg hm hk]
  · rfl
  · rw [h4, s1R_cg he hm hk]
  · rw [h4, arR_cg he hm hk]
  · rw [h4, s2R_cg he hm hk]
  · rw [h2]
  · rw [h4, hm]
theorem SE.lap {S S' : RS} (h : SE S S') (a : Nat) : lapR S' a = lapR S a := by
  obtain ⟨he, hd, hm, hk, hg, h1, h2, h3, h4⟩ := h
  unfold lapR
  rw [he, hd, h1]
theorem SE.al {S S' : RS} (h : SE S S') (n : Nat) (fr ps : Nat → Nat) (a w : Nat) : alR S' n fr ps a w = alR S n fr ps a w := by
  have h' := h
  obtain ⟨he, hd, hm, hk, hg, h1, h2, h3, h4⟩ := h
  unfold alR
  split
  · unfold aroR; rw [he]
  · rw [hd]
  · rw [hd, hm]
  · rw [hd, arR_cg he hm hk]
  · rw [hd, h'.lap]
  · rw [he]
theorem SE.dg {S S' : RS} (h : SE S S') (n f : Nat) (d : Int64) : dgR S' n f d = dgR S n f d := dgR_cg h.1 h.2.2.1 h.2.2.2.1 n f d
theorem alR_3 {S : RS} {h a w : Nat} {fr ps : Nat → Nat} (hw : w < 4) : alR S h fr ps a w = rE S (4 * a + w) := by
  rcases (show w = 0 ∨ w = 1 ∨ w = 2 ∨ w = 3 by omega) with rfl | rfl | rfl | rfl <;> rfl
theorem isA_n {S : RS} {a : Nat} (h : a < rC S 1) (hc : rC S 1 ≤ 60) : isA S (nI a) = true := by
  unfold isA
  rw [decide_eq_true (show (0 : Int32) ≤ nI a from (nI_leI (a := 0) (b := a) (by omega) (by omega)).mpr (Nat.zero_le _)), decide_eq_true (Int32.not_le.mp (mt (nI_leI (a := rC S 1) (b := a) (by omega) (by omega)).mp (by omega)))]
  rfl
/-- the nearest of the first k -/
def nrR (S : RS) (x y : Int32) : Nat → Option Nat
  | 0 => none
  | k + 1 => if rD S k = 1 then (match nrR S x y k with
      | none => some k
      | some b => if farR S k x y < farR S b x y then some k else some b) else nrR S x y k
def onI : Option Nat → Int32
  | none => -1
  | some b => nI b
theorem nrR_lt {S : RS} {x y : Int32} : ∀ {k b : Nat}, nrR S x y k = some b → b < k := by
  intro k
  induction k with
  | zero => intro b h; cases h
  | succ k ih =>
    intro b h
    unfold nrR at h
    split at h
    · split at h
      · cases h; omega
      · rename_i b' hb
        split at h
        · cases h; omega
        · cases h; have := ih hb; omega
    · have := ih h; omega
theorem SE.wp (S : RS) (k : Nat) (w p : Nat → Nat) : SE S (uWP S (va_up (rC S) 5 k) w p) := ⟨rfl, rfl, rfl, rfl, rfl, rfl, rfl, rfl, rfl⟩
theorem SE.tk0 (S : RS) (a b c d : Int32) : SE S (tkR (uC S 0 0) a b c d) := ⟨rfl, rfl, rfl, rfl, rfl, rfl, rfl, rfl, rfl⟩
theorem tk0_0 (S : RS) (a b c d : Int32) : rC (tkR (uC S 0 0) a b c d) 0 = 0 := rfl
theorem wp_0 (S : RS) (k : Nat) (w p : Nat → Nat) : rC (uWP S (va_up (rC S) 5 k) w p) 0 = rC S 0 := rfl
theorem gw_wp (S : RS) (c w p : Nat → Nat) (n f : Nat) : gwR (uWP S c w p) n f = gwR S n f := gwR_cg (S := S) (S' := uWP S c w p) rfl rfl rfl rfl n f
theorem rW_wp (S : RS) (c w p : Nat → Nat) : rW (uWP S c w p) = w := rfl
theorem rP_wp (S : RS) (c w p : Nat → Nat) : rP (uWP S c w p) = p := rfl
theorem rC_wp (S : RS) (c w p : Nat → Nat) : rC (uWP S c w p) = c := rfl
theorem iterL_s (f : Nat → Int64 → Int64) (z : Int64) (k : Nat) : iterL f z (k + 1) = f k (iterL f z k) := rfl
def alD (S : RS) (h : Nat) (fr ps : Nat → Nat → Nat) (a : Nat) (d : Int64) : Int64 := iterL (fun u d => d * 31 + (alR S h (fr a) (ps a) a u).toInt64) d 9
theorem alD_e (S : RS) (h : Nat) (fr ps : Nat → Nat → Nat) (a : Nat) (d : Int64) : iterL (fun u d => d * 31 + (alR S h (fr a) (ps a) a u).toInt64) d 9 = alD S h fr ps a d := rfl
def cnD (S : RS) (h : Nat) : Int64 := iterL (fun u d => d * 31 + (cnR S h u).toInt64) 1303 9
theorem cnD_e (S : RS) (h : Nat) : iterL (fun u d => d * 31 + (cnR S h u).toInt64) 1303 9 = cnD S h := rfl
theorem iterL_0 (f : Nat → Int64 → Int64) (z : Int64) : iterL f z 0 = z := rfl
