/-! pure words of the pieces: rows under insertion and removal, hulls, sorting -/
theorem loop_up {b : Nat} {Pk : Nat → Prop} (step : ∀ k, (∀ k', k < k' → k' ≤ b → Pk k') → k ≤ b → Pk k) : ∀ k, k ≤ b → Pk k := by
  have key : ∀ n k, k ≤ b → b - k ≤ n → Pk k := by
    intro n
    induction n with
    | zero => intro k hk hn; exact step k (fun k' h1 h2 => by omega) hk
    | succ n ih => intro k hk hn; exact step k (fun k' h1 h2 => ih k' h2 (by omega)) hk
  exact fun k hk => key (b - k) k hk (Nat.le_refl _)
theorem loop_down {Pk : Nat → Prop} (step : ∀ k, (∀ k', k' < k → Pk k') → Pk k) : ∀ k, Pk k := fun k => Nat.strongRecOn k step
theorem nI_m1 {i : Nat} (h : 0 < i) : nI i - 1 = nI (i - 1) := by
  obtain ⟨k, rfl⟩ : ∃ k, i = k + 1 := ⟨i - 1, by omega⟩
  exact nI_pred k
theorem nI_p1 {i : Nat} (h : 0 < i) : nI i + Int32.ofInt (-1) = nI (i - 1) := by
  obtain ⟨k, rfl⟩ : ∃ k, i = k + 1 := ⟨i - 1, by omega⟩
  exact pk_m1 k
def insF (f : Nat → Option Nat) (s p r : Nat) : Nat → Option Nat := fun k => if k < p then f k else if k = p then some r else if k ≤ s then f (k - 1) else f k
def shF (f : Nat → Option Nat) (s i : Nat) : Nat → Option Nat := fun k => if i < k ∧ k ≤ s then f (k - 1) else f k
def remF (f : Nat → Option Nat) (s p : Nat) : Nat → Option Nat := fun k => if k < p then f k else if k + 1 < s then f (k + 1) else if k + 1 = s then none else f k
def dnF (f : Nat → Option Nat) (p i : Nat) : Nat → Option Nat := fun k => if p ≤ k ∧ k + 1 < i then f (k + 1) else f k
theorem shF_s (f : Nat → Option Nat) (s : Nat) : shF f s s = f := by
  funext k
  simp only [shF]
  repeat' split
  all_goals first | rfl | (exfalso; omega) | (congr 1; omega) | (subst_vars; first | rfl | (exfalso; omega) | (congr 1; omega))
theorem shF_st {f : Nat → Option Nat} {s i : Nat} (h : 0 < i) (hs : i ≤ s) : va_up (shF f s i) i (shF f s i (i - 1)) = shF f s (i - 1) := by
  funext k
  simp only [shF, va_up]
  repeat' split
  all_goals first | rfl | (exfalso; omega) | (congr 1; omega) | (subst_vars; first | rfl | (exfalso; omega) | (congr 1; omega))
theorem shF_end {f : Nat → Option Nat} {s p r : Nat} (h : p ≤ s) : va_up (shF f s p) p (some r) = insF f s p r := by
  funext k
  simp only [shF, va_up, insF]
  repeat' split
  all_goals first | rfl | (exfalso; omega) | (congr 1; omega) | (subst_vars; first | rfl | (exfalso; omega) | (congr 1; omega))
theorem dnF_0 (f : Nat → Option Nat) (p : Nat) : dnF f p (p + 1) = f := by
  funext k
  simp only [dnF]
  repeat' split
  all_goals first | rfl | (exfalso; omega) | (congr 1; omega) | (subst_vars; first | rfl | (exfalso; omega) | (congr 1; omega))
theorem dnF_st {f : Nat → Option Nat} {p i : Nat} (h : p < i) : va_up (dnF f p i) (i - 1) (dnF f p i i) = dnF f p (i + 1) := by
  funext k
  simp only [dnF, va_up]
  repeat' split
  all_goals first | rfl | (exfalso; omega) | (congr 1; omega) | (subst_vars; first | rfl | (exfalso; omega) | (congr 1; omega))
theorem dnF_end {f : Nat → Option Nat} {p s : Nat} (h : p < s) : va_up (dnF f p s) (s - 1) none = remF f s p := by
  funext k
  simp only [dnF, va_up, remF]
  repeat' split
  all_goals first | rfl | (exfalso; omega) | (congr 1; omega) | (subst_vars; first | rfl | (exfalso; omega) | (congr 1; omega))
theorem sA_self (P : PS) (q : Nat) : sA P q (pA P q) = P := by
  have e : va_up (pA P) q (pA P q) = pA P := by
    funext x
    unfold va_up
    by_cases h : x = q
    · rw [if_pos h, h]
    · rw [if_neg h]
  unfold sA
  rw [e]
  rfl
theorem va_up2 {α : Type} (f : Nat → α) (k : Nat) (v w : α) : va_up (va_up f k v) k w = va_up f k w := by
  funext x
  unfold va_up
  by_cases h : x = k
  · rw [if_pos h, if_pos h]
  · rw [if_neg h, if_neg h, if_neg h]
theorem sA_sA (P : PS) (q : Nat) (f g : Nat → Option Nat) : sA (sA P q f) q g = sA P q g := by
  unfold sA
  show (_, _, _, _, _, _, va_up (va_up (pA P) q f) q g, _) = _
  rw [va_up2]
  rfl
theorem pAq_sA (P : PS) (q : Nat) (f : Nat → Option Nat) : pA (sA P q f) q = f := by
  rw [pA_sA]
  exact va_up_self _ _ _
/-- what a world says of boxes: the first four -/
theorem ov_box {T : CT3} {N : AH} {P Q : PS} (h1 : pD P = pD Q) (h2 : pN P = pN Q) (h3 : pL P = pL Q) (h4 : pH P = pH Q) (h5 : pS P = pS Q) (h6 : pA P = pA Q) (h7 : pW P = pW Q) (hb : ∀ x i, i < 4 → pB P x i = pB Q x i) : ov T N P = ov T N Q := by
  funext x
  have e : pvl P x = pvl Q x := by
    unfold pvl
    rw [h2, h3, h4, h5, hb x 0 (by omega), hb x 1 (by omega), hb x 2 (by omega), hb x 3 (by omega)]
  unfold ov
  rw [h1, h6, h7, e]
/-- two hedges' hull -/
def hulB (h r : Nat → Int32) : Nat → Int32 := fun i => if i < 2 then minI (h i) (r i) else maxI (h i) (r i)
/-- the hull of g 0, .., g k -/
def hulL (g : Nat → Nat → Int32) : Nat → Nat → Int32
  | 0 => g 0
  | k + 1 => hulB (hulL g k) (g (k + 1))
def bx4 (a b c d : Int32) : Nat → Int32 := fun i => if i = 0 then a else if i = 1 then b else if i = 2 then c else d
theorem pD_sBx (P : PS) (q : Nat) (bx : Nat → Int32) : pD (sBx P q bx) = pD P := rfl
theorem pN_sBx (P : PS) (q : Nat) (bx : Nat → Int32) : pN (sBx P q bx) = pN P := rfl
theorem pL_sBx (P : PS) (q : Nat) (bx : Nat → Int32) : pL (sBx P q bx) = pL P := rfl
theorem pH_sBx (P : PS) (q : Nat) (bx : Nat → Int32) : pH (sBx P q bx) = pH P := rfl
theorem pS_sBx (P : PS) (q : Nat) (bx : Nat → Int32) : pS (sBx P q bx) = pS P := rfl
theorem pB_sBx (P : PS) (q : Nat) (bx : Nat → Int32) : pB (sBx P q bx) = va_up (pB P) q bx := rfl
theorem pA_sBx (P : PS) (q : Nat) (bx : Nat → Int32) : pA (sBx P q bx) = pA P := rfl
theorem pW_sBx (P : PS) (q : Nat) (bx : Nat → Int32) : pW (sBx P q bx) = pW P := rfl
theorem i4 {i : Nat} (h : i < 4) : i = 0 ∨ i = 1 ∨ i = 2 ∨ i = 3 := by omega
theorem ov_sBx {T : CT3} {N : AH} {P : PS} {q : Nat} {a b c d : Int32} {bx : Nat → Int32} (h0 : a = bx 0) (h1 : b = bx 1) (h2 : c = bx 2) (h3 : d = bx 3) : ov T N (sB (sB (sB (sB P q 0 a) q 1 b) q 2 c) q 3 d) = ov T N (sBx P q bx) := by
  refine ov_box rfl rfl rfl rfl rfl rfl rfl ?_
  intro x i hi
  subst h0; subst h1; subst h2; subst h3
  simp only [pB_sB, pB_sBx]
  by_cases hx : x = q
  · subst hx
    rcases i4 hi with rfl | rfl | rfl | rfl <;> simp [va_up]
  · simp [va_up, hx]
theorem ov_sBx2 {T : CT3} {N : AH} {P : PS} {q : Nat} {b1 b2 : Nat → Int32} : ov T N (sBx (sBx P q b1) q b2) = ov T N (sBx P q b2) := by
  refine ov_box rfl rfl rfl rfl rfl rfl rfl ?_
  intro x i hi
  simp only [pB_sBx, va_up2]
/-- where the one at 'next' goes: the first place ahead of it that has a greater key, or its own -/
def posK (key : Nat → Int32) (f : Nat → Option Nat) (n : Nat) : Nat → Nat → Nat
  | 0, p => p
  | m + 1, p => if p < n ∧ key ((f p).getD 0) ≤ key ((f n).getD 0) then posK key f n m (p + 1) else p
def srtS (key : Nat → Int32) (f : Nat → Option Nat) (s n : Nat) : Nat → Option Nat := insF (remF f s n) (s - 1) (posK key f n n 0) ((f n).getD 0)
/-- the row sorted by its first n + 1 -/
def srtF (key : Nat → Int32) (f : Nat → Option Nat) (s : Nat) : Nat → (Nat → Option Nat)
  | 0 => f
  | n + 1 => srtS key (srtF key f s n) s (n + 1)
/-- the spread of the keys of f's first s -/
def minK (key : Nat → Int32) (f : Nat → Option Nat) : Nat → Int32
  | 0 => key ((f 0).getD 0)
  | k + 1 => minI (minK key f k) (key ((f (k + 1)).getD 0))
def maxK (key : Nat → Int32) (f : Nat → Option Nat) : Nat → Int32
  | 0 => key ((f 0).getD 0)
  | k + 1 => maxI (maxK key f k) (key ((f (k + 1)).getD 0))
theorem pSq_sS (P : PS) (q v : Nat) : pS (sS P q v) q = v := by rw [pS_sS]; exact va_up_self _ _ _
theorem sA_sS (P : PS) (q v : Nat) (f : Nat → Option Nat) : sA (sS P q v) q f = sS (sA P q f) q v := rfl
def lowE (P : PS) (q : Nat) (x : Bool) : Int32 := if x then pB P q 0 else pB P q 1
