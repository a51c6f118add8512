/-! words of the class -/
def isR (x1 y1 x2 y2 : Int32) : Bool := decide (0 ≤ x1) && (decide (0 ≤ y1) && (decide (x2 ≤ 99) && (decide (y2 ≤ 99) && (decide (x1 ≤ x2) && decide (y1 ≤ y2)))))
def isQ (w : Int32) : Bool := decide (0 ≤ w) && decide (w ≤ 8)
theorem isR_t {x1 y1 x2 y2 : Int32} (h1 : ¬ x1 < 0) (h2 : ¬ y1 < 0) (h3 : ¬ 99 < x2) (h4 : ¬ 99 < y2) (h5 : ¬ x2 < x1) (h6 : ¬ y2 < y1) : isR x1 y1 x2 y2 = true := by simp [isR, Int32.not_lt.mp h1, Int32.not_lt.mp h2, Int32.not_lt.mp h3, Int32.not_lt.mp h4, Int32.not_lt.mp h5, Int32.not_lt.mp h6]
theorem isR_1 {x1 y1 x2 y2 : Int32} (h : x1 < 0) : isR x1 y1 x2 y2 = false := by simp [isR, decide_eq_false (Int32.not_le.mpr h)]
theorem isR_2 {x1 y1 x2 y2 : Int32} (h : y1 < 0) : isR x1 y1 x2 y2 = false := by simp [isR, decide_eq_false (Int32.not_le.mpr h)]
theorem isR_3 {x1 y1 x2 y2 : Int32} (h : 99 < x2) : isR x1 y1 x2 y2 = false := by simp [isR, decide_eq_false (Int32.not_le.mpr h)]
theorem isR_4 {x1 y1 x2 y2 : Int32} (h : 99 < y2) : isR x1 y1 x2 y2 = false := by simp [isR, decide_eq_false (Int32.not_le.mpr h)]
theorem isR_5 {x1 y1 x2 y2 : Int32} (h : x2 < x1) : isR x1 y1 x2 y2 = false := by simp [isR, decide_eq_false (Int32.not_le.mpr h)]
theorem isR_6 {x1 y1 x2 y2 : Int32} (h : y2 < y1) : isR x1 y1 x2 y2 = false := by simp [isR, decide_eq_false (Int32.not_le.mpr h)]
theorem isQ_t {w : Int32} (h1 : ¬ w < 0) (h2 : ¬ 8 < w) : isQ w = true := by simp [isQ, Int32.not_lt.mp h1, Int32.not_lt.mp h2]
theorem isQ_1 {w : Int32} (h : w < 0) : isQ w = false := by simp [isQ, decide_eq_false (Int32.not_le.mpr h)]
theorem isQ_2 {w : Int32} (h : 8 < w) : isQ w = false := by simp [isQ, decide_eq_false (Int32.not_le.mpr h)]
/-- the allotment of a number, as the class looks it up -/
def alI (F : FS) (n : Int32) : Option Nat := if n < 0 then none else if nI (fC F) ≤ n then none else fA F n.toNatClampNeg
def hoI (P : PS) (F : FS) (n : Int32) : Option Nat := match alI F n with
  | none => none
  | some q => match pH P q with
    | none => none
    | some _ => some q
def Alok (P : PS) (F : FS) : Prop := fC F ≤ 60 ∧ ∀ a q, fA F a = some q → pD P q = true
theorem Alok.al {P : PS} {F : FS} (h : Alok P F) {n : Int32} {q : Nat} (hq : alI F n = some q) : pD P q = true := by
  unfold alI at hq
  split at hq
  · cases hq
  · split at hq
    · cases hq
    · exact h.2 _ _ hq
theorem alI_n {F : FS} {a : Nat} (h : a < fC F) (h2 : fC F ≤ 60) : alI F (nI a) = fA F a := by
  unfold alI
  rw [if_neg (nI_pos (by omega)), if_neg (nI_ge (by omega) (by omega)), nI_clamp (by omega)]
/-- is kid c better for r than b -/
def betB (P : PS) (r c b : Nat) : Bool := decide (grB P c r < grB P b r) || (decide (grB P c r = grB P b r) && decide (arB P c < arB P b))
/-- the place of the kid of q that grows least for r, of the first k + 1 -/
def bstP (P : PS) (q r : Nat) : Nat → Nat
  | 0 => 0
  | k + 1 => if betB P r (kd P q (k + 1)) (kd P q (bstP P q r k)) then k + 1 else bstP P q r k
theorem bstP_le (P : PS) (q r : Nat) : ∀ k, bstP P q r k ≤ k := by
  intro k
  induction k with
  | zero => exact Nat.le_refl _
  | succ k ih => unfold bstP; split <;> omega
/-- a frame of level n + 1 in good order, and all below it -/
def TrP (P : PS) : Nat → Nat → Prop
  | 0, q => pD P q = true ∧ pL P q = 1 ∧ pW P q = 5 ∧ pS P q ≤ 4 ∧ Kids P (pA P q) (pS P q) (fun c => pL P c = 0)
  | n + 1, q => pD P q = true ∧ pL P q = n + 2 ∧ pW P q = 5 ∧ (pS P q ≤ 4 ∧ 0 < pS P q) ∧ Kids P (pA P q) (pS P q) (fun c => TrP P n c)
theorem TrP.d {P : PS} {n q : Nat} (h : TrP P n q) : pD P q = true := by cases n <;> exact h.1
theorem TrP.l {P : PS} {n q : Nat} (h : TrP P n q) : pL P q = n + 1 := by cases n <;> exact h.2.1
theorem TrP.w {P : PS} {n q : Nat} (h : TrP P n q) : pW P q = 5 := by cases n <;> exact h.2.2.1
theorem TrP.s {P : PS} {n q : Nat} (h : TrP P n q) : pS P q ≤ 4 := by
  cases n
  · exact h.2.2.2.1
  · exact h.2.2.2.1.1
theorem TrP.k {P : PS} {n q : Nat} (h : TrP P n q) : Kids P (pA P q) (pS P q) (fun _ => True) := by
  cases n with
  | zero => exact fun k hk => ⟨(h.2.2.2.2 k hk).1, (h.2.2.2.2 k hk).2.1, trivial⟩
  | succ n => exact fun k hk => ⟨(h.2.2.2.2 k hk).1, (h.2.2.2.2 k hk).2.1, trivial⟩
/-- where a rectangle r would come, from the frame q of level n + 1 down -/
def ffP (P : PS) (r : Nat) : Nat → Nat → Nat
  | 0, q => q
  | n + 1, q => ffP P r n (kd P q (bstP P q r (pS P q - 1)))
def sumA (a : Int32) (f : Nat → Int32) : Nat → Int32
  | 0 => a
  | k + 1 => sumA a f k + f k
abbrev sumI (f : Nat → Int32) (n : Nat) : Int32 := sumA 0 f n
def frP (P : PS) : Nat → Nat → Int32
  | 0, _ => 1
  | n + 1, q => sumA 1 (fun k => frP P n (kd P q k)) (pS P q)
def haP (P : PS) : Nat → Nat → Int32
  | 0, q => arB P q
  | n + 1, q => sumA (arB P q) (fun k => haP P n (kd P q k)) (pS P q)
def mbP (P : PS) (q k : Nat) (n : Nat) : Int32 := sumI (fun i => bI (mtB P (kd P q (k + 1 + i)) (kd P q k))) n
def mpP (P : PS) : Nat → Nat → Int32
  | 0, _ => 0
  | n + 1, q => sumI (fun k => mbP P q k (pS P q - (k + 1)) + mpP P n (kd P q k)) (pS P q)
def lkP (P : PS) (r : Nat) : Nat → Nat → Int32
  | 0, _ => 1
  | n + 1, q => sumA 1 (fun k => if mtB P (kd P q k) r then lkP P r n (kd P q k) else 0) (pS P q)
def dgf (P : PS) (q : Nat) (d : Int64) : Int64 := if pS P q = 0 then ((((d * 31 + (nI (pS P q)).toInt64) * 31 + (0 : Int32).toInt64) * 31 + (0 : Int32).toInt64) * 31 + (0 : Int32).toInt64) * 31 + (0 : Int32).toInt64 else ((((d * 31 + (nI (pS P q)).toInt64) * 31 + (pB P q 0).toInt64) * 31 + (pB P q 1).toInt64) * 31 + (pB P q 2).toInt64) * 31 + (pB P q 3).toInt64
def iterL (f : Nat → Int64 → Int64) (d : Int64) : Nat → Int64
  | 0 => d
  | k + 1 => f k (iterL f d k)
def dgP (P : PS) : Nat → Nat → Int64 → Int64
  | 0, q, d => iterL (fun k d => d * 31 + (pN P (kd P q k)).toInt64) (dgf P q d) (pS P q)
  | n + 1, q, d => iterL (fun k d => dgP P n (kd P q k) d) (dgf P q d) (pS P q)
/-- sums over the allotments that came -/
def cntF (f : Nat → Int32) (n : Nat) : Int32 := sumI f n
def heldB (P : PS) (F : FS) (a : Nat) : Bool := (hoI P F (nI a)).isSome
def htm (P : PS) (F : FS) (r : Nat) (a : Nat) : Int32 := match hoI P F (nI a) with
  | none => 0
  | some q => bI (mtB P q r)
