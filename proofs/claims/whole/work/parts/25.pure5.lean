theorem tyP9 : ∀ j, j < 9 → defaultValue (tyX0 j) = vp_V [.int 0, .int 0, .null, .int 0, .null, .int 0, .int 0, .int 0, .int 0] j := by
  intro j hj
  rcases (show j = 0 ∨ j = 1 ∨ j = 2 ∨ j = 3 ∨ j = 4 ∨ j = 5 ∨ j = 6 ∨ j = 7 ∨ j = 8 by omega) with rfl | rfl | rfl | rfl | rfl | rfl | rfl | rfl | rfl <;> rfl
theorem dom_lt {T : CT3} {N : AH} {P : PS} {sz : Nat} (hw : Wf P) (h : ∀ q e, ov T N P q = some e → q < sz) : ∀ x, pD P x = true → x + 1 < sz := fun x hx => h _ _ (ov_ar hw hx)
theorem obj_lt {T : CT3} {N : AH} {P : PS} {F : FS} {sz : Nat} (hw : WfF P F) (h : ∀ q e, ov T (ovF T N F) P q = some e → q < sz) : fO F + 1 < sz := h _ _ (ovF_a hw)
theorem fresh_dom {P : PS} {sz : Nat} (h : ∀ x, pD P x = true → x + 1 < sz) {y : Nat} (hy : sz ≤ y + 1) : pD P y = false := by
  cases hp : pD P y with
  | false => rfl
  | true => have := h y hp; omega
theorem Wf.nw {P : PS} {sz : Nat} (hw : Wf P) (h : ∀ x, pD P x = true → x + 1 < sz) (n : Int32) (lv : Nat) (bx : Nat → Int32) (w : Nat) : Wf (nwP P sz n lv bx w) := by
  intro q hq
  rw [pD_nwP] at hq ⊢
  by_cases h1 : q = sz
  · subst h1
    rw [va_up_ne _ _ (by omega)]
    exact fresh_dom h (by omega)
  · rw [va_up_ne _ _ h1] at hq
    have := h q hq
    rw [va_up_ne _ _ (by omega)]
    exact hw q hq
theorem WfF.nw {P : PS} {F : FS} {sz : Nat} (hw : WfF P F) (h : ∀ x, pD P x = true → x + 1 < sz) (ho : fO F + 1 < sz) (n : Int32) (lv : Nat) (bx : Nat → Int32) (w : Nat) : WfF (nwP P sz n lv bx w) F := by
  refine ⟨hw.1.nw h n lv bx w, ?_, ?_, ?_⟩
  · rw [pD_nwP, va_up_ne _ _ (by omega)]; exact hw.2.1
  · rw [pD_nwP, va_up_ne _ _ (by omega)]; exact hw.2.2.1
  · intro k hk
    rw [pD_nwP, va_up_ne _ _ (by omega)]
    exact hw.2.2.2 k hk
abbrev bx0 : Nat → Int32 := bx4 0 0 (-1) (-1)
/-- a new frame that holds all, over the old one -/
def rsP (P : PS) (F : FS) (sz : Nat) : PS := sS (sH (sA (nwP P sz (-1) (pL P (fT F) + 1) bx0 5) sz (insF (fun _ => none) 0 0 (fT F))) (fT F) (some sz)) sz (0 + 1)
def sT (F : FS) (t : Nat) : FS := (fO F, fC F, fS F, t, fA F)
def sC (F : FS) (c : Nat) : FS := (fO F, c, fS F, fT F, fA F)
def sSp (F : FS) (n : Nat) : FS := (fO F, fC F, n, fT F, fA F)
def sAl (F : FS) (f : Nat → Option Nat) : FS := (fO F, fC F, fS F, fT F, f)
theorem ovF_sT {T : CT3} {N : AH} {P : PS} {F : FS} (h : WfF P F) (t : Nat) : va_up (ov T (ovF T N F) P) (fO F) (some (.inr (1, (fvl F).set 3 (.ref t)))) = ov T (ovF T N (sT F t)) P := ovF_up h rfl rfl rfl
theorem ovF_sC {T : CT3} {N : AH} {P : PS} {F : FS} (h : WfF P F) (c : Nat) {x : Int32} (hx : x = nI c) : va_up (ov T (ovF T N F) P) (fO F) (some (.inr (1, (fvl F).set 1 (.int x)))) = ov T (ovF T N (sC F c)) P := by subst hx; exact ovF_up h rfl rfl rfl
theorem ovF_sSp {T : CT3} {N : AH} {P : PS} {F : FS} (h : WfF P F) (c : Nat) {x : Int32} (hx : x = nI c) : va_up (ov T (ovF T N F) P) (fO F) (some (.inr (1, (fvl F).set 2 (.int x)))) = ov T (ovF T N (sSp F c)) P := by subst hx; exact ovF_up h rfl rfl rfl
theorem nwq {α : Type} (f : Nat → α) (k : Nat) (v : α) : va_up f k v k = v := va_up_self f k v
