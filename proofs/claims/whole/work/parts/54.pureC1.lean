def tkP (P : PS) (ab f p : Nat) : PS := sH (sS (sA P ab (remF (pA P ab) (pS P ab) p)) ab (pS P ab - 1)) f none
def tigP (P : PS) (f : Nat) : PS := if pS P f = 0 then sBx P f (bx4 0 0 (-1) (-1)) else sBx P f (hulP P f (pS P f - 1))
/-- what dropping empty frames makes of the pieces, from r upward; pl: places in the holders -/
def drpP (pl : Nat → Nat) : Nat → PS → Option Nat → PS
  | 0, P, _ => P
  | _ + 1, P, none => P
  | n + 1, P, some f => match pH P f with
    | none => tigP P f
    | some ab => if pS P f = 0 then drpP pl n (tkP P ab f (pl f)) (some ab) else drpP pl n (tigP P f) (some ab)
def TigI (P : PS) (f : Nat) : Prop := pD P f = true ∧ pS P f ≤ pW P f ∧ pW P f < 1000 ∧ Kids P (pA P f) (pS P f) (fun c => c ≠ f)
def TkI (P : PS) (ab f p : Nat) : Prop := pD P ab = true ∧ pS P ab ≤ pW P ab ∧ pW P ab < 1000 ∧ p < pS P ab ∧ pA P ab p = some f ∧ (∀ j, j < p → pA P ab j ≠ some f) ∧ (∀ k c, k < pS P ab → pA P ab k = some c → pD P c = true)
def DrI (pl : Nat → Nat) : Nat → PS → Option Nat → Prop
  | 0, _, r => r = none
  | n + 1, P, r => ∀ f, r = some f → TigI P f ∧ ∀ ab, pH P f = some ab → (pS P f = 0 → TkI P ab f (pl f) ∧ DrI pl n (tkP P ab f (pl f)) (some ab)) ∧ (¬ pS P f = 0 → DrI pl n (tigP P f) (some ab))
theorem drp_n (pl : Nat → Nat) (n : Nat) (P : PS) : drpP pl n P none = P := by cases n <;> rfl
theorem drp_h {pl : Nat → Nat} {n f : Nat} {P : PS} (h : pH P f = none) : drpP pl (n + 1) P (some f) = tigP P f := by
  show (match pH P f with | none => _ | some ab => _) = _
  rw [h]
theorem drp_t {pl : Nat → Nat} {n f ab : Nat} {P : PS} (h : pH P f = some ab) (h0 : pS P f = 0) : drpP pl (n + 1) P (some f) = drpP pl n (tkP P ab f (pl f)) (some ab) := by
  show (match pH P f with | none => _ | some ab => _) = _
  rw [h]
  exact if_pos h0
theorem drp_f {pl : Nat → Nat} {n f ab : Nat} {P : PS} (h : pH P f = some ab) (h0 : ¬ pS P f = 0) : drpP pl (n + 1) P (some f) = drpP pl n (tigP P f) (some ab) := by
  show (match pH P f with | none => _ | some ab => _) = _
  rw [h]
  exact if_neg h0
theorem Wf_tig {P : PS} (h : Wf P) (f : Nat) : Wf (tigP P f) := by unfold tigP; split <;> exact h
theorem Wf_tk {P : PS} (h : Wf P) (ab f p : Nat) : Wf (tkP P ab f p) := h
theorem ct_tig {l : Launch} (hl : l.stackTraces = false) {T : CT3} {D : va_G} {N : AH} {P : PS} (sz : Nat) (hw : Wf P) {q : Nat} (h : TigI P q) : Ct l T D yX0_tighten cX0_tighten 4 none 2 42 0 0 [.ref q] (ov T N P) sz (fun v M' z' => v = none ∧ M' = ov T N (tigP P q) ∧ sz = z') := by
  obtain ⟨hq, hs, hs2, hc⟩ := h
  unfold tigP
  by_cases h0 : pS P q = 0
  · rw [if_pos h0]; exact ct_tighten0 hl sz hw hq h0 hs2
  · rw [if_neg h0]; exact ct_tighten hl sz hw hq (by omega) hs hs2 hc
theorem pS_n32 {s w : Nat} (h : s ≤ w) (h2 : w < 1000) : s < 2 ^ 31 := by omega
