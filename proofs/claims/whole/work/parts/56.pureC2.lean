def spS (pl : Nat → Nat) (P : PS) (F : FS) (z f : Nat) : PS × FS × Nat := if 4 < pS P f then (match pH P f with
    | none => (spP (rsP P F z) f z 0 (z + 1 + 1), sSp (sT F z) (fS F + 1), z + 1 + 1 + 1 + 1)
    | some ab => (spP P f ab (pl f) z, sSp F (fS F + 1), z + 1 + 1)) else (P, F, z)
def scP (pl : Nat → Nat) : Nat → PS → FS → Nat → Option Nat → PS × FS × Nat
  | 0, P, F, z, _ => (P, F, z)
  | _ + 1, P, F, z, none => (P, F, z)
  | n + 1, P, F, z, some f => scP pl n (tigP (spS pl P F z f).1 f) (spS pl P F z f).2.1 (spS pl P F z f).2.2 (pH (spS pl P F z f).1 f)
def StI (P : PS) (F : FS) (f : Nat) : Prop := f = fT F ∧ pW P f = 5 ∧ Kids P (pA P f) (pS P f) (fun c => pH P c = some f ∧ c ≠ f)
def SoI (P : PS) (f ab k0 : Nat) : Prop := pW P f = 5 ∧ Kids P (pA P f) (pS P f) (fun c => pH P c = some f) ∧ pD P ab = true ∧ pS P ab ≤ 4 ∧ pW P ab = 5 ∧ (∀ k c, k < pS P ab → pA P ab k = some c → pD P c = true) ∧ ab ≠ f ∧ k0 < pS P ab ∧ pA P ab k0 = some f ∧ (∀ j, j < k0 → pA P ab j ≠ some f)
def SpC (pl : Nat → Nat) (P : PS) (F : FS) (f : Nat) : Prop := pD P f = true ∧ pS P f ≤ 5 ∧ (4 < pS P f → (pH P f = none → StI P F f) ∧ ∀ ab, pH P f = some ab → SoI P f ab (pl f))
def ScI (pl : Nat → Nat) : Nat → PS → FS → Nat → Option Nat → Prop
  | 0, _, _, _, r => r = none
  | n + 1, P, F, z, r => ∀ f, r = some f → SpC pl P F f ∧ WfF (spS pl P F z f).1 (spS pl P F z f).2.1 ∧ TigI (spS pl P F z f).1 f ∧ ScI pl n (tigP (spS pl P F z f).1 f) (spS pl P F z f).2.1 (spS pl P F z f).2.2 (pH (spS pl P F z f).1 f)
theorem sc_n (pl : Nat → Nat) (n : Nat) (P : PS) (F : FS) (z : Nat) : scP pl n P F z none = (P, F, z) := by cases n <;> rfl
theorem sc_s (pl : Nat → Nat) (n : Nat) (P : PS) (F : FS) (z f : Nat) : scP pl (n + 1) P F z (some f) = scP pl n (tigP (spS pl P F z f).1 f) (spS pl P F z f).2.1 (spS pl P F z f).2.2 (pH (spS pl P F z f).1 f) := rfl
theorem spS_n {pl : Nat → Nat} {P : PS} {F : FS} {z f : Nat} (h : ¬ 4 < pS P f) : spS pl P F z f = (P, F, z) := if_neg h
theorem pH_tig (P : PS) (f : Nat) : pH (tigP P f) = pH P := by unfold tigP; split <;> rfl
theorem pD_tig (P : PS) (f : Nat) : pD (tigP P f) = pD P := by unfold tigP; split <;> rfl
theorem WfF_tig {P : PS} {F : FS} (h : WfF P F) (f : Nat) : WfF (tigP P f) F := by unfold WfF Wf at h ⊢; rw [pD_tig]; exact h
theorem ct_spl {l : Launch} (hl : l.stackTraces = false) {T : CT3} {D : va_G} {N : AH} {P : PS} {F : FS} (sz : Nat) (hwF : WfF P F) (pl : Nat → Nat) {f : Nat} (h4 : 4 < pS P f) (h : SpC pl P F f) : Ct l T D yX1_split cX1_split 6 none 4 89 4 28 [.ref (fO F), .ref f] (ov T (ovF T N F) P) sz (fun v M' z' => v = none ∧ M' = ov T (ovF T N (spS pl P F sz f).2.1) (spS pl P F sz f).1 ∧ (spS pl P F sz f).2.2 = z') := by
  obtain ⟨hd, h5, hx⟩ := h
  obtain ⟨h1, h2⟩ := hx h4
  unfold spS
  rw [if_pos h4]
  rcases hh : pH P f with _ | ab
  · obtain ⟨hft, hW, hc⟩ := h1 hh
    subst hft
    exact ct_splitTop hl sz hwF hd (by omega) hW hc hh
  · obtain ⟨hW, hc, hab, hSa, hWa, hca, haq, hk0, hka, hmin⟩ := h2 ab hh
    exact ct_split hl sz hwF hd (by omega) hW hc hh hab hSa hWa hca haq hk0 hka hmin
/-- the top goes down while it holds but one -/
def lwP : Nat → PS → FS → PS × FS
  | 0, P, F => (P, F)
  | n + 1, P, F => if 1 < pL P (fT F) ∧ pS P (fT F) = 1 then lwP n (tkP P (fT F) (kd P (fT F) 0) 0) (sT F (kd P (fT F) 0)) else (P, F)
def LwC (P : PS) (F : FS) : Prop := pD P (fT F) = true ∧ pL P (fT F) < 1000 ∧ pS P (fT F) ≤ pW P (fT F) ∧ pW P (fT F) < 1000
def LwK (P : PS) (F : FS) : Prop := pA P (fT F) 0 = some (kd P (fT F) 0) ∧ pD P (kd P (fT F) 0) = true ∧ ∀ k c, k < pS P (fT F) → pA P (fT F) k = some c → pD P c = true
def LwI : Nat → PS → FS → Prop
  | 0, _, _ => True
  | n + 1, P, F => LwC P F ∧ (1 < pL P (fT F) → pS P (fT F) = 1 → LwK P F ∧ LwI n (tkP P (fT F) (kd P (fT F) 0) 0) (sT F (kd P (fT F) 0)))
theorem lw_t {n : Nat} {P : PS} {F : FS} (h : 1 < pL P (fT F)) (h1 : pS P (fT F) = 1) : lwP (n + 1) P F = lwP n (tkP P (fT F) (kd P (fT F) 0) 0) (sT F (kd P (fT F) 0)) := if_pos ⟨h, h1⟩
theorem lw_f {n : Nat} {P : PS} {F : FS} (h : ¬ (1 < pL P (fT F) ∧ pS P (fT F) = 1)) : lwP (n + 1) P F = (P, F) := if_neg h
theorem spS_O {pl : Nat → Nat} {P : PS} {F : FS} {z f : Nat} : fO (spS pl P F z f).2.1 = fO F := by
  unfold spS
  split
  · split <;> rfl
  · rfl
