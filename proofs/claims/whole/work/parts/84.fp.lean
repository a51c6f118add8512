/-! the mean is no NaN -/
def fpG : FP.Core.Datum → Prop
  | .nan => False
  | .inf _ => True
  | .fin _ c q => c < 2 ^ 53 ∧ q ≤ 971
theorem b64_t : FP.Core.b64.tails = 2 ^ 52 := by decide
theorem b64_e : FP.Core.b64.exps = 2048 := by decide
theorem b64_x : FP.Core.b64.qmax = 971 := by decide
theorem b64_m : FP.Core.b64.qmin = -1074 := by decide
theorem b64_p : (2 : Nat) ^ FP.Core.b64.p = 2 ^ 53 := rfl
theorem fp_bound {s : Bool} {c : Nat} {q : Int} (h : c < 2 ^ 53) : fpG (FP.Core.bound FP.Core.b64 s c q) := by
  unfold FP.Core.bound
  rw [b64_x]
  by_cases hq : q ≤ 971
  · rw [if_pos hq]; exact ⟨h, hq⟩
  · rw [if_neg hq]; trivial
theorem fp_settle (s : Bool) (c : Nat) (q : Int) : fpG (FP.Core.settle FP.Core.b64 s c q) := by
  unfold FP.Core.settle
  rw [b64_p, b64_t]
  by_cases hc : c < 2 ^ 53
  · rw [if_pos hc]; exact fp_bound hc
  · rw [if_neg hc]; exact fp_bound (by omega)
theorem fp_ratio (s : Bool) (n d : Nat) (e : Int) : fpG (FP.Core.roundRatio FP.Core.b64 s n d e) := by
  unfold FP.Core.roundRatio
  by_cases hn : n = 0
  · rw [if_pos hn, b64_m]; exact ⟨by omega, by omega⟩
  · rw [if_neg hn]; exact fp_settle _ _ _
set_option maxRecDepth 16384 in
theorem fp_asm (s : Bool) {e t : Nat} (he : e ≤ 2047) (ht : t < 2 ^ 52) (h : e = 2047 → t = 0) : FP.Core.assemble FP.Core.b64 s e t < 2 ^ 64 ∧ FP.Core.assemble FP.Core.b64 s e t % 2 ^ 63 ≤ 2047 * 2 ^ 52 := by
  unfold FP.Core.assemble
  rw [b64_t, b64_e]
  have h2 : e * 2 ^ 52 + t ≤ 2047 * 2 ^ 52 := by
    by_cases e2 : e = 2047
    · rw [h e2, e2]; exact Nat.le_refl _
    · refine Nat.le_of_lt (Nat.lt_of_lt_of_le (Nat.add_lt_add_left ht _) ?_)
      rw [← Nat.succ_mul]
      exact Nat.mul_le_mul_right _ (by omega)
  cases s with
  | false =>
    have e3 : (false.toNat * 2048 + e) * 2 ^ 52 + t = e * 2 ^ 52 + t := by
      show (0 * 2048 + e) * 2 ^ 52 + t = _
      rw [Nat.zero_mul, Nat.zero_add]
    rw [e3]
    constructor
    · omega
    · rw [Nat.mod_eq_of_lt (by omega)]; exact h2
  | true =>
    have e3 : (true.toNat * 2048 + e) * 2 ^ 52 + t = 2 ^ 63 + (e * 2 ^ 52 + t) := by
      show (1 * 2048 + e) * 2 ^ 52 + t = _
      rw [Nat.add_mul]
      omega
    rw [e3]
    constructor
    · omega
    · rw [Nat.add_mod_left, Nat.mod_eq_of_lt (by omega)]; exact h2
theorem fp_ef (s : Bool) (c : Nat) (q : Int) : FP.Core.encode FP.Core.b64 (.fin s c q) = if c < 2 ^ 52 then FP.Core.assemble FP.Core.b64 s 0 c else FP.Core.assemble FP.Core.b64 s ((q - (-1074)).toNat + 1) (c - 2 ^ 52) := by
  show (if c < FP.Core.b64.tails then FP.Core.assemble FP.Core.b64 s 0 c else FP.Core.assemble FP.Core.b64 s ((q - FP.Core.b64.qmin).toNat + 1) (c - FP.Core.b64.tails)) = _
  rw [b64_t, b64_m]
theorem fp_enc {d : FP.Core.Datum} (h : fpG d) : FP.Core.encode FP.Core.b64 d < 2 ^ 64 ∧ FP.Core.encode FP.Core.b64 d % 2 ^ 63 ≤ 2047 * 2 ^ 52 := by
  cases d with
  | nan => exact absurd h id
  | inf s =>
    show FP.Core.assemble FP.Core.b64 s (FP.Core.b64.exps - 1) 0 < _ ∧ FP.Core.assemble FP.Core.b64 s (FP.Core.b64.exps - 1) 0 % _ ≤ _
    rw [b64_e]
    exact fp_asm s (by omega) (by decide) (fun _ => rfl)
  | fin s c q =>
    obtain ⟨h1, h2⟩ := h
    rw [fp_ef]
    by_cases hc : c < 2 ^ 52
    · rw [if_pos hc]; exact fp_asm s (by omega) hc (fun e => absurd e (by decide))
    · rw [if_neg hc]
      refine fp_asm s (by omega) (by omega) (fun e => absurd e ?_)
      omega
theorem vf_enc {d : FP.Core.Datum} (h : fpG d) : vf_n64 (UInt64.ofNat (FP.Core.encode FP.Core.b64 d)) := by
  obtain ⟨h1, h2⟩ := fp_enc h
  unfold vf_n64
  rw [UInt64.le_iff_toNat_le, UInt64.toNat_and, UInt64.toNat_ofNat_of_lt' h1]
  show FP.Core.encode FP.Core.b64 d &&& (2 ^ 63 - 1) ≤ 2047 * 2 ^ 52
  rw [Nat.and_two_pow_sub_one_eq_mod]
  exact h2
set_option maxRecDepth 16384 in
theorem fp_i2d {s : Nat} (h : s < 2 ^ 31) : ∃ t c q, FP.Core.decode FP.Core.b64 (FP.i2d (nI s)).toNat = .fin t c q := by
  have e1 : (nI s).toInt = (s : Int) := Int32.toInt_ofNat_of_lt (by omega)
  have hg : ∃ c q, FP.Core.roundRatio FP.Core.b64 false s 1 0 = .fin false c q ∧ c < 2 ^ 53 ∧ q ≤ 1 := by
    unfold FP.Core.roundRatio
    by_cases hn : s = 0
    · rw [if_pos hn, b64_m]; exact ⟨0, _, rfl, by omega, by omega⟩
    · rw [if_neg hn]
      have hq : FP.Core.quantum FP.Core.b64 s 1 0 ≤ 0 := by
        unfold FP.Core.quantum FP.Core.leading
        rw [b64_m]
        have hl : s.log2 < 31 := (Nat.log2_lt hn).mpr h
        have hp : ((FP.Core.b64.p : Nat) : Int) = 53 := rfl
        have h1 : (Nat.log2 1 : Int) = 0 := by decide
        rw [hp]
        simp only [h1]
        split <;> omega
      unfold FP.Core.roundAt FP.Core.settle
      rw [b64_p, b64_t]
      by_cases hc : FP.Core.nearest (FP.Core.unitsNum s 0 (FP.Core.quantum FP.Core.b64 s 1 0)) (FP.Core.unitsDen 1 0 (FP.Core.quantum FP.Core.b64 s 1 0)) < 2 ^ 53
      · rw [if_pos hc]
        unfold FP.Core.bound
        rw [b64_x, if_pos (by omega)]
        exact ⟨_, _, rfl, hc, by omega⟩
      · rw [if_neg hc]
        unfold FP.Core.bound
        rw [b64_x, if_pos (by omega)]
        exact ⟨_, _, rfl, by omega, by omega⟩
  obtain ⟨c, q, e2, hc, hq⟩ := hg
  have e3 : FP.i2d (nI s) = UInt64.ofNat (FP.Core.encode FP.Core.b64 (.fin false c q)) := by
    show UInt64.ofNat (FP.Core.encode FP.Core.b64 (FP.Core.round FP.Core.b64 (FP.Core.ofInt (nI s).toInt))) = _
    rw [e1]
    show UInt64.ofNat (FP.Core.encode FP.Core.b64 (FP.Core.roundRatio FP.Core.b64 (decide ((s : Int) < 0)) ((s : Int).natAbs) 1 0)) = _
    rw [decide_eq_false (by omega), Int.natAbs_natCast, e2]
  have hen : ∃ e t, FP.Core.encode FP.Core.b64 (.fin false c q) = e * 2 ^ 52 + t ∧ t < 2 ^ 52 ∧ e < 2000 := by
    rw [fp_ef]
    by_cases hc2 : c < 2 ^ 52
    · rw [if_pos hc2]
      refine ⟨0, c, ?_, hc2, by omega⟩
      unfold FP.Core.assemble
      rw [b64_t]
      show (0 * _ + 0) * 2 ^ 52 + c = _
      rw [Nat.zero_mul]
    · rw [if_neg hc2]
      refine ⟨(q - (-1074)).toNat + 1, c - 2 ^ 52, ?_, by omega, by omega⟩
      unfold FP.Core.assemble
      rw [b64_t]
      show (0 * _ + _) * 2 ^ 52 + _ = _
      rw [Nat.zero_mul, Nat.zero_add]
  obtain ⟨e, t, e4, ht, he⟩ := hen
  have hN : e * 2 ^ 52 + t < 2 ^ 64 := by
    have : e * 2 ^ 52 ≤ 1999 * 2 ^ 52 := Nat.mul_le_mul_right _ (by omega)
    omega
  rw [e3, e4, UInt64.toNat_ofNat_of_lt' hN]
  have hE : FP.Core.fieldE FP.Core.b64 (e * 2 ^ 52 + t) = e := by
    unfold FP.Core.fieldE
    rw [b64_t, b64_e, Nat.mul_comm, Nat.mul_add_div (by decide), Nat.div_eq_of_lt ht, Nat.add_zero, Nat.mod_eq_of_lt (by omega)]
  unfold FP.Core.decode
  rw [hE, b64_e, if_neg (by omega)]
  by_cases h0 : e = 0
  · rw [if_pos h0]; exact ⟨_, _, _, rfl⟩
  · rw [if_neg h0]; exact ⟨_, _, _, rfl⟩
def fpC (n : Nat) : Bool := match FP.Core.decode FP.Core.b64 (FP.i2d (nI n)).toNat with
  | .fin _ d _ => decide (d ≠ 0)
  | _ => false
set_option maxRecDepth 100000 in
theorem fpC_all : ∀ n, n < 61 → 0 < n → fpC n = true := by decide
theorem mnOk_n {s n : Nat} (hs : s < 2 ^ 31) (hn : n ≤ 60) : mnOk (nI s) (nI n) := by
  intro h0
  have hp : 0 < n := by
    cases n with
    | zero => exact absurd rfl h0
    | succ n => omega
  have hc := fpC_all n (by omega) hp
  obtain ⟨t, c, q, e⟩ := fp_i2d hs
  show vf_n64 (UInt64.ofNat (FP.Core.encode FP.Core.b64 (FP.Core.quotient FP.Core.b64 (FP.Core.decode FP.Core.b64 (FP.i2d (nI s)).toNat) (FP.Core.decode FP.Core.b64 (FP.i2d (nI n)).toNat))))
  rw [e]
  unfold fpC at hc
  cases hd : FP.Core.decode FP.Core.b64 (FP.i2d (nI n)).toNat with
  | nan => rw [hd] at hc; exact Bool.noConfusion hc
  | inf s => rw [hd] at hc; exact Bool.noConfusion hc
  | fin t2 d r =>
    rw [hd] at hc
    refine vf_enc ?_
    unfold FP.Core.quotient
    show fpG (if d = 0 then _ else _)
    rw [if_neg (of_decide_eq_true hc)]
    exact fp_ratio _ _ _ _
/-- one that is no NaN is equal to itself -/
theorem dcmp_self {r : UInt64} (h : vf_n64 r) : FP.dcmp r r = some .eq := by
  have hd : FP.Core.decode FP.Core.b64 r.toNat ≠ .nan := by
    intro e
    unfold FP.Core.decode at e
    by_cases h1 : FP.Core.fieldE FP.Core.b64 r.toNat = FP.Core.b64.exps - 1
    · rw [if_pos h1] at e
      by_cases h2 : FP.Core.fieldT FP.Core.b64 r.toNat = 0
      · rw [if_pos h2] at e; exact FP.Core.Datum.noConfusion e
      · unfold FP.Core.fieldE at h1
        unfold FP.Core.fieldT at h2
        rw [b64_t, b64_e] at h1
        rw [b64_t] at h2
        unfold vf_n64 at h
        rw [UInt64.le_iff_toNat_le, UInt64.toNat_and] at h
        have h : r.toNat &&& (2 ^ 63 - 1) ≤ 2047 * 2 ^ 52 := h
        rw [Nat.and_two_pow_sub_one_eq_mod] at h
        omega
    · rw [if_neg h1] at e
      by_cases h2 : FP.Core.fieldE FP.Core.b64 r.toNat = 0
      · rw [if_pos h2] at e; exact FP.Core.Datum.noConfusion e
      · rw [if_neg h2] at e; exact FP.Core.Datum.noConfusion e
  show FP.Core.order (FP.Core.decode FP.Core.b64 r.toNat) (FP.Core.decode FP.Core.b64 r.toNat) = some .eq
  have hc : ∀ x : Int, compare x x = Ordering.eq := fun x => by
    show compareOfLessAndEq x x = _
    unfold compareOfLessAndEq
    rw [if_neg (by omega), if_pos rfl]
  cases hx : FP.Core.decode FP.Core.b64 r.toNat with
  | nan => exact absurd hx hd
  | inf s => exact congrArg some (hc _)
  | fin s c q => exact congrArg some (hc _)
