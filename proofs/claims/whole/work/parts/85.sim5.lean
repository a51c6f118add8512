section
variable {P : PS} {F : FS} {S : RS} {φ al : Nat → Nat} {h : Nat} {L : Nat → Prop}
theorem Inv.fr (i : Inv P F S φ al L h) : ∀ n f, L f → rG S f = n → frP P n (φ f) = s0R S n f := by
  intro n
  induction n with
  | zero => intro f _ _; rfl
  | succ n ih =>
    intro f hf hn
    show sumA 1 _ (pS P (φ f)) = sumA 1 _ (rM S f)
    rw [(i.1.lv hf).2.2.2.1]
    refine sumA_c _ (fun k hk => ?_)
    have k1 := i.kid1 hf hn hk
    show frP P n (kd P (φ f) k) = s0R S n (rk S f k)
    rw [k1.1, ih _ k1.2.1 k1.2.2.1]
theorem Inv.ha (i : Inv P F S φ al L h) : ∀ n f, L f → rG S f = n → haP P n (φ f) = s1R S n f := by
  intro n
  induction n with
  | zero => intro f hf hn; show arB P (φ f) = arR S 0 f; rw [i.ar hf, hn]
  | succ n ih =>
    intro f hf hn
    show sumA (arB P (φ f)) _ (pS P (φ f)) = sumA (arR S (n + 1) f) _ (rM S f)
    rw [(i.1.lv hf).2.2.2.1, i.ar hf, hn]
    refine sumA_c _ (fun k hk => ?_)
    have k1 := i.kid1 hf hn hk
    show haP P n (kd P (φ f) k) = s1R S n (rk S f k)
    rw [k1.1, ih _ k1.2.1 k1.2.2.1]
/-- pairs: of each one the later ones, or of each one the earlier ones -/
def prB (M : Nat → Nat → Int32) (g : Nat → Int32) : Nat → Int32
  | 0 => 0
  | k + 1 => sumA (prB M g k + g k) (fun j => M j k) k
theorem pr_eq {M : Nat → Nat → Int32} {g : Nat → Int32} (hs : ∀ j k, M j k = M k j) : ∀ m, m ≤ 4 → sumA 0 (fun k => sumA 0 (fun j => M (k + 1 + j) k) (m - (k + 1)) + g k) m = prB M g m := by
  intro m hm
  rcases (show m = 0 ∨ m = 1 ∨ m = 2 ∨ m = 3 ∨ m = 4 by omega) with rfl | rfl | rfl | rfl | rfl
  · rfl
  · show 0 + (0 + g 0) = 0 + g 0
    rw [Int32.zero_add]
  · simp only [sumA, prB, Int32.zero_add, Nat.add_zero, Nat.zero_add, Nat.reduceAdd, Nat.reduceSub, Nat.sub_self]
    rw [hs 1 0]
    ac_rfl
  · simp only [sumA, prB, Int32.zero_add, Nat.add_zero, Nat.zero_add, Nat.reduceAdd, Nat.reduceSub, Nat.sub_self]
    rw [hs 1 0, hs 2 0, hs 2 1]
    ac_rfl
  · simp only [sumA, prB, Int32.zero_add, Nat.add_zero, Nat.zero_add, Nat.reduceAdd, Nat.reduceSub, Nat.sub_self]
    rw [hs 1 0, hs 2 0, hs 2 1, hs 3 0, hs 3 1, hs 3 2]
    ac_rfl
theorem mt2_sym (a b : Nat → Int32) : mt2 a b = mt2 b a := by
  unfold mt2 meetI
  generalize decide (a 0 ≤ b 2) = p
  generalize decide (b 0 ≤ a 2) = q
  generalize decide (a 1 ≤ b 3) = r
  generalize decide (b 1 ≤ a 3) = s
  cases p <;> cases q <;> cases r <;> cases s <;> rfl
theorem s2A_pr {S : RS} {g : Nat → Int32} {n f : Nat} : ∀ m, s2A S g n f m = prB (fun j k => bI (mt2 (edR S n (rk S f j)) (edR S n (rk S f k)))) g m := by
  intro m
  induction m with
  | zero => rfl
  | succ m ih =>
    show mbR S n f m (s2A S g n f m + g m) m = sumA _ _ m
    rw [ih]
    rfl
theorem Inv.mp (i : Inv P F S φ al L h) : ∀ n f, L f → rG S f = n → mpP P n (φ f) = s2R S n f := by
  intro n
  induction n with
  | zero => intro f _ _; rfl
  | succ n ih =>
    intro f hf hn
    show sumI (fun k => mbP P (φ f) k (pS P (φ f) - (k + 1)) + mpP P n (kd P (φ f) k)) (pS P (φ f)) = s2A S (fun k => s2R S n (rk S f k)) n f (rM S f)
    rw [s2A_pr, ← pr_eq (fun j k => by rw [mt2_sym]) _ (i.2.2.2.2.1 f hf).1, (i.1.lv hf).2.2.2.1]
    refine sumA_c _ (fun k hk => ?_)
    have k1 := i.kid1 hf hn hk
    show mbP P (φ f) k (rM S f - (k + 1)) + mpP P n (kd P (φ f) k) = sumA 0 _ (rM S f - (k + 1)) + s2R S n (rk S f k)
    congr 1
    · show sumA 0 _ _ = _
      refine sumA_c _ (fun j hj => ?_)
      have k2 := i.kid1 hf hn (k := k + 1 + j) (by omega)
      have b1 := i.bx1 k1.2.1 k1.2.2.2
      have b2 := i.bx1 k2.2.1 k2.2.2.2
      rw [k1.2.2.1] at b1
      rw [k2.2.2.1] at b2
      show bI (mtB P (kd P (φ f) (k + 1 + j)) (kd P (φ f) k)) = bI (mt2 (edR S n (rk S f (k + 1 + j))) (edR S n (rk S f k)))
      rw [k1.1, k2.1]
      congr 1
      show meetI _ _ _ _ _ _ _ _ = meetI _ _ _ _ _ _ _ _
      rw [b1 0 (by omega), b1 1 (by omega), b1 2 (by omega), b1 3 (by omega), b2 0 (by omega), b2 1 (by omega), b2 2 (by omega), b2 3 (by omega)]
    · rw [k1.1, ih _ k1.2.1 k1.2.2.1]
theorem Inv.hl (i : Inv P F S φ al L h) : ∀ a, a < rC S 1 → hld P F a = nI (rD S a) ∧ arH P F a = nI (rD S a) * aroR S a := by
  intro a ha
  by_cases hd : rD S a = 1
  · obtain ⟨e1, e2⟩ := hld_s2 (i.ho1 ha hd)
    rw [e1, e2, hd]
    refine ⟨rfl, ?_⟩
    have hb := i.ab ha
    show areaI (pB P (al a) 0) (pB P (al a) 1) (pB P (al a) 2) (pB P (al a) 3) = 1 * aroR S a
    rw [hb 0 (by omega), hb 1 (by omega), hb 2 (by omega), hb 3 (by omega), Int32.one_mul]
    rfl
  · obtain ⟨e1, e2⟩ := hld_n2 (i.ho0 ha hd)
    have h0 : rD S a = 0 := by have := i.d1 a (by have := i.c60; omega); omega
    rw [e1, e2, h0]
    exact ⟨rfl, Int32.zero_mul.symm⟩
theorem Inv.countV (i : Inv P F S φ al L h) : ∀ w, w ≤ 8 → cntP P F h w = cnR S h w := by
  obtain ⟨f1, f2, f3, _, _⟩ := i.2.2.1
  have hg := i.2.1.2.2.1
  have hL := i.2.1.1
  intro w hw
  rcases (show w = 0 ∨ w = 1 ∨ w = 2 ∨ w = 3 ∨ w = 4 ∨ w = 5 ∨ w = 6 ∨ w = 7 ∨ w = 8 by omega) with rfl | rfl | rfl | rfl | rfl | rfl | rfl | rfl | rfl
  · show sumI (hld P F) (fC F) = sumA 0 _ (rC S 1)
    rw [f1]
    exact sumA_c _ (fun a ha => (i.hl a ha).1)
  · show nI (fC F) = nI (rC S 1); rw [f1]
  · show frP P h (fT F) = s0R S h (rC S 4); rw [f3]; exact i.fr h _ hL hg
  · show nI (pL P (fT F)) - 1 = nI h
    rw [f3, (i.1.lv hL).2.1, hg, nI_m1 (by omega)]
    rfl
  · show haP P h (fT F) = s1R S h (rC S 4); rw [f3]; exact i.ha h _ hL hg
  · show arB P (fT F) = arR S h (rC S 4); rw [f3, i.ar hL, hg]
  · show mpP P h (fT F) = s2R S h (rC S 4); rw [f3]; exact i.mp h _ hL hg
  · show nI (fS F) = nI (rC S 2); rw [f2]
  · show nI (pS P (fT F)) = nI (rM S (rC S 4)); rw [f3, (i.1.lv hL).2.2.2.1]
theorem sumA_nat {g : Nat → Nat} (n : Nat) : sumA 0 (fun k => nI (g k)) n = nI (sumE g n) := by
  induction n with
  | zero => rfl
  | succ n ih => show sumA 0 _ n + nI (g n) = _; rw [ih, nI_add]; rfl
theorem sumE_le {g : Nat → Nat} {m : Nat} : ∀ n, (∀ k, k < n → g k ≤ m) → sumE g n ≤ n * m := by
  intro n
  induction n with
  | zero => intro _; show 0 ≤ _; omega
  | succ n ih =>
    intro h
    show sumE g n + g n ≤ _
    have h1 := ih (fun k hk => h k (by omega))
    have h2 := h n (by omega)
    rw [Nat.succ_mul]
    omega
theorem Inv.meanV (i : Inv P F S φ al L h) : sumA 0 (arH P F) (fC F) = sumA 0 (fun a => nI (rD S a) * aroR S a) (rC S 1) ∧ sumA 0 (hld P F) (fC F) = sumA 0 (fun a => nI (rD S a)) (rC S 1) ∧ mnOk (sumA 0 (fun a => nI (rD S a) * aroR S a) (rC S 1)) (sumA 0 (fun a => nI (rD S a)) (rC S 1)) := by
  rw [i.2.2.1.1]
  refine ⟨sumA_c _ (fun a ha => (i.hl a ha).2), sumA_c _ (fun a ha => (i.hl a ha).1), ?_⟩
  have hc := i.c60
  have hx : ∀ a, a < rC S 1 → ∃ n, nI (rD S a) * aroR S a = nI n ∧ n ≤ 10000 := by
    intro a ha
    have hv : VB (fun s => rE S (4 * a + s)) := isR_nat (i.1.am ha).2.2.2.2.1
    obtain ⟨n, e, _, h2⟩ := hv.ar
    have e2 : aroR S a = nI n := e
    have hd := i.d1 a (by omega)
    rw [e2, pk_mul]
    refine ⟨_, rfl, ?_⟩
    have : rD S a * n ≤ 1 * 10000 := Nat.mul_le_mul hd h2
    omega
  have hx2 : ∃ s, sumA 0 (fun a => nI (rD S a) * aroR S a) (rC S 1) = nI s ∧ s ≤ 600000 := by
    have hall : ∀ n, n ≤ rC S 1 → ∃ s, sumA 0 (fun a => nI (rD S a) * aroR S a) n = nI s ∧ s ≤ n * 10000 := by
      intro n
      induction n with
      | zero => intro _; exact ⟨0, rfl, Nat.zero_le _⟩
      | succ n ih =>
        intro hn
        obtain ⟨s, e1, e2⟩ := ih (by omega)
        obtain ⟨x, e3, e4⟩ := hx n (by omega)
        refine ⟨s + x, ?_, by omega⟩
        show sumA 0 _ n + nI (rD S n) * aroR S n = _
        rw [e1, e3, nI_add]
    obtain ⟨s, e1, e2⟩ := hall _ (Nat.le_refl _)
    exact ⟨s, e1, by omega⟩
  obtain ⟨s, e1, e2⟩ := hx2
  rw [e1, sumA_nat]
  refine mnOk_n (by omega) ?_
  have := sumE_le (g := fun a => rD S a) (m := 1) (rC S 1) (fun k hk => i.d1 k (by omega))
  exact Nat.le_trans this (by omega)
theorem Inv.mnN (i : Inv P F S φ al L h) : vf_n64 (mnV (sumA 0 (fun a => nI (rD S a) * aroR S a) (rC S 1)) (sumA 0 (fun a => nI (rD S a)) (rC S 1))) := by
  unfold mnV
  by_cases h0 : sumA 0 (fun a => nI (rD S a)) (rC S 1) = 0
  · rw [if_pos h0]
    show (0 : UInt64) &&& 0x7fffffffffffffff ≤ 0x7ff0000000000000
    decide
  · rw [if_neg h0]; exact i.meanV.2.2 h0
theorem Inv.dgfE (i : Inv P F S φ al L h) {f n : Nat} (hf : L f) (hn : rG S f = n) (d : Int64) : dgf P (φ f) d = dg4R S n f d 4 := by
  subst hn
  unfold dgf
  rw [(i.1.lv hf).2.2.2.1]
  by_cases h0 : rM S f = 0
  · rw [if_pos h0]
    simp only [dg4R, if_pos h0]
  · rw [if_neg h0]
    have hb := i.bx1 hf (by omega)
    simp only [dg4R, if_neg h0]
    rw [hb 0 (by omega), hb 1 (by omega), hb 2 (by omega), hb 3 (by omega)]
theorem Inv.dg (i : Inv P F S φ al L h) : ∀ n f, L f → rG S f = n → ∀ d, dgP P n (φ f) d = dgR S n f d := by
  intro n
  induction n with
  | zero =>
    intro f hf hn d
    show iterL _ (dgf P (φ f) d) (pS P (φ f)) = iterL _ (dg4R S 0 f d 4) (rM S f)
    rw [i.dgfE hf hn, (i.1.lv hf).2.2.2.1]
    refine iterL_c _ (fun k hk d => ?_)
    have k0 := i.kid0 hf hn hk
    show d * 31 + (pN P (kd P (φ f) k)).toInt64 = d * 31 + (nI (rk S f k)).toInt64
    rw [k0.1, (i.1.am k0.2.1).2.1]
  | succ n ih =>
    intro f hf hn d
    show iterL _ (dgf P (φ f) d) (pS P (φ f)) = iterL _ (dg4R S (n + 1) f d 4) (rM S f)
    rw [i.dgfE hf hn, (i.1.lv hf).2.2.2.1]
    refine iterL_c _ (fun k hk d => ?_)
    have k1 := i.kid1 hf hn hk
    show dgP P n (kd P (φ f) k) d = dgR S n (rk S f k) d
    rw [k1.1, ih _ k1.2.1 k1.2.2.1]
theorem Inv.digV (i : Inv P F S φ al L h) : ∃ (fr ps : Nat → Nat → Nat), (∀ a, a < rC S 1 → rD S a = 1 → Pth S h a (fr a) (ps a) ∧ fr a 0 = rC S 4) ∧ (∀ a, a < fC F → alI F (nI a) = some (al a) ∧ Plc P (fun _ => ps a h) (al a)) ∧ dgP P h (fT F) (iterL (alDP P F al (fun a _ => ps a h)) (cnDP P F h) (fC F)) = dgR S h (rC S 4) (iterL (alD S h fr ps) (cnD S h) (rC S 1)) := by
  have hall : ∀ a, ∃ fp : (Nat → Nat) × (Nat → Nat), a < rC S 1 → rD S a = 1 → Way S L (rC S 4) h fp.1 fp.2 h ∧ fp.2 h < rM S (fp.1 h) ∧ rk S (fp.1 h) (fp.2 h) = a ∧ Pth S h a fp.1 fp.2 ∧ fp.1 0 = rC S 4 := by
    intro a
    by_cases ha : a < rC S 1 ∧ rD S a = 1
    · obtain ⟨fr, ps, hw⟩ := i.way ha.1 ha.2
      exact ⟨(fr, ps), fun _ _ => hw⟩
    · exact ⟨(fun _ => 0, fun _ => 0), fun h1 h2 => absurd ⟨h1, h2⟩ ha⟩
  obtain ⟨fp, hfp⟩ : ∃ fp : Nat → (Nat → Nat) × (Nat → Nat), ∀ a, a < rC S 1 → rD S a = 1 → Way S L (rC S 4) h (fp a).1 (fp a).2 h ∧ (fp a).2 h < rM S ((fp a).1 h) ∧ rk S ((fp a).1 h) ((fp a).2 h) = a ∧ Pth S h a (fp a).1 (fp a).2 ∧ (fp a).1 0 = rC S 4 := ⟨fun a => Classical.choose (hall a), fun a => Classical.choose_spec (hall a)⟩
  have ht : ∀ a, a < rC S 1 → Plc P (fun _ => (fp a).2 h) (al a) ∧ ∀ w, w ≤ 8 → ansP P F (fun _ => (fp a).2 h) (al a) w = alR S h (fp a).1 (fp a).2 a w := fun a ha =>
    i.toldV ha (fun hd => ⟨(hfp a ha hd).1, (hfp a ha hd).2.1, (hfp a ha hd).2.2.1⟩) rfl
  refine ⟨fun a => (fp a).1, fun a => (fp a).2, fun a ha hd => (hfp a ha hd).2.2.2, fun a ha => ?_, ?_⟩
  · rw [i.2.2.1.1] at ha
    exact ⟨i.alE ha, (ht a ha).1⟩
  · rw [i.2.2.1.2.2.1, i.dg h _ i.2.1.1 i.2.1.2.2.1, i.2.2.1.1]
    have e1 : cnDP P F h = cnD S h := by
      rw [← cnDP_e, ← cnD_e]
      exact iterL_c 9 (fun u hu d => by rw [i.countV u (by omega)])
    rw [e1]
    have e2 : iterL (alDP P F al (fun a _ => (fp a).2 h)) (cnD S h) (rC S 1) = iterL (alD S h (fun a => (fp a).1) (fun a => (fp a).2)) (cnD S h) (rC S 1) := by
      refine iterL_c _ (fun a ha d => ?_)
      rw [← alDP_e, ← alD_e]
      exact iterL_c 9 (fun u hu d => by rw [(ht a ha).2 u (by omega)])
    rw [e2]
theorem Inv.wayV (i : Inv P F S φ al L h) {fr ps : Nat → Nat} {a y : Nat} (ha : a < rC S 1) (hp : rD S a = 1 → Way S L (rC S 4) h fr ps h ∧ ps h < rM S (fr h) ∧ rk S (fr h) (ps h) = a) (hy : y < h) : nI (pL P (fT F)) - 1 - nI y = nI (h - y) ∧ UpI (fun f => pD P f = true ∧ pL P f < 1000) (pH P) (h + 1) (pH P (al a)) ∧ (∀ f, wyP P (h - y) (h + 1) (pH P (al a)) = some f → pD P f = true ∧ Plc P (fun _ => ps y) f) ∧ plO P (fun _ => ps y) (wyP P (h - y) (h + 1) (pH P (al a))) = if rD S a = 0 then -1 else if y < h then nI (ps y) else -1 := by
  have hh := i.2.2.2.1.h
  refine ⟨?_, ?_⟩
  · rw [i.2.2.1.2.2.1, (i.1.lv i.2.1.1).2.1, i.2.1.2.2.1, nI_m1 (by omega)]
    exact nI_sub' (by omega)
  · by_cases hd : rD S a = 1
    · obtain ⟨w, h1, h2⟩ := hp hd
      obtain ⟨u1, u2, u3, u4⟩ := i.ho w h1 h2
      obtain ⟨c0, c1⟩ := i.chain w
      rw [u1]
      have hwy : ∀ d n, d < n → y + 1 + d ≤ h → wyP P (h - y) n (some (φ (fr (y + 1 + d)))) = some (φ (fr (y + 1))) := by
        intro d
        induction d with
        | zero =>
          intro n hn hd
          obtain ⟨n, rfl⟩ : ∃ m, n = m + 1 := ⟨n - 1, by omega⟩
          have h3 := w.2.1 (y + 1) (by omega)
          exact wy_t (by rw [(i.1.lv h3.1).2.1]; omega)
        | succ d ih =>
          intro n hn hd
          obtain ⟨n, rfl⟩ : ∃ m, n = m + 1 := ⟨n - 1, by omega⟩
          have h3 := w.2.1 (y + 1 + (d + 1)) (by omega)
          rw [wy_f (by rw [(i.1.lv h3.1).2.1]; omega)]
          rw [show y + 1 + (d + 1) = (y + 1 + d) + 1 by omega, c1 (y + 1 + d) (by omega)]
          exact ih n (by omega) (by omega)
      have e := hwy (h - (y + 1)) (h + 1) (by omega) (by omega)
      rw [show y + 1 + (h - (y + 1)) = h by omega] at e
      have h3 := w.2.1 y (by omega)
      have h4 := w.2.2 y (by omega)
      have h5 := w.2.1 (y + 1) (by omega)
      refine ⟨upI_all (q := fun j => φ (fr j)) c0 h c1 (fun j hj => ⟨(i.1.lv (w.2.1 j hj).1).1, by rw [(i.1.lv (w.2.1 j hj).1).2.1]; have := (w.2.1 j hj).2; omega⟩), fun f hf => ?_, ?_⟩
      · rw [e] at hf
        obtain rfl := Option.some.inj hf
        refine ⟨(i.1.lv h5.1).1, i.1.plc h3.1 h4.1 ?_ rfl⟩
        rw [h4.2, show rG S (fr y) = rG S (fr (y + 1)) + 1 by omega]
        rfl
      · rw [e, if_neg (by omega), if_pos hy]
        show plI P (fun _ => ps y) (φ (fr (y + 1))) = _
        unfold plI
        rw [c1 y (by omega)]
    · have hd0 : rD S a = 0 ∧ pH P (al a) = none := by
        rcases (i.1.am ha).2.2.2.2.2 with e | e
        · exact e
        · exact absurd e.1 hd
      rw [hd0.2, wy_n]
      exact ⟨fun f e => absurd e (by simp), fun f e => absurd e (by simp), by rw [if_pos hd0.1]; rfl⟩
theorem Inv.wayL (i : Inv P F S φ al L h) {y : Nat} (hy : ¬ y < h) (hy2 : y < 2147483648) : nI (pL P (fT F)) - 1 - nI y < 1 := by
  have hh := i.2.2.2.1.h
  rw [i.2.2.1.2.2.1, (i.1.lv i.2.1.1).2.1, i.2.1.2.2.1, nI_m1 (by omega), Int32.lt_iff_toInt_lt]
  show (nI h - nI y).toInt < _
  rw [dif_i (by omega) hy2, show (1 : Int32).toInt = 1 by decide]
  omega
end
