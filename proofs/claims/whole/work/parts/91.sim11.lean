theorem spS_t {pl : Nat → Nat} {P : PS} {F : FS} {z f : Nat} (h4 : 4 < pS P f) (hH : pH P f = none) : spS pl P F z f = (spP (rsP P F z) f z 0 (z + 1 + 1), sSp (sT F z) (fS F + 1), z + 1 + 1 + 1 + 1) := by
  unfold spS
  rw [if_pos h4, hH]
theorem spS_m {pl : Nat → Nat} {P : PS} {F : FS} {z f ab : Nat} (h4 : 4 < pS P f) (hH : pH P f = some ab) : spS pl P F z f = (spP P f ab (pl f) z, sSp F (fS F + 1), z + 1 + 1) := by
  unfold spS
  rw [if_pos h4, hH]
theorem spu_id {fr ps : Nat → Nat} {h k : Nat} {S : RS} (h4 : rM S (fr k) ≤ 4) : spuR fr ps h k S = S := by
  cases k with
  | zero => exact spu_0f (by omega)
  | succ k => exact spu_sf (by omega)
theorem ScI.st {pl : Nat → Nat} {n : Nat} {P : PS} {F : FS} {z f : Nat} {A : PS} {B : FS} {C : Nat} (e : spS pl P F z f = (A, B, C)) (h1 : SpC pl P F f) (h2 : WfF A B) (h3 : TigI A f) (h4 : ScI pl n (tigP A f) B C (pH A f)) : ScI pl (n + 1) P F z (some f) ∧ scP pl (n + 1) P F z (some f) = scP pl n (tigP A f) B C (pH A f) := by
  constructor
  · intro f' e'
    obtain rfl := Option.some.inj e'
    rw [e]
    exact ⟨h1, h2, h3, h4⟩
  · rw [sc_s, e]
theorem come_loop {al fr ps pl : Nat → Nat} {c h : Nat} : ∀ k (P : PS) (F : FS) (S : RS) (φ : Nat → Nat) (L : Nat → Prop) (z : Nat), CIg P F S φ al c L fr ps pl h k k z → SpI fr ps h k S ∧ ∀ N, k + 2 ≤ N → ScI pl N P F z (some (φ (fr k))) ∧ CR al c P F z (scP pl N P F z (some (φ (fr k)))) (spuR fr ps h k S) := by
  intro k
  induction k with
  | zero =>
    intro P F S φ L z hc
    have hm121 := hc.m
    have hw := hc.2.2.2.1
    have hf := hw.2.1 0 (Nat.le_refl 0)
    have hlv := hc.1.lv hf.1
    have hb := hc.2.2.2.2.2.1
    have hd := hc.2.2.2.2.2.2.1
    by_cases h4 : 4 < rM S (fr 0)
    · have h5 : rM S (fr 0) = 5 := by have := hlv.2.2.2.2.1; omega
      have ht := hw.1
      have hnm := hlv.2.2.2.2.2
      have hgh : rG S (fr 0) = h := by omega
      have hTr : TrR S h (fr 0) := hc.1.trR (by omega) h (fun g hg _ => hc.2.2.2.2.1.2 g hg) _ hf.1 hgh (fun _ => by omega)
      obtain ⟨sp, eu, eg⟩ := sps_top (S := S) (t := fr 0) (h := h) (by omega) (by omega) ht.symm hgh (hb.2.2.2.2 _ (by omega))
      obtain ⟨q1, q2, q3, q4, q5, q6, q7, q8, q9, q10⟩ := spR_f (S := S) (n := h) (f := fr 0) (by omega)
      have hgt := gt_o (spR S h (fr 0))
      have hSp : SpI fr ps h 0 S := by
        refine ⟨by omega, hlv.2.2.2.2.1, fun _ => ⟨⟨hTr, by omega, hb.2.2.2.2 _ (Nat.le_refl _), by omega⟩, ?_⟩⟩
        refine ⟨by rw [q8]; omega, by rw [q10, ← ht]; omega, ?_, ?_, by rw [eu]; omega, ?_, ?_⟩
        · rw [q8, q4, if_neg (by omega), if_neg (by omega)]; exact hb.2.2.2.2 _ (by omega)
        · rw [q10, ← ht, q3, if_neg (by omega), hgh]
          have := (show Bd S c h from ⟨hb.1, hb.2.1, hb.2.2.1, hb.2.2.2.2, hc.1.c60⟩).h
          omega
        · rw [eu, hgt.2.2.2.1, q8, if_pos rfl]; omega
        · rw [eu, hgt.2.2.2.1, q8, if_pos rfl]; omega
      refine ⟨hSp, fun N hN => ?_⟩
      obtain ⟨n, rfl⟩ : ∃ n, N = n + 1 + 1 := ⟨N - 2, by omega⟩
      rw [spu_0t h4]
      have o4 := (ptR_o (gtR (spR S h (fr 0))) (rC (gtR (spR S h (fr 0))) 4) 1 (rC S 3)).2.2.2
      have e2 : rC (ptR (gtR (spR S h (fr 0))) (rC (gtR (spR S h (fr 0))) 4) 1 (rC S 3)) 2 = rC S 2 + 1 := by rw [o4, hgt.2.2.2.2.2.2.2, q9]
      have e3 : rC (ptR (gtR (spR S h (fr 0))) (rC (gtR (spR S h (fr 0))) 4) 1 (rC S 3)) 3 = rC S 3 + 2 := by rw [o4, hgt.2.2.2.2.2.1, q8]
      have e4 : rC (ptR (gtR (spR S h (fr 0))) (rC (gtR (spR S h (fr 0))) 4) 1 (rC S 3)) 4 = rC S 3 + 1 := by rw [o4, eu]
      generalize ptR (gtR (spR S h (fr 0))) (rC (gtR (spR S h (fr 0))) 4) 1 (rC S 3) = S' at *
      obtain ⟨t1, t2, ⟨φ', L', t3⟩, t4, t5, t6, t7, t8, t9, t10⟩ := hc.top (pl := pl) h5 sp e2 e3 e4
      have es := spS_t (pl := pl) (F := F) (z := z) (show 4 < pS P (φ (fr 0)) by rw [hlv.2.2.2.1]; exact h4) t1
      have hdom : ∀ x, pD (tigP (tigP (spP (rsP P F z) (φ (fr 0)) z 0 (z + 1 + 1)) (φ (fr 0))) z) x = true → (pD P x = true ∨ z ≤ x) ∧ x + 1 < z + 1 + 1 + 1 + 1 := by
        intro x hx
        rw [pD_tig, pD_tig, spP_D, rsP_D] at hx
        by_cases x1 : x = z + 1 + 1
        · exact ⟨Or.inr (by omega), by omega⟩
        · rw [if_neg x1] at hx
          by_cases x2 : x = z
          · exact ⟨Or.inr (by omega), by omega⟩
          · rw [if_neg x2] at hx
            exact ⟨Or.inl hx, by have := hd.1 x hx; omega⟩
      generalize spP (rsP P F z) (φ (fr 0)) z 0 (z + 1 + 1) = Q at *
      have es2 := spS_n (pl := pl) (P := tigP Q (φ (fr 0))) (F := sSp (sT F z) (fS F + 1)) (z := z + 1 + 1 + 1 + 1) (f := z) (by rw [t8]; omega)
      have hA := ScI.st (n := n) es2 ⟨t7, by rw [t8]; omega, fun h => by rw [t8] at h; omega⟩ (WfF_tig t4 _) t9 (by rw [t10]; exact scI_n pl n _ _ _)
      have hB := ScI.st (n := n + 1) es t2 t4 t5 (by rw [t6]; exact hA.1)
      refine ⟨hB.1, ?_⟩
      rw [hB.2, t6, hA.2, t10, sc_n]
      exact ⟨⟨φ', L', h + 1, t3⟩, WfF_tig (WfF_tig t4 _) _, rfl, fun x hx => (hdom x hx).1, fun x hx => (hdom x hx).2, by show z ≤ z + 1 + 1 + 1 + 1; omega⟩
    · refine ⟨⟨by have := hlv.2.2.2.2.2; omega, hlv.2.2.2.2.1, fun h => absurd h h4⟩, fun N hN => ?_⟩
      obtain ⟨n, rfl⟩ : ∃ n, N = n + 1 := ⟨N - 1, by omega⟩
      obtain ⟨t1, t2⟩ := hc.end0 (by omega)
      rw [spu_0f h4]
      have es := spS_n (pl := pl) (P := P) (F := F) (z := z) (f := φ (fr 0)) (by rw [hlv.2.2.2.1]; exact h4)
      have hA := ScI.st (n := n) es (hc.1.spC hf.1 (fun h => absurd h h4) (fun h => absurd h h4)) hd.2.1 (hc.1.tigI hf.1) (by rw [t1]; exact scI_n pl n _ _ _)
      refine ⟨hA.1, ?_⟩
      rw [hA.2, t1, sc_n]
      exact ⟨⟨φ, L, h, t2⟩, WfF_tig hd.2.1 _, rfl, fun x hx => Or.inl (by rw [pD_tig] at hx; exact hx), fun x hx => by rw [pD_tig] at hx; exact hd.1 x hx, Nat.le_refl _⟩
  | succ k ih =>
    intro P F S φ L z hc
    have hm121 := hc.m
    have hw := hc.2.2.2.1
    have hf := hw.2.1 (k + 1) (Nat.le_refl _)
    have hp := hw.2.1 k (by omega)
    have hlv := hc.1.lv hf.1
    have hlp := hc.1.lv hp.1
    have hb := hc.2.2.2.2.2.1
    have hd := hc.2.2.2.2.2.2.1
    have hpl := hc.2.2.2.2.2.2.2.1 k (by omega)
    have hwk := hc.1.wayK hw (i := k) (by omega)
    have hk0 := hw.2.2 k (by omega)
    have hfp : fr (k + 1) ≠ fr k := fun e => by have h1 := hf.2; have h2 := hp.2; rw [e] at h1; omega
    have hp4 : rM S (fr k) ≤ 4 := hc.2.2.2.2.1.1 _ hp.1 (fun e => hfp e.symm)
    have hSC : SpC pl P F (φ (fr (k + 1))) := by
      refine hc.1.spC hf.1 (fun _ e => ?_) (fun _ ab e => ?_)
      · rw [hwk.1] at e; exact absurd e (by simp)
      · rw [hwk.1] at e
        exact ⟨fr k, ps k, hp.1, (Option.some.inj e).symm, hfp, hp4, hk0.1, by omega, hk0.2, hpl⟩
    by_cases h4 : 4 < rM S (fr (k + 1))
    · have h5 : rM S (fr (k + 1)) = 5 := by have := hlv.2.2.2.2.1; omega
      have hnm := hlv.2.2.2.2.2
      have hnp := hlp.2.2.2.2.2
      have hgh : h - (k + 1) = rG S (fr (k + 1)) := by omega
      have hTr : TrR S (rG S (fr (k + 1))) (fr (k + 1)) := hc.1.trR (by omega) _ (fun g hg _ => hc.2.2.2.2.1.2 g hg) _ hf.1 rfl (fun _ => by omega)
      obtain ⟨q1, q2, q3, q4, q5, q6, q7, q8, q9, q10⟩ := spR_f (S := S) (n := rG S (fr (k + 1))) (f := fr (k + 1)) (by omega)
      have sp := sps_mid (S := S) (n := rG S (fr (k + 1))) (f := fr (k + 1)) (p := fr k) (k0 := ps k) (by omega) (by omega) hfp rfl
      have o4 := (ptR_o (spR S (rG S (fr (k + 1))) (fr (k + 1))) (fr k) (ps k + 1) (rC S 3)).2.2.2
      have hsrt := hc.kids h5
      have hPt : PtI (spR S (rG S (fr (k + 1))) (fr (k + 1))) (fr k) (ps k + 1) := by
        refine ⟨by omega, ?_, ?_⟩
        · rw [q4, if_neg (show ¬ fr k = fr (k + 1) from fun e => hfp e.symm), if_neg (by omega)]; exact hp4
        · rw [q4, if_neg (show ¬ fr k = fr (k + 1) from fun e => hfp e.symm), if_neg (by omega)]; exact hk0.1
      have e2 : rC (ptR (spR S (rG S (fr (k + 1))) (fr (k + 1))) (fr k) (ps k + 1) (rC S 3)) 2 = rC S 2 + 1 := by rw [o4, q9]
      have e3 : rC (ptR (spR S (rG S (fr (k + 1))) (fr (k + 1))) (fr k) (ps k + 1) (rC S 3)) 3 = rC S 3 + 1 := by rw [o4, q8]
      have e4 : rC (ptR (spR S (rG S (fr (k + 1))) (fr (k + 1))) (fr k) (ps k + 1) (rC S 3)) 4 = rC S 4 := by rw [o4, q10]
      have esp : spuR fr ps h (k + 1) S = spuR fr ps h k (ptR (spR S (rG S (fr (k + 1))) (fr (k + 1))) (fr k) (ps k + 1) (rC S 3)) := by rw [spu_st h4, hgh]
      have hSpI : SpI fr ps h k (ptR (spR S (rG S (fr (k + 1))) (fr (k + 1))) (fr k) (ps k + 1) (rC S 3)) → SpI fr ps h (k + 1) S := by
        intro hi
        refine ⟨by omega, hlv.2.2.2.2.1, fun _ => ?_⟩
        rw [hgh]
        exact ⟨⟨hTr, by omega, hb.2.2.2.2 _ (Nat.le_refl _), by omega⟩, hPt, hi⟩
      rw [esp]
      generalize ptR (spR S (rG S (fr (k + 1))) (fr (k + 1))) (fr k) (ps k + 1) (rC S 3) = S' at *
      have hc1 := hc.sp h5 hsrt.1 hsrt.2 sp e2 e3 e4
      have hm3 : ∀ g, L g → g ≠ rC S 3 := fun g hg e => by have := hc.nm hg; omega
      have ea : va_up φ (rC S 3) z (fr (k + 1)) = φ (fr (k + 1)) := va_up_ne _ _ (hm3 _ hf.1)
      have eb : va_up φ (rC S 3) z (fr k) = φ (fr k) := va_up_ne _ _ (hm3 _ hp.1)
      obtain ⟨hc2, hH2, hH1⟩ := hc1.tg
      have T1 := hc1.1.tigI (g := fr (k + 1)) (Or.inl hf.1)
      rw [ea] at hc2 hH2 hH1 T1
      rw [eb] at hH1 hH2
      have hW := hc1.2.2.2.2.2.2.1.2.1
      have hdq : ∀ x, pD (tigP (spP P (φ (fr (k + 1))) (φ (fr k)) (ps k) z) (φ (fr (k + 1)))) x = true → pD P x = true ∨ z ≤ x := by
        intro x hx
        rw [pD_tig, spP_D] at hx
        by_cases x1 : x = z
        · exact Or.inr (by omega)
        · rw [if_neg x1] at hx; exact Or.inl hx
      have es := spS_m (pl := pl) (F := F) (z := z) (show 4 < pS P (φ (fr (k + 1))) by rw [hlv.2.2.2.1]; exact h4) hwk.1
      rw [hpl] at es
      generalize spP P (φ (fr (k + 1))) (φ (fr k)) (ps k) z = Q at *
      obtain ⟨i1, i2⟩ := ih _ _ _ _ _ _ hc2
      refine ⟨hSpI i1, fun N hN => ?_⟩
      obtain ⟨n, rfl⟩ : ∃ n, N = n + 1 := ⟨N - 1, by omega⟩
      obtain ⟨j1, j2⟩ := i2 n (by omega)
      rw [eb] at j1 j2
      have hA := ScI.st (n := n) es hSC hW T1 (by rw [hH1]; exact j1)
      refine ⟨hA.1, ?_⟩
      rw [hA.2, hH1]
      exact j2.of rfl (by omega) hdq
    · have hc1 : CIg P F S φ al c L fr ps pl h (k + 1) k z := by
        obtain ⟨c1, c2, c3, c4, c5, ⟨b1, b2, b3, b4, b5⟩, d, c8, c9, c10, c11⟩ := hc
        refine ⟨c1, c2, c3, c4, ⟨fun g hg _ => ?_, c5.2⟩, ⟨b1, b2, b3, fun h => absurd h (by omega), b5⟩, d, c8, c9, c10, c11⟩
        by_cases e : g = fr (k + 1)
        · rw [e]; omega
        · exact c5.1 g hg e
      obtain ⟨hc2, hH2, hH1⟩ := hc1.tg
      obtain ⟨i1, i2⟩ := ih _ _ _ _ _ _ hc2
      refine ⟨⟨by have := hlv.2.2.2.2.2; omega, hlv.2.2.2.2.1, fun h => absurd h h4⟩, fun N hN => ?_⟩
      obtain ⟨n, rfl⟩ : ∃ n, N = n + 1 := ⟨N - 1, by omega⟩
      obtain ⟨j1, j2⟩ := i2 n (by omega)
      rw [spu_sf h4]
      rw [spu_id hp4] at j2
      have es := spS_n (pl := pl) (P := P) (F := F) (z := z) (f := φ (fr (k + 1))) (by rw [hlv.2.2.2.1]; exact h4)
      have hA := ScI.st (n := n) es hSC hd.2.1 (hc.1.tigI hf.1) (by rw [hH1]; exact j1)
      refine ⟨hA.1, ?_⟩
      rw [hA.2, hH1]
      exact j2.of rfl (by omega) (fun x hx => Or.inl (by rw [pD_tig] at hx; exact hx))
