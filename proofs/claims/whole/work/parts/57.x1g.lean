set_option maxHeartbeats 1000000 in
set_option maxRecDepth 100000 in
theorem ct_crowd {l : Launch} (hl : l.stackTraces = false) {T : CT3} {D : va_G} {N : AH} {P : PS} {F : FS} (sz : Nat) (hwF : WfF P F) {q n : Nat} (pl : Nat → Nat) (hi : ScI pl n P F sz (some q)) (hn : n < 40) : Ct l T D yX1_splitCrowdedAndTighten cX1_splitCrowdedAndTighten 4 none 5 115 (4 * n) (28 * n) [.ref (fO F), .ref q] (ov T (ovF T N F) P) sz (fun v M' z' => v = none ∧ M' = ov T (ovF T N (scP pl n P F sz (some q)).2.1) (scP pl n P F sz (some q)).1 ∧ (scP pl n P F sz (some q)).2.2 = z') := by
  refine Ct.ofX hl (by decide) (Nat.le_of_ble_eq_true rfl) ?_
  intro X hl0 hT0 hD0 hlt hX hF
  subst hl0; subst hT0; subst hD0
  obtain ⟨mc, hmc⟩ : ∃ mc, mc = 4 * n := ⟨_, rfl⟩
  obtain ⟨ms, hms⟩ : ∃ ms, ms = 28 * n := ⟨_, rfl⟩
  rw [← hmc, ← hms] at hX hF
  have chain : ∀ n i P F z a b r o, i + n < 40 → WfF P F → fO F = o → ScI pl n P F z r → a + 4 * n ≤ mc → b + 28 * n ≤ ms → (∀ a b, a ≤ mc → b ≤ ms → G X 4 (ov (cxT X) (ovF (cxT X) N (scP pl n P F z r).2.1) (scP pl n P F z r).1) (scP pl n P F z r).2.2 a b 42 [] []) → G X 4 (ov (cxT X) (ovF (cxT X) N F) P) z a b 4 [(3, .int (nI i)), (2, va_rf r), (0, .ref o)] [] := by
    intro n
    induction n with
    | zero =>
      intro i P F z a b r o hin hwF ho hi ha hb hG
      subst ho
      obtain rfl : r = none := hi
      show G X _ (ov (cxT X) (ovF (cxT X) N F) P) z a b 4 [(3, .int (nI i)), (2, .null), (0, .ref (fO F))] []
      refine g_iload_n hX dX1_splitCrowdedAndTighten_4 0 rfl ?_
      refine g_bipush (v := 40) hX dX1_splitCrowdedAndTighten_5 (by decide) ?_
      refine g_icmp_ge hX 42 dX1_splitCrowdedAndTighten_7 (by decide) (fun c7 => absurd c7 (mt (nI_leI (a := 40) (b := i) (by omega) (by omega)).mp (by omega))) (fun _ => ?_)
      refine g_aload_nN hX dX1_splitCrowdedAndTighten_10 1 rfl ?_
      refine g_ifnullN hX 42 dX1_splitCrowdedAndTighten_11 (by decide) ?_
      refine g_sub [] rfl ?_
      exact hG a b (by omega) (by omega)
    | succ n ihn =>
      intro i P F z a b r o hin hwF ho hi ha hb hG
      subst ho
      rcases r with _ | f
      · skip
        show G X _ (ov (cxT X) (ovF (cxT X) N F) P) z a b 4 [(3, .int (nI i)), (2, .null), (0, .ref (fO F))] []
        refine g_iload_n hX dX1_splitCrowdedAndTighten_4 0 rfl ?_
        refine g_bipush (v := 40) hX dX1_splitCrowdedAndTighten_5 (by decide) ?_
        refine g_icmp_ge hX 42 dX1_splitCrowdedAndTighten_7 (by decide) (fun c7 => absurd c7 (mt (nI_leI (a := 40) (b := i) (by omega) (by omega)).mp (by omega))) (fun _ => ?_)
        refine g_aload_nN hX dX1_splitCrowdedAndTighten_10 1 rfl ?_
        refine g_ifnullN hX 42 dX1_splitCrowdedAndTighten_11 (by decide) ?_
        refine g_sub [] rfl ?_
        have h9 := hG a b (by omega) (by omega)
        rw [sc_n] at h9
        exact h9
      · obtain ⟨hsp, hw1, hti, hst⟩ := hi f rfl
        have hq := hsp.1
        have hs5 := hsp.2.1
        rw [sc_s] at hG
        show G X _ (ov (cxT X) (ovF (cxT X) N F) P) z a b 4 [(3, .int (nI i)), (2, .ref f), (0, .ref (fO F))] []
        refine g_iload_n hX dX1_splitCrowdedAndTighten_4 0 rfl ?_
        refine g_bipush (v := 40) hX dX1_splitCrowdedAndTighten_5 (by decide) ?_
        refine g_icmp_ge hX 42 dX1_splitCrowdedAndTighten_7 (by decide) (fun c7 => absurd c7 (mt (nI_leI (a := 40) (b := i) (by omega) (by omega)).mp (by omega))) (fun _ => ?_)
        refine g_aload_n hX dX1_splitCrowdedAndTighten_10 1 rfl ?_
        refine g_ifnullR hX dX1_splitCrowdedAndTighten_11 ?_
        refine g_aload_n hX dX1_splitCrowdedAndTighten_14 1 rfl ?_
        refine g_getN (ci := 0) hX rfl fin_X0 (ov_pc (P := P) hq) 3 (by decide) fn_X1_133 rfl dX1_splitCrowdedAndTighten_15 ?_
        refine g_iconst (v := 4) hX dX1_splitCrowdedAndTighten_18 (by decide) ?_
        refine g_icmp_le hX 27 dX1_splitCrowdedAndTighten_19 (by decide) (fun c19 => ?_) (fun c19 => ?_)
        · skip
          have h4 : ¬ 4 < pS P f := by have h9 := (nI_leI (a := pS P f) (b := 4) (by omega) (by omega)).mp c19; omega
          rw [spS_n h4] at hw1 hti hst hG
          refine g_sub [0, 1, 2] rfl ?_
          obtain ⟨P1, hP1⟩ : ∃ P1, P1 = P := ⟨_, rfl⟩
          obtain ⟨F1, hF1⟩ : ∃ F1, F1 = F := ⟨_, rfl⟩
          obtain ⟨z1, hz1⟩ : ∃ z1, z1 = z := ⟨_, rfl⟩
          have hO1 : fO F1 = fO F := by rw [hF1]
          rw [← hP1, ← hF1, ← hz1] at hw1 hti hst hG
          rw [← hP1, ← hz1, show ovF (cxT X) N F = ovF (cxT X) N F1 from by rw [hF1]]
          show G X _ (ov (cxT X) (ovF (cxT X) N F1) P1) z1 a b 27 [(3, .int (nI i)), (2, .ref f), (0, .ref (fO F))] []
          refine g_aload_n hX dX1_splitCrowdedAndTighten_27 1 rfl ?_
          refine g_callVN [] hX (ct_tig hX.st z1 (P := P1) (q := f) hw1.1 hti) cw_X0_tighten cv_X0_tighten ln_X1_158 (ci := 0) rfl rfl (ov_pc (P := P1) hti.1) ⟨by omega, by omega⟩ ⟨by omega, by omega⟩ (Nat.le_of_ble_eq_true rfl) rfl dX1_splitCrowdedAndTighten_28 rfl (fun v28 M28 z28 hp28 hz28 hd28 => ?_)
          obtain ⟨rfl, rfl, rfl⟩ := hp28
          show G X _ (ov (cxT X) (ovF (cxT X) N F1) (tigP P1 f)) z1 (a + 0) (b + 0) 31 [(3, .int (nI i)), (2, .ref f), (0, .ref (fO F))] []
          refine g_aload_n hX dX1_splitCrowdedAndTighten_31 1 rfl ?_
          have hq2 : pD (tigP P1 f) f = true := by rw [pD_tig]; exact hti.1
          refine g_getN (ci := 0) hX rfl fin_X0 (ov_pc (P := tigP P1 f) hq2) 4 (by decide) fn_X1_68 rfl dX1_splitCrowdedAndTighten_32 ?_
          rw [pH_tig]
          show G X _ (ov (cxT X) (ovF (cxT X) N F1) (tigP P1 f)) z1 (a + 0) (b + 0) 35 [(3, .int (nI i)), (2, .ref f), (0, .ref (fO F))] [va_rf (pH P1 f)]
          refine g_astore_nQ (L' := [(2, va_rf (pH P1 f)), (3, .int (nI i)), (0, .ref (fO F))]) hX dX1_splitCrowdedAndTighten_35 (by decide) rfl ?_
          refine g_iinc (v := nI (i + 1)) (L' := [(3, .int (nI (i + 1))), (2, va_rf (pH P1 f)), (0, .ref (fO F))]) hX dX1_splitCrowdedAndTighten_36 1 rfl (nI_1 _) (by decide) (by cases pH P1 f <;> rfl) ?_
          refine g_goto hX 4 dX1_splitCrowdedAndTighten_39 (by decide) ?_
          refine g_sub [0, 1, 2] rfl ?_
          exact ihn (i + 1) (tigP P1 f) F1 z1 _ _ (pH P1 f) (fO F) (by omega) (WfF_tig hw1 f) hO1 hst (by omega) (by omega) hG
        · skip
          have h4 : 4 < pS P f := by have h9 := mt (nI_leI (a := pS P f) (b := 4) (by omega) (by omega)).mpr c19; omega
          refine g_aload_n hX dX1_splitCrowdedAndTighten_22 2 rfl ?_
          refine g_aload_n hX dX1_splitCrowdedAndTighten_23 1 rfl ?_
          refine g_callV [] hX (ct_spl hX.st z hwF pl h4 hsp) cw_X1_split cv_X1_split lk_X1_155 (ci := 1) rfl rfl (ovF_o hwF) ⟨by omega, by omega⟩ ⟨by omega, by omega⟩ (Nat.le_of_ble_eq_true rfl) rfl dX1_splitCrowdedAndTighten_24 rfl (fun v24 M24 z24 hp24 hz24 hd24 => ?_)
          obtain ⟨rfl, rfl, rfl⟩ := hp24
          show G X _ (ov (cxT X) (ovF (cxT X) N (spS pl P F z f).2.1) (spS pl P F z f).1) ((spS pl P F z f).2.2) (a + 4) (b + 28) 27 [(3, .int (nI i)), (2, .ref f), (0, .ref (fO F))] []
          refine g_sub [0, 1, 2] rfl ?_
          obtain ⟨⟨P1, F1, z1⟩, hs1⟩ : ∃ s, s = spS pl P F z f := ⟨_, rfl⟩
          have hO1 : fO F1 = fO F := by rw [show F1 = (spS pl P F z f).2.1 from by rw [← hs1]]; exact spS_O
          rw [← hs1] at hw1 hti hst hG ⊢
          show G X _ (ov (cxT X) (ovF (cxT X) N F1) P1) z1 (a + 4) (b + 28) 27 [(3, .int (nI i)), (2, .ref f), (0, .ref (fO F))] []
          refine g_aload_n hX dX1_splitCrowdedAndTighten_27 1 rfl ?_
          refine g_callVN [] hX (ct_tig hX.st z1 (P := P1) (q := f) hw1.1 hti) cw_X0_tighten cv_X0_tighten ln_X1_158 (ci := 0) rfl rfl (ov_pc (P := P1) hti.1) ⟨by omega, by omega⟩ ⟨by omega, by omega⟩ (Nat.le_of_ble_eq_true rfl) rfl dX1_splitCrowdedAndTighten_28 rfl (fun v28 M28 z28 hp28 hz28 hd28 => ?_)
          obtain ⟨rfl, rfl, rfl⟩ := hp28
          show G X _ (ov (cxT X) (ovF (cxT X) N F1) (tigP P1 f)) z1 ((a + 4) + 0) ((b + 28) + 0) 31 [(3, .int (nI i)), (2, .ref f), (0, .ref (fO F))] []
          refine g_aload_n hX dX1_splitCrowdedAndTighten_31 1 rfl ?_
          have hq2 : pD (tigP P1 f) f = true := by rw [pD_tig]; exact hti.1
          refine g_getN (ci := 0) hX rfl fin_X0 (ov_pc (P := tigP P1 f) hq2) 4 (by decide) fn_X1_68 rfl dX1_splitCrowdedAndTighten_32 ?_
          rw [pH_tig]
          show G X _ (ov (cxT X) (ovF (cxT X) N F1) (tigP P1 f)) z1 ((a + 4) + 0) ((b + 28) + 0) 35 [(3, .int (nI i)), (2, .ref f), (0, .ref (fO F))] [va_rf (pH P1 f)]
          refine g_astore_nQ (L' := [(2, va_rf (pH P1 f)), (3, .int (nI i)), (0, .ref (fO F))]) hX dX1_splitCrowdedAndTighten_35 (by decide) rfl ?_
          refine g_iinc (v := nI (i + 1)) (L' := [(3, .int (nI (i + 1))), (2, va_rf (pH P1 f)), (0, .ref (fO F))]) hX dX1_splitCrowdedAndTighten_36 1 rfl (nI_1 _) (by decide) (by cases pH P1 f <;> rfl) ?_
          refine g_goto hX 4 dX1_splitCrowdedAndTighten_39 (by decide) ?_
          refine g_sub [0, 1, 2] rfl ?_
          exact ihn (i + 1) (tigP P1 f) F1 z1 _ _ (pH P1 f) (fO F) (by omega) (WfF_tig hw1 f) hO1 hst (by omega) (by omega) hG
  show G X 4 (ov (cxT X) (ovF (cxT X) N F) P) sz 0 0 0 [(0, .ref (fO F)), (1, .ref q)] []
  refine g_aload_n hX dX1_splitCrowdedAndTighten_0 1 rfl ?_
  refine g_astore_n (L' := [(2, .ref q), (0, .ref (fO F)), (1, .ref q)]) hX dX1_splitCrowdedAndTighten_1 (by decide) rfl ?_
  refine g_iconst (v := 0) hX dX1_splitCrowdedAndTighten_2 (by decide) ?_
  refine g_istore_n (L' := [(3, .int 0), (2, .ref q), (0, .ref (fO F)), (1, .ref q)]) hX dX1_splitCrowdedAndTighten_3 (by decide) rfl ?_
  refine g_sub [0, 1, 2] rfl ?_
  refine chain n 0 P F sz 0 0 (some q) (fO F) (by omega) hwF rfl hi (by omega) (by omega) (fun a b ha hb => ?_)
  exact hF none _ _ _ _ _ _ .return_ (⟨rfl, rfl, rfl⟩) ha hb ret_v dX1_splitCrowdedAndTighten_42
