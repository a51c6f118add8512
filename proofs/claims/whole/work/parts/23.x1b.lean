set_option maxHeartbeats 4000000 in
set_option maxRecDepth 100000 in
theorem ct_htm {l : Launch} (hl : l.stackTraces = false) {T : CT3} {D : va_G} {N : AH} {P : PS} {F : FS} (sz : Nat) (hwF : WfF P F) (hal : Alok P F) {r : Nat} (hr : pD P r = true) : Ct l T D yX1_heldThatMeet cX1_heldThatMeet 5 (some .int) 2 43 0 0 [.ref (fO F), .ref r] (ov T (ovF T N F) P) sz (fun v M' z' => v = some (.int (sumI (htm P F r) (fC F))) ∧ M' = ov T (ovF T N F) P ∧ sz = z') := by
  refine Ct.ofX hl (by decide) (Nat.le_of_ble_eq_true rfl) ?_
  intro X hl0 hT0 hD0 hlt hX hF
  subst hl0; subst hT0; subst hD0
  have h60 := hal.1
  have loop : ∀ k, k ≤ (fC F) → G X 5 (ov (cxT X) (ovF (cxT X) N F) P) sz 0 0 4 [(3, .int (nI k)), (2, .int (sumA 0 (htm P F r) k)), (0, .ref (fO F)), (1, .ref r)] [] := by
    refine loop_up ?_
    intro k ih hk
    refine g_iload_n hX dX1_heldThatMeet_4 0 rfl ?_
    refine g_aload_n hX dX1_heldThatMeet_5 2 rfl ?_
    refine g_get (ci := 1) hX rfl fin_X1 (ovF_o hwF) 1 (by decide) fl_X1_33 rfl dX1_heldThatMeet_6 ?_
    refine g_icmp_ge hX 42 dX1_heldThatMeet_9 (by decide) (fun c9 => ?_) (fun c9 => ?_)
    · skip
      have hke : k = fC F := by have h9 := (nI_leI (a := fC F) (b := k) (by omega) (by omega)).mp c9; omega
      subst hke
      refine g_iload_n hX dX1_heldThatMeet_42 1 rfl ?_
      exact hF (some (.int (sumA 0 (htm P F r) (fC F)))) (ov (cxT X) (ovF (cxT X) N F) P) sz _ _ _ _ .ireturn (⟨rfl, rfl, rfl⟩) (by omega) (by omega) ret_i dX1_heldThatMeet_43
    · skip
      have hk2 : k < fC F := by have h9 := mt (nI_leI (a := fC F) (b := k) (by omega) (by omega)).mpr c9; omega
      refine g_aload_n hX dX1_heldThatMeet_12 2 rfl ?_
      refine g_iload_n hX dX1_heldThatMeet_13 0 rfl ?_
      refine g_callV [] hX (ct_hon hX.st sz hwF hal (nI k)) cw_X1_heldOrNull cv_X1_heldOrNull lk_X1_117 (ci := 1) rfl rfl (ovF_o hwF) ⟨by omega, by omega⟩ ⟨by omega, by omega⟩ (Nat.le_of_ble_eq_true rfl) rfl dX1_heldThatMeet_14 rfl (fun v14 M14 z14 hp14 hz14 hd14 => ?_)
      obtain ⟨rfl, rfl, rfl⟩ := hp14
      show G X _ (ov (cxT X) (ovF (cxT X) N F) P) sz (0 + 0) (0 + 0) 17 [(3, .int (nI k)), (2, .int (sumA 0 (htm P F r) k)), (0, .ref (fO F)), (1, .ref r)] [va_rf (hoI P F (nI k))]
      refine g_astoreQ (L' := [(4, va_rf (hoI P F (nI k))), (3, .int (nI k)), (2, .int (sumA 0 (htm P F r) k)), (0, .ref (fO F)), (1, .ref r)]) hX dX1_heldThatMeet_17 (by decide) rfl ?_
      refine g_aloadQ hX dX1_heldThatMeet_19 0 rfl ?_
      refine g_ifnull hX 36 dX1_heldThatMeet_21 (by decide) (fun c21 => ?_) (fun x21 c21 => ?_)
      · skip
        refine g_iinc (v := nI (k + 1)) (L' := [(3, .int (nI (k + 1))), (4, va_rf (hoI P F (nI k))), (2, .int (sumA 0 (htm P F r) k)), (0, .ref (fO F)), (1, .ref r)]) hX dX1_heldThatMeet_36 1 rfl (nI_1 _) (by decide) rfl ?_
        refine g_goto hX 4 dX1_heldThatMeet_39 (by decide) ?_
        rw [show sumA 0 (htm P F r) k = sumA 0 (htm P F r) (k + 1) from by show _ = _ + _; rw [htm_n c21, add0I]]
        refine g_sub [0, 2, 3, 4] rfl ?_
        exact ih (k + 1) (by omega) (by omega)
      · skip
        have hd21 := hal.ho c21
        rw [c21]
        show G X _ (ov (cxT X) (ovF (cxT X) N F) P) sz (0 + 0) (0 + 0) 24 [(4, .ref x21), (3, .int (nI k)), (2, .int (sumA 0 (htm P F r) k)), (0, .ref (fO F)), (1, .ref r)] []
        refine g_aload hX dX1_heldThatMeet_24 0 rfl ?_
        refine g_aload_n hX dX1_heldThatMeet_26 4 rfl ?_
        refine g_callVN [] hX (ct_meets hX.st sz hwF.1 hd21 hr) cw_X0_meets cv_X0_meets ln_X1_194 (ci := 0) rfl rfl (ov_pc (P := P) hd21) ⟨by omega, by omega⟩ ⟨by omega, by omega⟩ (Nat.le_of_ble_eq_true rfl) rfl dX1_heldThatMeet_27 rfl (fun v27 M27 z27 hp27 hz27 hd27 => ?_)
        obtain ⟨rfl, rfl, rfl⟩ := hp27
        show G X _ (ov (cxT X) (ovF (cxT X) N F) P) sz ((0 + 0) + 0) ((0 + 0) + 0) 30 [(4, .ref x21), (3, .int (nI k)), (2, .int (sumA 0 (htm P F r) k)), (0, .ref (fO F)), (1, .ref r)] [.int (bI (mtB P x21 r))]
        refine g_if_eq hX 36 dX1_heldThatMeet_30 (by decide) (fun c30 => ?_) (fun c30 => ?_)
        · skip
          refine g_iinc (v := nI (k + 1)) (L' := [(3, .int (nI (k + 1))), (4, .ref x21), (2, .int (sumA 0 (htm P F r) k)), (0, .ref (fO F)), (1, .ref r)]) hX dX1_heldThatMeet_36 1 rfl (nI_1 _) (by decide) rfl ?_
          refine g_goto hX 4 dX1_heldThatMeet_39 (by decide) ?_
          rw [show sumA 0 (htm P F r) k = sumA 0 (htm P F r) (k + 1) from by show _ = _ + _; rw [htm_s c21, bI_0 c30]; exact (add0I _).symm]
          refine g_sub [0, 2, 3, 4] rfl ?_
          exact ih (k + 1) (by omega) (by omega)
        · skip
          refine g_iinc (v := (sumA 0 (htm P F r) k) + 1) (L' := [(2, .int ((sumA 0 (htm P F r) k) + 1)), (4, .ref x21), (3, .int (nI k)), (0, .ref (fO F)), (1, .ref r)]) hX dX1_heldThatMeet_33 2 rfl rfl (by decide) rfl ?_
          refine g_iinc (v := nI (k + 1)) (L' := [(3, .int (nI (k + 1))), (2, .int ((sumA 0 (htm P F r) k) + 1)), (4, .ref x21), (0, .ref (fO F)), (1, .ref r)]) hX dX1_heldThatMeet_36 2 rfl (nI_1 _) (by decide) rfl ?_
          refine g_goto hX 4 dX1_heldThatMeet_39 (by decide) ?_
          rw [show sumA 0 (htm P F r) k + 1 = sumA 0 (htm P F r) (k + 1) from by show _ = _ + _; rw [htm_s c21, bI_1 c30]; rfl]
          refine g_sub [0, 1, 3, 4] rfl ?_
          exact ih (k + 1) (by omega) (by omega)
  show G X 5 (ov (cxT X) (ovF (cxT X) N F) P) sz 0 0 0 [(0, .ref (fO F)), (1, .ref r)] []
  refine g_iconst (v := 0) hX dX1_heldThatMeet_0 (by decide) ?_
  refine g_istore_n (L' := [(2, .int 0), (0, .ref (fO F)), (1, .ref r)]) hX dX1_heldThatMeet_1 (by decide) rfl ?_
  refine g_iconst (v := 0) hX dX1_heldThatMeet_2 (by decide) ?_
  refine g_istore_n (L' := [(3, .int 0), (2, .int 0), (0, .ref (fO F)), (1, .ref r)]) hX dX1_heldThatMeet_3 (by decide) rfl ?_
  refine g_sub [0, 1, 2, 3] rfl ?_
  exact loop 0 (Nat.zero_le _)

set_option maxHeartbeats 4000000 in
set_option maxRecDepth 100000 in
theorem ct_othersThatMeet {l : Launch} (hl : l.stackTraces = false) {T : CT3} {D : va_G} {N : AH} {P : PS} {F : FS} (sz : Nat) (hwF : WfF P F) (hal : Alok P F) (pl : Nat → Nat) {q : Nat} (hq : pD P q = true) : Ct l T D yX1_othersThatMeet cX1_othersThatMeet 3 (some .int) 3 67 0 0 [.ref (fO F), .ref q] (ov T (ovF T N F) P) sz (fun v M' z' => v = some (.int (ansP P F pl q 8)) ∧ M' = ov T (ovF T N F) P ∧ sz = z') := by
  refine Ct.ofX hl (by decide) (Nat.le_of_ble_eq_true rfl) ?_
  intro X hl0 hT0 hD0 hlt hX hF
  subst hl0; subst hT0; subst hD0
  show G X 3 (ov (cxT X) (ovF (cxT X) N F) P) sz 0 0 0 [(0, .ref (fO F)), (1, .ref q)] []
  refine g_aload_n hX dX1_othersThatMeet_0 0 rfl ?_
  refine g_aload_n hX dX1_othersThatMeet_1 1 rfl ?_
  refine g_callV [] hX (ct_htm hX.st sz hwF hal hq) cw_X1_heldThatMeet cv_X1_heldThatMeet lk_X1_108 (ci := 1) rfl rfl (ovF_o hwF) ⟨by omega, by omega⟩ ⟨by omega, by omega⟩ (Nat.le_of_ble_eq_true rfl) rfl dX1_othersThatMeet_2 rfl (fun v2 M2 z2 hp2 hz2 hd2 => ?_)
  obtain ⟨rfl, rfl, rfl⟩ := hp2
  show G X _ (ov (cxT X) (ovF (cxT X) N F) P) sz (0 + 0) (0 + 0) 5 [(0, .ref (fO F)), (1, .ref q)] [.int (sumI (htm P F q) (fC F))]
  refine g_istore_n (L' := [(2, .int (sumI (htm P F q) (fC F))), (0, .ref (fO F)), (1, .ref q)]) hX dX1_othersThatMeet_5 (by decide) rfl ?_
  refine g_aload_n hX dX1_othersThatMeet_6 2 rfl ?_
  refine g_getN (ci := 0) hX rfl fin_X0 (ov_pc (P := P) hq) 4 (by decide) fn_X1_68 rfl dX1_othersThatMeet_7 ?_
  refine g_ifnonnull hX 17 dX1_othersThatMeet_10 (by decide) (fun x10 c10 => ?_) (fun c10 => ?_)
  · skip
    refine g_iload_n hX dX1_othersThatMeet_17 0 rfl ?_
    refine g_iconst (v := 1) hX dX1_othersThatMeet_18 (by decide) ?_
    refine g_isub hX dX1_othersThatMeet_19 ?_
    exact hF (some (.int ((sumI (htm P F q) (fC F)) - 1))) (ov (cxT X) (ovF (cxT X) N F) P) sz _ _ _ _ .ireturn (⟨by unfold ansP; simp only [c10], rfl, rfl⟩) (by omega) (by omega) ret_i dX1_othersThatMeet_20
  · skip
    refine g_iload_n hX dX1_othersThatMeet_13 0 rfl ?_
    refine g_goto hX 20 dX1_othersThatMeet_14 (by decide) ?_
    exact hF (some (.int (sumI (htm P F q) (fC F)))) (ov (cxT X) (ovF (cxT X) N F) P) sz _ _ _ _ .ireturn (⟨by unfold ansP; simp only [c10], rfl, rfl⟩) (by omega) (by omega) ret_i dX1_othersThatMeet_20

set_option maxHeartbeats 4000000 in
set_option maxRecDepth 100000 in
theorem ct_heldInAll {l : Launch} (hl : l.stackTraces = false) {T : CT3} {D : va_G} {N : AH} {P : PS} {F : FS} (sz : Nat) (hwF : WfF P F) (hal : Alok P F) : Ct l T D yX1_heldInAll cX1_heldInAll 3 (some .int) 2 43 0 0 [.ref (fO F)] (ov T (ovF T N F) P) sz (fun v M' z' => v = some (.int (sumI (hld P F) (fC F))) ∧ M' = ov T (ovF T N F) P ∧ sz = z') := by
  refine Ct.ofX hl (by decide) (Nat.le_of_ble_eq_true rfl) ?_
  intro X hl0 hT0 hD0 hlt hX hF
  subst hl0; subst hT0; subst hD0
  have h60 := hal.1
  have loop : ∀ k, k ≤ (fC F) → G X 3 (ov (cxT X) (ovF (cxT X) N F) P) sz 0 0 4 [(2, .int (nI k)), (1, .int (sumA 0 (hld P F) k)), (0, .ref (fO F))] [] := by
    refine loop_up ?_
    intro k ih hk
    refine g_iload_n hX dX1_heldInAll_4 0 rfl ?_
    refine g_aload_n hX dX1_heldInAll_5 2 rfl ?_
    refine g_get (ci := 1) hX rfl fin_X1 (ovF_o hwF) 1 (by decide) fl_X1_33 rfl dX1_heldInAll_6 ?_
    refine g_icmp_ge hX 29 dX1_heldInAll_9 (by decide) (fun c9 => ?_) (fun c9 => ?_)
    · skip
      have hke : k = fC F := by have h9 := (nI_leI (a := fC F) (b := k) (by omega) (by omega)).mp c9; omega
      subst hke
      refine g_iload_n hX dX1_heldInAll_29 1 rfl ?_
      exact hF (some (.int (sumA 0 (hld P F) (fC F)))) (ov (cxT X) (ovF (cxT X) N F) P) sz _ _ _ _ .ireturn (⟨rfl, rfl, rfl⟩) (by omega) (by omega) ret_i dX1_heldInAll_30
    · skip
      have hk2 : k < fC F := by have h9 := mt (nI_leI (a := fC F) (b := k) (by omega) (by omega)).mpr c9; omega
      refine g_aload_n hX dX1_heldInAll_12 2 rfl ?_
      refine g_iload_n hX dX1_heldInAll_13 0 rfl ?_
      refine g_callV [] hX (ct_hon hX.st sz hwF hal (nI k)) cw_X1_heldOrNull cv_X1_heldOrNull lk_X1_117 (ci := 1) rfl rfl (ovF_o hwF) ⟨by omega, by omega⟩ ⟨by omega, by omega⟩ (Nat.le_of_ble_eq_true rfl) rfl dX1_heldInAll_14 rfl (fun v14 M14 z14 hp14 hz14 hd14 => ?_)
      obtain ⟨rfl, rfl, rfl⟩ := hp14
      show G X _ (ov (cxT X) (ovF (cxT X) N F) P) sz (0 + 0) (0 + 0) 17 [(2, .int (nI k)), (1, .int (sumA 0 (hld P F) k)), (0, .ref (fO F))] [va_rf (hoI P F (nI k))]
      refine g_ifnull hX 23 dX1_heldInAll_17 (by decide) (fun c17 => ?_) (fun x17 c17 => ?_)
      · skip
        refine g_iinc (v := nI (k + 1)) (L' := [(2, .int (nI (k + 1))), (1, .int (sumA 0 (hld P F) k)), (0, .ref (fO F))]) hX dX1_heldInAll_23 0 rfl (nI_1 _) (by decide) rfl ?_
        refine g_goto hX 4 dX1_heldInAll_26 (by decide) ?_
        rw [show sumA 0 (hld P F) k = sumA 0 (hld P F) (k + 1) from by show _ = _ + _; rw [hld_n c17, add0I]]
        refine g_sub [0, 1, 2] rfl ?_
        exact ih (k + 1) (by omega) (by omega)
      · skip
        refine g_iinc (v := (sumA 0 (hld P F) k) + 1) (L' := [(1, .int ((sumA 0 (hld P F) k) + 1)), (2, .int (nI k)), (0, .ref (fO F))]) hX dX1_heldInAll_20 1 rfl rfl (by decide) rfl ?_
        refine g_iinc (v := nI (k + 1)) (L' := [(2, .int (nI (k + 1))), (1, .int ((sumA 0 (hld P F) k) + 1)), (0, .ref (fO F))]) hX dX1_heldInAll_23 1 rfl (nI_1 _) (by decide) rfl ?_
        refine g_goto hX 4 dX1_heldInAll_26 (by decide) ?_
        rw [show sumA 0 (hld P F) k + 1 = sumA 0 (hld P F) (k + 1) from by show _ = _ + _; rw [hld_s c17]]
        refine g_sub [0, 1, 2] rfl ?_
        exact ih (k + 1) (by omega) (by omega)
  show G X 3 (ov (cxT X) (ovF (cxT X) N F) P) sz 0 0 0 [(0, .ref (fO F))] []
  refine g_iconst (v := 0) hX dX1_heldInAll_0 (by decide) ?_
  refine g_istore_n (L' := [(1, .int 0), (0, .ref (fO F))]) hX dX1_heldInAll_1 (by decide) rfl ?_
  refine g_iconst (v := 0) hX dX1_heldInAll_2 (by decide) ?_
  refine g_istore_n (L' := [(2, .int 0), (1, .int 0), (0, .ref (fO F))]) hX dX1_heldInAll_3 (by decide) rfl ?_
  refine g_sub [0, 1, 2] rfl ?_
  exact loop 0 (Nat.zero_le _)

set_option maxHeartbeats 4000000 in
set_option maxRecDepth 100000 in
theorem ct_isBottom {l : Launch} (hl : l.stackTraces = false) {T : CT3} {D : va_G} {N : AH} {P : PS} (sz : Nat) (hw : Wf P) {q d : Nat} (hq : pD P q = true) (hl1 : pL P q < 1000) (hd : d < 1000) : Ct l T D yX1_isBottom cX1_isBottom 2 (some .boolean) 0 0 0 0 [.ref q, .int (nI d)] (ov T N P) sz (fun v M' z' => v = some (.int (bI (decide (pL P q ≤ 1 ∨ 40 ≤ d)))) ∧ M' = ov T N P ∧ sz = z') := by
  refine Ct.ofX hl (by decide) (Nat.le_of_ble_eq_true rfl) ?_
  intro X hl0 hT0 hD0 hlt hX hF
  subst hl0; subst hT0; subst hD0
  show G X 2 (ov (cxT X) N P) sz 0 0 0 [(0, .ref q), (1, .int (nI d))] []
  refine g_aload_n hX dX1_isBottom_0 0 rfl ?_
  refine g_getN (ci := 0) hX rfl fin_X0 (ov_pc (P := P) hq) 1 (by decide) fn_X1_102 rfl dX1_isBottom_1 ?_
  refine g_iconst (v := 1) hX dX1_isBottom_4 (by decide) ?_
  refine g_icmp_le hX 14 dX1_isBottom_5 (by decide) (fun c5 => ?_) (fun c5 => ?_)
  · skip
    refine g_iconst (v := 1) hX dX1_isBottom_14 (by decide) ?_
    refine g_goto hX 19 dX1_isBottom_15 (by decide) ?_
    exact hF (some (.int 1)) (ov (cxT X) N P) sz _ _ _ _ .ireturn (⟨by rw [decide_eq_true (Or.inl ((nI_leI (a := pL P q) (b := 1) (by omega) (by omega)).mp c5))]; rfl, rfl, rfl⟩) (by omega) (by omega) (ret_b (by decide)) dX1_isBottom_19
  · skip
    refine g_iload_n hX dX1_isBottom_8 1 rfl ?_
    refine g_bipush (v := 40) hX dX1_isBottom_9 (by decide) ?_
    refine g_icmp_lt hX 18 dX1_isBottom_11 (by decide) (fun c11 => ?_) (fun c11 => ?_)
    · skip
      refine g_iconst (v := 0) hX dX1_isBottom_18 (by decide) ?_
      exact hF (some (.int 0)) (ov (cxT X) N P) sz _ _ _ _ .ireturn (⟨by have h5 := mt (nI_leI (a := pL P q) (b := 1) (by omega) (by omega)).mpr c5; have h11 := (nI_ltI (a := d) (b := 40) (by omega) (by omega)).mp c11; rw [decide_eq_false (by omega)]; rfl, rfl, rfl⟩) (by omega) (by omega) (ret_b (by decide)) dX1_isBottom_19
    · skip
      refine g_iconst (v := 1) hX dX1_isBottom_14 (by decide) ?_
      refine g_goto hX 19 dX1_isBottom_15 (by decide) ?_
      exact hF (some (.int 1)) (ov (cxT X) N P) sz _ _ _ _ .ireturn (⟨by have h11 := mt (nI_ltI (a := d) (b := 40) (by omega) (by omega)).mpr c11; rw [decide_eq_true (Or.inr (by omega))]; rfl, rfl, rfl⟩) (by omega) (by omega) (ret_b (by decide)) dX1_isBottom_19

set_option maxHeartbeats 4000000 in
set_option maxRecDepth 100000 in
theorem ct_framesIn {l : Launch} (hl : l.stackTraces = false) {T : CT3} {D : va_G} {N : AH} {P : PS} (sz : Nat) (hw : Wf P)  : ∀ (n : Nat) (q d : Nat), TrP P n q → d + n < 40 → Ct l T D yX1_framesIn cX1_framesIn 5 (some .int) (n + 4) (80 + 60 * n) 0 0 [.ref q, .int (nI d)] (ov T N P) sz (fun v M' z' => v = some (.int (frP P n q)) ∧ M' = ov T N P ∧ sz = z') := by
  intro n
  induction n with
  | zero =>
    intro q d  ht hdn
    have hq := ht.d
    have hl1 := ht.l
    have hw5 := ht.w
    have hs4 := ht.s
    have hkc := ht.k
    refine Ct.ofX hl (by decide) (Nat.le_of_ble_eq_true rfl) ?_
    intro X hl0 hT0 hD0 hlt hX hF
    subst hl0; subst hT0; subst hD0
    show G X 5 (ov (cxT X) N P) sz 0 0 0 [(0, .ref q), (1, .int (nI d))] []
    refine g_iconst (v := 1) hX dX1_framesIn_0 (by decide) ?_
    refine g_istore_n (L' := [(2, .int 1), (0, .ref q), (1, .int (nI d))]) hX dX1_framesIn_1 (by decide) rfl ?_
    refine g_aload_n hX dX1_framesIn_2 1 rfl ?_
    refine g_iload_n hX dX1_framesIn_3 2 rfl ?_
    refine g_callS [] hX (ct_isBottom hX.st sz hw hq (by omega) (by omega)) cw_X1_isBottom stt_X1_isBottom lk_X1_210 ⟨by omega, by omega⟩ ⟨by omega, by omega⟩ (Nat.le_of_ble_eq_true rfl) rfl dX1_framesIn_4 rfl (fun v4 M4 z4 hp4 hz4 hd4 => ?_)
    rw [decide_eq_true (Or.inl (by rw [hl1]; exact Nat.le_refl 1))] at hp4
    obtain ⟨rfl, rfl, rfl⟩ := hp4
    show G X _ (ov (cxT X) N P) sz (0 + 0) (0 + 0) 7 [(2, .int 1), (0, .ref q), (1, .int (nI d))] [.int 1]
    refine g_if_eq hX 12 dX1_framesIn_7 (by decide) (fun c7 => absurd c7 (by decide)) (fun _ => ?_)
    refine g_iload_n hX dX1_framesIn_10 0 rfl ?_
    exact hF (some (.int 1)) (ov (cxT X) N P) sz _ _ _ _ .ireturn (⟨rfl, rfl, rfl⟩) (by omega) (by omega) ret_i dX1_framesIn_11
  | succ n ihn =>
    intro q d  ht hdn
    have hq := ht.d
    have hl1 := ht.l
    have hw5 := ht.w
    have hs4 := ht.s
    have hkc := ht.k
    have hkt : Kids P (pA P q) (pS P q) (fun c => TrP P n c) := ht.2.2.2.2
    refine Ct.ofX hl (by decide) (Nat.le_of_ble_eq_true rfl) ?_
    intro X hl0 hT0 hD0 hlt hX hF
    subst hl0; subst hT0; subst hD0
    have loop : ∀ k, k ≤ (pS P q) → G X 5 (ov (cxT X) N P) sz 0 0 14 [(3, .int (nI k)), (2, .int (sumA 1 (fun j => frP P n (kd P q j)) k)), (0, .ref q), (1, .int (nI d))] [] := by
      refine loop_up ?_
      intro k ih hk
      refine g_iload_n hX dX1_framesIn_14 0 rfl ?_
      refine g_aload_n hX dX1_framesIn_15 2 rfl ?_
      refine g_getN (ci := 0) hX rfl fin_X0 (ov_pc (P := P) hq) 3 (by decide) fn_X1_133 rfl dX1_framesIn_16 ?_
      refine g_icmp_ge hX 51 dX1_framesIn_19 (by decide) (fun c19 => ?_) (fun c19 => ?_)
      · skip
        have hke : k = pS P q := by have h9 := (nI_leI (a := pS P q) (b := k) (by omega) (by omega)).mp c19; omega
        subst hke
        refine g_iload_n hX dX1_framesIn_51 1 rfl ?_
        exact hF (some (.int (sumA 1 (fun j => frP P n (kd P q j)) (pS P q)))) (ov (cxT X) N P) sz _ _ _ _ .ireturn (⟨rfl, rfl, rfl⟩) (by omega) (by omega) ret_i dX1_framesIn_52
      · skip
        have hk2 : k < pS P q := by have h9 := mt (nI_leI (a := pS P q) (b := k) (by omega) (by omega)).mpr c19; omega
        refine g_aload_n hX dX1_framesIn_22 2 rfl ?_
        refine g_iload_n hX dX1_framesIn_23 0 rfl ?_
        refine g_callVN [] hX (ct_at hX.st sz hw (P := P) (q := q) (p := k) hq (by omega) (by omega) (by omega)) cw_X0_at cv_X0_at ln_X1_148 (ci := 0) rfl rfl (ov_pc (P := P) hq) ⟨by omega, by omega⟩ ⟨by omega, by omega⟩ (Nat.le_of_ble_eq_true rfl) rfl dX1_framesIn_24 rfl (fun v24 M24 z24 hp24 hz24 hd24 => ?_)
        rw [if_pos hk2, (hkc k hk2).1] at hp24
        obtain ⟨rfl, rfl, rfl⟩ := hp24
        show G X _ (ov (cxT X) N P) sz (0 + 0) (0 + 0) 27 [(3, .int (nI k)), (2, .int (sumA 1 (fun j => frP P n (kd P q j)) k)), (0, .ref q), (1, .int (nI d))] [.ref (kd P q k)]
        refine g_astore (L' := [(4, .ref (kd P q k)), (3, .int (nI k)), (2, .int (sumA 1 (fun j => frP P n (kd P q j)) k)), (0, .ref q), (1, .int (nI d))]) hX dX1_framesIn_27 (by decide) rfl ?_
        refine g_aload hX dX1_framesIn_29 0 rfl ?_
        refine g_ifnullR hX dX1_framesIn_31 ?_
        refine g_iload_n hX dX1_framesIn_34 2 rfl ?_
        refine g_aload hX dX1_framesIn_35 0 rfl ?_
        refine g_iload_n hX dX1_framesIn_37 4 rfl ?_
        refine g_iconst (v := 1) hX dX1_framesIn_38 (by decide) ?_
        refine g_iadd hX dX1_framesIn_39 ?_
        rw [nI_1]
        refine g_callS [.int (sumA 1 (fun j => frP P n (kd P q j)) k)] hX (ihn (kd P q k) (d + 1) (hkt k hk2).2.2 (by omega)) cw_X1_framesIn stt_X1_framesIn lk_X1_201 ⟨by omega, by omega⟩ ⟨by omega, by omega⟩ (Nat.le_of_ble_eq_true rfl) rfl dX1_framesIn_40 rfl (fun v40 M40 z40 hp40 hz40 hd40 => ?_)
        obtain ⟨rfl, rfl, rfl⟩ := hp40
        show G X _ (ov (cxT X) N P) sz ((0 + 0) + 0) ((0 + 0) + 0) 43 [(4, .ref (kd P q k)), (3, .int (nI k)), (2, .int (sumA 1 (fun j => frP P n (kd P q j)) k)), (0, .ref q), (1, .int (nI d))] [.int (frP P n (kd P q k)), .int (sumA 1 (fun j => frP P n (kd P q j)) k)]
        refine g_iadd hX dX1_framesIn_43 ?_
        refine g_istore_n (L' := [(2, .int ((sumA 1 (fun j => frP P n (kd P q j)) k) + (frP P n (kd P q k)))), (4, .ref (kd P q k)), (3, .int (nI k)), (0, .ref q), (1, .int (nI d))]) hX dX1_framesIn_44 (by decide) rfl ?_
        refine g_iinc (v := nI (k + 1)) (L' := [(3, .int (nI (k + 1))), (2, .int ((sumA 1 (fun j => frP P n (kd P q j)) k) + (frP P n (kd P q k)))), (4, .ref (kd P q k)), (0, .ref q), (1, .int (nI d))]) hX dX1_framesIn_45 2 rfl (nI_1 _) (by decide) rfl ?_
        refine g_goto hX 14 dX1_framesIn_48 (by decide) ?_
        refine g_sub [0, 1, 3, 4] rfl ?_
        exact ih (k + 1) (by omega) (by omega)
    show G X 5 (ov (cxT X) N P) sz 0 0 0 [(0, .ref q), (1, .int (nI d))] []
    refine g_iconst (v := 1) hX dX1_framesIn_0 (by decide) ?_
    refine g_istore_n (L' := [(2, .int 1), (0, .ref q), (1, .int (nI d))]) hX dX1_framesIn_1 (by decide) rfl ?_
    refine g_aload_n hX dX1_framesIn_2 1 rfl ?_
    refine g_iload_n hX dX1_framesIn_3 2 rfl ?_
    refine g_callS [] hX (ct_isBottom hX.st sz hw hq (by omega) (by omega)) cw_X1_isBottom stt_X1_isBottom lk_X1_210 ⟨by omega, by omega⟩ ⟨by omega, by omega⟩ (Nat.le_of_ble_eq_true rfl) rfl dX1_framesIn_4 rfl (fun v4 M4 z4 hp4 hz4 hd4 => ?_)
    rw [decide_eq_false (by rw [hl1]; omega)] at hp4
    obtain ⟨rfl, rfl, rfl⟩ := hp4
    show G X _ (ov (cxT X) N P) sz (0 + 0) (0 + 0) 7 [(2, .int 1), (0, .ref q), (1, .int (nI d))] [.int 0]
    refine g_if_eq hX 12 dX1_framesIn_7 (by decide) (fun _ => ?_) (fun c7 => absurd (by decide) c7)
    refine g_iconst (v := 0) hX dX1_framesIn_12 (by decide) ?_
    refine g_istore_n (L' := [(3, .int 0), (2, .int 1), (0, .ref q), (1, .int (nI d))]) hX dX1_framesIn_13 (by decide) rfl ?_
    refine g_sub [0, 1, 2, 3] rfl ?_
    exact loop 0 (Nat.zero_le _)

set_option maxHeartbeats 4000000 in
set_option maxRecDepth 100000 in
theorem ct_hedgeAreasIn {l : Launch} (hl : l.stackTraces = false) {T : CT3} {D : va_G} {N : AH} {P : PS} (sz : Nat) (hw : Wf P)  : ∀ (n : Nat) (q d : Nat), TrP P n q → d + n < 40 → Ct l T D yX1_hedgeAreasIn cX1_hedgeAreasIn 5 (some .int) (n + 4) (80 + 60 * n) 0 0 [.ref q, .int (nI d)] (ov T N P) sz (fun v M' z' => v = some (.int (haP P n q)) ∧ M' = ov T N P ∧ sz = z') := by
  intro n
  induction n with
  | zero =>
    intro q d  ht hdn
    have hq := ht.d
    have hl1 := ht.l
    have hw5 := ht.w
    have hs4 := ht.s
    have hkc := ht.k
    refine Ct.ofX hl (by decide) (Nat.le_of_ble_eq_true rfl) ?_
    intro X hl0 hT0 hD0 hlt hX hF
    subst hl0; subst hT0; subst hD0
    show G X 5 (ov (cxT X) N P) sz 0 0 0 [(0, .ref q), (1, .int (nI d))] []
    refine g_aload_n hX dX1_hedgeAreasIn_0 0 rfl ?_
    refine g_callVN [] hX (ct_area hX.st sz hw hq) cw_X0_area cv_X0_area ln_X1_86 (ci := 0) rfl rfl (ov_pc (P := P) hq) ⟨by omega, by omega⟩ ⟨by omega, by omega⟩ (Nat.le_of_ble_eq_true rfl) rfl dX1_hedgeAreasIn_1 rfl (fun v1 M1 z1 hp1 hz1 hd1 => ?_)
    obtain ⟨rfl, rfl, rfl⟩ := hp1
    show G X _ (ov (cxT X) N P) sz (0 + 0) (0 + 0) 4 [(0, .ref q), (1, .int (nI d))] [.int (arB P q)]
    refine g_istore_n (L' := [(2, .int (arB P q)), (0, .ref q), (1, .int (nI d))]) hX dX1_hedgeAreasIn_4 (by decide) rfl ?_
    refine g_aload_n hX dX1_hedgeAreasIn_5 1 rfl ?_
    refine g_iload_n hX dX1_hedgeAreasIn_6 2 rfl ?_
    refine g_callS [] hX (ct_isBottom hX.st sz hw hq (by omega) (by omega)) cw_X1_isBottom stt_X1_isBottom lk_X1_210 ⟨by omega, by omega⟩ ⟨by omega, by omega⟩ (Nat.le_of_ble_eq_true rfl) rfl dX1_hedgeAreasIn_7 rfl (fun v7 M7 z7 hp7 hz7 hd7 => ?_)
    rw [decide_eq_true (Or.inl (by rw [hl1]; exact Nat.le_refl 1))] at hp7
    obtain ⟨rfl, rfl, rfl⟩ := hp7
    show G X _ (ov (cxT X) N P) sz ((0 + 0) + 0) ((0 + 0) + 0) 10 [(2, .int (arB P q)), (0, .ref q), (1, .int (nI d))] [.int 1]
    refine g_if_eq hX 15 dX1_hedgeAreasIn_10 (by decide) (fun c10 => absurd c10 (by decide)) (fun _ => ?_)
    refine g_iload_n hX dX1_hedgeAreasIn_13 0 rfl ?_
    exact hF (some (.int (arB P q))) (ov (cxT X) N P) sz _ _ _ _ .ireturn (⟨rfl, rfl, rfl⟩) (by omega) (by omega) ret_i dX1_hedgeAreasIn_14
  | succ n ihn =>
    intro q d  ht hdn
    have hq := ht.d
    have hl1 := ht.l
    have hw5 := ht.w
    have hs4 := ht.s
    have hkc := ht.k
    have hkt : Kids P (pA P q) (pS P q) (fun c => TrP P n c) := ht.2.2.2.2
    refine Ct.ofX hl (by decide) (Nat.le_of_ble_eq_true rfl) ?_
    intro X hl0 hT0 hD0 hlt hX hF
    subst hl0; subst hT0; subst hD0
    have loop : ∀ k, k ≤ (pS P q) → G X 5 (ov (cxT X) N P) sz 0 0 17 [(3, .int (nI k)), (2, .int (sumA (arB P q) (fun j => haP P n (kd P q j)) k)), (0, .ref q), (1, .int (nI d))] [] := by
      refine loop_up ?_
      intro k ih hk
      refine g_iload_n hX dX1_hedgeAreasIn_17 0 rfl ?_
      refine g_aload_n hX dX1_hedgeAreasIn_18 2 rfl ?_
      refine g_getN (ci := 0) hX rfl fin_X0 (ov_pc (P := P) hq) 3 (by decide) fn_X1_133 rfl dX1_hedgeAreasIn_19 ?_
      refine g_icmp_ge hX 54 dX1_hedgeAreasIn_22 (by decide) (fun c22 => ?_) (fun c22 => ?_)
      · skip
        have hke : k = pS P q := by have h9 := (nI_leI (a := pS P q) (b := k) (by omega) (by omega)).mp c22; omega
        subst hke
        refine g_iload_n hX dX1_hedgeAreasIn_54 1 rfl ?_
        exact hF (some (.int (sumA (arB P q) (fun j => haP P n (kd P q j)) (pS P q)))) (ov (cxT X) N P) sz _ _ _ _ .ireturn (⟨rfl, rfl, rfl⟩) (by omega) (by omega) ret_i dX1_hedgeAreasIn_55
      · skip
        have hk2 : k < pS P q := by have h9 := mt (nI_leI (a := pS P q) (b := k) (by omega) (by omega)).mpr c22; omega
        refine g_aload_n hX dX1_hedgeAreasIn_25 2 rfl ?_
        refine g_iload_n hX dX1_hedgeAreasIn_26 0 rfl ?_
        refine g_callVN [] hX (ct_at hX.st sz hw (P := P) (q := q) (p := k) hq (by omega) (by omega) (by omega)) cw_X0_at cv_X0_at ln_X1_148 (ci := 0) rfl rfl (ov_pc (P := P) hq) ⟨by omega, by omega⟩ ⟨by omega, by omega⟩ (Nat.le_of_ble_eq_true rfl) rfl dX1_hedgeAreasIn_27 rfl (fun v27 M27 z27 hp27 hz27 hd27 => ?_)
        rw [if_pos hk2, (hkc k hk2).1] at hp27
        obtain ⟨rfl, rfl, rfl⟩ := hp27
        show G X _ (ov (cxT X) N P) sz (0 + 0) (0 + 0) 30 [(3, .int (nI k)), (2, .int (sumA (arB P q) (fun j => haP P n (kd P q j)) k)), (0, .ref q), (1, .int (nI d))] [.ref (kd P q k)]
        refine g_astore (L' := [(4, .ref (kd P q k)), (3, .int (nI k)), (2, .int (sumA (arB P q) (fun j => haP P n (kd P q j)) k)), (0, .ref q), (1, .int (nI d))]) hX dX1_hedgeAreasIn_30 (by decide) rfl ?_
        refine g_aload hX dX1_hedgeAreasIn_32 0 rfl ?_
        refine g_ifnullR hX dX1_hedgeAreasIn_34 ?_
        refine g_iload_n hX dX1_hedgeAreasIn_37 2 rfl ?_
        refine g_aload hX dX1_hedgeAreasIn_38 0 rfl ?_
        refine g_iload_n hX dX1_hedgeAreasIn_40 4 rfl ?_
        refine g_iconst (v := 1) hX dX1_hedgeAreasIn_41 (by decide) ?_
        refine g_iadd hX dX1_hedgeAreasIn_42 ?_
        rw [nI_1]
        refine g_callS [.int (sumA (arB P q) (fun j => haP P n (kd P q j)) k)] hX (ihn (kd P q k) (d + 1) (hkt k hk2).2.2 (by omega)) cw_X1_hedgeAreasIn stt_X1_hedgeAreasIn lk_X1_204 ⟨by omega, by omega⟩ ⟨by omega, by omega⟩ (Nat.le_of_ble_eq_true rfl) rfl dX1_hedgeAreasIn_43 rfl (fun v43 M43 z43 hp43 hz43 hd43 => ?_)
        obtain ⟨rfl, rfl, rfl⟩ := hp43
        show G X _ (ov (cxT X) N P) sz ((0 + 0) + 0) ((0 + 0) + 0) 46 [(4, .ref (kd P q k)), (3, .int (nI k)), (2, .int (sumA (arB P q) (fun j => haP P n (kd P q j)) k)), (0, .ref q), (1, .int (nI d))] [.int (haP P n (kd P q k)), .int (sumA (arB P q) (fun j => haP P n (kd P q j)) k)]
        refine g_iadd hX dX1_hedgeAreasIn_46 ?_
        refine g_istore_n (L' := [(2, .int ((sumA (arB P q) (fun j => haP P n (kd P q j)) k) + (haP P n (kd P q k)))), (4, .ref (kd P q k)), (3, .int (nI k)), (0, .ref q), (1, .int (nI d))]) hX dX1_hedgeAreasIn_47 (by decide) rfl ?_
        refine g_iinc (v := nI (k + 1)) (L' := [(3, .int (nI (k + 1))), (2, .int ((sumA (arB P q) (fun j => haP P n (kd P q j)) k) + (haP P n (kd P q k)))), (4, .ref (kd P q k)), (0, .ref q), (1, .int (nI d))]) hX dX1_hedgeAreasIn_48 2 rfl (nI_1 _) (by decide) rfl ?_
        refine g_goto hX 17 dX1_hedgeAreasIn_51 (by decide) ?_
        refine g_sub [0, 1, 3, 4] rfl ?_
        exact ih (k + 1) (by omega) (by omega)
    show G X 5 (ov (cxT X) N P) sz 0 0 0 [(0, .ref q), (1, .int (nI d))] []
    refine g_aload_n hX dX1_hedgeAreasIn_0 0 rfl ?_
    refine g_callVN [] hX (ct_area hX.st sz hw hq) cw_X0_area cv_X0_area ln_X1_86 (ci := 0) rfl rfl (ov_pc (P := P) hq) ⟨by omega, by omega⟩ ⟨by omega, by omega⟩ (Nat.le_of_ble_eq_true rfl) rfl dX1_hedgeAreasIn_1 rfl (fun v1 M1 z1 hp1 hz1 hd1 => ?_)
    obtain ⟨rfl, rfl, rfl⟩ := hp1
    show G X _ (ov (cxT X) N P) sz (0 + 0) (0 + 0) 4 [(0, .ref q), (1, .int (nI d))] [.int (arB P q)]
    refine g_istore_n (L' := [(2, .int (arB P q)), (0, .ref q), (1, .int (nI d))]) hX dX1_hedgeAreasIn_4 (by decide) rfl ?_
    refine g_aload_n hX dX1_hedgeAreasIn_5 1 rfl ?_
    refine g_iload_n hX dX1_hedgeAreasIn_6 2 rfl ?_
    refine g_callS [] hX (ct_isBottom hX.st sz hw hq (by omega) (by omega)) cw_X1_isBottom stt_X1_isBottom lk_X1_210 ⟨by omega, by omega⟩ ⟨by omega, by omega⟩ (Nat.le_of_ble_eq_true rfl) rfl dX1_hedgeAreasIn_7 rfl (fun v7 M7 z7 hp7 hz7 hd7 => ?_)
    rw [decide_eq_false (by rw [hl1]; omega)] at hp7
    obtain ⟨rfl, rfl, rfl⟩ := hp7
    show G X _ (ov (cxT X) N P) sz ((0 + 0) + 0) ((0 + 0) + 0) 10 [(2, .int (arB P q)), (0, .ref q), (1, .int (nI d))] [.int 0]
    refine g_if_eq hX 15 dX1_hedgeAreasIn_10 (by decide) (fun _ => ?_) (fun c10 => absurd (by decide) c10)
    refine g_iconst (v := 0) hX dX1_hedgeAreasIn_15 (by decide) ?_
    refine g_istore_n (L' := [(3, .int 0), (2, .int (arB P q)), (0, .ref q), (1, .int (nI d))]) hX dX1_hedgeAreasIn_16 (by decide) rfl ?_
    refine g_sub [0, 1, 2, 3] rfl ?_
    exact loop 0 (Nat.zero_le _)
