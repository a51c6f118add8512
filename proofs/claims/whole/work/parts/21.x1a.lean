set_option maxHeartbeats 4000000 in
set_option maxRecDepth 100000 in
theorem ct_isRectangle {l : Launch} (hl : l.stackTraces = false) {T : CT3} {D : va_G} {M : AH} (sz : Nat) (x1 y1 x2 y2 : Int32) : Ct l T D yX1_isRectangle cX1_isRectangle 4 (some .boolean) 0 0 0 0 [.int x1, .int y1, .int x2, .int y2] M sz (fun v M' z' => v = some (.int (bI (isR x1 y1 x2 y2))) ∧ M' = M ∧ sz = z') := by
  refine Ct.ofX hl (by decide) (Nat.le_of_ble_eq_true rfl) ?_
  intro X hl0 hT0 hD0 hlt hX hF
  subst hl0; subst hT0; subst hD0
  show G X 4 M sz 0 0 0 [(0, .int x1), (1, .int y1), (2, .int x2), (3, .int y2)] []
  refine g_iload_n hX dX1_isRectangle_0 0 rfl ?_
  refine g_if_lt hX 34 dX1_isRectangle_1 (by decide) (fun c1 => ?_) (fun c1 => ?_)
  · skip
    refine g_iconst (v := 0) hX dX1_isRectangle_34 (by decide) ?_
    exact hF (some (.int 0)) M sz _ _ _ _ .ireturn (⟨by rw [isR_1 c1]; rfl, rfl, rfl⟩) (by omega) (by omega) (ret_b (by decide)) dX1_isRectangle_35
  · skip
    refine g_iload_n hX dX1_isRectangle_4 1 rfl ?_
    refine g_if_lt hX 34 dX1_isRectangle_5 (by decide) (fun c5 => ?_) (fun c5 => ?_)
    · skip
      refine g_iconst (v := 0) hX dX1_isRectangle_34 (by decide) ?_
      exact hF (some (.int 0)) M sz _ _ _ _ .ireturn (⟨by rw [isR_2 c5]; rfl, rfl, rfl⟩) (by omega) (by omega) (ret_b (by decide)) dX1_isRectangle_35
    · skip
      refine g_iload_n hX dX1_isRectangle_8 2 rfl ?_
      refine g_bipush (v := 99) hX dX1_isRectangle_9 (by decide) ?_
      refine g_icmp_gt hX 34 dX1_isRectangle_11 (by decide) (fun c11 => ?_) (fun c11 => ?_)
      · skip
        refine g_iconst (v := 0) hX dX1_isRectangle_34 (by decide) ?_
        exact hF (some (.int 0)) M sz _ _ _ _ .ireturn (⟨by rw [isR_3 c11]; rfl, rfl, rfl⟩) (by omega) (by omega) (ret_b (by decide)) dX1_isRectangle_35
      · skip
        refine g_iload_n hX dX1_isRectangle_14 3 rfl ?_
        refine g_bipush (v := 99) hX dX1_isRectangle_15 (by decide) ?_
        refine g_icmp_gt hX 34 dX1_isRectangle_17 (by decide) (fun c17 => ?_) (fun c17 => ?_)
        · skip
          refine g_iconst (v := 0) hX dX1_isRectangle_34 (by decide) ?_
          exact hF (some (.int 0)) M sz _ _ _ _ .ireturn (⟨by rw [isR_4 c17]; rfl, rfl, rfl⟩) (by omega) (by omega) (ret_b (by decide)) dX1_isRectangle_35
        · skip
          refine g_iload_n hX dX1_isRectangle_20 0 rfl ?_
          refine g_iload_n hX dX1_isRectangle_21 2 rfl ?_
          refine g_icmp_gt hX 34 dX1_isRectangle_22 (by decide) (fun c22 => ?_) (fun c22 => ?_)
          · skip
            refine g_iconst (v := 0) hX dX1_isRectangle_34 (by decide) ?_
            exact hF (some (.int 0)) M sz _ _ _ _ .ireturn (⟨by rw [isR_5 c22]; rfl, rfl, rfl⟩) (by omega) (by omega) (ret_b (by decide)) dX1_isRectangle_35
          · skip
            refine g_iload_n hX dX1_isRectangle_25 1 rfl ?_
            refine g_iload_n hX dX1_isRectangle_26 3 rfl ?_
            refine g_icmp_gt hX 34 dX1_isRectangle_27 (by decide) (fun c27 => ?_) (fun c27 => ?_)
            · skip
              refine g_iconst (v := 0) hX dX1_isRectangle_34 (by decide) ?_
              exact hF (some (.int 0)) M sz _ _ _ _ .ireturn (⟨by rw [isR_6 c27]; rfl, rfl, rfl⟩) (by omega) (by omega) (ret_b (by decide)) dX1_isRectangle_35
            · skip
              refine g_iconst (v := 1) hX dX1_isRectangle_30 (by decide) ?_
              refine g_goto hX 35 dX1_isRectangle_31 (by decide) ?_
              exact hF (some (.int 1)) M sz _ _ _ _ .ireturn (⟨by rw [isR_t c1 c5 c11 c17 c22 c27]; rfl, rfl, rfl⟩) (by omega) (by omega) (ret_b (by decide)) dX1_isRectangle_35

set_option maxHeartbeats 4000000 in
set_option maxRecDepth 100000 in
theorem ct_isQuestion {l : Launch} (hl : l.stackTraces = false) {T : CT3} {D : va_G} {M : AH} (sz : Nat) (x : Int32) : Ct l T D yX1_isQuestion cX1_isQuestion 1 (some .boolean) 0 0 0 0 [.int x] M sz (fun v M' z' => v = some (.int (bI (isQ x))) ∧ M' = M ∧ sz = z') := by
  refine Ct.ofX hl (by decide) (Nat.le_of_ble_eq_true rfl) ?_
  intro X hl0 hT0 hD0 hlt hX hF
  subst hl0; subst hT0; subst hD0
  show G X 1 M sz 0 0 0 [(0, .int x)] []
  refine g_iload_n hX dX1_isQuestion_0 0 rfl ?_
  refine g_if_lt hX 14 dX1_isQuestion_1 (by decide) (fun c1 => ?_) (fun c1 => ?_)
  · skip
    refine g_iconst (v := 0) hX dX1_isQuestion_14 (by decide) ?_
    exact hF (some (.int 0)) M sz _ _ _ _ .ireturn (⟨by rw [isQ_1 c1]; rfl, rfl, rfl⟩) (by omega) (by omega) (ret_b (by decide)) dX1_isQuestion_15
  · skip
    refine g_iload_n hX dX1_isQuestion_4 0 rfl ?_
    refine g_bipush (v := 8) hX dX1_isQuestion_5 (by decide) ?_
    refine g_icmp_gt hX 14 dX1_isQuestion_7 (by decide) (fun c7 => ?_) (fun c7 => ?_)
    · skip
      refine g_iconst (v := 0) hX dX1_isQuestion_14 (by decide) ?_
      exact hF (some (.int 0)) M sz _ _ _ _ .ireturn (⟨by rw [isQ_2 c7]; rfl, rfl, rfl⟩) (by omega) (by omega) (ret_b (by decide)) dX1_isQuestion_15
    · skip
      refine g_iconst (v := 1) hX dX1_isQuestion_10 (by decide) ?_
      refine g_goto hX 15 dX1_isQuestion_11 (by decide) ?_
      exact hF (some (.int 1)) M sz _ _ _ _ .ireturn (⟨by rw [isQ_t c1 c7]; rfl, rfl, rfl⟩) (by omega) (by omega) (ret_b (by decide)) dX1_isQuestion_15

set_option maxHeartbeats 4000000 in
set_option maxRecDepth 100000 in
theorem ct_aon {l : Launch} (hl : l.stackTraces = false) {T : CT3} {D : va_G} {N : AH} {P : PS} {F : FS} (sz : Nat) (hwF : WfF P F) (hal : Alok P F) (n : Int32) : Ct l T D yX1_allotmentOrNull cX1_allotmentOrNull 2 (some (.object "NestedFrames$Piece")) 0 0 0 0 [.ref (fO F), .int n] (ov T (ovF T N F) P) sz (fun v M' z' => v = some (va_rf (alI F n)) ∧ M' = ov T (ovF T N F) P ∧ sz = z') := by
  refine Ct.ofX hl (by decide) (Nat.le_of_ble_eq_true rfl) ?_
  intro X hl0 hT0 hD0 hlt hX hF
  subst hl0; subst hT0; subst hD0
  show G X 2 (ov (cxT X) (ovF (cxT X) N F) P) sz 0 0 0 [(0, .ref (fO F)), (1, .int n)] []
  refine g_iload_n hX dX1_allotmentOrNull_0 1 rfl ?_
  refine g_if_lt hX 30 dX1_allotmentOrNull_1 (by decide) (fun c1 => ?_) (fun c1 => ?_)
  · skip
    refine g_null hX dX1_allotmentOrNull_30 ?_
    exact hF (some (.null)) (ov (cxT X) (ovF (cxT X) N F) P) sz _ _ _ _ .areturn (⟨by unfold alI; rw [if_pos c1]; rfl, rfl, rfl⟩) (by omega) (by omega) (ret_a (r := none)) dX1_allotmentOrNull_31
  · skip
    refine g_iload_n hX dX1_allotmentOrNull_4 1 rfl ?_
    refine g_aload_n hX dX1_allotmentOrNull_5 0 rfl ?_
    refine g_get (ci := 1) hX rfl fin_X1 (ovF_o hwF) 1 (by decide) fl_X1_33 rfl dX1_allotmentOrNull_6 ?_
    refine g_icmp_ge hX 30 dX1_allotmentOrNull_9 (by decide) (fun c9 => ?_) (fun c9 => ?_)
    · skip
      refine g_null hX dX1_allotmentOrNull_30 ?_
      exact hF (some (.null)) (ov (cxT X) (ovF (cxT X) N F) P) sz _ _ _ _ .areturn (⟨by unfold alI; rw [if_neg c1, if_pos c9]; rfl, rfl, rfl⟩) (by omega) (by omega) (ret_a (r := none)) dX1_allotmentOrNull_31
    · skip
      obtain ⟨j, hj, rfl⟩ : ∃ j, j < fC F ∧ n = nI j := by
        rcases pk_ix n (n := fC F) (by have := hal.1; omega) with h | h | h
        · exact absurd h c1
        · exact absurd h c9
        · exact h
      have h60 := hal.1
      refine g_iload_n hX dX1_allotmentOrNull_12 1 rfl ?_
      refine g_aload_n hX dX1_allotmentOrNull_13 0 rfl ?_
      refine g_get (ci := 1) hX rfl fin_X1 (ovF_o hwF) 0 (by decide) fl_X1_11 rfl dX1_allotmentOrNull_14 ?_
      refine g_alen hX (ovF_a hwF) dX1_allotmentOrNull_17 ?_
      refine g_icmp_ge hX 30 dX1_allotmentOrNull_18 (by decide) (fun c18 => absurd c18 (nI_ge (by omega) (by decide))) (fun _ => ?_)
      refine g_aload_n hX dX1_allotmentOrNull_21 0 rfl ?_
      refine g_get (ci := 1) hX rfl fin_X1 (ovF_o hwF) 0 (by decide) fl_X1_11 rfl dX1_allotmentOrNull_22 ?_
      refine g_iload_n hX dX1_allotmentOrNull_25 1 rfl ?_
      refine g_aald hX (ovF_a hwF) j rfl (by omega) (by decide) dX1_allotmentOrNull_26 ?_
      refine g_goto hX 31 dX1_allotmentOrNull_27 (by decide) ?_
      exact hF (some (va_rf (fA F j))) (ov (cxT X) (ovF (cxT X) N F) P) sz _ _ _ _ .areturn (⟨by rw [alI_n hj h60], rfl, rfl⟩) (by omega) (by omega) (ret_a (r := (fA F j))) dX1_allotmentOrNull_31

set_option maxHeartbeats 4000000 in
set_option maxRecDepth 100000 in
theorem ct_hon {l : Launch} (hl : l.stackTraces = false) {T : CT3} {D : va_G} {N : AH} {P : PS} {F : FS} (sz : Nat) (hwF : WfF P F) (hal : Alok P F) (n : Int32) : Ct l T D yX1_heldOrNull cX1_heldOrNull 3 (some (.object "NestedFrames$Piece")) 1 21 0 0 [.ref (fO F), .int n] (ov T (ovF T N F) P) sz (fun v M' z' => v = some (va_rf (hoI P F n)) ∧ M' = ov T (ovF T N F) P ∧ sz = z') := by
  refine Ct.ofX hl (by decide) (Nat.le_of_ble_eq_true rfl) ?_
  intro X hl0 hT0 hD0 hlt hX hF
  subst hl0; subst hT0; subst hD0
  show G X 3 (ov (cxT X) (ovF (cxT X) N F) P) sz 0 0 0 [(0, .ref (fO F)), (1, .int n)] []
  refine g_aload_n hX dX1_heldOrNull_0 0 rfl ?_
  refine g_iload_n hX dX1_heldOrNull_1 1 rfl ?_
  refine g_callV [] hX (ct_aon hX.st sz hwF hal n) cw_X1_allotmentOrNull cv_X1_allotmentOrNull lk_X1_59 (ci := 1) rfl rfl (ovF_o hwF) ⟨by omega, by omega⟩ ⟨by omega, by omega⟩ (Nat.le_of_ble_eq_true rfl) rfl dX1_heldOrNull_2 rfl (fun v2 M2 z2 hp2 hz2 hd2 => ?_)
  obtain ⟨rfl, rfl, rfl⟩ := hp2
  show G X _ (ov (cxT X) (ovF (cxT X) N F) P) sz (0 + 0) (0 + 0) 5 [(0, .ref (fO F)), (1, .int n)] [va_rf (alI F n)]
  refine g_astore_nQ (L' := [(2, va_rf (alI F n)), (0, .ref (fO F)), (1, .int n)]) hX dX1_heldOrNull_5 (by decide) rfl ?_
  refine g_aload_nQ hX dX1_heldOrNull_6 0 rfl ?_
  refine g_ifnull hX 17 dX1_heldOrNull_7 (by decide) (fun c7 => ?_) (fun x7 c7 => ?_)
  · skip
    refine g_null hX dX1_heldOrNull_17 ?_
    refine g_goto hX 22 dX1_heldOrNull_18 (by decide) ?_
    exact hF (some (.null)) (ov (cxT X) (ovF (cxT X) N F) P) sz _ _ _ _ .areturn (⟨by unfold hoI; rw [c7]; rfl, rfl, rfl⟩) (by omega) (by omega) (ret_a (r := none)) dX1_heldOrNull_22
  · skip
    have hdx := hal.al c7
    rw [c7]
    show G X _ (ov (cxT X) (ovF (cxT X) N F) P) sz (0 + 0) (0 + 0) 10 [(2, .ref x7), (0, .ref (fO F)), (1, .int n)] []
    refine g_aload_n hX dX1_heldOrNull_10 0 rfl ?_
    refine g_getN (ci := 0) hX rfl fin_X0 (ov_pc (P := P) hdx) 4 (by decide) fn_X1_68 rfl dX1_heldOrNull_11 ?_
    refine g_ifnonnull hX 21 dX1_heldOrNull_14 (by decide) (fun x14 c14 => ?_) (fun c14 => ?_)
    · skip
      refine g_aload_n hX dX1_heldOrNull_21 0 rfl ?_
      exact hF (some (.ref x7)) (ov (cxT X) (ovF (cxT X) N F) P) sz _ _ _ _ .areturn (⟨by unfold hoI; rw [c7]; simp only [c14]; rfl, rfl, rfl⟩) (by omega) (by omega) (ret_a (r := some x7)) dX1_heldOrNull_22
    · skip
      refine g_null hX dX1_heldOrNull_17 ?_
      refine g_goto hX 22 dX1_heldOrNull_18 (by decide) ?_
      exact hF (some (.null)) (ov (cxT X) (ovF (cxT X) N F) P) sz _ _ _ _ .areturn (⟨by unfold hoI; rw [c7]; simp only [c14]; rfl, rfl, rfl⟩) (by omega) (by omega) (ret_a (r := none)) dX1_heldOrNull_22

set_option maxHeartbeats 4000000 in
set_option maxRecDepth 100000 in
theorem ct_isBetter {l : Launch} (hl : l.stackTraces = false) {T : CT3} {D : va_G} {N : AH} {P : PS} (sz : Nat) (hw : Wf P) {r c b : Nat} (hr : pD P r = true) (hcd : pD P c = true) (hbd : pD P b = true) : Ct l T D yX1_isBetterFor cX1_isBetterFor 5 (some .boolean) 2 44 0 0 [.ref r, .ref c, .ref b] (ov T N P) sz (fun v M' z' => v = some (.int (bI (betB P r c b))) ∧ M' = ov T N P ∧ sz = z') := by
  refine Ct.ofX hl (by decide) (Nat.le_of_ble_eq_true rfl) ?_
  intro X hl0 hT0 hD0 hlt hX hF
  subst hl0; subst hT0; subst hD0
  show G X 5 (ov (cxT X) N P) sz 0 0 0 [(0, .ref r), (1, .ref c), (2, .ref b)] []
  refine g_aload_n hX dX1_isBetterFor_0 1 rfl ?_
  refine g_aload_n hX dX1_isBetterFor_1 0 rfl ?_
  refine g_callVN [] hX (ct_growthFor hX.st sz hw hcd hr) cw_X0_growthFor cv_X0_growthFor ln_X1_130 (ci := 0) rfl rfl (ov_pc (P := P) hcd) ⟨by omega, by omega⟩ ⟨by omega, by omega⟩ (Nat.le_of_ble_eq_true rfl) rfl dX1_isBetterFor_2 rfl (fun v2 M2 z2 hp2 hz2 hd2 => ?_)
  obtain ⟨rfl, rfl, rfl⟩ := hp2
  show G X _ (ov (cxT X) N P) sz (0 + 0) (0 + 0) 5 [(0, .ref r), (1, .ref c), (2, .ref b)] [.int (grB P c r)]
  refine g_istore_n (L' := [(3, .int (grB P c r)), (0, .ref r), (1, .ref c), (2, .ref b)]) hX dX1_isBetterFor_5 (by decide) rfl ?_
  refine g_aload_n hX dX1_isBetterFor_6 3 rfl ?_
  refine g_aload_n hX dX1_isBetterFor_7 1 rfl ?_
  refine g_callVN [] hX (ct_growthFor hX.st sz hw hbd hr) cw_X0_growthFor cv_X0_growthFor ln_X1_130 (ci := 0) rfl rfl (ov_pc (P := P) hbd) ⟨by omega, by omega⟩ ⟨by omega, by omega⟩ (Nat.le_of_ble_eq_true rfl) rfl dX1_isBetterFor_8 rfl (fun v8 M8 z8 hp8 hz8 hd8 => ?_)
  obtain ⟨rfl, rfl, rfl⟩ := hp8
  show G X _ (ov (cxT X) N P) sz ((0 + 0) + 0) ((0 + 0) + 0) 11 [(3, .int (grB P c r)), (0, .ref r), (1, .ref c), (2, .ref b)] [.int (grB P b r)]
  refine g_istore (L' := [(4, .int (grB P b r)), (3, .int (grB P c r)), (0, .ref r), (1, .ref c), (2, .ref b)]) hX dX1_isBetterFor_11 (by decide) rfl ?_
  refine g_iload_n hX dX1_isBetterFor_13 1 rfl ?_
  refine g_iload hX dX1_isBetterFor_14 0 rfl ?_
  refine g_icmp_lt hX 36 dX1_isBetterFor_16 (by decide) (fun c16 => ?_) (fun c16 => ?_)
  · skip
    refine g_iconst (v := 1) hX dX1_isBetterFor_36 (by decide) ?_
    refine g_goto hX 41 dX1_isBetterFor_37 (by decide) ?_
    exact hF (some (.int 1)) (ov (cxT X) N P) sz _ _ _ _ .ireturn (⟨by unfold betB; rw [decide_eq_true c16]; rfl, rfl, rfl⟩) (by omega) (by omega) (ret_b (by decide)) dX1_isBetterFor_41
  · skip
    refine g_iload_n hX dX1_isBetterFor_19 1 rfl ?_
    refine g_iload hX dX1_isBetterFor_20 0 rfl ?_
    refine g_icmp_ne hX 40 dX1_isBetterFor_22 (by decide) (fun c22 => ?_) (fun c22 => ?_)
    · skip
      refine g_iconst (v := 0) hX dX1_isBetterFor_40 (by decide) ?_
      exact hF (some (.int 0)) (ov (cxT X) N P) sz _ _ _ _ .ireturn (⟨by unfold betB; rw [decide_eq_false c16, decide_eq_false c22]; rfl, rfl, rfl⟩) (by omega) (by omega) (ret_b (by decide)) dX1_isBetterFor_41
    · skip
      refine g_aload_n hX dX1_isBetterFor_25 3 rfl ?_
      refine g_callVN [] hX (ct_area hX.st sz hw hcd) cw_X0_area cv_X0_area ln_X1_86 (ci := 0) rfl rfl (ov_pc (P := P) hcd) ⟨by omega, by omega⟩ ⟨by omega, by omega⟩ (Nat.le_of_ble_eq_true rfl) rfl dX1_isBetterFor_26 rfl (fun v26 M26 z26 hp26 hz26 hd26 => ?_)
      obtain ⟨rfl, rfl, rfl⟩ := hp26
      show G X _ (ov (cxT X) N P) sz (((0 + 0) + 0) + 0) (((0 + 0) + 0) + 0) 29 [(4, .int (grB P b r)), (3, .int (grB P c r)), (0, .ref r), (1, .ref c), (2, .ref b)] [.int (arB P c)]
      refine g_aload_n hX dX1_isBetterFor_29 4 rfl ?_
      refine g_callVN [.int (arB P c)] hX (ct_area hX.st sz hw hbd) cw_X0_area cv_X0_area ln_X1_86 (ci := 0) rfl rfl (ov_pc (P := P) hbd) ⟨by omega, by omega⟩ ⟨by omega, by omega⟩ (Nat.le_of_ble_eq_true rfl) rfl dX1_isBetterFor_30 rfl (fun v30 M30 z30 hp30 hz30 hd30 => ?_)
      obtain ⟨rfl, rfl, rfl⟩ := hp30
      show G X _ (ov (cxT X) N P) sz ((((0 + 0) + 0) + 0) + 0) ((((0 + 0) + 0) + 0) + 0) 33 [(4, .int (grB P b r)), (3, .int (grB P c r)), (0, .ref r), (1, .ref c), (2, .ref b)] [.int (arB P b), .int (arB P c)]
      refine g_icmp_ge hX 40 dX1_isBetterFor_33 (by decide) (fun c33 => ?_) (fun c33 => ?_)
      · skip
        refine g_iconst (v := 0) hX dX1_isBetterFor_40 (by decide) ?_
        exact hF (some (.int 0)) (ov (cxT X) N P) sz _ _ _ _ .ireturn (⟨by unfold betB; rw [decide_eq_false c16, decide_eq_true c22, decide_eq_false (Int32.not_lt.mpr c33)]; rfl, rfl, rfl⟩) (by omega) (by omega) (ret_b (by decide)) dX1_isBetterFor_41
      · skip
        refine g_iconst (v := 1) hX dX1_isBetterFor_36 (by decide) ?_
        refine g_goto hX 41 dX1_isBetterFor_37 (by decide) ?_
        exact hF (some (.int 1)) (ov (cxT X) N P) sz _ _ _ _ .ireturn (⟨by unfold betB; rw [decide_eq_false c16, decide_eq_true c22, decide_eq_true (Int32.not_le.mp c33)]; rfl, rfl, rfl⟩) (by omega) (by omega) (ret_b (by decide)) dX1_isBetterFor_41

set_option maxHeartbeats 4000000 in
set_option maxRecDepth 100000 in
theorem ct_leastGrowing {l : Launch} (hl : l.stackTraces = false) {T : CT3} {D : va_G} {N : AH} {P : PS} (sz : Nat) (hw : Wf P) {q r : Nat} {R : Nat → Prop} (hq : pD P q = true) (hr : pD P r = true) (h0 : 0 < pS P q) (hs : pS P q ≤ pW P q) (hs2 : pW P q < 1000) (hc : Kids P (pA P q) (pS P q) R) : Ct l T D yX1_leastGrowing cX1_leastGrowing 5 (some (.object "NestedFrames$Piece")) 3 68 0 0 [.ref q, .ref r] (ov T N P) sz (fun v M' z' => v = some (.ref (kd P q (bstP P q r (pS P q - 1)))) ∧ M' = ov T N P ∧ sz = z') := by
  refine Ct.ofX hl (by decide) (Nat.le_of_ble_eq_true rfl) ?_
  intro X hl0 hT0 hD0 hlt hX hF
  subst hl0; subst hT0; subst hD0
  have loop : ∀ k, k ≤ (pS P q - 1) → G X 5 (ov (cxT X) N P) sz 0 0 4 [(3, .int (nI (k + 1))), (0, .ref q), (1, .ref r), (2, .ref (kd P q (bstP P q r k)))] [] := by
    refine loop_up ?_
    intro k ih hk
    refine g_iload_n hX dX1_leastGrowing_4 0 rfl ?_
    refine g_aload_n hX dX1_leastGrowing_5 1 rfl ?_
    refine g_getN (ci := 0) hX rfl fin_X0 (ov_pc (P := P) hq) 3 (by decide) fn_X1_133 rfl dX1_leastGrowing_6 ?_
    refine g_icmp_ge hX 47 dX1_leastGrowing_9 (by decide) (fun c9 => ?_) (fun c9 => ?_)
    · skip
      have hks : k = pS P q - 1 := by have h9 := (nI_leI (a := pS P q) (b := k + 1) (by omega) (by omega)).mp c9; omega
      subst hks
      refine g_aload_n hX dX1_leastGrowing_47 3 rfl ?_
      exact hF (some (.ref (kd P q (bstP P q r (pS P q - 1))))) (ov (cxT X) N P) sz _ _ _ _ .areturn (⟨rfl, rfl, rfl⟩) (by omega) (by omega) (ret_a (r := some (kd P q (bstP P q r (pS P q - 1))))) dX1_leastGrowing_48
    · skip
      have hks : k + 1 < pS P q := by have h9 := mt (nI_leI (a := pS P q) (b := k + 1) (by omega) (by omega)).mpr c9; omega
      refine g_aload_n hX dX1_leastGrowing_12 1 rfl ?_
      refine g_iload_n hX dX1_leastGrowing_13 0 rfl ?_
      refine g_callVN [] hX (ct_at hX.st sz hw (P := P) (q := q) (p := (k + 1)) hq (by omega) hs hs2) cw_X0_at cv_X0_at ln_X1_148 (ci := 0) rfl rfl (ov_pc (P := P) hq) ⟨by omega, by omega⟩ ⟨by omega, by omega⟩ (Nat.le_of_ble_eq_true rfl) rfl dX1_leastGrowing_14 rfl (fun v14 M14 z14 hp14 hz14 hd14 => ?_)
      rw [if_pos (hks), (hc (k + 1) hks).1] at hp14
      obtain ⟨rfl, rfl, rfl⟩ := hp14
      show G X _ (ov (cxT X) N P) sz (0 + 0) (0 + 0) 17 [(3, .int (nI (k + 1))), (0, .ref q), (1, .ref r), (2, .ref (kd P q (bstP P q r k)))] [.ref (kd P q (k + 1))]
      refine g_astore (L' := [(4, .ref (kd P q (k + 1))), (3, .int (nI (k + 1))), (0, .ref q), (1, .ref r), (2, .ref (kd P q (bstP P q r k)))]) hX dX1_leastGrowing_17 (by decide) rfl ?_
      refine g_aload hX dX1_leastGrowing_19 0 rfl ?_
      refine g_ifnullR hX dX1_leastGrowing_21 ?_
      refine g_aload_n hX dX1_leastGrowing_24 4 rfl ?_
      refine g_ifnullR hX dX1_leastGrowing_25 ?_
      refine g_aload_n hX dX1_leastGrowing_28 3 rfl ?_
      refine g_aload hX dX1_leastGrowing_29 0 rfl ?_
      refine g_aload_n hX dX1_leastGrowing_31 4 rfl ?_
      refine g_callS [] hX (ct_isBetter hX.st sz hw hr (hc (k + 1) hks).2.1 (hc (bstP P q r k) (by have := bstP_le P q r k; omega)).2.1) cw_X1_isBetterFor stt_X1_isBetterFor lk_X1_151 ⟨by omega, by omega⟩ ⟨by omega, by omega⟩ (Nat.le_of_ble_eq_true rfl) rfl dX1_leastGrowing_32 rfl (fun v32 M32 z32 hp32 hz32 hd32 => ?_)
      obtain ⟨rfl, rfl, rfl⟩ := hp32
      show G X _ (ov (cxT X) N P) sz ((0 + 0) + 0) ((0 + 0) + 0) 35 [(4, .ref (kd P q (k + 1))), (3, .int (nI (k + 1))), (0, .ref q), (1, .ref r), (2, .ref (kd P q (bstP P q r k)))] [.int (bI (betB P r (kd P q (k + 1)) (kd P q (bstP P q r k))))]
      refine g_if_eq hX 41 dX1_leastGrowing_35 (by decide) (fun c35 => ?_) (fun c35 => ?_)
      · skip
        refine g_iinc (v := nI (k + 1 + 1)) (L' := [(3, .int (nI (k + 1 + 1))), (4, .ref (kd P q (k + 1))), (0, .ref q), (1, .ref r), (2, .ref (kd P q (bstP P q r k)))]) hX dX1_leastGrowing_41 1 rfl (nI_1 _) (by decide) rfl ?_
        refine g_goto hX 4 dX1_leastGrowing_44 (by decide) ?_
        have hbt : bstP P q r (k + 1) = bstP P q r k := by
          show (if betB P r (kd P q (k + 1)) (kd P q (bstP P q r k)) = true then k + 1 else bstP P q r k) = bstP P q r k
          cases hb : betB P r (kd P q (k + 1)) (kd P q (bstP P q r k)) with
          | false => rfl
          | true => rw [hb] at c35; exact absurd c35 (by decide)
        refine g_sub [0, 2, 3, 4] rfl ?_
        have h9 := ih (k + 1) (by omega) (by omega)
        rw [hbt] at h9
        exact h9
      · skip
        refine g_aload hX dX1_leastGrowing_38 0 rfl ?_
        refine g_astore_n (L' := [(2, .ref (kd P q (k + 1))), (4, .ref (kd P q (k + 1))), (3, .int (nI (k + 1))), (0, .ref q), (1, .ref r)]) hX dX1_leastGrowing_40 (by decide) rfl ?_
        refine g_iinc (v := nI (k + 1 + 1)) (L' := [(3, .int (nI (k + 1 + 1))), (2, .ref (kd P q (k + 1))), (4, .ref (kd P q (k + 1))), (0, .ref q), (1, .ref r)]) hX dX1_leastGrowing_41 2 rfl (nI_1 _) (by decide) rfl ?_
        refine g_goto hX 4 dX1_leastGrowing_44 (by decide) ?_
        have hbt : bstP P q r (k + 1) = k + 1 := by
          show (if betB P r (kd P q (k + 1)) (kd P q (bstP P q r k)) = true then k + 1 else bstP P q r k) = k + 1
          cases hb : betB P r (kd P q (k + 1)) (kd P q (bstP P q r k)) with
          | true => rfl
          | false => rw [hb] at c35; exact absurd rfl c35
        refine g_sub [0, 3, 4, 1] rfl ?_
        have h9 := ih (k + 1) (by omega) (by omega)
        rw [hbt] at h9
        exact h9
  show G X 5 (ov (cxT X) N P) sz 0 0 0 [(0, .ref q), (1, .ref r)] []
  refine g_null hX dX1_leastGrowing_0 ?_
  refine g_astore_nN (L' := [(2, .null), (0, .ref q), (1, .ref r)]) hX dX1_leastGrowing_1 (by decide) rfl ?_
  refine g_iconst (v := 0) hX dX1_leastGrowing_2 (by decide) ?_
  refine g_istore_n (L' := [(3, .int 0), (2, .null), (0, .ref q), (1, .ref r)]) hX dX1_leastGrowing_3 (by decide) rfl ?_
  refine g_iload_n hX dX1_leastGrowing_4 0 rfl ?_
  refine g_aload_n hX dX1_leastGrowing_5 2 rfl ?_
  refine g_getN (ci := 0) hX rfl fin_X0 (ov_pc (P := P) hq) 3 (by decide) fn_X1_133 rfl dX1_leastGrowing_6 ?_
  refine g_icmp_ge hX 47 dX1_leastGrowing_9 (by decide) (fun c9 => absurd c9 (nI_ge h0 (by omega))) (fun _ => ?_)
  refine g_aload_n hX dX1_leastGrowing_12 2 rfl ?_
  refine g_iload_n hX dX1_leastGrowing_13 0 rfl ?_
  refine g_callVN [] hX (ct_at hX.st sz hw (P := P) (q := q) (p := 0) hq (by omega) hs hs2) cw_X0_at cv_X0_at ln_X1_148 (ci := 0) rfl rfl (ov_pc (P := P) hq) ⟨by omega, by omega⟩ ⟨by omega, by omega⟩ (Nat.le_of_ble_eq_true rfl) rfl dX1_leastGrowing_14 rfl (fun v14 M14 z14 hp14 hz14 hd14 => ?_)
  rw [if_pos (h0), (hc 0 h0).1] at hp14
  obtain ⟨rfl, rfl, rfl⟩ := hp14
  show G X _ (ov (cxT X) N P) sz (0 + 0) (0 + 0) 17 [(3, .int 0), (2, .null), (0, .ref q), (1, .ref r)] [.ref (kd P q 0)]
  refine g_astore (L' := [(4, .ref (kd P q 0)), (3, .int 0), (2, .null), (0, .ref q), (1, .ref r)]) hX dX1_leastGrowing_17 (by decide) rfl ?_
  refine g_aload hX dX1_leastGrowing_19 0 rfl ?_
  refine g_ifnullR hX dX1_leastGrowing_21 ?_
  refine g_aload_nN hX dX1_leastGrowing_24 2 rfl ?_
  refine g_ifnullN hX 38 dX1_leastGrowing_25 (by decide) ?_
  refine g_aload hX dX1_leastGrowing_38 0 rfl ?_
  refine g_astore_n (L' := [(2, .ref (kd P q 0)), (4, .ref (kd P q 0)), (3, .int 0), (0, .ref q), (1, .ref r)]) hX dX1_leastGrowing_40 (by decide) rfl ?_
  refine g_iinc (v := 1) (L' := [(3, .int 1), (2, .ref (kd P q 0)), (4, .ref (kd P q 0)), (0, .ref q), (1, .ref r)]) hX dX1_leastGrowing_41 2 rfl rfl (by decide) rfl ?_
  refine g_goto hX 4 dX1_leastGrowing_44 (by decide) ?_
  refine g_sub [0, 3, 4, 1] rfl ?_
  exact loop 0 (Nat.zero_le _)

set_option maxHeartbeats 4000000 in
set_option maxRecDepth 100000 in
theorem ct_frameFor {l : Launch} (hl : l.stackTraces = false) {T : CT3} {D : va_G} {N : AH} {P : PS} {F : FS} (sz : Nat) (hwF : WfF P F) {r n : Nat} (hr : pD P r = true) (ht : TrP P n (fT F)) (hn : n < 40) : Ct l T D yX1_frameFor cX1_frameFor 5 (some (.object "NestedFrames$Piece")) 4 92 0 0 [.ref (fO F), .ref r] (ov T (ovF T N F) P) sz (fun v M' z' => v = some (.ref (ffP P r n (fT F))) ∧ M' = ov T (ovF T N F) P ∧ sz = z') := by
  refine Ct.ofX hl (by decide) (Nat.le_of_ble_eq_true rfl) ?_
  intro X hl0 hT0 hD0 hlt hX hF
  subst hl0; subst hT0; subst hD0
  have loop : ∀ k, k ≤ n → ∀ q, TrP P (n - k) q → ffP P r (n - k) q = ffP P r n (fT F) → G X 5 (ov (cxT X) (ovF (cxT X) N F) P) sz 0 0 7 [(3, .int (nI k)), (2, .ref q), (0, .ref (fO F)), (1, .ref r)] [] := by
    refine loop_up ?_
    intro k ih hk q hq he
    refine g_iload_n hX dX1_frameFor_7 0 rfl ?_
    refine g_bipush (v := 40) hX dX1_frameFor_8 (by decide) ?_
    refine g_icmp_ge hX 44 dX1_frameFor_10 (by decide) (fun c10 => absurd c10 (by show ¬ nI 40 ≤ nI k; exact nI_ge (by omega) (by decide))) (fun _ => ?_)
    refine g_aload_n hX dX1_frameFor_13 1 rfl ?_
    refine g_getN (ci := 0) hX rfl fin_X0 (ov_pc (P := P) hq.d) 1 (by decide) fn_X1_102 rfl dX1_frameFor_14 ?_
    refine g_iconst (v := 1) hX dX1_frameFor_17 (by decide) ?_
    refine g_icmp_le hX 44 dX1_frameFor_18 (by decide) (fun c18 => ?_) (fun c18 => ?_)
    · skip
      have hlv : pL P q = n - k + 1 := hq.l
      have hkn : n - k = 0 := by have h9 := (nI_leI (a := pL P q) (b := 1) (by omega) (by omega)).mp c18; omega
      rw [hkn] at he
      refine g_aload_n hX dX1_frameFor_44 1 rfl ?_
      exact hF (some (.ref q)) (ov (cxT X) (ovF (cxT X) N F) P) sz _ _ _ _ .areturn (⟨congrArg (fun x => some (Value.ref x)) he, rfl, rfl⟩) (by omega) (by omega) (ret_a (r := some q)) dX1_frameFor_45
    · skip
      have hlv : pL P q = n - k + 1 := hq.l
      have hkn : k < n := by have h9 := mt (nI_leI (a := pL P q) (b := 1) (by omega) (by omega)).mpr c18; omega
      obtain ⟨m, hm⟩ : ∃ m, n - k = m + 1 := ⟨n - k - 1, by omega⟩
      rw [hm] at hq he
      have hsz := hq.2.2.2.1
      have hww := hq.w
      refine g_aload_n hX dX1_frameFor_21 1 rfl ?_
      refine g_aload_n hX dX1_frameFor_22 3 rfl ?_
      refine g_callS [] hX (ct_leastGrowing hX.st sz hwF.1 hq.d hr hsz.2 (by omega) (by omega) hq.k) cw_X1_leastGrowing stt_X1_leastGrowing lk_X1_144 ⟨by omega, by omega⟩ ⟨by omega, by omega⟩ (Nat.le_of_ble_eq_true rfl) rfl dX1_frameFor_23 rfl (fun v23 M23 z23 hp23 hz23 hd23 => ?_)
      obtain ⟨rfl, rfl, rfl⟩ := hp23
      show G X _ (ov (cxT X) (ovF (cxT X) N F) P) sz (0 + 0) (0 + 0) 26 [(3, .int (nI k)), (2, .ref q), (0, .ref (fO F)), (1, .ref r)] [.ref (kd P q (bstP P q r (pS P q - 1)))]
      refine g_astore (L' := [(4, .ref (kd P q (bstP P q r (pS P q - 1)))), (3, .int (nI k)), (2, .ref q), (0, .ref (fO F)), (1, .ref r)]) hX dX1_frameFor_26 (by decide) rfl ?_
      refine g_aload hX dX1_frameFor_28 0 rfl ?_
      refine g_ifnonnullR hX 35 dX1_frameFor_30 (by decide) ?_
      refine g_aload hX dX1_frameFor_35 0 rfl ?_
      refine g_astore_n (L' := [(2, .ref (kd P q (bstP P q r (pS P q - 1)))), (4, .ref (kd P q (bstP P q r (pS P q - 1)))), (3, .int (nI k)), (0, .ref (fO F)), (1, .ref r)]) hX dX1_frameFor_37 (by decide) rfl ?_
      refine g_iinc (v := nI (k + 1)) (L' := [(3, .int (nI (k + 1))), (2, .ref (kd P q (bstP P q r (pS P q - 1)))), (4, .ref (kd P q (bstP P q r (pS P q - 1)))), (0, .ref (fO F)), (1, .ref r)]) hX dX1_frameFor_38 2 rfl (nI_1 _) (by decide) rfl ?_
      refine g_goto hX 7 dX1_frameFor_41 (by decide) ?_
      refine g_sub [0, 1, 3, 4] rfl ?_
      have hbl := bstP_le P q r (pS P q - 1)
      have hkk : Kids P (pA P q) (pS P q) (fun c => TrP P m c) := hq.2.2.2.2
      exact ih (k + 1) (by omega) (by omega) _ (by rw [show n - (k + 1) = m by omega]; exact (hkk _ (by omega)).2.2) (by rw [show n - (k + 1) = m by omega]; exact he)
  show G X 5 (ov (cxT X) (ovF (cxT X) N F) P) sz 0 0 0 [(0, .ref (fO F)), (1, .ref r)] []
  refine g_aload_n hX dX1_frameFor_0 0 rfl ?_
  refine g_get (ci := 1) hX rfl fin_X1 (ovF_o hwF) 3 (by decide) fl_X1_18 rfl dX1_frameFor_1 ?_
  refine g_astore_n (L' := [(2, .ref (fT F)), (0, .ref (fO F)), (1, .ref r)]) hX dX1_frameFor_4 (by decide) rfl ?_
  refine g_iconst (v := 0) hX dX1_frameFor_5 (by decide) ?_
  refine g_istore_n (L' := [(3, .int 0), (2, .ref (fT F)), (0, .ref (fO F)), (1, .ref r)]) hX dX1_frameFor_6 (by decide) rfl ?_
  refine g_sub [0, 1, 2, 3] rfl ?_
  exact loop 0 (Nat.zero_le _) (fT F) (by rw [Nat.sub_zero]; exact ht) (by rw [Nat.sub_zero])
