set_option maxHeartbeats 4000000 in
set_option maxRecDepth 100000 in
theorem ct_overlaps {l : Launch} (hl : l.stackTraces = false) {T : CT3} {D : va_G} {N : AH} {P : PS} {F : FS} (sz : Nat) (hwF : WfF P F) (hal : Alok P F) (x1 y1 x2 y2 : Int32) (hr : isR x1 y1 x2 y2 = true) : Ct l T D yX1_overlaps cX1_overlaps 5 (some .int) 3 80 2 9 [.ref (fO F), .int x1, .int y1, .int x2, .int y2] (ov T (ovF T N F) P) sz (fun v M' z' => v = some (.int (sumI (htm (rcP P sz x1 y1 x2 y2) F sz) (fC F))) ∧ M' = ov T (ovF T N F) (rcP P sz x1 y1 x2 y2) ∧ sz + 1 + 1 = z') := by
  refine Ct.ofX hl (by decide) (Nat.le_of_ble_eq_true rfl) ?_
  intro X hl0 hT0 hD0 hlt hX hF
  subst hl0; subst hT0; subst hD0
  have hdl := dom_lt hwF.1 hlt
  have hoL := obj_lt hwF hlt
  show G X 5 (ov (cxT X) (ovF (cxT X) N F) P) sz 0 0 0 [(0, .ref (fO F)), (1, .int x1), (2, .int y1), (3, .int x2), (4, .int y2)] []
  refine g_iload_n hX dX1_overlaps_0 1 rfl ?_
  refine g_iload_n hX dX1_overlaps_1 2 rfl ?_
  refine g_iload_n hX dX1_overlaps_2 3 rfl ?_
  refine g_iload hX dX1_overlaps_3 4 rfl ?_
  refine g_callS [] hX (ct_isRectangle hX.st sz _ _ _ _) cw_X1_isRectangle stt_X1_isRectangle lk_X1_22 ⟨by omega, by omega⟩ ⟨by omega, by omega⟩ (Nat.le_of_ble_eq_true rfl) rfl dX1_overlaps_5 rfl (fun v5 M5 z5 hp5 hz5 hd5 => ?_)
  rw [show isR x1 y1 x2 y2 = true from hr] at hp5
  obtain ⟨rfl, rfl, rfl⟩ := hp5
  show G X _ (ov (cxT X) (ovF (cxT X) N F) P) sz (0 + 0) (0 + 0) 8 [(0, .ref (fO F)), (1, .int x1), (2, .int y1), (3, .int x2), (4, .int y2)] [.int 1]
  refine g_if_ne hX 21 dX1_overlaps_8 (by decide) (fun _ => ?_) (fun c8 => absurd c8 (by decide))
  refine g_aload_n hX dX1_overlaps_21 0 rfl ?_
  refine g_new (ci := 0) (fs := [.int 0, .int 0, .null, .int 0, .null, .int 0, .int 0, .int 0, .int 0]) hX rfl fld_X0 cl_X1_9 ins_NestedFrames_Piece ini_NestedFrames_Piece tyP9 (by omega) (by omega) dX1_overlaps_22 ?_
  show G X _ (va_up (ov (cxT X) (ovF (cxT X) N F) P) sz (some blkP)) (sz + 1) ((0 + 0) + 1) ((0 + 0) + 9) 25 [(0, .ref (fO F)), (1, .int x1), (2, .int y1), (3, .int x2), (4, .int y2)] [.ref sz, .ref (fO F)]
  refine g_dup hX dX1_overlaps_25 rfl ?_
  refine g_iconst (v := (-1)) hX dX1_overlaps_26 (by decide) ?_
  refine g_iload_n hX dX1_overlaps_27 1 rfl ?_
  refine g_iload_n hX dX1_overlaps_28 2 rfl ?_
  refine g_iload_n hX dX1_overlaps_29 3 rfl ?_
  refine g_iload hX dX1_overlaps_30 4 rfl ?_
  refine g_callIN [.ref sz, .ref (fO F)] hX (ct_Pinit hX.st (M := (va_up (ov (cxT X) (ovF (cxT X) N F) P) sz (some blkP))) (q := sz) (va_up_self _ _ _) (-1) x1 y1 x2 y2) cw_X0_init rfl im_X0_init ln_X1_42 ⟨by omega, by omega⟩ ⟨by omega, by omega⟩ (Nat.le_of_ble_eq_true rfl) rfl dX1_overlaps_32 rfl (fun v32 M32 z32 hp32 hz32 hd32 => ?_)
  obtain ⟨rfl, rfl, rfl⟩ := hp32
  refine g_eqM (ov_nw (-1) 0 (bx4 x1 y1 x2 y2) 0 hdl rfl) ?_
  have hw1 : WfF (rcP P sz x1 y1 x2 y2) F := hwF.nw hdl hoL (-1) 0 (bx4 x1 y1 x2 y2) 0
  have hal1 : Alok (rcP P sz x1 y1 x2 y2) F := hal.nw sz (-1) 0 (bx4 x1 y1 x2 y2) 0
  have hr1 : pD (rcP P sz x1 y1 x2 y2) sz = true := nwq _ _ _
  show G X _ (ov (cxT X) (ovF (cxT X) N F) (rcP P sz x1 y1 x2 y2)) (sz + 1 + 1) (((0 + 0) + 1) + 1) (((0 + 0) + 9) + 0) 35 [(0, .ref (fO F)), (1, .int x1), (2, .int y1), (3, .int x2), (4, .int y2)] [.ref sz, .ref (fO F)]
  refine g_callV [] hX (ct_htm hX.st (sz + 1 + 1) (P := rcP P sz x1 y1 x2 y2) hw1 hal1 (r := sz) hr1) cw_X1_heldThatMeet cv_X1_heldThatMeet lk_X1_108 (ci := 1) rfl rfl (ovF_o hw1) ⟨by omega, by omega⟩ ⟨by omega, by omega⟩ (Nat.le_of_ble_eq_true rfl) rfl dX1_overlaps_35 rfl (fun v35 M35 z35 hp35 hz35 hd35 => ?_)
  obtain ⟨rfl, rfl, rfl⟩ := hp35
  show G X _ (ov (cxT X) (ovF (cxT X) N F) (rcP P sz x1 y1 x2 y2)) (sz + 1 + 1) ((((0 + 0) + 1) + 1) + 0) ((((0 + 0) + 9) + 0) + 0) 38 [(0, .ref (fO F)), (1, .int x1), (2, .int y1), (3, .int x2), (4, .int y2)] [.int (sumI (htm (rcP P sz x1 y1 x2 y2) F sz) (fC F))]
  exact hF (some (.int (sumI (htm (rcP P sz x1 y1 x2 y2) F sz) (fC F)))) (ov (cxT X) (ovF (cxT X) N F) (rcP P sz x1 y1 x2 y2)) (sz + 1 + 1) _ _ _ _ .ireturn (⟨rfl, rfl, rfl⟩) (by omega) (by omega) ret_i dX1_overlaps_38

set_option maxHeartbeats 4000000 in
set_option maxRecDepth 100000 in
theorem ct_looks {l : Launch} (hl : l.stackTraces = false) {T : CT3} {D : va_G} {N : AH} {P : PS} {F : FS} (sz : Nat) (hwF : WfF P F) {n : Nat} (hal : Alok P F) (x1 y1 x2 y2 : Int32) (hr : isR x1 y1 x2 y2 = true) (ht : TrP (rcP P sz x1 y1 x2 y2) n (fT F)) (hn : n < 40) : Ct l T D yX1_looks cX1_looks 5 (some .int) (n + 5) (120 + 60 * n) 2 9 [.ref (fO F), .int x1, .int y1, .int x2, .int y2] (ov T (ovF T N F) P) sz (fun v M' z' => v = some (.int (lkP (rcP P sz x1 y1 x2 y2) sz n (fT F))) ∧ M' = ov T (ovF T N F) (rcP P sz x1 y1 x2 y2) ∧ sz + 1 + 1 = z') := by
  refine Ct.ofX hl (by decide) (Nat.le_of_ble_eq_true rfl) ?_
  intro X hl0 hT0 hD0 hlt hX hF
  subst hl0; subst hT0; subst hD0
  have hdl := dom_lt hwF.1 hlt
  have hoL := obj_lt hwF hlt
  show G X 5 (ov (cxT X) (ovF (cxT X) N F) P) sz 0 0 0 [(0, .ref (fO F)), (1, .int x1), (2, .int y1), (3, .int x2), (4, .int y2)] []
  refine g_iload_n hX dX1_looks_0 1 rfl ?_
  refine g_iload_n hX dX1_looks_1 2 rfl ?_
  refine g_iload_n hX dX1_looks_2 3 rfl ?_
  refine g_iload hX dX1_looks_3 4 rfl ?_
  refine g_callS [] hX (ct_isRectangle hX.st sz _ _ _ _) cw_X1_isRectangle stt_X1_isRectangle lk_X1_22 ⟨by omega, by omega⟩ ⟨by omega, by omega⟩ (Nat.le_of_ble_eq_true rfl) rfl dX1_looks_5 rfl (fun v5 M5 z5 hp5 hz5 hd5 => ?_)
  rw [show isR x1 y1 x2 y2 = true from hr] at hp5
  obtain ⟨rfl, rfl, rfl⟩ := hp5
  show G X _ (ov (cxT X) (ovF (cxT X) N F) P) sz (0 + 0) (0 + 0) 8 [(0, .ref (fO F)), (1, .int x1), (2, .int y1), (3, .int x2), (4, .int y2)] [.int 1]
  refine g_if_ne hX 21 dX1_looks_8 (by decide) (fun _ => ?_) (fun c8 => absurd c8 (by decide))
  refine g_aload_n hX dX1_looks_21 0 rfl ?_
  refine g_get (ci := 1) hX rfl fin_X1 (ovF_o hwF) 3 (by decide) fl_X1_18 rfl dX1_looks_22 ?_
  refine g_new (ci := 0) (fs := [.int 0, .int 0, .null, .int 0, .null, .int 0, .int 0, .int 0, .int 0]) hX rfl fld_X0 cl_X1_9 ins_NestedFrames_Piece ini_NestedFrames_Piece tyP9 (by omega) (by omega) dX1_looks_25 ?_
  show G X _ (va_up (ov (cxT X) (ovF (cxT X) N F) P) sz (some blkP)) (sz + 1) ((0 + 0) + 1) ((0 + 0) + 9) 28 [(0, .ref (fO F)), (1, .int x1), (2, .int y1), (3, .int x2), (4, .int y2)] [.ref sz, .ref (fT F)]
  refine g_dup hX dX1_looks_28 rfl ?_
  refine g_iconst (v := (-1)) hX dX1_looks_29 (by decide) ?_
  refine g_iload_n hX dX1_looks_30 1 rfl ?_
  refine g_iload_n hX dX1_looks_31 2 rfl ?_
  refine g_iload_n hX dX1_looks_32 3 rfl ?_
  refine g_iload hX dX1_looks_33 4 rfl ?_
  refine g_callIN [.ref sz, .ref (fT F)] hX (ct_Pinit hX.st (M := (va_up (ov (cxT X) (ovF (cxT X) N F) P) sz (some blkP))) (q := sz) (va_up_self _ _ _) (-1) x1 y1 x2 y2) cw_X0_init rfl im_X0_init ln_X1_42 ⟨by omega, by omega⟩ ⟨by omega, by omega⟩ (Nat.le_of_ble_eq_true rfl) rfl dX1_looks_35 rfl (fun v35 M35 z35 hp35 hz35 hd35 => ?_)
  obtain ⟨rfl, rfl, rfl⟩ := hp35
  refine g_eqM (ov_nw (-1) 0 (bx4 x1 y1 x2 y2) 0 hdl rfl) ?_
  have hw1 : WfF (rcP P sz x1 y1 x2 y2) F := hwF.nw hdl hoL (-1) 0 (bx4 x1 y1 x2 y2) 0
  have hal1 : Alok (rcP P sz x1 y1 x2 y2) F := hal.nw sz (-1) 0 (bx4 x1 y1 x2 y2) 0
  have hr1 : pD (rcP P sz x1 y1 x2 y2) sz = true := nwq _ _ _
  show G X _ (ov (cxT X) (ovF (cxT X) N F) (rcP P sz x1 y1 x2 y2)) (sz + 1 + 1) (((0 + 0) + 1) + 1) (((0 + 0) + 9) + 0) 38 [(0, .ref (fO F)), (1, .int x1), (2, .int y1), (3, .int x2), (4, .int y2)] [.ref sz, .ref (fT F)]
  refine g_iconst (v := 0) hX dX1_looks_38 (by decide) ?_
  refine g_callS [] hX (ct_framesLookedAt hX.st (sz + 1 + 1) (P := rcP P sz x1 y1 x2 y2) hw1.1 (r := sz) hr1 n (fT F) 0 ht (by omega)) cw_X1_framesLookedAt stt_X1_framesLookedAt lk_X1_111 ⟨by omega, by omega⟩ ⟨by omega, by omega⟩ (Nat.le_of_ble_eq_true rfl) rfl dX1_looks_39 rfl (fun v39 M39 z39 hp39 hz39 hd39 => ?_)
  obtain ⟨rfl, rfl, rfl⟩ := hp39
  show G X _ (ov (cxT X) (ovF (cxT X) N F) (rcP P sz x1 y1 x2 y2)) (sz + 1 + 1) ((((0 + 0) + 1) + 1) + 0) ((((0 + 0) + 9) + 0) + 0) 42 [(0, .ref (fO F)), (1, .int x1), (2, .int y1), (3, .int x2), (4, .int y2)] [.int (lkP (rcP P sz x1 y1 x2 y2) sz n (fT F))]
  exact hF (some (.int (lkP (rcP P sz x1 y1 x2 y2) sz n (fT F)))) (ov (cxT X) (ovF (cxT X) N F) (rcP P sz x1 y1 x2 y2)) (sz + 1 + 1) _ _ _ _ .ireturn (⟨rfl, rfl, rfl⟩) (by omega) (by omega) ret_i dX1_looks_42
