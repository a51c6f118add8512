set_option maxHeartbeats 4000000 in
set_option maxRecDepth 100000 in
theorem ct_overlaps {l : Launch} (hl : l.stackTraces = false) {T : CT3} {D : va_G} {N : AH} {P : PS} {F : FS} (sz : Nat) (hwF : WfF P F) (hal : Alok P F) (x1 y1 x2 y2 : Int32) (hr : isR x1 y1 x2 y2 = true) : Ct l T D yX1_overlaps cX1_overlaps 5 (some .int) 3 80 2 9 [.ref (fO F), .int x1, .int y1, .int x2, .int y2] (ov T (ovF T N F) P) sz (fun v M' z' => v = some (.int (sumI (htm (rcP P sz x1 y1 x2 y2) F sz) (fC F))) ∧ M' = ov T (ovF T N F) (rcP P sz x1 y1 x2 y2) ∧ sz + 1 + 1 = z') := by
  refine Ct.ofX hl (by decide) (Nat.le_of_ble_eq_true rfl) ?_
  intro X hl0 hT0 hD0 hlt hX hF
  subst hl0; subst hT0; subst hD0
  have hdl := dom_lt hwF.1 hlt
  have hoL := obj_lt hwF hlt
  show G X 5 (ov (cxT X) (ovF (cxT X) N F) P) sz 0 0 0 [(0, .ref (fO F)), (1, .int x1), (2, .int y1), (3, .int x2), (4, .int y2)] []
  refine g_iload_n hX dX1_overlaps_0 1 rfl ?_
  refine g_iload_n hX dX1_overlaps_1 2 rfl ?_
  refine g_iload_n hX dX1_overlaps_2 3 rfl ?_
  refine g_iload hX dX1_overlaps_3 4 rfl ?_
  refine g_callS [] hX (ct_isRectangle hX.st sz _ _ _ _) cw_X1_isRectangle stt_X1_isRectangle lk_X1_22 ⟨by omega, by omega⟩ ⟨by omega, by omega⟩ (Nat.le_of_ble_eq_true rfl) rfl dX1_overlaps_5 rfl (fun v5 M5 z5 hp5 hz5 hd5 => ?_)
  rw [show isR x1 y1 x2 y2 = true from hr] at hp5
  obtain ⟨rfl, rfl, rfl⟩ := hp5
  show G X _ (ov (cxT X) (ovF (cxT X) N F) P) sz (0 + 0) (0 + 0) 8 [(0, .ref (fO F)), (1, .int x1), (2, .int y1), (3, .int x2), (4, .int y2)] [.int 1]
  refine g_if_ne hX 21 dX1_overlaps_8 (by decide) (fun _ => ?_) (fun c8 => absurd c8 (by decide))
  refine g_aload_n hX dX1_overlaps_21 0 rfl ?_
  refine g_new (ci := 0) (fs := [.int 0, .int 0, .null, .int 0, .null, .int 0, .int 0, .int 0, .int 0]) hX rfl fld_X0 cl_X1_9 ins_NestedFrames_Piece ini_NestedFrames_Piece tyP9 (by omega) (by omega) dX1_overlaps_22 ?_
  show G X _ (va_up (ov (cxT X) (ovF (cxT X) N F) P) sz (some blkP)) (sz + 1) ((0 + 0) + 1) ((0 + 0) + 9) 25 [(0, .ref (fO F)), (1, .int x1), (2, .int y1), (3, .int x2), (4, .int y2)] [.ref sz, .ref (fO F)]
  refine g_dup hX dX1_overlaps_25 rfl ?_
  refine g_iconst (v := (-1)) hX dX1_overlaps_26 (by decide) ?_
  refine g_iload_n hX dX1_overlaps_27 1 rfl ?_
  refine g_iload_n hX dX1_overlaps_28 2 rfl ?_
  refine g_iload_n hX dX1_overlaps_29 3 rfl ?_
  refine g_iload hX dX1_overlaps_30 4 rfl ?_
  refine g_callIN [.ref sz, .ref (fO F)] hX (ct_Pinit hX.st (M := (va_up (ov (cxT X) (ovF (cxT X) N F) P) sz (some blkP))) (q := sz) (va_up_self _ _ _) (-1) x1 y1 x2 y2) cw_X0_init rfl im_X0_init ln_X1_42 ⟨by omega, by omega⟩ ⟨by omega, by omega⟩ (Nat.le_of_ble_eq_true rfl) rfl dX1_overlaps_32 rfl (fun v32 M32 z32 hp32 hz32 hd32 => ?_)
  obtain ⟨rfl, rfl, rfl⟩ := hp32
  refine g_eqM (ov_nw (-1) 0 (bx4 x1 y1 x2 y2) 0 hdl rfl) ?_
  have hw1 : WfF (rcP P sz x1 y1 x2 y2) F := hwF.nw hdl hoL (-1) 0 (bx4 x1 y1 x2 y2) 0
  have hal1 : Alok (rcP P sz x1 y1 x2 y2) F := hal.nw sz (-1) 0 (bx4 x1 y1 x2 y2) 0
  have hr1 : pD (rcP P sz x1 y1 x2 y2) sz = true := nwq _ _ _
  show G X _ (ov (cxT X) (ovF (cxT X) N F) (rcP P sz x1 y1 x2 y2)) (sz + 1 + 1) (((0 + 0) + 1) + 1) (((0 + 0) + 9) + 0) 35 [(0, .ref (fO F)), (1, .int x1), (2, .int y1), (3, .int x2), (4, .int y2)] [.ref sz, .ref (fO F)]
  refine g_callV [] hX (ct_htm hX.st (sz + 1 + 1) (P := rcP P sz x1 y1 x2 y2) hw1 hal1 (r := sz) hr1) cw_X1_heldThatMeet cv_X1_heldThatMeet lk_X1_108 (ci := 1) rfl rfl (ovF_o hw1) ⟨by omega, by omega⟩ ⟨by omega, by omega⟩ (Nat.le_of_ble_eq_true rfl) rfl dX1_overlaps_35 rfl (fun v35 M35 z35 hp35 hz35 hd35 => ?_)
  obtain ⟨rfl, rfl, rfl⟩ := hp35
  show G X _ (ov (cxT X) (ovF (cxT X) N F) (rcP P sz x1 y1 x2 y2)) (sz + 1 + 1) ((((0 + 0) + 1) + 1) + 0) ((((0 + 0) + 9) + 0) + 0) 38 [(0, .ref (fO F)), (1, .int x1), (2, .int y1), (3, .int x2), (4, .int y2)] [.int (sumI (htm (rcP P sz x1 y1 x2 y2) F sz) (fC F))]
  exact hF (some (.int (sumI (htm (rcP P sz x1 y1 x2 y2) F sz) (fC F)))) (ov (cxT X) (ovF (cxT X) N F) (rcP P sz x1 y1 x2 y2)) (sz + 1 + 1) _ _ _ _ .ireturn (⟨rfl, rfl, rfl⟩) (by omega) (by omega) ret_i dX1_overlaps_38

set_option maxHeartbeats 4000000 in
set_option maxRecDepth 100000 in
theorem ct_looks {l : Launch} (hl : l.stackTraces = false) {T : CT3} {D : va_G} {N : AH} {P : PS} {F : FS} (sz : Nat) (hwF : WfF P F) {n : Nat} (hal : Alok P F) (x1 y1 x2 y2 : Int32) (hr : isR x1 y1 x2 y2 = true) (ht : TrP (rcP P sz x1 y1 x2 y2) n (fT F)) (hn : n < 40) : Ct l T D yX1_looks cX1_looks 5 (some .int) (n + 5) (120 + 60 * n) 2 9 [.ref (fO F), .int x1, .int y1, .int x2, .int y2] (ov T (ovF T N F) P) sz (fun v M' z' => v = some (.int (lkP (rcP P sz x1 y1 x2 y2) sz n (fT F))) ∧ M' = ov T (ovF T N F) (rcP P sz x1 y1 x2 y2) ∧ sz + 1 + 1 = z') := by
  refine Ct.ofX hl (by decide) (Nat.le_of_ble_eq_true rfl) ?_
  intro X hl0 hT0 hD0 hlt hX hF
  subst hl0; subst hT0; subst hD0
  have hdl := dom_lt hwF.1 hlt
  have hoL := obj_lt hwF hlt
  show G X 5 (ov (cxT X) (ovF (cxT X) N F) P) sz 0 0 0 [(0, .ref (fO F)), (1, .int x1), (2, .int y1), (3, .int x2), (4, .int y2)] []
  refine g_iload_n hX dX1_looks_0 1 rfl ?_
  refine g_iload_n hX dX1_looks_1 2 rfl ?_
  refine g_iload_n hX dX1_looks_2 3 rfl ?_
  refine g_iload hX dX1_looks_3 4 rfl ?_
  refine g_callS [] hX (ct_isRectangle hX.st sz _ _ _ _) cw_X1_isRectangle stt_X1_isRectangle lk_X1_22 ⟨by omega, by omega⟩ ⟨by omega, by omega⟩ (Nat.le_of_ble_eq_true rfl) rfl dX1_looks_5 rfl (fun v5 M5 z5 hp5 hz5 hd5 => ?_)
  rw [show isR x1 y1 x2 y2 = true from hr] at hp5
  obtain ⟨rfl, rfl, rfl⟩ := hp5
  show G X _ (ov (cxT X) (ovF (cxT X) N F) P) sz (0 + 0) (0 + 0) 8 [(0, .ref (fO F)), (1, .int x1), (2, .int y1), (3, .int x2), (4, .int y2)] [.int 1]
  refine g_if_ne hX 21 dX1_looks_8 (by decide) (fun _ => ?_) (fun c8 => absurd c8 (by decide))
  refine g_aload_n hX dX1_looks_21 0 rfl ?_
  refine g_get (ci := 1) hX rfl fin_X1 (ovF_o hwF) 3 (by decide) fl_X1_18 rfl dX1_looks_22 ?_
  refine g_new (ci := 0) (fs := [.int 0, .int 0, .null, .int 0, .null, .int 0, .int 0, .int 0, .int 0]) hX rfl fld_X0 cl_X1_9 ins_NestedFrames_Piece ini_NestedFrames_Piece tyP9 (by omega) (by omega) dX1_looks_25 ?_
  show G X _ (va_up (ov (cxT X) (ovF (cxT X) N F) P) sz (some blkP)) (sz + 1) ((0 + 0) + 1) ((0 + 0) + 9) 28 [(0, .ref (fO F)), (1, .int x1), (2, .int y1), (3, .int x2), (4, .int y2)] [.ref sz, .ref (fT F)]
  refine g_dup hX dX1_looks_28 rfl ?_
  refine g_iconst (v := (-1)) hX dX1_looks_29 (by decide) ?_
  refine g_iload_n hX dX1_looks_30 1 rfl ?_
  refine g_iload_n hX dX1_looks_31 2 rfl ?_
  refine g_iload_n hX dX1_looks_32 3 rfl ?_
  refine g_iload hX dX1_looks_33 4 rfl ?_
  refine g_callIN [.ref sz, .ref (fT F)] hX (ct_Pinit hX.st (M := (va_up (ov (cxT X) (ovF (cxT X) N F) P) sz (some blkP))) (q := sz) (va_up_self _ _ _) (-1) x1 y1 x2 y2) cw_X0_init rfl im_X0_init ln_X1_42 ⟨by omega, by omega⟩ ⟨by omega, by omega⟩ (Nat.le_of_ble_eq_true rfl) rfl dX1_looks_35 rfl (fun v35 M35 z35 hp35 hz35 hd35 => ?_)
  obtain ⟨rfl, rfl, rfl⟩ := hp35
  refine g_eqM (ov_nw (-1) 0 (bx4 x1 y1 x2 y2) 0 hdl rfl) ?_
  have hw1 : WfF (rcP P sz x1 y1 x2 y2) F := hwF.nw hdl hoL (-1) 0 (bx4 x1 y1 x2 y2) 0
  have hal1 : Alok (rcP P sz x1 y1 x2 y2) F := hal.nw sz (-1) 0 (bx4 x1 y1 x2 y2) 0
  have hr1 : pD (rcP P sz x1 y1 x2 y2) sz = true := nwq _ _ _
  show G X _ (ov (cxT X) (ovF (cxT X) N F) (rcP P sz x1 y1 x2 y2)) (sz + 1 + 1) (((0 + 0) + 1) + 1) (((0 + 0) + 9) + 0) 38 [(0, .ref (fO F)), (1, .int x1), (2, .int y1), (3, .int x2), (4, .int y2)] [.ref sz, .ref (fT F)]
  refine g_iconst (v := 0) hX dX1_looks_38 (by decide) ?_
  refine g_callS [] hX (ct_framesLookedAt hX.st (sz + 1 + 1) (P := rcP P sz x1 y1 x2 y2) hw1.1 (r := sz) hr1 n (fT F) 0 ht (by omega)) cw_X1_framesLookedAt stt_X1_framesLookedAt lk_X1_111 ⟨by omega, by omega⟩ ⟨by omega, by omega⟩ (Nat.le_of_ble_eq_true rfl) rfl dX1_looks_39 rfl (fun v39 M39 z39 hp39 hz39 hd39 => ?_)
  obtain ⟨rfl, rfl, rfl⟩ := hp39
  show G X _ (ov (cxT X) (ovF (cxT X) N F) (rcP P sz x1 y1 x2 y2)) (sz + 1 + 1) ((((0 + 0) + 1) + 1) + 0) ((((0 + 0) + 9) + 0) + 0) 42 [(0, .ref (fO F)), (1, .int x1), (2, .int y1), (3, .int x2), (4, .int y2)] [.int (lkP (rcP P sz x1 y1 x2 y2) sz n (fT F))]
  exact hF (some (.int (lkP (rcP P sz x1 y1 x2 y2) sz n (fT F)))) (ov (cxT X) (ovF (cxT X) N F) (rcP P sz x1 y1 x2 y2)) (sz + 1 + 1) _ _ _ _ .ireturn (⟨rfl, rfl, rfl⟩) (by omega) (by omega) ret_i dX1_looks_42

set_option maxHeartbeats 4000000 in
set_option maxRecDepth 100000 in
theorem ct_grows {l : Launch} (hl : l.stackTraces = false) {T : CT3} {D : va_G} {N : AH} {P : PS} {F : FS} (sz : Nat) (hwF : WfF P F) {n k : Nat} (hal : Alok P F) (x1 y1 x2 y2 : Int32) (hr : isR x1 y1 x2 y2 = true) (ht : TrP (rcP P sz x1 y1 x2 y2) n (fT F)) (hn : n < 40) (hup : UpI (fun f => pD (rcP P sz x1 y1 x2 y2) f = true) (pH (rcP P sz x1 y1 x2 y2)) k (some (ffP (rcP P sz x1 y1 x2 y2) sz n (fT F)))) : Ct l T D yX1_grows cX1_grows 8 (some .int) 5 120 2 9 [.ref (fO F), .int x1, .int y1, .int x2, .int y2] (ov T (ovF T N F) P) sz (fun v M' z' => v = some (.int (upG (fun f => grB (rcP P sz x1 y1 x2 y2) f sz) (pH (rcP P sz x1 y1 x2 y2)) k 0 (some (ffP (rcP P sz x1 y1 x2 y2) sz n (fT F))))) ∧ M' = ov T (ovF T N F) (rcP P sz x1 y1 x2 y2) ∧ sz + 1 + 1 = z') := by
  refine Ct.ofX hl (by decide) (Nat.le_of_ble_eq_true rfl) ?_
  intro X hl0 hT0 hD0 hlt hX hF
  subst hl0; subst hT0; subst hD0
  have hdl := dom_lt hwF.1 hlt
  have hoL := obj_lt hwF hlt
  show G X 8 (ov (cxT X) (ovF (cxT X) N F) P) sz 0 0 0 [(0, .ref (fO F)), (1, .int x1), (2, .int y1), (3, .int x2), (4, .int y2)] []
  refine g_iload_n hX dX1_grows_0 1 rfl ?_
  refine g_iload_n hX dX1_grows_1 2 rfl ?_
  refine g_iload_n hX dX1_grows_2 3 rfl ?_
  refine g_iload hX dX1_grows_3 4 rfl ?_
  refine g_callS [] hX (ct_isRectangle hX.st sz _ _ _ _) cw_X1_isRectangle stt_X1_isRectangle lk_X1_22 ⟨by omega, by omega⟩ ⟨by omega, by omega⟩ (Nat.le_of_ble_eq_true rfl) rfl dX1_grows_5 rfl (fun v5 M5 z5 hp5 hz5 hd5 => ?_)
  rw [show isR x1 y1 x2 y2 = true from hr] at hp5
  obtain ⟨rfl, rfl, rfl⟩ := hp5
  show G X _ (ov (cxT X) (ovF (cxT X) N F) P) sz (0 + 0) (0 + 0) 8 [(0, .ref (fO F)), (1, .int x1), (2, .int y1), (3, .int x2), (4, .int y2)] [.int 1]
  refine g_if_ne hX 21 dX1_grows_8 (by decide) (fun _ => ?_) (fun c8 => absurd c8 (by decide))
  refine g_new (ci := 0) (fs := [.int 0, .int 0, .null, .int 0, .null, .int 0, .int 0, .int 0, .int 0]) hX rfl fld_X0 cl_X1_9 ins_NestedFrames_Piece ini_NestedFrames_Piece tyP9 (by omega) (by omega) dX1_grows_21 ?_
  show G X _ (va_up (ov (cxT X) (ovF (cxT X) N F) P) sz (some blkP)) (sz + 1) ((0 + 0) + 1) ((0 + 0) + 9) 24 [(0, .ref (fO F)), (1, .int x1), (2, .int y1), (3, .int x2), (4, .int y2)] [.ref sz]
  refine g_dup hX dX1_grows_24 rfl ?_
  refine g_iconst (v := (-1)) hX dX1_grows_25 (by decide) ?_
  refine g_iload_n hX dX1_grows_26 1 rfl ?_
  refine g_iload_n hX dX1_grows_27 2 rfl ?_
  refine g_iload_n hX dX1_grows_28 3 rfl ?_
  refine g_iload hX dX1_grows_29 4 rfl ?_
  refine g_callIN [.ref sz] hX (ct_Pinit hX.st (M := (va_up (ov (cxT X) (ovF (cxT X) N F) P) sz (some blkP))) (q := sz) (va_up_self _ _ _) (-1) x1 y1 x2 y2) cw_X0_init rfl im_X0_init ln_X1_42 ⟨by omega, by omega⟩ ⟨by omega, by omega⟩ (Nat.le_of_ble_eq_true rfl) rfl dX1_grows_31 rfl (fun v31 M31 z31 hp31 hz31 hd31 => ?_)
  obtain ⟨rfl, rfl, rfl⟩ := hp31
  refine g_eqM (ov_nw (-1) 0 (bx4 x1 y1 x2 y2) 0 hdl rfl) ?_
  have hw1 : WfF (rcP P sz x1 y1 x2 y2) F := hwF.nw hdl hoL (-1) 0 (bx4 x1 y1 x2 y2) 0
  have hal1 : Alok (rcP P sz x1 y1 x2 y2) F := hal.nw sz (-1) 0 (bx4 x1 y1 x2 y2) 0
  have hr1 : pD (rcP P sz x1 y1 x2 y2) sz = true := nwq _ _ _
  show G X _ (ov (cxT X) (ovF (cxT X) N F) (rcP P sz x1 y1 x2 y2)) (sz + 1 + 1) (((0 + 0) + 1) + 1) (((0 + 0) + 9) + 0) 34 [(0, .ref (fO F)), (1, .int x1), (2, .int y1), (3, .int x2), (4, .int y2)] [.ref sz]
  refine g_astore (L' := [(5, .ref sz), (0, .ref (fO F)), (1, .int x1), (2, .int y1), (3, .int x2), (4, .int y2)]) hX dX1_grows_34 (by decide) rfl ?_
  refine g_iconst (v := 0) hX dX1_grows_36 (by decide) ?_
  refine g_istore (L' := [(6, .int 0), (5, .ref sz), (0, .ref (fO F)), (1, .int x1), (2, .int y1), (3, .int x2), (4, .int y2)]) hX dX1_grows_37 (by decide) rfl ?_
  refine g_aload_n hX dX1_grows_39 2 rfl ?_
  refine g_aload hX dX1_grows_40 1 rfl ?_
  refine g_callV [] hX (ct_frameFor hX.st (sz + 1 + 1) (P := rcP P sz x1 y1 x2 y2) (r := sz) hw1 hr1 ht hn) cw_X1_frameFor cv_X1_frameFor lk_X1_45 (ci := 1) rfl rfl (ovF_o hw1) ⟨by omega, by omega⟩ ⟨by omega, by omega⟩ (Nat.le_of_ble_eq_true rfl) rfl dX1_grows_42 rfl (fun v42 M42 z42 hp42 hz42 hd42 => ?_)
  obtain ⟨rfl, rfl, rfl⟩ := hp42
  show G X _ (ov (cxT X) (ovF (cxT X) N F) (rcP P sz x1 y1 x2 y2)) (sz + 1 + 1) ((((0 + 0) + 1) + 1) + 0) ((((0 + 0) + 9) + 0) + 0) 45 [(6, .int 0), (5, .ref sz), (0, .ref (fO F)), (1, .int x1), (2, .int y1), (3, .int x2), (4, .int y2)] [.ref (ffP (rcP P sz x1 y1 x2 y2) sz n (fT F))]
  refine g_astore (L' := [(7, .ref (ffP (rcP P sz x1 y1 x2 y2) sz n (fT F))), (6, .int 0), (5, .ref sz), (0, .ref (fO F)), (1, .int x1), (2, .int y1), (3, .int x2), (4, .int y2)]) hX dX1_grows_45 (by decide) rfl ?_
  obtain ⟨P1, hP1⟩ : ∃ P1, P1 = (rcP P sz x1 y1 x2 y2) := ⟨_, rfl⟩
  rw [← hP1] at hw1 hr1 hup hF ⊢
  have chain : ∀ m z r, UpI (fun f => pD P1 f = true) (pH P1) m r → G X 8 (ov (cxT X) (ovF (cxT X) N F) P1) (sz + 1 + 1) ((((0 + 0) + 1) + 1) + 0) ((((0 + 0) + 9) + 0) + 0) 74 [(6, .int (upG (fun f => grB P1 f sz) (pH P1) m z r))] [] → G X 8 (ov (cxT X) (ovF (cxT X) N F) P1) (sz + 1 + 1) ((((0 + 0) + 1) + 1) + 0) ((((0 + 0) + 9) + 0) + 0) 47 [(7, va_rf r), (6, .int z), (5, .ref sz)] [] := by
    intro m
    induction m with
    | zero =>
      intro z r hi hG
      obtain rfl : r = none := hi
      show G X _ (ov (cxT X) (ovF (cxT X) N F) P1) (sz + 1 + 1) ((((0 + 0) + 1) + 1) + 0) ((((0 + 0) + 9) + 0) + 0) 47 [(7, .null), (6, .int z), (5, .ref sz)] []
      refine g_aloadN hX dX1_grows_47 0 rfl ?_
      refine g_ifnullN hX 74 dX1_grows_49 (by decide) ?_
      refine g_sub [1] rfl ?_
      exact hG
    | succ m ihm =>
      intro z r hi hG
      rcases r with _ | f
      · skip
        show G X _ (ov (cxT X) (ovF (cxT X) N F) P1) (sz + 1 + 1) ((((0 + 0) + 1) + 1) + 0) ((((0 + 0) + 9) + 0) + 0) 47 [(7, .null), (6, .int z), (5, .ref sz)] []
        refine g_aloadN hX dX1_grows_47 0 rfl ?_
        refine g_ifnullN hX 74 dX1_grows_49 (by decide) ?_
        refine g_sub [1] rfl ?_
        rw [upG_n] at hG
        exact hG
      · obtain ⟨hq, hi2⟩ := hi f rfl
        show G X _ (ov (cxT X) (ovF (cxT X) N F) P1) (sz + 1 + 1) ((((0 + 0) + 1) + 1) + 0) ((((0 + 0) + 9) + 0) + 0) 47 [(7, .ref f), (6, .int z), (5, .ref sz)] []
        refine g_aload hX dX1_grows_47 0 rfl ?_
        refine g_ifnullR hX dX1_grows_49 ?_
        refine g_iload hX dX1_grows_52 1 rfl ?_
        refine g_aload hX dX1_grows_54 0 rfl ?_
        refine g_aload hX dX1_grows_56 2 rfl ?_
        refine g_callVN [.int z] hX (ct_growthFor hX.st (sz + 1 + 1) hw1.1 (P := P1) (q := f) (r := sz) hq hr1) cw_X0_growthFor cv_X0_growthFor ln_X1_130 (ci := 0) rfl rfl (ov_pc (P := P1) hq) ⟨by omega, by omega⟩ ⟨by omega, by omega⟩ (Nat.le_of_ble_eq_true rfl) rfl dX1_grows_58 rfl (fun v58 M58 z58 hp58 hz58 hd58 => ?_)
        obtain ⟨rfl, rfl, rfl⟩ := hp58
        show G X _ (ov (cxT X) (ovF (cxT X) N F) P1) (sz + 1 + 1) (((((0 + 0) + 1) + 1) + 0) + 0) (((((0 + 0) + 9) + 0) + 0) + 0) 61 [(7, .ref f), (6, .int z), (5, .ref sz)] [.int (grB P1 f sz), .int z]
        refine g_iadd hX dX1_grows_61 ?_
        refine g_istore (L' := [(6, .int (z + (grB P1 f sz))), (7, .ref f), (5, .ref sz)]) hX dX1_grows_62 (by decide) rfl ?_
        refine g_aload hX dX1_grows_64 1 rfl ?_
        refine g_getN (ci := 0) hX rfl fin_X0 (ov_pc (P := P1) hq) 4 (by decide) fn_X1_68 rfl dX1_grows_66 ?_
        refine g_astoreQ (L' := [(7, va_rf (pH P1 f)), (6, .int (z + (grB P1 f sz))), (5, .ref sz)]) hX dX1_grows_69 (by decide) rfl ?_
        refine g_goto hX 47 dX1_grows_71 (by decide) ?_
        refine g_sub [0, 1, 2] rfl ?_
        exact ihm _ _ hi2 hG
  refine g_sub [0, 1, 2] rfl ?_
  refine chain k 0 (some (ffP P1 sz n (fT F))) hup ?_
  show G X _ (ov (cxT X) (ovF (cxT X) N F) P1) (sz + 1 + 1) ((((0 + 0) + 1) + 1) + 0) ((((0 + 0) + 9) + 0) + 0) 74 [(6, .int (upG (fun f => grB P1 f sz) (pH P1) k 0 (some (ffP P1 sz n (fT F)))))] []
  refine g_iload hX dX1_grows_74 0 rfl ?_
  exact hF (some (.int (upG (fun f => grB P1 f sz) (pH P1) k 0 (some (ffP P1 sz n (fT F)))))) (ov (cxT X) (ovF (cxT X) N F) P1) (sz + 1 + 1) _ _ _ _ .ireturn (⟨rfl, rfl, rfl⟩) (by omega) (by omega) ret_i dX1_grows_76

set_option maxHeartbeats 4000000 in
set_option maxRecDepth 100000 in
theorem ct_splits {l : Launch} (hl : l.stackTraces = false) {T : CT3} {D : va_G} {N : AH} {P : PS} {F : FS} (sz : Nat) (hwF : WfF P F) {n k : Nat} (hal : Alok P F) (x1 y1 x2 y2 : Int32) (hr : isR x1 y1 x2 y2 = true) (ht : TrP (rcP P sz x1 y1 x2 y2) n (fT F)) (hn : n < 40) (hup : UpI (fun f => pD (rcP P sz x1 y1 x2 y2) f = true ∧ pS (rcP P sz x1 y1 x2 y2) f < 1000) (pH (rcP P sz x1 y1 x2 y2)) k (some (ffP (rcP P sz x1 y1 x2 y2) sz n (fT F)))) : Ct l T D yX1_splits cX1_splits 7 (some .int) 5 120 2 9 [.ref (fO F), .int x1, .int y1, .int x2, .int y2] (ov T (ovF T N F) P) sz (fun v M' z' => v = some (.int (nI (upS (fun f => 4 ≤ pS (rcP P sz x1 y1 x2 y2) f) (pH (rcP P sz x1 y1 x2 y2)) k 0 (some (ffP (rcP P sz x1 y1 x2 y2) sz n (fT F)))))) ∧ M' = ov T (ovF T N F) (rcP P sz x1 y1 x2 y2) ∧ sz + 1 + 1 = z') := by
  refine Ct.ofX hl (by decide) (Nat.le_of_ble_eq_true rfl) ?_
  intro X hl0 hT0 hD0 hlt hX hF
  subst hl0; subst hT0; subst hD0
  have hdl := dom_lt hwF.1 hlt
  have hoL := obj_lt hwF hlt
  show G X 7 (ov (cxT X) (ovF (cxT X) N F) P) sz 0 0 0 [(0, .ref (fO F)), (1, .int x1), (2, .int y1), (3, .int x2), (4, .int y2)] []
  refine g_iload_n hX dX1_splits_0 1 rfl ?_
  refine g_iload_n hX dX1_splits_1 2 rfl ?_
  refine g_iload_n hX dX1_splits_2 3 rfl ?_
  refine g_iload hX dX1_splits_3 4 rfl ?_
  refine g_callS [] hX (ct_isRectangle hX.st sz _ _ _ _) cw_X1_isRectangle stt_X1_isRectangle lk_X1_22 ⟨by omega, by omega⟩ ⟨by omega, by omega⟩ (Nat.le_of_ble_eq_true rfl) rfl dX1_splits_5 rfl (fun v5 M5 z5 hp5 hz5 hd5 => ?_)
  rw [show isR x1 y1 x2 y2 = true from hr] at hp5
  obtain ⟨rfl, rfl, rfl⟩ := hp5
  show G X _ (ov (cxT X) (ovF (cxT X) N F) P) sz (0 + 0) (0 + 0) 8 [(0, .ref (fO F)), (1, .int x1), (2, .int y1), (3, .int x2), (4, .int y2)] [.int 1]
  refine g_if_ne hX 21 dX1_splits_8 (by decide) (fun _ => ?_) (fun c8 => absurd c8 (by decide))
  refine g_iconst (v := 0) hX dX1_splits_21 (by decide) ?_
  refine g_istore (L' := [(5, .int 0), (0, .ref (fO F)), (1, .int x1), (2, .int y1), (3, .int x2), (4, .int y2)]) hX dX1_splits_22 (by decide) rfl ?_
  refine g_aload_n hX dX1_splits_24 1 rfl ?_
  refine g_new (ci := 0) (fs := [.int 0, .int 0, .null, .int 0, .null, .int 0, .int 0, .int 0, .int 0]) hX rfl fld_X0 cl_X1_9 ins_NestedFrames_Piece ini_NestedFrames_Piece tyP9 (by omega) (by omega) dX1_splits_25 ?_
  show G X _ (va_up (ov (cxT X) (ovF (cxT X) N F) P) sz (some blkP)) (sz + 1) ((0 + 0) + 1) ((0 + 0) + 9) 28 [(5, .int 0), (0, .ref (fO F)), (1, .int x1), (2, .int y1), (3, .int x2), (4, .int y2)] [.ref sz, .ref (fO F)]
  refine g_dup hX dX1_splits_28 rfl ?_
  refine g_iconst (v := (-1)) hX dX1_splits_29 (by decide) ?_
  refine g_iload_n hX dX1_splits_30 2 rfl ?_
  refine g_iload_n hX dX1_splits_31 3 rfl ?_
  refine g_iload_n hX dX1_splits_32 4 rfl ?_
  refine g_iload hX dX1_splits_33 5 rfl ?_
  refine g_callIN [.ref sz, .ref (fO F)] hX (ct_Pinit hX.st (M := (va_up (ov (cxT X) (ovF (cxT X) N F) P) sz (some blkP))) (q := sz) (va_up_self _ _ _) (-1) x1 y1 x2 y2) cw_X0_init rfl im_X0_init ln_X1_42 ⟨by omega, by omega⟩ ⟨by omega, by omega⟩ (Nat.le_of_ble_eq_true rfl) rfl dX1_splits_35 rfl (fun v35 M35 z35 hp35 hz35 hd35 => ?_)
  obtain ⟨rfl, rfl, rfl⟩ := hp35
  refine g_eqM (ov_nw (-1) 0 (bx4 x1 y1 x2 y2) 0 hdl rfl) ?_
  have hw1 : WfF (rcP P sz x1 y1 x2 y2) F := hwF.nw hdl hoL (-1) 0 (bx4 x1 y1 x2 y2) 0
  have hal1 : Alok (rcP P sz x1 y1 x2 y2) F := hal.nw sz (-1) 0 (bx4 x1 y1 x2 y2) 0
  have hr1 : pD (rcP P sz x1 y1 x2 y2) sz = true := nwq _ _ _
  show G X _ (ov (cxT X) (ovF (cxT X) N F) (rcP P sz x1 y1 x2 y2)) (sz + 1 + 1) (((0 + 0) + 1) + 1) (((0 + 0) + 9) + 0) 38 [(5, .int 0), (0, .ref (fO F)), (1, .int x1), (2, .int y1), (3, .int x2), (4, .int y2)] [.ref sz, .ref (fO F)]
  refine g_callV [] hX (ct_frameFor hX.st (sz + 1 + 1) (P := rcP P sz x1 y1 x2 y2) (r := sz) hw1 hr1 ht hn) cw_X1_frameFor cv_X1_frameFor lk_X1_45 (ci := 1) rfl rfl (ovF_o hw1) ⟨by omega, by omega⟩ ⟨by omega, by omega⟩ (Nat.le_of_ble_eq_true rfl) rfl dX1_splits_38 rfl (fun v38 M38 z38 hp38 hz38 hd38 => ?_)
  obtain ⟨rfl, rfl, rfl⟩ := hp38
  show G X _ (ov (cxT X) (ovF (cxT X) N F) (rcP P sz x1 y1 x2 y2)) (sz + 1 + 1) ((((0 + 0) + 1) + 1) + 0) ((((0 + 0) + 9) + 0) + 0) 41 [(5, .int 0), (0, .ref (fO F)), (1, .int x1), (2, .int y1), (3, .int x2), (4, .int y2)] [.ref (ffP (rcP P sz x1 y1 x2 y2) sz n (fT F))]
  refine g_astore (L' := [(6, .ref (ffP (rcP P sz x1 y1 x2 y2) sz n (fT F))), (5, .int 0), (0, .ref (fO F)), (1, .int x1), (2, .int y1), (3, .int x2), (4, .int y2)]) hX dX1_splits_41 (by decide) rfl ?_
  obtain ⟨P1, hP1⟩ : ∃ P1, P1 = (rcP P sz x1 y1 x2 y2) := ⟨_, rfl⟩
  rw [← hP1] at hw1 hr1 hup hF ⊢
  have chain : ∀ m z r, UpI (fun f => pD P1 f = true ∧ pS P1 f < 1000) (pH P1) m r → G X 7 (ov (cxT X) (ovF (cxT X) N F) P1) (sz + 1 + 1) ((((0 + 0) + 1) + 1) + 0) ((((0 + 0) + 9) + 0) + 0) 70 [(5, .int (nI (upS (fun f => 4 ≤ pS P1 f) (pH P1) m z r)))] [] → G X 7 (ov (cxT X) (ovF (cxT X) N F) P1) (sz + 1 + 1) ((((0 + 0) + 1) + 1) + 0) ((((0 + 0) + 9) + 0) + 0) 43 [(6, va_rf r), (5, .int (nI z))] [] := by
    intro m
    induction m with
    | zero =>
      intro z r hi hG
      obtain rfl : r = none := hi
      show G X _ (ov (cxT X) (ovF (cxT X) N F) P1) (sz + 1 + 1) ((((0 + 0) + 1) + 1) + 0) ((((0 + 0) + 9) + 0) + 0) 43 [(6, .null), (5, .int (nI z))] []
      refine g_aloadN hX dX1_splits_43 0 rfl ?_
      refine g_ifnullN hX 70 dX1_splits_45 (by decide) ?_
      refine g_sub [1] rfl ?_
      exact hG
    | succ m ihm =>
      intro z r hi hG
      rcases r with _ | f
      · skip
        show G X _ (ov (cxT X) (ovF (cxT X) N F) P1) (sz + 1 + 1) ((((0 + 0) + 1) + 1) + 0) ((((0 + 0) + 9) + 0) + 0) 43 [(6, .null), (5, .int (nI z))] []
        refine g_aloadN hX dX1_splits_43 0 rfl ?_
        refine g_ifnullN hX 70 dX1_splits_45 (by decide) ?_
        refine g_sub [1] rfl ?_
        rw [upS_n] at hG
        exact hG
      · obtain ⟨hq, hi2⟩ := hi f rfl
        show G X _ (ov (cxT X) (ovF (cxT X) N F) P1) (sz + 1 + 1) ((((0 + 0) + 1) + 1) + 0) ((((0 + 0) + 9) + 0) + 0) 43 [(6, .ref f), (5, .int (nI z))] []
        refine g_aload hX dX1_splits_43 0 rfl ?_
        refine g_ifnullR hX dX1_splits_45 ?_
        refine g_aload hX dX1_splits_48 0 rfl ?_
        refine g_getN (ci := 0) hX rfl fin_X0 (ov_pc (P := P1) hq.1) 3 (by decide) fn_X1_133 rfl dX1_splits_50 ?_
        refine g_iconst (v := 4) hX dX1_splits_53 (by decide) ?_
        refine g_icmp_lt hX 70 dX1_splits_54 (by decide) (fun c54 => ?_) (fun c54 => ?_)
        · skip
          have h4 : ¬ 4 ≤ pS P1 f := by have h9 := mt (nI_leI (a := 4) (b := pS P1 f) (by omega) (by omega)).mpr (Int32.not_le.mpr c54); exact h9
          refine g_sub [1] rfl ?_
          rw [upS_f (c := fun f => 4 ≤ pS P1 f) h4] at hG
          exact hG
        · skip
          have h4 : 4 ≤ pS P1 f := (nI_leI (a := 4) (b := pS P1 f) (by omega) (by omega)).mp (Int32.not_lt.mp c54)
          refine g_iinc (v := nI (z + 1)) (L' := [(5, .int (nI (z + 1))), (6, .ref f)]) hX dX1_splits_57 1 rfl (nI_1 _) (by decide) rfl ?_
          refine g_aload hX dX1_splits_60 1 rfl ?_
          refine g_getN (ci := 0) hX rfl fin_X0 (ov_pc (P := P1) hq.1) 4 (by decide) fn_X1_68 rfl dX1_splits_62 ?_
          refine g_astoreQ (L' := [(6, va_rf (pH P1 f)), (5, .int (nI (z + 1)))]) hX dX1_splits_65 (by decide) rfl ?_
          refine g_goto hX 43 dX1_splits_67 (by decide) ?_
          refine g_sub [0, 1] rfl ?_
          rw [upS_t (c := fun f => 4 ≤ pS P1 f) h4] at hG
          exact ihm _ _ hi2 hG
  refine g_sub [0, 1] rfl ?_
  refine chain k 0 (some (ffP P1 sz n (fT F))) hup ?_
  show G X _ (ov (cxT X) (ovF (cxT X) N F) P1) (sz + 1 + 1) ((((0 + 0) + 1) + 1) + 0) ((((0 + 0) + 9) + 0) + 0) 70 [(5, .int (nI (upS (fun f => 4 ≤ pS P1 f) (pH P1) k 0 (some (ffP P1 sz n (fT F))))))] []
  refine g_iload hX dX1_splits_70 0 rfl ?_
  exact hF (some (.int (nI (upS (fun f => 4 ≤ pS P1 f) (pH P1) k 0 (some (ffP P1 sz n (fT F))))))) (ov (cxT X) (ovF (cxT X) N F) P1) (sz + 1 + 1) _ _ _ _ .ireturn (⟨rfl, rfl, rfl⟩) (by omega) (by omega) ret_i dX1_splits_72
