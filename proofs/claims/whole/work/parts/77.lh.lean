theorem cas_IAE : Cond.castable "java/lang/IllegalArgumentException" "java/lang/IllegalArgumentException" ∈ lw_tbl := List.mem_append_right _ (List.mem_of_getElem? (i := 170) (by decide +kernel))
theorem cas_ISE : Cond.castable "java/lang/IllegalStateException" "java/lang/IllegalStateException" ∈ lw_tbl := List.mem_append_right _ (List.mem_of_getElem? (i := 238) (by decide +kernel))
theorem cas_IOB : Cond.castable "java/lang/IndexOutOfBoundsException" "java/lang/IndexOutOfBoundsException" ∈ lw_tbl := List.mem_append_right _ (List.mem_of_getElem? (i := 340) (by decide +kernel))
set_option maxHeartbeats 1000000 in
set_option maxRecDepth 100000 in
theorem lh_come_no1 {l : Launch} (hl : l.stackTraces = false) {T : CT3} {D : va_G} {N : AH} {P : PS} {F : FS} (sz : Nat) (hwF : WfF P F) (x1 y1 x2 y2 : Int32) (hr : isR x1 y1 x2 y2 = false) {qo : Nat} : CtH l T D yL_come cL_come 7 (some .int) [(0, 14, 17, 13), (0, 14, 21, 15)] 8 130 1 6 [.ref (fO F), .int x1, .int y1, .int x2, .int y2, .ref qo] (ov T (ovF T N F) P) sz (fun v M' z' => v = some (.int 1) ∧ M' = ov T (ovF T N F) P ∧ sz ≤ z') := by
  refine CtH.of hl (by decide) (Nat.le_of_ble_eq_true rfl) ?_
  intro X hl0 hT0 hD0 hlt hX hTh hF
  subst hl0; subst hT0; subst hD0
  show G X 7 (ov (cxT X) (ovF (cxT X) N F) P) sz 0 0 0 [(0, .ref (fO F)), (1, .int x1), (2, .int y1), (3, .int x2), (4, .int y2), (5, .ref qo)] []
  refine g_aload hX dL_come_0 5 rfl ?_
  refine g_iconst (v := 0) hX dL_come_2 (by decide) ?_
  refine g_aload_n hX dL_come_3 0 rfl ?_
  refine g_iload_n hX dL_come_4 1 rfl ?_
  refine g_iload_n hX dL_come_5 2 rfl ?_
  refine g_iload_n hX dL_come_6 3 rfl ?_
  refine g_iload hX dL_come_7 4 rfl ?_
  refine g_callX [.int 0, .ref qo] hX hTh (E0 := "java/lang/IllegalArgumentException") (as := [.int x1, .int y1, .int x2, .int y2]) (cx_come_no1 hX.st sz hwF x1 y1 x2 y2 hr) cw_X1_come cv_X1_come lk_L_7 (ci := 1) rfl rfl (ovF_o hwF) ⟨by omega, by omega⟩ ⟨by omega, by omega⟩ (Nat.le_of_ble_eq_true rfl) rfl dL_come_9 rfl rfl (by decide) (by decide) cl_L_13 cas_IAE (hpc := 17) rfl (fun z5 q5 hz5 => ?_)
  refine g_astore (L' := [(6, .ref q5), (0, .ref (fO F)), (1, .int x1), (2, .int y1), (3, .int x2), (4, .int y2), (5, .ref qo)]) hX dL_come_17 (by decide) rfl ?_
  refine g_iconst (v := 1) hX dL_come_19 (by decide) ?_
  exact hF (some (.int 1)) _ z5 _ _ _ _ .ireturn (⟨rfl, rfl, hz5⟩) (by omega) (by omega) ret_i dL_come_20

set_option maxHeartbeats 1000000 in
set_option maxRecDepth 100000 in
theorem lh_overlaps_no {l : Launch} (hl : l.stackTraces = false) {T : CT3} {D : va_G} {N : AH} {P : PS} {F : FS} (sz : Nat) (hwF : WfF P F) (x1 y1 x2 y2 : Int32) (hr : isR x1 y1 x2 y2 = false) {qo : Nat} : CtH l T D yL_overlaps cL_overlaps 7 (some .int) [(0, 14, 17, 13)] 8 130 1 6 [.ref (fO F), .int x1, .int y1, .int x2, .int y2, .ref qo] (ov T (ovF T N F) P) sz (fun v M' z' => v = some (.int 1) ∧ M' = ov T (ovF T N F) P ∧ sz ≤ z') := by
  refine CtH.of hl (by decide) (Nat.le_of_ble_eq_true rfl) ?_
  intro X hl0 hT0 hD0 hlt hX hTh hF
  subst hl0; subst hT0; subst hD0
  show G X 7 (ov (cxT X) (ovF (cxT X) N F) P) sz 0 0 0 [(0, .ref (fO F)), (1, .int x1), (2, .int y1), (3, .int x2), (4, .int y2), (5, .ref qo)] []
  refine g_aload hX dL_overlaps_0 5 rfl ?_
  refine g_iconst (v := 0) hX dL_overlaps_2 (by decide) ?_
  refine g_aload_n hX dL_overlaps_3 0 rfl ?_
  refine g_iload_n hX dL_overlaps_4 1 rfl ?_
  refine g_iload_n hX dL_overlaps_5 2 rfl ?_
  refine g_iload_n hX dL_overlaps_6 3 rfl ?_
  refine g_iload hX dL_overlaps_7 4 rfl ?_
  refine g_callX [.int 0, .ref qo] hX hTh (E0 := "java/lang/IllegalArgumentException") (as := [.int x1, .int y1, .int x2, .int y2]) (cx_overlaps_no hX.st sz hwF x1 y1 x2 y2 hr) cw_X1_overlaps cv_X1_overlaps lk_L_30 (ci := 1) rfl rfl (ovF_o hwF) ⟨by omega, by omega⟩ ⟨by omega, by omega⟩ (Nat.le_of_ble_eq_true rfl) rfl dL_overlaps_9 rfl rfl (by decide) (by decide) cl_L_13 cas_IAE (hpc := 17) rfl (fun z5 q5 hz5 => ?_)
  refine g_astore (L' := [(6, .ref q5), (0, .ref (fO F)), (1, .int x1), (2, .int y1), (3, .int x2), (4, .int y2), (5, .ref qo)]) hX dL_overlaps_17 (by decide) rfl ?_
  refine g_iconst (v := 1) hX dL_overlaps_19 (by decide) ?_
  exact hF (some (.int 1)) _ z5 _ _ _ _ .ireturn (⟨rfl, rfl, hz5⟩) (by omega) (by omega) ret_i dL_overlaps_20

set_option maxHeartbeats 1000000 in
set_option maxRecDepth 100000 in
theorem lh_looks_no {l : Launch} (hl : l.stackTraces = false) {T : CT3} {D : va_G} {N : AH} {P : PS} {F : FS} (sz : Nat) (hwF : WfF P F) (x1 y1 x2 y2 : Int32) (hr : isR x1 y1 x2 y2 = false) {qo : Nat} : CtH l T D yL_looks cL_looks 7 (some .int) [(0, 14, 17, 13)] 8 130 1 6 [.ref (fO F), .int x1, .int y1, .int x2, .int y2, .ref qo] (ov T (ovF T N F) P) sz (fun v M' z' => v = some (.int 1) ∧ M' = ov T (ovF T N F) P ∧ sz ≤ z') := by
  refine CtH.of hl (by decide) (Nat.le_of_ble_eq_true rfl) ?_
  intro X hl0 hT0 hD0 hlt hX hTh hF
  subst hl0; subst hT0; subst hD0
  show G X 7 (ov (cxT X) (ovF (cxT X) N F) P) sz 0 0 0 [(0, .ref (fO F)), (1, .int x1), (2, .int y1), (3, .int x2), (4, .int y2), (5, .ref qo)] []
  refine g_aload hX dL_looks_0 5 rfl ?_
  refine g_iconst (v := 0) hX dL_looks_2 (by decide) ?_
  refine g_aload_n hX dL_looks_3 0 rfl ?_
  refine g_iload_n hX dL_looks_4 1 rfl ?_
  refine g_iload_n hX dL_looks_5 2 rfl ?_
  refine g_iload_n hX dL_looks_6 3 rfl ?_
  refine g_iload hX dL_looks_7 4 rfl ?_
  refine g_callX [.int 0, .ref qo] hX hTh (E0 := "java/lang/IllegalArgumentException") (as := [.int x1, .int y1, .int x2, .int y2]) (cx_looks_no hX.st sz hwF x1 y1 x2 y2 hr) cw_X1_looks cv_X1_looks lk_L_33 (ci := 1) rfl rfl (ovF_o hwF) ⟨by omega, by omega⟩ ⟨by omega, by omega⟩ (Nat.le_of_ble_eq_true rfl) rfl dL_looks_9 rfl rfl (by decide) (by decide) cl_L_13 cas_IAE (hpc := 17) rfl (fun z5 q5 hz5 => ?_)
  refine g_astore (L' := [(6, .ref q5), (0, .ref (fO F)), (1, .int x1), (2, .int y1), (3, .int x2), (4, .int y2), (5, .ref qo)]) hX dL_looks_17 (by decide) rfl ?_
  refine g_iconst (v := 1) hX dL_looks_19 (by decide) ?_
  exact hF (some (.int 1)) _ z5 _ _ _ _ .ireturn (⟨rfl, rfl, hz5⟩) (by omega) (by omega) ret_i dL_looks_20

set_option maxHeartbeats 1000000 in
set_option maxRecDepth 100000 in
theorem lh_grows_no {l : Launch} (hl : l.stackTraces = false) {T : CT3} {D : va_G} {N : AH} {P : PS} {F : FS} (sz : Nat) (hwF : WfF P F) (x1 y1 x2 y2 : Int32) (hr : isR x1 y1 x2 y2 = false) {qo : Nat} : CtH l T D yL_grows cL_grows 7 (some .int) [(0, 14, 17, 13)] 8 130 1 6 [.ref (fO F), .int x1, .int y1, .int x2, .int y2, .ref qo] (ov T (ovF T N F) P) sz (fun v M' z' => v = some (.int 1) ∧ M' = ov T (ovF T N F) P ∧ sz ≤ z') := by
  refine CtH.of hl (by decide) (Nat.le_of_ble_eq_true rfl) ?_
  intro X hl0 hT0 hD0 hlt hX hTh hF
  subst hl0; subst hT0; subst hD0
  show G X 7 (ov (cxT X) (ovF (cxT X) N F) P) sz 0 0 0 [(0, .ref (fO F)), (1, .int x1), (2, .int y1), (3, .int x2), (4, .int y2), (5, .ref qo)] []
  refine g_aload hX dL_grows_0 5 rfl ?_
  refine g_iconst (v := 0) hX dL_grows_2 (by decide) ?_
  refine g_aload_n hX dL_grows_3 0 rfl ?_
  refine g_iload_n hX dL_grows_4 1 rfl ?_
  refine g_iload_n hX dL_grows_5 2 rfl ?_
  refine g_iload_n hX dL_grows_6 3 rfl ?_
  refine g_iload hX dL_grows_7 4 rfl ?_
  refine g_callX [.int 0, .ref qo] hX hTh (E0 := "java/lang/IllegalArgumentException") (as := [.int x1, .int y1, .int x2, .int y2]) (cx_grows_no hX.st sz hwF x1 y1 x2 y2 hr) cw_X1_grows cv_X1_grows lk_L_42 (ci := 1) rfl rfl (ovF_o hwF) ⟨by omega, by omega⟩ ⟨by omega, by omega⟩ (Nat.le_of_ble_eq_true rfl) rfl dL_grows_9 rfl rfl (by decide) (by decide) cl_L_13 cas_IAE (hpc := 17) rfl (fun z5 q5 hz5 => ?_)
  refine g_astore (L' := [(6, .ref q5), (0, .ref (fO F)), (1, .int x1), (2, .int y1), (3, .int x2), (4, .int y2), (5, .ref qo)]) hX dL_grows_17 (by decide) rfl ?_
  refine g_iconst (v := 1) hX dL_grows_19 (by decide) ?_
  exact hF (some (.int 1)) _ z5 _ _ _ _ .ireturn (⟨rfl, rfl, hz5⟩) (by omega) (by omega) ret_i dL_grows_20

set_option maxHeartbeats 1000000 in
set_option maxRecDepth 100000 in
theorem lh_splits_no {l : Launch} (hl : l.stackTraces = false) {T : CT3} {D : va_G} {N : AH} {P : PS} {F : FS} (sz : Nat) (hwF : WfF P F) (x1 y1 x2 y2 : Int32) (hr : isR x1 y1 x2 y2 = false) {qo : Nat} : CtH l T D yL_splits cL_splits 7 (some .int) [(0, 14, 17, 13)] 8 130 1 6 [.ref (fO F), .int x1, .int y1, .int x2, .int y2, .ref qo] (ov T (ovF T N F) P) sz (fun v M' z' => v = some (.int 1) ∧ M' = ov T (ovF T N F) P ∧ sz ≤ z') := by
  refine CtH.of hl (by decide) (Nat.le_of_ble_eq_true rfl) ?_
  intro X hl0 hT0 hD0 hlt hX hTh hF
  subst hl0; subst hT0; subst hD0
  show G X 7 (ov (cxT X) (ovF (cxT X) N F) P) sz 0 0 0 [(0, .ref (fO F)), (1, .int x1), (2, .int y1), (3, .int x2), (4, .int y2), (5, .ref qo)] []
  refine g_aload hX dL_splits_0 5 rfl ?_
  refine g_iconst (v := 0) hX dL_splits_2 (by decide) ?_
  refine g_aload_n hX dL_splits_3 0 rfl ?_
  refine g_iload_n hX dL_splits_4 1 rfl ?_
  refine g_iload_n hX dL_splits_5 2 rfl ?_
  refine g_iload_n hX dL_splits_6 3 rfl ?_
  refine g_iload hX dL_splits_7 4 rfl ?_
  refine g_callX [.int 0, .ref qo] hX hTh (E0 := "java/lang/IllegalArgumentException") (as := [.int x1, .int y1, .int x2, .int y2]) (cx_splits_no hX.st sz hwF x1 y1 x2 y2 hr) cw_X1_splits cv_X1_splits lk_L_45 (ci := 1) rfl rfl (ovF_o hwF) ⟨by omega, by omega⟩ ⟨by omega, by omega⟩ (Nat.le_of_ble_eq_true rfl) rfl dL_splits_9 rfl rfl (by decide) (by decide) cl_L_13 cas_IAE (hpc := 17) rfl (fun z5 q5 hz5 => ?_)
  refine g_astore (L' := [(6, .ref q5), (0, .ref (fO F)), (1, .int x1), (2, .int y1), (3, .int x2), (4, .int y2), (5, .ref qo)]) hX dL_splits_17 (by decide) rfl ?_
  refine g_iconst (v := 1) hX dL_splits_19 (by decide) ?_
  exact hF (some (.int 1)) _ z5 _ _ _ _ .ireturn (⟨rfl, rfl, hz5⟩) (by omega) (by omega) ret_i dL_splits_20

set_option maxHeartbeats 1000000 in
set_option maxRecDepth 100000 in
theorem lh_go_no1 {l : Launch} (hl : l.stackTraces = false) {T : CT3} {D : va_G} {N : AH} {P : PS} {F : FS} (sz : Nat) (hwF : WfF P F) (hal : Alok P F) (x : Int32) (ha : alI F x = none) {qo : Nat} : CtH l T D yL_go cL_go 4 (some .int) [(0, 9, 12, 21), (0, 9, 15, 15)] 8 130 1 6 [.ref (fO F), .int x, .ref qo] (ov T (ovF T N F) P) sz (fun v M' z' => v = some (.int 1) ∧ M' = ov T (ovF T N F) P ∧ sz ≤ z') := by
  refine CtH.of hl (by decide) (Nat.le_of_ble_eq_true rfl) ?_
  intro X hl0 hT0 hD0 hlt hX hTh hF
  subst hl0; subst hT0; subst hD0
  show G X 4 (ov (cxT X) (ovF (cxT X) N F) P) sz 0 0 0 [(0, .ref (fO F)), (1, .int x), (2, .ref qo)] []
  refine g_aload_n hX dL_go_0 2 rfl ?_
  refine g_iconst (v := 0) hX dL_go_1 (by decide) ?_
  refine g_aload_n hX dL_go_2 0 rfl ?_
  refine g_iload_n hX dL_go_3 1 rfl ?_
  refine g_callX [.int 0, .ref qo] hX hTh (E0 := "java/lang/IndexOutOfBoundsException") (as := [.int x]) (cx_go_no1 hX.st sz hwF hal x ha) cw_X1_go cv_X1_go lk_L_17 (ci := 1) rfl rfl (ovF_o hwF) ⟨by omega, by omega⟩ ⟨by omega, by omega⟩ (Nat.le_of_ble_eq_true rfl) rfl dL_go_4 rfl rfl (by decide) (by decide) cl_L_21 cas_IOB (hpc := 12) rfl (fun z5 q5 hz5 => ?_)
  refine g_astore_n (L' := [(3, .ref q5), (0, .ref (fO F)), (1, .int x), (2, .ref qo)]) hX dL_go_12 (by decide) rfl ?_
  refine g_iconst (v := 1) hX dL_go_13 (by decide) ?_
  exact hF (some (.int 1)) _ z5 _ _ _ _ .ireturn (⟨rfl, rfl, hz5⟩) (by omega) (by omega) ret_i dL_go_14

set_option maxHeartbeats 1000000 in
set_option maxRecDepth 100000 in
theorem lh_told_no1 {l : Launch} (hl : l.stackTraces = false) {T : CT3} {D : va_G} {N : AH} {P : PS} {F : FS} (sz : Nat) (hwF : WfF P F) (hal : Alok P F) (x y : Int32) (ha : alI F x = none) {qo : Nat} : CtH l T D yL_told cL_told 5 (some .int) [(0, 10, 13, 21)] 8 130 1 6 [.ref (fO F), .int x, .int y, .ref qo] (ov T (ovF T N F) P) sz (fun v M' z' => v = some (.int 1) ∧ M' = ov T (ovF T N F) P ∧ sz ≤ z') := by
  refine CtH.of hl (by decide) (Nat.le_of_ble_eq_true rfl) ?_
  intro X hl0 hT0 hD0 hlt hX hTh hF
  subst hl0; subst hT0; subst hD0
  show G X 5 (ov (cxT X) (ovF (cxT X) N F) P) sz 0 0 0 [(0, .ref (fO F)), (1, .int x), (2, .int y), (3, .ref qo)] []
  refine g_aload_n hX dL_told_0 3 rfl ?_
  refine g_iconst (v := 0) hX dL_told_1 (by decide) ?_
  refine g_aload_n hX dL_told_2 0 rfl ?_
  refine g_iload_n hX dL_told_3 1 rfl ?_
  refine g_iload_n hX dL_told_4 2 rfl ?_
  refine g_callX [.int 0, .ref qo] hX hTh (E0 := "java/lang/IndexOutOfBoundsException") (as := [.int x, .int y]) (cx_told_no1 hX.st sz hwF hal x y ha) cw_X1_told cv_X1_told lk_L_23 (ci := 1) rfl rfl (ovF_o hwF) ⟨by omega, by omega⟩ ⟨by omega, by omega⟩ (Nat.le_of_ble_eq_true rfl) rfl dL_told_5 rfl rfl (by decide) (by decide) cl_L_21 cas_IOB (hpc := 13) rfl (fun z5 q5 hz5 => ?_)
  refine g_astore (L' := [(4, .ref q5), (0, .ref (fO F)), (1, .int x), (2, .int y), (3, .ref qo)]) hX dL_told_13 (by decide) rfl ?_
  refine g_iconst (v := 1) hX dL_told_15 (by decide) ?_
  exact hF (some (.int 1)) _ z5 _ _ _ _ .ireturn (⟨rfl, rfl, hz5⟩) (by omega) (by omega) ret_i dL_told_16

set_option maxHeartbeats 1000000 in
set_option maxRecDepth 100000 in
theorem lh_told_no2 {l : Launch} (hl : l.stackTraces = false) {T : CT3} {D : va_G} {N : AH} {P : PS} {F : FS} (sz : Nat) (hwF : WfF P F) (hal : Alok P F) (x y : Int32) {g : Nat} (ha : alI F x = some g) (hy : isQ y = false) {qo : Nat} : CtH l T D yL_told cL_told 5 (some .int) [(0, 10, 13, 21)] 8 130 1 6 [.ref (fO F), .int x, .int y, .ref qo] (ov T (ovF T N F) P) sz (fun v M' z' => v = some (.int 1) ∧ M' = ov T (ovF T N F) P ∧ sz ≤ z') := by
  refine CtH.of hl (by decide) (Nat.le_of_ble_eq_true rfl) ?_
  intro X hl0 hT0 hD0 hlt hX hTh hF
  subst hl0; subst hT0; subst hD0
  show G X 5 (ov (cxT X) (ovF (cxT X) N F) P) sz 0 0 0 [(0, .ref (fO F)), (1, .int x), (2, .int y), (3, .ref qo)] []
  refine g_aload_n hX dL_told_0 3 rfl ?_
  refine g_iconst (v := 0) hX dL_told_1 (by decide) ?_
  refine g_aload_n hX dL_told_2 0 rfl ?_
  refine g_iload_n hX dL_told_3 1 rfl ?_
  refine g_iload_n hX dL_told_4 2 rfl ?_
  refine g_callX [.int 0, .ref qo] hX hTh (E0 := "java/lang/IndexOutOfBoundsException") (as := [.int x, .int y]) (cx_told_no2 hX.st sz hwF hal x y ha hy) cw_X1_told cv_X1_told lk_L_23 (ci := 1) rfl rfl (ovF_o hwF) ⟨by omega, by omega⟩ ⟨by omega, by omega⟩ (Nat.le_of_ble_eq_true rfl) rfl dL_told_5 rfl rfl (by decide) (by decide) cl_L_21 cas_IOB (hpc := 13) rfl (fun z5 q5 hz5 => ?_)
  refine g_astore (L' := [(4, .ref q5), (0, .ref (fO F)), (1, .int x), (2, .int y), (3, .ref qo)]) hX dL_told_13 (by decide) rfl ?_
  refine g_iconst (v := 1) hX dL_told_15 (by decide) ?_
  exact hF (some (.int 1)) _ z5 _ _ _ _ .ireturn (⟨rfl, rfl, hz5⟩) (by omega) (by omega) ret_i dL_told_16

set_option maxHeartbeats 1000000 in
set_option maxRecDepth 100000 in
theorem lh_way_no1 {l : Launch} (hl : l.stackTraces = false) {T : CT3} {D : va_G} {N : AH} {P : PS} {F : FS} (sz : Nat) (hwF : WfF P F) (hal : Alok P F) (x y : Int32) (ha : alI F x = none) {qo : Nat} : CtH l T D yL_way cL_way 5 (some .int) [(0, 10, 13, 21)] 8 130 1 6 [.ref (fO F), .int x, .int y, .ref qo] (ov T (ovF T N F) P) sz (fun v M' z' => v = some (.int 1) ∧ M' = ov T (ovF T N F) P ∧ sz ≤ z') := by
  refine CtH.of hl (by decide) (Nat.le_of_ble_eq_true rfl) ?_
  intro X hl0 hT0 hD0 hlt hX hTh hF
  subst hl0; subst hT0; subst hD0
  show G X 5 (ov (cxT X) (ovF (cxT X) N F) P) sz 0 0 0 [(0, .ref (fO F)), (1, .int x), (2, .int y), (3, .ref qo)] []
  refine g_aload_n hX dL_way_0 3 rfl ?_
  refine g_iconst (v := 0) hX dL_way_1 (by decide) ?_
  refine g_aload_n hX dL_way_2 0 rfl ?_
  refine g_iload_n hX dL_way_3 1 rfl ?_
  refine g_iload_n hX dL_way_4 2 rfl ?_
  refine g_callX [.int 0, .ref qo] hX hTh (E0 := "java/lang/IndexOutOfBoundsException") (as := [.int x, .int y]) (cx_way_no1 hX.st sz hwF hal x y ha) cw_X1_way cv_X1_way lk_L_27 (ci := 1) rfl rfl (ovF_o hwF) ⟨by omega, by omega⟩ ⟨by omega, by omega⟩ (Nat.le_of_ble_eq_true rfl) rfl dL_way_5 rfl rfl (by decide) (by decide) cl_L_21 cas_IOB (hpc := 13) rfl (fun z5 q5 hz5 => ?_)
  refine g_astore (L' := [(4, .ref q5), (0, .ref (fO F)), (1, .int x), (2, .int y), (3, .ref qo)]) hX dL_way_13 (by decide) rfl ?_
  refine g_iconst (v := 1) hX dL_way_15 (by decide) ?_
  exact hF (some (.int 1)) _ z5 _ _ _ _ .ireturn (⟨rfl, rfl, hz5⟩) (by omega) (by omega) ret_i dL_way_16

set_option maxHeartbeats 1000000 in
set_option maxRecDepth 100000 in
theorem lh_way_no2 {l : Launch} (hl : l.stackTraces = false) {T : CT3} {D : va_G} {N : AH} {P : PS} {F : FS} (sz : Nat) (hwF : WfF P F) (hal : Alok P F) (x y : Int32) {g : Nat} (ha : alI F x = some g) (hy : y < 0) {qo : Nat} : CtH l T D yL_way cL_way 5 (some .int) [(0, 10, 13, 21)] 8 130 1 6 [.ref (fO F), .int x, .int y, .ref qo] (ov T (ovF T N F) P) sz (fun v M' z' => v = some (.int 1) ∧ M' = ov T (ovF T N F) P ∧ sz ≤ z') := by
  refine CtH.of hl (by decide) (Nat.le_of_ble_eq_true rfl) ?_
  intro X hl0 hT0 hD0 hlt hX hTh hF
  subst hl0; subst hT0; subst hD0
  show G X 5 (ov (cxT X) (ovF (cxT X) N F) P) sz 0 0 0 [(0, .ref (fO F)), (1, .int x), (2, .int y), (3, .ref qo)] []
  refine g_aload_n hX dL_way_0 3 rfl ?_
  refine g_iconst (v := 0) hX dL_way_1 (by decide) ?_
  refine g_aload_n hX dL_way_2 0 rfl ?_
  refine g_iload_n hX dL_way_3 1 rfl ?_
  refine g_iload_n hX dL_way_4 2 rfl ?_
  refine g_callX [.int 0, .ref qo] hX hTh (E0 := "java/lang/IndexOutOfBoundsException") (as := [.int x, .int y]) (cx_way_no2 hX.st sz hwF hal x y ha hy) cw_X1_way cv_X1_way lk_L_27 (ci := 1) rfl rfl (ovF_o hwF) ⟨by omega, by omega⟩ ⟨by omega, by omega⟩ (Nat.le_of_ble_eq_true rfl) rfl dL_way_5 rfl rfl (by decide) (by decide) cl_L_21 cas_IOB (hpc := 13) rfl (fun z5 q5 hz5 => ?_)
  refine g_astore (L' := [(4, .ref q5), (0, .ref (fO F)), (1, .int x), (2, .int y), (3, .ref qo)]) hX dL_way_13 (by decide) rfl ?_
  refine g_iconst (v := 1) hX dL_way_15 (by decide) ?_
  exact hF (some (.int 1)) _ z5 _ _ _ _ .ireturn (⟨rfl, rfl, hz5⟩) (by omega) (by omega) ret_i dL_way_16

set_option maxHeartbeats 1000000 in
set_option maxRecDepth 100000 in
theorem lh_nearest_no {l : Launch} (hl : l.stackTraces = false) {T : CT3} {D : va_G} {N : AH} {P : PS} {F : FS} (sz : Nat) (hwF : WfF P F) (x y : Int32) (hr : isR x y x y = false) {qo : Nat} : CtH l T D yL_nearest cL_nearest 5 (some .int) [(0, 10, 13, 13)] 8 130 1 6 [.ref (fO F), .int x, .int y, .ref qo] (ov T (ovF T N F) P) sz (fun v M' z' => v = some (.int 1) ∧ M' = ov T (ovF T N F) P ∧ sz ≤ z') := by
  refine CtH.of hl (by decide) (Nat.le_of_ble_eq_true rfl) ?_
  intro X hl0 hT0 hD0 hlt hX hTh hF
  subst hl0; subst hT0; subst hD0
  show G X 5 (ov (cxT X) (ovF (cxT X) N F) P) sz 0 0 0 [(0, .ref (fO F)), (1, .int x), (2, .int y), (3, .ref qo)] []
  refine g_aload_n hX dL_nearest_0 3 rfl ?_
  refine g_iconst (v := 0) hX dL_nearest_1 (by decide) ?_
  refine g_aload_n hX dL_nearest_2 0 rfl ?_
  refine g_iload_n hX dL_nearest_3 1 rfl ?_
  refine g_iload_n hX dL_nearest_4 2 rfl ?_
  refine g_callX [.int 0, .ref qo] hX hTh (E0 := "java/lang/IllegalArgumentException") (as := [.int x, .int y]) (cx_nearest_no hX.st sz hwF x y hr) cw_X1_nearest cv_X1_nearest lk_L_36 (ci := 1) rfl rfl (ovF_o hwF) ⟨by omega, by omega⟩ ⟨by omega, by omega⟩ (Nat.le_of_ble_eq_true rfl) rfl dL_nearest_5 rfl rfl (by decide) (by decide) cl_L_13 cas_IAE (hpc := 13) rfl (fun z5 q5 hz5 => ?_)
  refine g_astore (L' := [(4, .ref q5), (0, .ref (fO F)), (1, .int x), (2, .int y), (3, .ref qo)]) hX dL_nearest_13 (by decide) rfl ?_
  refine g_iconst (v := 1) hX dL_nearest_15 (by decide) ?_
  exact hF (some (.int 1)) _ z5 _ _ _ _ .ireturn (⟨rfl, rfl, hz5⟩) (by omega) (by omega) ret_i dL_nearest_16

set_option maxHeartbeats 1000000 in
set_option maxRecDepth 100000 in
theorem lh_count_no {l : Launch} (hl : l.stackTraces = false) {T : CT3} {D : va_G} {N : AH} {P : PS} {F : FS} (sz : Nat) (hwF : WfF P F) (y : Int32) (hy : isQ y = false) {qo : Nat} : CtH l T D yL_count cL_count 4 (some .int) [(0, 9, 12, 21)] 8 130 1 6 [.ref (fO F), .int y, .ref qo] (ov T (ovF T N F) P) sz (fun v M' z' => v = some (.int 1) ∧ M' = ov T (ovF T N F) P ∧ sz ≤ z') := by
  refine CtH.of hl (by decide) (Nat.le_of_ble_eq_true rfl) ?_
  intro X hl0 hT0 hD0 hlt hX hTh hF
  subst hl0; subst hT0; subst hD0
  show G X 4 (ov (cxT X) (ovF (cxT X) N F) P) sz 0 0 0 [(0, .ref (fO F)), (1, .int y), (2, .ref qo)] []
  refine g_aload_n hX dL_count_0 2 rfl ?_
  refine g_iconst (v := 0) hX dL_count_1 (by decide) ?_
  refine g_aload_n hX dL_count_2 0 rfl ?_
  refine g_iload_n hX dL_count_3 1 rfl ?_
  refine g_callX [.int 0, .ref qo] hX hTh (E0 := "java/lang/IndexOutOfBoundsException") (as := [.int y]) (cx_count_no hX.st sz hwF y hy) cw_X1_count cv_X1_count lk_L_39 (ci := 1) rfl rfl (ovF_o hwF) ⟨by omega, by omega⟩ ⟨by omega, by omega⟩ (Nat.le_of_ble_eq_true rfl) rfl dL_count_4 rfl rfl (by decide) (by decide) cl_L_21 cas_IOB (hpc := 12) rfl (fun z5 q5 hz5 => ?_)
  refine g_astore_n (L' := [(3, .ref q5), (0, .ref (fO F)), (1, .int y), (2, .ref qo)]) hX dL_count_12 (by decide) rfl ?_
  refine g_iconst (v := 1) hX dL_count_13 (by decide) ?_
  exact hF (some (.int 1)) _ z5 _ _ _ _ .ireturn (⟨rfl, rfl, hz5⟩) (by omega) (by omega) ret_i dL_count_14
