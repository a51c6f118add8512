theorem sr_X1_28 : Cond.stringRef RX1 28 "no such rectangle" ∈ lw_tbl := List.mem_append_right _ (List.mem_of_getElem? (i := 209) (by decide +kernel))

theorem sr_X1_39 : Cond.stringRef RX1 39 "there were 60 allotments" ∈ lw_tbl := List.mem_append_right _ (List.mem_of_getElem? (i := 245) (by decide +kernel))

theorem sr_X1_65 : Cond.stringRef RX1 65 "no such allotment" ∈ lw_tbl := List.mem_append_right _ (List.mem_of_getElem? (i := 347) (by decide +kernel))

theorem sr_X1_71 : Cond.stringRef RX1 71 "it was given up" ∈ lw_tbl := List.mem_append_right _ (List.mem_of_getElem? (i := 354) (by decide +kernel))

theorem sr_X1_94 : Cond.stringRef RX1 94 "no such allotment or question" ∈ lw_tbl := List.mem_append_right _ (List.mem_of_getElem? (i := 372) (by decide +kernel))

theorem sr_X1_100 : Cond.stringRef RX1 100 "no such allotment or step" ∈ lw_tbl := List.mem_append_right _ (List.mem_of_getElem? (i := 380) (by decide +kernel))

theorem sr_X1_115 : Cond.stringRef RX1 115 "no such square" ∈ lw_tbl := List.mem_append_right _ (List.mem_of_getElem? (i := 405) (by decide +kernel))

theorem sr_X1_124 : Cond.stringRef RX1 124 "no such question" ∈ lw_tbl := List.mem_append_right _ (List.mem_of_getElem? (i := 417) (by decide +kernel))

set_option maxHeartbeats 1000000 in
set_option maxRecDepth 100000 in
theorem cx_overlaps_no {l : Launch} (hl : l.stackTraces = false) {T : CT3} {D : va_G} {N : AH} {P : PS} {F : FS} (sz : Nat) (hwF : WfF P F) (x1 y1 x2 y2 : Int32) (hr : isR x1 y1 x2 y2 = false) : CtX l T D yX1_overlaps cX1_overlaps 5 (some .int) 6 82 1 6 [.ref (fO F), .int x1, .int y1, .int x2, .int y2] (ov T (ovF T N F) P) sz (fun v M' z' => False) (fun E => E = "java/lang/IllegalArgumentException") := by
  refine CtX.of hl (by decide) (Nat.le_of_ble_eq_true rfl) ?_
  intro X hl0 hT0 hD0 hlt hX hTh hF
  subst hl0; subst hT0; subst hD0
  show G X 5 (ov (cxT X) (ovF (cxT X) N F) P) sz 0 0 0 [(0, .ref (fO F)), (1, .int x1), (2, .int y1), (3, .int x2), (4, .int y2)] []
  refine g_iload_n hX dX1_overlaps_0 1 rfl ?_
  refine g_iload_n hX dX1_overlaps_1 2 rfl ?_
  refine g_iload_n hX dX1_overlaps_2 3 rfl ?_
  refine g_iload hX dX1_overlaps_3 4 rfl ?_
  refine g_callS [] hX (ct_isRectangle hX.st sz _ _ _ _) cw_X1_isRectangle stt_X1_isRectangle lk_X1_22 ⟨by omega, by omega⟩ ⟨by omega, by omega⟩ (Nat.le_of_ble_eq_true rfl) rfl dX1_overlaps_5 rfl (fun v5 M5 z5 hp5 hz5 hd5 => ?_)
  rw [show isR x1 y1 x2 y2 = false from hr] at hp5
  obtain ⟨rfl, rfl, rfl⟩ := hp5
  show G X _ (ov (cxT X) (ovF (cxT X) N F) P) sz (0 + 0) (0 + 0) 8 [(0, .ref (fO F)), (1, .int x1), (2, .int y1), (3, .int x2), (4, .int y2)] [.int 0]
  refine g_if_ne hX 21 dX1_overlaps_8 (by decide) (fun c8 => absurd (by decide) c8) (fun _ => ?_)
  exact g_throwS hX hTh rfl rfl (by decide +kernel) cl_X1_26 ini_java_lang_IllegalArgumentException sr_X1_28 at_IAE dX1_overlaps_11 dX1_overlaps_14 dX1_overlaps_15 dX1_overlaps_17 dX1_overlaps_20 (by omega) (by omega) (by omega) (by omega)

set_option maxHeartbeats 1000000 in
set_option maxRecDepth 100000 in
theorem cx_looks_no {l : Launch} (hl : l.stackTraces = false) {T : CT3} {D : va_G} {N : AH} {P : PS} {F : FS} (sz : Nat) (hwF : WfF P F) (x1 y1 x2 y2 : Int32) (hr : isR x1 y1 x2 y2 = false) : CtX l T D yX1_looks cX1_looks 5 (some .int) 6 82 1 6 [.ref (fO F), .int x1, .int y1, .int x2, .int y2] (ov T (ovF T N F) P) sz (fun v M' z' => False) (fun E => E = "java/lang/IllegalArgumentException") := by
  refine CtX.of hl (by decide) (Nat.le_of_ble_eq_true rfl) ?_
  intro X hl0 hT0 hD0 hlt hX hTh hF
  subst hl0; subst hT0; subst hD0
  show G X 5 (ov (cxT X) (ovF (cxT X) N F) P) sz 0 0 0 [(0, .ref (fO F)), (1, .int x1), (2, .int y1), (3, .int x2), (4, .int y2)] []
  refine g_iload_n hX dX1_looks_0 1 rfl ?_
  refine g_iload_n hX dX1_looks_1 2 rfl ?_
  refine g_iload_n hX dX1_looks_2 3 rfl ?_
  refine g_iload hX dX1_looks_3 4 rfl ?_
  refine g_callS [] hX (ct_isRectangle hX.st sz _ _ _ _) cw_X1_isRectangle stt_X1_isRectangle lk_X1_22 ⟨by omega, by omega⟩ ⟨by omega, by omega⟩ (Nat.le_of_ble_eq_true rfl) rfl dX1_looks_5 rfl (fun v5 M5 z5 hp5 hz5 hd5 => ?_)
  rw [show isR x1 y1 x2 y2 = false from hr] at hp5
  obtain ⟨rfl, rfl, rfl⟩ := hp5
  show G X _ (ov (cxT X) (ovF (cxT X) N F) P) sz (0 + 0) (0 + 0) 8 [(0, .ref (fO F)), (1, .int x1), (2, .int y1), (3, .int x2), (4, .int y2)] [.int 0]
  refine g_if_ne hX 21 dX1_looks_8 (by decide) (fun c8 => absurd (by decide) c8) (fun _ => ?_)
  exact g_throwS hX hTh rfl rfl (by decide +kernel) cl_X1_26 ini_java_lang_IllegalArgumentException sr_X1_28 at_IAE dX1_looks_11 dX1_looks_14 dX1_looks_15 dX1_looks_17 dX1_looks_20 (by omega) (by omega) (by omega) (by omega)

set_option maxHeartbeats 1000000 in
set_option maxRecDepth 100000 in
theorem cx_grows_no {l : Launch} (hl : l.stackTraces = false) {T : CT3} {D : va_G} {N : AH} {P : PS} {F : FS} (sz : Nat) (hwF : WfF P F) (x1 y1 x2 y2 : Int32) (hr : isR x1 y1 x2 y2 = false) : CtX l T D yX1_grows cX1_grows 8 (some .int) 6 82 1 6 [.ref (fO F), .int x1, .int y1, .int x2, .int y2] (ov T (ovF T N F) P) sz (fun v M' z' => False) (fun E => E = "java/lang/IllegalArgumentException") := by
  refine CtX.of hl (by decide) (Nat.le_of_ble_eq_true rfl) ?_
  intro X hl0 hT0 hD0 hlt hX hTh hF
  subst hl0; subst hT0; subst hD0
  show G X 8 (ov (cxT X) (ovF (cxT X) N F) P) sz 0 0 0 [(0, .ref (fO F)), (1, .int x1), (2, .int y1), (3, .int x2), (4, .int y2)] []
  refine g_iload_n hX dX1_grows_0 1 rfl ?_
  refine g_iload_n hX dX1_grows_1 2 rfl ?_
  refine g_iload_n hX dX1_grows_2 3 rfl ?_
  refine g_iload hX dX1_grows_3 4 rfl ?_
  refine g_callS [] hX (ct_isRectangle hX.st sz _ _ _ _) cw_X1_isRectangle stt_X1_isRectangle lk_X1_22 ⟨by omega, by omega⟩ ⟨by omega, by omega⟩ (Nat.le_of_ble_eq_true rfl) rfl dX1_grows_5 rfl (fun v5 M5 z5 hp5 hz5 hd5 => ?_)
  rw [show isR x1 y1 x2 y2 = false from hr] at hp5
  obtain ⟨rfl, rfl, rfl⟩ := hp5
  show G X _ (ov (cxT X) (ovF (cxT X) N F) P) sz (0 + 0) (0 + 0) 8 [(0, .ref (fO F)), (1, .int x1), (2, .int y1), (3, .int x2), (4, .int y2)] [.int 0]
  refine g_if_ne hX 21 dX1_grows_8 (by decide) (fun c8 => absurd (by decide) c8) (fun _ => ?_)
  exact g_throwS hX hTh rfl rfl (by decide +kernel) cl_X1_26 ini_java_lang_IllegalArgumentException sr_X1_28 at_IAE dX1_grows_11 dX1_grows_14 dX1_grows_15 dX1_grows_17 dX1_grows_20 (by omega) (by omega) (by omega) (by omega)

set_option maxHeartbeats 1000000 in
set_option maxRecDepth 100000 in
theorem cx_splits_no {l : Launch} (hl : l.stackTraces = false) {T : CT3} {D : va_G} {N : AH} {P : PS} {F : FS} (sz : Nat) (hwF : WfF P F) (x1 y1 x2 y2 : Int32) (hr : isR x1 y1 x2 y2 = false) : CtX l T D yX1_splits cX1_splits 7 (some .int) 6 82 1 6 [.ref (fO F), .int x1, .int y1, .int x2, .int y2] (ov T (ovF T N F) P) sz (fun v M' z' => False) (fun E => E = "java/lang/IllegalArgumentException") := by
  refine CtX.of hl (by decide) (Nat.le_of_ble_eq_true rfl) ?_
  intro X hl0 hT0 hD0 hlt hX hTh hF
  subst hl0; subst hT0; subst hD0
  show G X 7 (ov (cxT X) (ovF (cxT X) N F) P) sz 0 0 0 [(0, .ref (fO F)), (1, .int x1), (2, .int y1), (3, .int x2), (4, .int y2)] []
  refine g_iload_n hX dX1_splits_0 1 rfl ?_
  refine g_iload_n hX dX1_splits_1 2 rfl ?_
  refine g_iload_n hX dX1_splits_2 3 rfl ?_
  refine g_iload hX dX1_splits_3 4 rfl ?_
  refine g_callS [] hX (ct_isRectangle hX.st sz _ _ _ _) cw_X1_isRectangle stt_X1_isRectangle lk_X1_22 ⟨by omega, by omega⟩ ⟨by omega, by omega⟩ (Nat.le_of_ble_eq_true rfl) rfl dX1_splits_5 rfl (fun v5 M5 z5 hp5 hz5 hd5 => ?_)
  rw [show isR x1 y1 x2 y2 = false from hr] at hp5
  obtain ⟨rfl, rfl, rfl⟩ := hp5
  show G X _ (ov (cxT X) (ovF (cxT X) N F) P) sz (0 + 0) (0 + 0) 8 [(0, .ref (fO F)), (1, .int x1), (2, .int y1), (3, .int x2), (4, .int y2)] [.int 0]
  refine g_if_ne hX 21 dX1_splits_8 (by decide) (fun c8 => absurd (by decide) c8) (fun _ => ?_)
  exact g_throwS hX hTh rfl rfl (by decide +kernel) cl_X1_26 ini_java_lang_IllegalArgumentException sr_X1_28 at_IAE dX1_splits_11 dX1_splits_14 dX1_splits_15 dX1_splits_17 dX1_splits_20 (by omega) (by omega) (by omega) (by omega)

set_option maxHeartbeats 1000000 in
set_option maxRecDepth 100000 in
theorem cx_come_no1 {l : Launch} (hl : l.stackTraces = false) {T : CT3} {D : va_G} {N : AH} {P : PS} {F : FS} (sz : Nat) (hwF : WfF P F) (x1 y1 x2 y2 : Int32) (hr : isR x1 y1 x2 y2 = false) : CtX l T D yX1_come cX1_come 7 (some .int) 6 82 1 6 [.ref (fO F), .int x1, .int y1, .int x2, .int y2] (ov T (ovF T N F) P) sz (fun v M' z' => False) (fun E => E = "java/lang/IllegalArgumentException") := by
  refine CtX.of hl (by decide) (Nat.le_of_ble_eq_true rfl) ?_
  intro X hl0 hT0 hD0 hlt hX hTh hF
  subst hl0; subst hT0; subst hD0
  show G X 7 (ov (cxT X) (ovF (cxT X) N F) P) sz 0 0 0 [(0, .ref (fO F)), (1, .int x1), (2, .int y1), (3, .int x2), (4, .int y2)] []
  refine g_iload_n hX dX1_come_0 1 rfl ?_
  refine g_iload_n hX dX1_come_1 2 rfl ?_
  refine g_iload_n hX dX1_come_2 3 rfl ?_
  refine g_iload hX dX1_come_3 4 rfl ?_
  refine g_callS [] hX (ct_isRectangle hX.st sz _ _ _ _) cw_X1_isRectangle stt_X1_isRectangle lk_X1_22 ⟨by omega, by omega⟩ ⟨by omega, by omega⟩ (Nat.le_of_ble_eq_true rfl) rfl dX1_come_5 rfl (fun v5 M5 z5 hp5 hz5 hd5 => ?_)
  rw [show isR x1 y1 x2 y2 = false from hr] at hp5
  obtain ⟨rfl, rfl, rfl⟩ := hp5
  show G X _ (ov (cxT X) (ovF (cxT X) N F) P) sz (0 + 0) (0 + 0) 8 [(0, .ref (fO F)), (1, .int x1), (2, .int y1), (3, .int x2), (4, .int y2)] [.int 0]
  refine g_if_ne hX 21 dX1_come_8 (by decide) (fun c8 => absurd (by decide) c8) (fun _ => ?_)
  exact g_throwS hX hTh rfl rfl (by decide +kernel) cl_X1_26 ini_java_lang_IllegalArgumentException sr_X1_28 at_IAE dX1_come_11 dX1_come_14 dX1_come_15 dX1_come_17 dX1_come_20 (by omega) (by omega) (by omega) (by omega)

set_option maxHeartbeats 1000000 in
set_option maxRecDepth 100000 in
theorem cx_come_no2 {l : Launch} (hl : l.stackTraces = false) {T : CT3} {D : va_G} {N : AH} {P : PS} {F : FS} (sz : Nat) (hwF : WfF P F) (x1 y1 x2 y2 : Int32) (hr : isR x1 y1 x2 y2 = true) (hc : fC F = 60) : CtX l T D yX1_come cX1_come 7 (some .int) 6 82 1 6 [.ref (fO F), .int x1, .int y1, .int x2, .int y2] (ov T (ovF T N F) P) sz (fun v M' z' => False) (fun E => E = "java/lang/IllegalStateException") := by
  refine CtX.of hl (by decide) (Nat.le_of_ble_eq_true rfl) ?_
  intro X hl0 hT0 hD0 hlt hX hTh hF
  subst hl0; subst hT0; subst hD0
  show G X 7 (ov (cxT X) (ovF (cxT X) N F) P) sz 0 0 0 [(0, .ref (fO F)), (1, .int x1), (2, .int y1), (3, .int x2), (4, .int y2)] []
  refine g_iload_n hX dX1_come_0 1 rfl ?_
  refine g_iload_n hX dX1_come_1 2 rfl ?_
  refine g_iload_n hX dX1_come_2 3 rfl ?_
  refine g_iload hX dX1_come_3 4 rfl ?_
  refine g_callS [] hX (ct_isRectangle hX.st sz _ _ _ _) cw_X1_isRectangle stt_X1_isRectangle lk_X1_22 ⟨by omega, by omega⟩ ⟨by omega, by omega⟩ (Nat.le_of_ble_eq_true rfl) rfl dX1_come_5 rfl (fun v5 M5 z5 hp5 hz5 hd5 => ?_)
  rw [show isR x1 y1 x2 y2 = true from hr] at hp5
  obtain ⟨rfl, rfl, rfl⟩ := hp5
  show G X _ (ov (cxT X) (ovF (cxT X) N F) P) sz (0 + 0) (0 + 0) 8 [(0, .ref (fO F)), (1, .int x1), (2, .int y1), (3, .int x2), (4, .int y2)] [.int 1]
  refine g_if_ne hX 21 dX1_come_8 (by decide) (fun _ => ?_) (fun c8 => absurd c8 (by decide))
  refine g_aload_n hX dX1_come_21 0 rfl ?_
  refine g_get (ci := 1) hX rfl fin_X1 (ovF_o hwF) 1 (by decide) fl_X1_33 rfl dX1_come_22 ?_
  refine g_if_lt hX 40 dX1_come_25 (by decide) (fun c25 => absurd c25 (by rw [hc]; decide)) (fun _ => ?_)
  refine g_aload_n hX dX1_come_28 0 rfl ?_
  refine g_get (ci := 1) hX rfl fin_X1 (ovF_o hwF) 1 (by decide) fl_X1_33 rfl dX1_come_29 ?_
  refine g_aload_n hX dX1_come_32 0 rfl ?_
  refine g_get (ci := 1) hX rfl fin_X1 (ovF_o hwF) 0 (by decide) fl_X1_11 rfl dX1_come_33 ?_
  refine g_alen hX (ovF_a hwF) dX1_come_36 ?_
  refine g_icmp_lt hX 50 dX1_come_37 (by decide) (fun c37 => absurd c37 (by rw [hc]; decide)) (fun _ => ?_)
  exact g_throwS hX hTh rfl rfl (by decide +kernel) cl_X1_37 ini_java_lang_IllegalStateException sr_X1_39 at_ISE dX1_come_40 dX1_come_43 dX1_come_44 dX1_come_46 dX1_come_49 (by omega) (by omega) (by omega) (by omega)

set_option maxHeartbeats 1000000 in
set_option maxRecDepth 100000 in
theorem cx_go_no1 {l : Launch} (hl : l.stackTraces = false) {T : CT3} {D : va_G} {N : AH} {P : PS} {F : FS} (sz : Nat) (hwF : WfF P F) (hal : Alok P F) (x : Int32) (ha : alI F x = none) : CtX l T D yX1_go cX1_go 4 (some .int) 6 82 1 6 [.ref (fO F), .int x] (ov T (ovF T N F) P) sz (fun v M' z' => False) (fun E => E = "java/lang/IndexOutOfBoundsException") := by
  refine CtX.of hl (by decide) (Nat.le_of_ble_eq_true rfl) ?_
  intro X hl0 hT0 hD0 hlt hX hTh hF
  subst hl0; subst hT0; subst hD0
  show G X 4 (ov (cxT X) (ovF (cxT X) N F) P) sz 0 0 0 [(0, .ref (fO F)), (1, .int x)] []
  refine g_aload_n hX dX1_go_0 0 rfl ?_
  refine g_iload_n hX dX1_go_1 1 rfl ?_
  refine g_callV [] hX (ct_aon hX.st sz hwF hal x) cw_X1_allotmentOrNull cv_X1_allotmentOrNull lk_X1_59 (ci := 1) rfl rfl (ovF_o hwF) ⟨by omega, by omega⟩ ⟨by omega, by omega⟩ (Nat.le_of_ble_eq_true rfl) rfl dX1_go_2 rfl (fun v2 M2 z2 hp2 hz2 hd2 => ?_)
  rw [ha] at hp2
  obtain ⟨rfl, rfl, rfl⟩ := hp2
  show G X _ (ov (cxT X) (ovF (cxT X) N F) P) sz (0 + 0) (0 + 0) 5 [(0, .ref (fO F)), (1, .int x)] [.null]
  refine g_astore_nN (L' := [(2, .null), (0, .ref (fO F)), (1, .int x)]) hX dX1_go_5 (by decide) rfl ?_
  refine g_aload_nN hX dX1_go_6 0 rfl ?_
  refine g_ifnonnullN hX dX1_go_7 ?_
  exact g_throwS hX hTh rfl rfl (by decide +kernel) cl_X1_63 ini_java_lang_IndexOutOfBoundsException sr_X1_65 at_IOB dX1_go_10 dX1_go_13 dX1_go_14 dX1_go_16 dX1_go_19 (by omega) (by omega) (by omega) (by omega)

set_option maxHeartbeats 1000000 in
set_option maxRecDepth 100000 in
theorem cx_go_no2 {l : Launch} (hl : l.stackTraces = false) {T : CT3} {D : va_G} {N : AH} {P : PS} {F : FS} (sz : Nat) (hwF : WfF P F) (hal : Alok P F) (x : Int32) {g : Nat} (ha : alI F x = some g) (hg : pD P g = true) (hh : pH P g = none) : CtX l T D yX1_go cX1_go 4 (some .int) 6 82 1 6 [.ref (fO F), .int x] (ov T (ovF T N F) P) sz (fun v M' z' => False) (fun E => E = "java/lang/IllegalStateException") := by
  refine CtX.of hl (by decide) (Nat.le_of_ble_eq_true rfl) ?_
  intro X hl0 hT0 hD0 hlt hX hTh hF
  subst hl0; subst hT0; subst hD0
  show G X 4 (ov (cxT X) (ovF (cxT X) N F) P) sz 0 0 0 [(0, .ref (fO F)), (1, .int x)] []
  refine g_aload_n hX dX1_go_0 0 rfl ?_
  refine g_iload_n hX dX1_go_1 1 rfl ?_
  refine g_callV [] hX (ct_aon hX.st sz hwF hal x) cw_X1_allotmentOrNull cv_X1_allotmentOrNull lk_X1_59 (ci := 1) rfl rfl (ovF_o hwF) ⟨by omega, by omega⟩ ⟨by omega, by omega⟩ (Nat.le_of_ble_eq_true rfl) rfl dX1_go_2 rfl (fun v2 M2 z2 hp2 hz2 hd2 => ?_)
  rw [ha] at hp2
  obtain ⟨rfl, rfl, rfl⟩ := hp2
  show G X _ (ov (cxT X) (ovF (cxT X) N F) P) sz (0 + 0) (0 + 0) 5 [(0, .ref (fO F)), (1, .int x)] [.ref g]
  refine g_astore_n (L' := [(2, .ref g), (0, .ref (fO F)), (1, .int x)]) hX dX1_go_5 (by decide) rfl ?_
  refine g_aload_n hX dX1_go_6 0 rfl ?_
  refine g_ifnonnullR hX 20 dX1_go_7 (by decide) ?_
  refine g_aload_n hX dX1_go_20 0 rfl ?_
  refine g_getN (ci := 0) hX rfl fin_X0 (ov_pc (P := P) hg) 4 (by decide) fn_X1_68 rfl dX1_go_21 ?_
  rw [hh]
  show G X _ (ov (cxT X) (ovF (cxT X) N F) P) sz (0 + 0) (0 + 0) 24 [(2, .ref g), (0, .ref (fO F)), (1, .int x)] [.null]
  refine g_astore_nN (L' := [(3, .null), (2, .ref g), (0, .ref (fO F)), (1, .int x)]) hX dX1_go_24 (by decide) rfl ?_
  refine g_aload_nN hX dX1_go_25 0 rfl ?_
  refine g_ifnonnullN hX dX1_go_26 ?_
  exact g_throwS hX hTh rfl rfl (by decide +kernel) cl_X1_37 ini_java_lang_IllegalStateException sr_X1_71 at_ISE dX1_go_29 dX1_go_32 dX1_go_33 dX1_go_35 dX1_go_38 (by omega) (by omega) (by omega) (by omega)

set_option maxHeartbeats 1000000 in
set_option maxRecDepth 100000 in
theorem cx_told_no1 {l : Launch} (hl : l.stackTraces = false) {T : CT3} {D : va_G} {N : AH} {P : PS} {F : FS} (sz : Nat) (hwF : WfF P F) (hal : Alok P F) (x y : Int32) (ha : alI F x = none) : CtX l T D yX1_told cX1_told 4 (some .int) 6 82 1 6 [.ref (fO F), .int x, .int y] (ov T (ovF T N F) P) sz (fun v M' z' => False) (fun E => E = "java/lang/IndexOutOfBoundsException") := by
  refine CtX.of hl (by decide) (Nat.le_of_ble_eq_true rfl) ?_
  intro X hl0 hT0 hD0 hlt hX hTh hF
  subst hl0; subst hT0; subst hD0
  show G X 4 (ov (cxT X) (ovF (cxT X) N F) P) sz 0 0 0 [(0, .ref (fO F)), (1, .int x), (2, .int y)] []
  refine g_aload_n hX dX1_told_0 0 rfl ?_
  refine g_iload_n hX dX1_told_1 1 rfl ?_
  refine g_callV [] hX (ct_aon hX.st sz hwF hal x) cw_X1_allotmentOrNull cv_X1_allotmentOrNull lk_X1_59 (ci := 1) rfl rfl (ovF_o hwF) ⟨by omega, by omega⟩ ⟨by omega, by omega⟩ (Nat.le_of_ble_eq_true rfl) rfl dX1_told_2 rfl (fun v2 M2 z2 hp2 hz2 hd2 => ?_)
  rw [ha] at hp2
  obtain ⟨rfl, rfl, rfl⟩ := hp2
  show G X _ (ov (cxT X) (ovF (cxT X) N F) P) sz (0 + 0) (0 + 0) 5 [(0, .ref (fO F)), (1, .int x), (2, .int y)] [.null]
  refine g_astore_nN (L' := [(3, .null), (0, .ref (fO F)), (1, .int x), (2, .int y)]) hX dX1_told_5 (by decide) rfl ?_
  refine g_aload_nN hX dX1_told_6 0 rfl ?_
  refine g_ifnullN hX 17 dX1_told_7 (by decide) ?_
  exact g_throwS hX hTh rfl rfl (by decide +kernel) cl_X1_63 ini_java_lang_IndexOutOfBoundsException sr_X1_94 at_IOB dX1_told_17 dX1_told_20 dX1_told_21 dX1_told_23 dX1_told_26 (by omega) (by omega) (by omega) (by omega)

set_option maxHeartbeats 1000000 in
set_option maxRecDepth 100000 in
theorem cx_way_no1 {l : Launch} (hl : l.stackTraces = false) {T : CT3} {D : va_G} {N : AH} {P : PS} {F : FS} (sz : Nat) (hwF : WfF P F) (hal : Alok P F) (x y : Int32) (ha : alI F x = none) : CtX l T D yX1_way cX1_way 6 (some .int) 6 82 1 6 [.ref (fO F), .int x, .int y] (ov T (ovF T N F) P) sz (fun v M' z' => False) (fun E => E = "java/lang/IndexOutOfBoundsException") := by
  refine CtX.of hl (by decide) (Nat.le_of_ble_eq_true rfl) ?_
  intro X hl0 hT0 hD0 hlt hX hTh hF
  subst hl0; subst hT0; subst hD0
  show G X 6 (ov (cxT X) (ovF (cxT X) N F) P) sz 0 0 0 [(0, .ref (fO F)), (1, .int x), (2, .int y)] []
  refine g_aload_n hX dX1_way_0 0 rfl ?_
  refine g_iload_n hX dX1_way_1 1 rfl ?_
  refine g_callV [] hX (ct_aon hX.st sz hwF hal x) cw_X1_allotmentOrNull cv_X1_allotmentOrNull lk_X1_59 (ci := 1) rfl rfl (ovF_o hwF) ⟨by omega, by omega⟩ ⟨by omega, by omega⟩ (Nat.le_of_ble_eq_true rfl) rfl dX1_way_2 rfl (fun v2 M2 z2 hp2 hz2 hd2 => ?_)
  rw [ha] at hp2
  obtain ⟨rfl, rfl, rfl⟩ := hp2
  show G X _ (ov (cxT X) (ovF (cxT X) N F) P) sz (0 + 0) (0 + 0) 5 [(0, .ref (fO F)), (1, .int x), (2, .int y)] [.null]
  refine g_astore_nN (L' := [(3, .null), (0, .ref (fO F)), (1, .int x), (2, .int y)]) hX dX1_way_5 (by decide) rfl ?_
  refine g_aload_nN hX dX1_way_6 0 rfl ?_
  refine g_ifnullN hX 14 dX1_way_7 (by decide) ?_
  exact g_throwS hX hTh rfl rfl (by decide +kernel) cl_X1_63 ini_java_lang_IndexOutOfBoundsException sr_X1_100 at_IOB dX1_way_14 dX1_way_17 dX1_way_18 dX1_way_20 dX1_way_23 (by omega) (by omega) (by omega) (by omega)

set_option maxHeartbeats 1000000 in
set_option maxRecDepth 100000 in
theorem cx_told_no2 {l : Launch} (hl : l.stackTraces = false) {T : CT3} {D : va_G} {N : AH} {P : PS} {F : FS} (sz : Nat) (hwF : WfF P F) (hal : Alok P F) (x y : Int32) {g : Nat} (ha : alI F x = some g) (hy : isQ y = false) : CtX l T D yX1_told cX1_told 4 (some .int) 6 82 1 6 [.ref (fO F), .int x, .int y] (ov T (ovF T N F) P) sz (fun v M' z' => False) (fun E => E = "java/lang/IndexOutOfBoundsException") := by
  refine CtX.of hl (by decide) (Nat.le_of_ble_eq_true rfl) ?_
  intro X hl0 hT0 hD0 hlt hX hTh hF
  subst hl0; subst hT0; subst hD0
  show G X 4 (ov (cxT X) (ovF (cxT X) N F) P) sz 0 0 0 [(0, .ref (fO F)), (1, .int x), (2, .int y)] []
  refine g_aload_n hX dX1_told_0 0 rfl ?_
  refine g_iload_n hX dX1_told_1 1 rfl ?_
  refine g_callV [] hX (ct_aon hX.st sz hwF hal x) cw_X1_allotmentOrNull cv_X1_allotmentOrNull lk_X1_59 (ci := 1) rfl rfl (ovF_o hwF) ⟨by omega, by omega⟩ ⟨by omega, by omega⟩ (Nat.le_of_ble_eq_true rfl) rfl dX1_told_2 rfl (fun v2 M2 z2 hp2 hz2 hd2 => ?_)
  rw [ha] at hp2
  obtain ⟨rfl, rfl, rfl⟩ := hp2
  show G X _ (ov (cxT X) (ovF (cxT X) N F) P) sz (0 + 0) (0 + 0) 5 [(0, .ref (fO F)), (1, .int x), (2, .int y)] [.ref g]
  refine g_astore_n (L' := [(3, .ref g), (0, .ref (fO F)), (1, .int x), (2, .int y)]) hX dX1_told_5 (by decide) rfl ?_
  refine g_aload_n hX dX1_told_6 0 rfl ?_
  refine g_ifnullR hX dX1_told_7 ?_
  refine g_iload_n hX dX1_told_10 3 rfl ?_
  refine g_callS [] hX (ct_isQuestion hX.st sz y) cw_X1_isQuestion stt_X1_isQuestion lk_X1_90 ⟨by omega, by omega⟩ ⟨by omega, by omega⟩ (Nat.le_of_ble_eq_true rfl) rfl dX1_told_11 rfl (fun v11 M11 z11 hp11 hz11 hd11 => ?_)
  rw [hy] at hp11
  obtain ⟨rfl, rfl, rfl⟩ := hp11
  show G X _ (ov (cxT X) (ovF (cxT X) N F) P) sz ((0 + 0) + 0) ((0 + 0) + 0) 14 [(3, .ref g), (0, .ref (fO F)), (1, .int x), (2, .int y)] [.int 0]
  refine g_if_ne hX 27 dX1_told_14 (by decide) (fun c14 => absurd (by decide) c14) (fun _ => ?_)
  exact g_throwS hX hTh rfl rfl (by decide +kernel) cl_X1_63 ini_java_lang_IndexOutOfBoundsException sr_X1_94 at_IOB dX1_told_17 dX1_told_20 dX1_told_21 dX1_told_23 dX1_told_26 (by omega) (by omega) (by omega) (by omega)

set_option maxHeartbeats 1000000 in
set_option maxRecDepth 100000 in
theorem cx_way_no2 {l : Launch} (hl : l.stackTraces = false) {T : CT3} {D : va_G} {N : AH} {P : PS} {F : FS} (sz : Nat) (hwF : WfF P F) (hal : Alok P F) (x y : Int32) {g : Nat} (ha : alI F x = some g) (hy : y < 0) : CtX l T D yX1_way cX1_way 6 (some .int) 6 82 1 6 [.ref (fO F), .int x, .int y] (ov T (ovF T N F) P) sz (fun v M' z' => False) (fun E => E = "java/lang/IndexOutOfBoundsException") := by
  refine CtX.of hl (by decide) (Nat.le_of_ble_eq_true rfl) ?_
  intro X hl0 hT0 hD0 hlt hX hTh hF
  subst hl0; subst hT0; subst hD0
  show G X 6 (ov (cxT X) (ovF (cxT X) N F) P) sz 0 0 0 [(0, .ref (fO F)), (1, .int x), (2, .int y)] []
  refine g_aload_n hX dX1_way_0 0 rfl ?_
  refine g_iload_n hX dX1_way_1 1 rfl ?_
  refine g_callV [] hX (ct_aon hX.st sz hwF hal x) cw_X1_allotmentOrNull cv_X1_allotmentOrNull lk_X1_59 (ci := 1) rfl rfl (ovF_o hwF) ⟨by omega, by omega⟩ ⟨by omega, by omega⟩ (Nat.le_of_ble_eq_true rfl) rfl dX1_way_2 rfl (fun v2 M2 z2 hp2 hz2 hd2 => ?_)
  rw [ha] at hp2
  obtain ⟨rfl, rfl, rfl⟩ := hp2
  show G X _ (ov (cxT X) (ovF (cxT X) N F) P) sz (0 + 0) (0 + 0) 5 [(0, .ref (fO F)), (1, .int x), (2, .int y)] [.ref g]
  refine g_astore_n (L' := [(3, .ref g), (0, .ref (fO F)), (1, .int x), (2, .int y)]) hX dX1_way_5 (by decide) rfl ?_
  refine g_aload_n hX dX1_way_6 0 rfl ?_
  refine g_ifnullR hX dX1_way_7 ?_
  refine g_iload_n hX dX1_way_10 3 rfl ?_
  refine g_if_ge hX 24 dX1_way_11 (by decide) (fun c11 => absurd c11 (Int32.not_le.mpr hy)) (fun _ => ?_)
  exact g_throwS hX hTh rfl rfl (by decide +kernel) cl_X1_63 ini_java_lang_IndexOutOfBoundsException sr_X1_100 at_IOB dX1_way_14 dX1_way_17 dX1_way_18 dX1_way_20 dX1_way_23 (by omega) (by omega) (by omega) (by omega)

set_option maxHeartbeats 1000000 in
set_option maxRecDepth 100000 in
theorem cx_count_no {l : Launch} (hl : l.stackTraces = false) {T : CT3} {D : va_G} {N : AH} {P : PS} {F : FS} (sz : Nat) (hwF : WfF P F) (y : Int32) (hy : isQ y = false) : CtX l T D yX1_count cX1_count 2 (some .int) 6 82 1 6 [.ref (fO F), .int y] (ov T (ovF T N F) P) sz (fun v M' z' => False) (fun E => E = "java/lang/IndexOutOfBoundsException") := by
  refine CtX.of hl (by decide) (Nat.le_of_ble_eq_true rfl) ?_
  intro X hl0 hT0 hD0 hlt hX hTh hF
  subst hl0; subst hT0; subst hD0
  show G X 2 (ov (cxT X) (ovF (cxT X) N F) P) sz 0 0 0 [(0, .ref (fO F)), (1, .int y)] []
  refine g_iload_n hX dX1_count_0 1 rfl ?_
  refine g_callS [] hX (ct_isQuestion hX.st sz y) cw_X1_isQuestion stt_X1_isQuestion lk_X1_90 ⟨by omega, by omega⟩ ⟨by omega, by omega⟩ (Nat.le_of_ble_eq_true rfl) rfl dX1_count_1 rfl (fun v1 M1 z1 hp1 hz1 hd1 => ?_)
  rw [hy] at hp1
  obtain ⟨rfl, rfl, rfl⟩ := hp1
  show G X _ (ov (cxT X) (ovF (cxT X) N F) P) sz (0 + 0) (0 + 0) 4 [(0, .ref (fO F)), (1, .int y)] [.int 0]
  refine g_if_ne hX 17 dX1_count_4 (by decide) (fun c4 => absurd (by decide) c4) (fun _ => ?_)
  exact g_throwS hX hTh rfl rfl (by decide +kernel) cl_X1_63 ini_java_lang_IndexOutOfBoundsException sr_X1_124 at_IOB dX1_count_7 dX1_count_10 dX1_count_11 dX1_count_13 dX1_count_16 (by omega) (by omega) (by omega) (by omega)

set_option maxHeartbeats 1000000 in
set_option maxRecDepth 100000 in
theorem cx_nearest_no {l : Launch} (hl : l.stackTraces = false) {T : CT3} {D : va_G} {N : AH} {P : PS} {F : FS} (sz : Nat) (hwF : WfF P F) (x y : Int32) (hr : isR x y x y = false) : CtX l T D yX1_nearest cX1_nearest 6 (some .int) 6 82 1 6 [.ref (fO F), .int x, .int y] (ov T (ovF T N F) P) sz (fun v M' z' => False) (fun E => E = "java/lang/IllegalArgumentException") := by
  refine CtX.of hl (by decide) (Nat.le_of_ble_eq_true rfl) ?_
  intro X hl0 hT0 hD0 hlt hX hTh hF
  subst hl0; subst hT0; subst hD0
  show G X 6 (ov (cxT X) (ovF (cxT X) N F) P) sz 0 0 0 [(0, .ref (fO F)), (1, .int x), (2, .int y)] []
  refine g_iload_n hX dX1_nearest_0 1 rfl ?_
  refine g_if_lt hX 20 dX1_nearest_1 (by decide) (fun c1 => ?_) (fun c1 => ?_)
  · skip
    exact g_throwS hX hTh rfl rfl (by decide +kernel) cl_X1_26 ini_java_lang_IllegalArgumentException sr_X1_115 at_IAE dX1_nearest_20 dX1_nearest_23 dX1_nearest_24 dX1_nearest_26 dX1_nearest_29 (by omega) (by omega) (by omega) (by omega)
  · skip
    refine g_iload_n hX dX1_nearest_4 2 rfl ?_
    refine g_if_lt hX 20 dX1_nearest_5 (by decide) (fun c5 => ?_) (fun c5 => ?_)
    · skip
      exact g_throwS hX hTh rfl rfl (by decide +kernel) cl_X1_26 ini_java_lang_IllegalArgumentException sr_X1_115 at_IAE dX1_nearest_20 dX1_nearest_23 dX1_nearest_24 dX1_nearest_26 dX1_nearest_29 (by omega) (by omega) (by omega) (by omega)
    · skip
      refine g_iload_n hX dX1_nearest_8 1 rfl ?_
      refine g_bipush (v := 99) hX dX1_nearest_9 (by decide) ?_
      refine g_icmp_gt hX 20 dX1_nearest_11 (by decide) (fun c11 => ?_) (fun c11 => ?_)
      · skip
        exact g_throwS hX hTh rfl rfl (by decide +kernel) cl_X1_26 ini_java_lang_IllegalArgumentException sr_X1_115 at_IAE dX1_nearest_20 dX1_nearest_23 dX1_nearest_24 dX1_nearest_26 dX1_nearest_29 (by omega) (by omega) (by omega) (by omega)
      · skip
        refine g_iload_n hX dX1_nearest_14 2 rfl ?_
        refine g_bipush (v := 99) hX dX1_nearest_15 (by decide) ?_
        refine g_icmp_le hX 30 dX1_nearest_17 (by decide) (fun c17 => ?_) (fun c17 => ?_)
        · skip
          exact absurd (isR_t c1 c5 c11 (Int32.not_lt.mpr c17) Int32.lt_irrefl Int32.lt_irrefl) (by rw [hr]; decide)
        · skip
          exact g_throwS hX hTh rfl rfl (by decide +kernel) cl_X1_26 ini_java_lang_IllegalArgumentException sr_X1_115 at_IAE dX1_nearest_20 dX1_nearest_23 dX1_nearest_24 dX1_nearest_26 dX1_nearest_29 (by omega) (by omega) (by omega) (by omega)
