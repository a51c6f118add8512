set_option maxHeartbeats 4000000 in
set_option maxRecDepth 100000 in
theorem cr_overlaps_no {l : Launch} (hl : l.stackTraces = false) {T : CT3} {D : va_G} {N : AH} {o : Nat} {S : RS} (sz : Nat) (x1 y1 x2 y2 : Int32) (hr : isR x1 y1 x2 y2 = false) : Ct l T D yX2_overlaps cX2_overlaps 5 (some .int) 1 30 0 0 [.ref o, .int x1, .int y1, .int x2, .int y2] (ovR T N o S) sz (fun v M' z' => v = some (.int 0) ∧ M' = ovR T N o (uC (uC S 0 0) 0 1) ∧ sz = z') := by
  refine Ct.ofX hl (by decide) (Nat.le_of_ble_eq_true rfl) ?_
  intro X hl0 hT0 hD0 hlt hX hF
  subst hl0; subst hT0; subst hD0
  show G X 5 (ovR (cxT X) N o S) sz 0 0 0 [(0, .ref o), (1, .int x1), (2, .int y1), (3, .int x2), (4, .int y2)] []
  refine g_aload_n hX dX2_overlaps_0 0 rfl ?_
  refine g_iconst (v := 0) hX dX2_overlaps_1 (by decide) ?_
  refine g_put (ci := 2) hX rfl fld_X2 (ovR_o (S := S)) 0 (by decide) fl_X2_38 rfl rfl rfl (Nat.le_of_ble_eq_true rfl) dX2_overlaps_2 ?_
  refine g_eqM (ovR_uC0 0 rfl) ?_
  refine g_iload_n hX dX2_overlaps_5 1 rfl ?_
  refine g_iload_n hX dX2_overlaps_6 2 rfl ?_
  refine g_iload_n hX dX2_overlaps_7 3 rfl ?_
  refine g_iload hX dX2_overlaps_8 4 rfl ?_
  refine g_callS [] hX (cr_isRect hX.st sz _ _ _ _) cw_X2_isRect stt_X2_isRect lk_X2_100 ⟨by omega, by omega⟩ ⟨by omega, by omega⟩ (Nat.le_of_ble_eq_true rfl) rfl dX2_overlaps_10 rfl (fun v10 M10 z10 hp10 hz10 hd10 => ?_)
  rw [show isR x1 y1 x2 y2 = false from hr] at hp10
  obtain ⟨rfl, rfl, rfl⟩ := hp10
  show G X _ (ovR (cxT X) N o (uC S 0 0)) sz (0 + 0) (0 + 0) 13 [(0, .ref o), (1, .int x1), (2, .int y1), (3, .int x2), (4, .int y2)] [.int 0]
  refine g_if_ne hX 22 dX2_overlaps_13 (by decide) (fun c13 => absurd (by decide) c13) (fun _ => ?_)
  refine g_aload_n hX dX2_overlaps_16 0 rfl ?_
  refine g_iconst (v := 1) hX dX2_overlaps_17 (by decide) ?_
  refine g_callV [] hX (cr_no hX.st sz (S := uC S 0 0) 1) cw_X2_no cv_X2_no lk_X2_103 (ci := 2) rfl rfl ovR_o ⟨by omega, by omega⟩ ⟨by omega, by omega⟩ (Nat.le_of_ble_eq_true rfl) rfl dX2_overlaps_18 rfl (fun v18 M18 z18 hp18 hz18 hd18 => ?_)
  obtain ⟨rfl, rfl, rfl⟩ := hp18
  show G X _ (ovR (cxT X) N o (uC (uC S 0 0) 0 1)) sz ((0 + 0) + 0) ((0 + 0) + 0) 21 [(0, .ref o), (1, .int x1), (2, .int y1), (3, .int x2), (4, .int y2)] [.int 0]
  exact hF (some (.int 0)) (ovR (cxT X) N o (uC (uC S 0 0) 0 1)) sz _ _ _ _ .ireturn (⟨rfl, rfl, rfl⟩) (by omega) (by omega) ret_i dX2_overlaps_21

set_option maxHeartbeats 4000000 in
set_option maxRecDepth 100000 in
theorem cr_looks_no {l : Launch} (hl : l.stackTraces = false) {T : CT3} {D : va_G} {N : AH} {o : Nat} {S : RS} (sz : Nat) (x1 y1 x2 y2 : Int32) (hr : isR x1 y1 x2 y2 = false) : Ct l T D yX2_looks cX2_looks 5 (some .int) 1 30 0 0 [.ref o, .int x1, .int y1, .int x2, .int y2] (ovR T N o S) sz (fun v M' z' => v = some (.int 0) ∧ M' = ovR T N o (uC (uC S 0 0) 0 1) ∧ sz = z') := by
  refine Ct.ofX hl (by decide) (Nat.le_of_ble_eq_true rfl) ?_
  intro X hl0 hT0 hD0 hlt hX hF
  subst hl0; subst hT0; subst hD0
  show G X 5 (ovR (cxT X) N o S) sz 0 0 0 [(0, .ref o), (1, .int x1), (2, .int y1), (3, .int x2), (4, .int y2)] []
  refine g_aload_n hX dX2_looks_0 0 rfl ?_
  refine g_iconst (v := 0) hX dX2_looks_1 (by decide) ?_
  refine g_put (ci := 2) hX rfl fld_X2 (ovR_o (S := S)) 0 (by decide) fl_X2_38 rfl rfl rfl (Nat.le_of_ble_eq_true rfl) dX2_looks_2 ?_
  refine g_eqM (ovR_uC0 0 rfl) ?_
  refine g_iload_n hX dX2_looks_5 1 rfl ?_
  refine g_iload_n hX dX2_looks_6 2 rfl ?_
  refine g_iload_n hX dX2_looks_7 3 rfl ?_
  refine g_iload hX dX2_looks_8 4 rfl ?_
  refine g_callS [] hX (cr_isRect hX.st sz _ _ _ _) cw_X2_isRect stt_X2_isRect lk_X2_100 ⟨by omega, by omega⟩ ⟨by omega, by omega⟩ (Nat.le_of_ble_eq_true rfl) rfl dX2_looks_10 rfl (fun v10 M10 z10 hp10 hz10 hd10 => ?_)
  rw [show isR x1 y1 x2 y2 = false from hr] at hp10
  obtain ⟨rfl, rfl, rfl⟩ := hp10
  show G X _ (ovR (cxT X) N o (uC S 0 0)) sz (0 + 0) (0 + 0) 13 [(0, .ref o), (1, .int x1), (2, .int y1), (3, .int x2), (4, .int y2)] [.int 0]
  refine g_if_ne hX 22 dX2_looks_13 (by decide) (fun c13 => absurd (by decide) c13) (fun _ => ?_)
  refine g_aload_n hX dX2_looks_16 0 rfl ?_
  refine g_iconst (v := 1) hX dX2_looks_17 (by decide) ?_
  refine g_callV [] hX (cr_no hX.st sz (S := uC S 0 0) 1) cw_X2_no cv_X2_no lk_X2_103 (ci := 2) rfl rfl ovR_o ⟨by omega, by omega⟩ ⟨by omega, by omega⟩ (Nat.le_of_ble_eq_true rfl) rfl dX2_looks_18 rfl (fun v18 M18 z18 hp18 hz18 hd18 => ?_)
  obtain ⟨rfl, rfl, rfl⟩ := hp18
  show G X _ (ovR (cxT X) N o (uC (uC S 0 0) 0 1)) sz ((0 + 0) + 0) ((0 + 0) + 0) 21 [(0, .ref o), (1, .int x1), (2, .int y1), (3, .int x2), (4, .int y2)] [.int 0]
  exact hF (some (.int 0)) (ovR (cxT X) N o (uC (uC S 0 0) 0 1)) sz _ _ _ _ .ireturn (⟨rfl, rfl, rfl⟩) (by omega) (by omega) ret_i dX2_looks_21

set_option maxHeartbeats 4000000 in
set_option maxRecDepth 100000 in
theorem cr_grows_no {l : Launch} (hl : l.stackTraces = false) {T : CT3} {D : va_G} {N : AH} {o : Nat} {S : RS} (sz : Nat) (x1 y1 x2 y2 : Int32) (hr : isR x1 y1 x2 y2 = false) : Ct l T D yX2_grows cX2_grows 7 (some .int) 1 30 0 0 [.ref o, .int x1, .int y1, .int x2, .int y2] (ovR T N o S) sz (fun v M' z' => v = some (.int 0) ∧ M' = ovR T N o (uC (uC S 0 0) 0 1) ∧ sz = z') := by
  refine Ct.ofX hl (by decide) (Nat.le_of_ble_eq_true rfl) ?_
  intro X hl0 hT0 hD0 hlt hX hF
  subst hl0; subst hT0; subst hD0
  show G X 7 (ovR (cxT X) N o S) sz 0 0 0 [(0, .ref o), (1, .int x1), (2, .int y1), (3, .int x2), (4, .int y2)] []
  refine g_aload_n hX dX2_grows_0 0 rfl ?_
  refine g_iconst (v := 0) hX dX2_grows_1 (by decide) ?_
  refine g_put (ci := 2) hX rfl fld_X2 (ovR_o (S := S)) 0 (by decide) fl_X2_38 rfl rfl rfl (Nat.le_of_ble_eq_true rfl) dX2_grows_2 ?_
  refine g_eqM (ovR_uC0 0 rfl) ?_
  refine g_iload_n hX dX2_grows_5 1 rfl ?_
  refine g_iload_n hX dX2_grows_6 2 rfl ?_
  refine g_iload_n hX dX2_grows_7 3 rfl ?_
  refine g_iload hX dX2_grows_8 4 rfl ?_
  refine g_callS [] hX (cr_isRect hX.st sz _ _ _ _) cw_X2_isRect stt_X2_isRect lk_X2_100 ⟨by omega, by omega⟩ ⟨by omega, by omega⟩ (Nat.le_of_ble_eq_true rfl) rfl dX2_grows_10 rfl (fun v10 M10 z10 hp10 hz10 hd10 => ?_)
  rw [show isR x1 y1 x2 y2 = false from hr] at hp10
  obtain ⟨rfl, rfl, rfl⟩ := hp10
  show G X _ (ovR (cxT X) N o (uC S 0 0)) sz (0 + 0) (0 + 0) 13 [(0, .ref o), (1, .int x1), (2, .int y1), (3, .int x2), (4, .int y2)] [.int 0]
  refine g_if_ne hX 22 dX2_grows_13 (by decide) (fun c13 => absurd (by decide) c13) (fun _ => ?_)
  refine g_aload_n hX dX2_grows_16 0 rfl ?_
  refine g_iconst (v := 1) hX dX2_grows_17 (by decide) ?_
  refine g_callV [] hX (cr_no hX.st sz (S := uC S 0 0) 1) cw_X2_no cv_X2_no lk_X2_103 (ci := 2) rfl rfl ovR_o ⟨by omega, by omega⟩ ⟨by omega, by omega⟩ (Nat.le_of_ble_eq_true rfl) rfl dX2_grows_18 rfl (fun v18 M18 z18 hp18 hz18 hd18 => ?_)
  obtain ⟨rfl, rfl, rfl⟩ := hp18
  show G X _ (ovR (cxT X) N o (uC (uC S 0 0) 0 1)) sz ((0 + 0) + 0) ((0 + 0) + 0) 21 [(0, .ref o), (1, .int x1), (2, .int y1), (3, .int x2), (4, .int y2)] [.int 0]
  exact hF (some (.int 0)) (ovR (cxT X) N o (uC (uC S 0 0) 0 1)) sz _ _ _ _ .ireturn (⟨rfl, rfl, rfl⟩) (by omega) (by omega) ret_i dX2_grows_21

set_option maxHeartbeats 4000000 in
set_option maxRecDepth 100000 in
theorem cr_splits_no {l : Launch} (hl : l.stackTraces = false) {T : CT3} {D : va_G} {N : AH} {o : Nat} {S : RS} (sz : Nat) (x1 y1 x2 y2 : Int32) (hr : isR x1 y1 x2 y2 = false) : Ct l T D yX2_splits cX2_splits 7 (some .int) 1 30 0 0 [.ref o, .int x1, .int y1, .int x2, .int y2] (ovR T N o S) sz (fun v M' z' => v = some (.int 0) ∧ M' = ovR T N o (uC (uC S 0 0) 0 1) ∧ sz = z') := by
  refine Ct.ofX hl (by decide) (Nat.le_of_ble_eq_true rfl) ?_
  intro X hl0 hT0 hD0 hlt hX hF
  subst hl0; subst hT0; subst hD0
  show G X 7 (ovR (cxT X) N o S) sz 0 0 0 [(0, .ref o), (1, .int x1), (2, .int y1), (3, .int x2), (4, .int y2)] []
  refine g_aload_n hX dX2_splits_0 0 rfl ?_
  refine g_iconst (v := 0) hX dX2_splits_1 (by decide) ?_
  refine g_put (ci := 2) hX rfl fld_X2 (ovR_o (S := S)) 0 (by decide) fl_X2_38 rfl rfl rfl (Nat.le_of_ble_eq_true rfl) dX2_splits_2 ?_
  refine g_eqM (ovR_uC0 0 rfl) ?_
  refine g_iload_n hX dX2_splits_5 1 rfl ?_
  refine g_iload_n hX dX2_splits_6 2 rfl ?_
  refine g_iload_n hX dX2_splits_7 3 rfl ?_
  refine g_iload hX dX2_splits_8 4 rfl ?_
  refine g_callS [] hX (cr_isRect hX.st sz _ _ _ _) cw_X2_isRect stt_X2_isRect lk_X2_100 ⟨by omega, by omega⟩ ⟨by omega, by omega⟩ (Nat.le_of_ble_eq_true rfl) rfl dX2_splits_10 rfl (fun v10 M10 z10 hp10 hz10 hd10 => ?_)
  rw [show isR x1 y1 x2 y2 = false from hr] at hp10
  obtain ⟨rfl, rfl, rfl⟩ := hp10
  show G X _ (ovR (cxT X) N o (uC S 0 0)) sz (0 + 0) (0 + 0) 13 [(0, .ref o), (1, .int x1), (2, .int y1), (3, .int x2), (4, .int y2)] [.int 0]
  refine g_if_ne hX 22 dX2_splits_13 (by decide) (fun c13 => absurd (by decide) c13) (fun _ => ?_)
  refine g_aload_n hX dX2_splits_16 0 rfl ?_
  refine g_iconst (v := 1) hX dX2_splits_17 (by decide) ?_
  refine g_callV [] hX (cr_no hX.st sz (S := uC S 0 0) 1) cw_X2_no cv_X2_no lk_X2_103 (ci := 2) rfl rfl ovR_o ⟨by omega, by omega⟩ ⟨by omega, by omega⟩ (Nat.le_of_ble_eq_true rfl) rfl dX2_splits_18 rfl (fun v18 M18 z18 hp18 hz18 hd18 => ?_)
  obtain ⟨rfl, rfl, rfl⟩ := hp18
  show G X _ (ovR (cxT X) N o (uC (uC S 0 0) 0 1)) sz ((0 + 0) + 0) ((0 + 0) + 0) 21 [(0, .ref o), (1, .int x1), (2, .int y1), (3, .int x2), (4, .int y2)] [.int 0]
  exact hF (some (.int 0)) (ovR (cxT X) N o (uC (uC S 0 0) 0 1)) sz _ _ _ _ .ireturn (⟨rfl, rfl, rfl⟩) (by omega) (by omega) ret_i dX2_splits_21

set_option maxHeartbeats 4000000 in
set_option maxRecDepth 100000 in
theorem cr_overlaps {l : Launch} (hl : l.stackTraces = false) {T : CT3} {D : va_G} {N : AH} {o : Nat} {S : RS} (sz : Nat) (hc : rC S 1 ≤ 60) (hd : ∀ a, a < 60 → rD S a ≤ 1) (x1 y1 x2 y2 : Int32) (hr : isR x1 y1 x2 y2 = true) : Ct l T D yX2_overlaps cX2_overlaps 5 (some .int) 3 100 0 0 [.ref o, .int x1, .int y1, .int x2, .int y2] (ovR T N o S) sz (fun v M' z' => v = some (.int (sumA 0 (mta (tkR (uC S 0 0) x1 y1 x2 y2)) (rC S 1))) ∧ (∃ S', M' = ovR T N o S' ∧ SE S S' ∧ rC S' 0 = 0) ∧ sz = z') := by
  refine Ct.ofX hl (by decide) (Nat.le_of_ble_eq_true rfl) ?_
  intro X hl0 hT0 hD0 hlt hX hF
  subst hl0; subst hT0; subst hD0
  show G X 5 (ovR (cxT X) N o S) sz 0 0 0 [(0, .ref o), (1, .int x1), (2, .int y1), (3, .int x2), (4, .int y2)] []
  refine g_aload_n hX dX2_overlaps_0 0 rfl ?_
  refine g_iconst (v := 0) hX dX2_overlaps_1 (by decide) ?_
  refine g_put (ci := 2) hX rfl fld_X2 (ovR_o (S := S)) 0 (by decide) fl_X2_38 rfl rfl rfl (Nat.le_of_ble_eq_true rfl) dX2_overlaps_2 ?_
  refine g_eqM (ovR_uC0 0 rfl) ?_
  refine g_iload_n hX dX2_overlaps_5 1 rfl ?_
  refine g_iload_n hX dX2_overlaps_6 2 rfl ?_
  refine g_iload_n hX dX2_overlaps_7 3 rfl ?_
  refine g_iload hX dX2_overlaps_8 4 rfl ?_
  refine g_callS [] hX (cr_isRect hX.st sz _ _ _ _) cw_X2_isRect stt_X2_isRect lk_X2_100 ⟨by omega, by omega⟩ ⟨by omega, by omega⟩ (Nat.le_of_ble_eq_true rfl) rfl dX2_overlaps_10 rfl (fun v10 M10 z10 hp10 hz10 hd10 => ?_)
  rw [show isR x1 y1 x2 y2 = true from hr] at hp10
  obtain ⟨rfl, rfl, rfl⟩ := hp10
  show G X _ (ovR (cxT X) N o (uC S 0 0)) sz (0 + 0) (0 + 0) 13 [(0, .ref o), (1, .int x1), (2, .int y1), (3, .int x2), (4, .int y2)] [.int 1]
  refine g_if_ne hX 22 dX2_overlaps_13 (by decide) (fun _ => ?_) (fun c13 => absurd c13 (by decide))
  refine g_aload_n hX dX2_overlaps_22 0 rfl ?_
  refine g_iload_n hX dX2_overlaps_23 1 rfl ?_
  refine g_iload_n hX dX2_overlaps_24 2 rfl ?_
  refine g_iload_n hX dX2_overlaps_25 3 rfl ?_
  refine g_iload hX dX2_overlaps_26 4 rfl ?_
  refine g_callV [] hX (cr_take hX.st sz (S := uC S 0 0) _ _ _ _) cw_X2_take cv_X2_take lk_X2_106 (ci := 2) rfl rfl ovR_o ⟨by omega, by omega⟩ ⟨by omega, by omega⟩ (Nat.le_of_ble_eq_true rfl) rfl dX2_overlaps_28 rfl (fun v28 M28 z28 hp28 hz28 hd28 => ?_)
  obtain ⟨rfl, rfl, rfl⟩ := hp28
  show G X _ (ovR (cxT X) N o (tkR (uC S 0 0) x1 y1 x2 y2)) sz ((0 + 0) + 0) ((0 + 0) + 0) 31 [(0, .ref o), (1, .int x1), (2, .int y1), (3, .int x2), (4, .int y2)] []
  refine g_aload_n hX dX2_overlaps_31 0 rfl ?_
  refine g_callV [] hX (cr_all hX.st sz (S := tkR (uC S 0 0) x1 y1 x2 y2) hc hd) cw_X2_all cv_X2_all lk_X2_138 (ci := 2) rfl rfl ovR_o ⟨by omega, by omega⟩ ⟨by omega, by omega⟩ (Nat.le_of_ble_eq_true rfl) rfl dX2_overlaps_32 rfl (fun v32 M32 z32 hp32 hz32 hd32 => ?_)
  obtain ⟨rfl, rfl, rfl⟩ := hp32
  show G X _ (ovR (cxT X) N o (tkR (uC S 0 0) x1 y1 x2 y2)) sz (((0 + 0) + 0) + 0) (((0 + 0) + 0) + 0) 35 [(0, .ref o), (1, .int x1), (2, .int y1), (3, .int x2), (4, .int y2)] [.int (sumA 0 (mta (tkR (uC S 0 0) x1 y1 x2 y2)) (rC S 1))]
  exact hF (some (.int (sumA 0 (mta (tkR (uC S 0 0) x1 y1 x2 y2)) (rC S 1)))) (ovR (cxT X) N o (tkR (uC S 0 0) x1 y1 x2 y2)) sz _ _ _ _ .ireturn (⟨rfl, ⟨(tkR (uC S 0 0) x1 y1 x2 y2), rfl, SE.rfl' S, rfl⟩, rfl⟩) (by omega) (by omega) ret_i dX2_overlaps_35

set_option maxHeartbeats 4000000 in
set_option maxRecDepth 100000 in
theorem cr_looks {l : Launch} (hl : l.stackTraces = false) {T : CT3} {D : va_G} {N : AH} {o : Nat} {S : RS} (sz : Nat) {h : Nat} (ht : TrR S h (rC S 4)) (hh : h < 58) (x1 y1 x2 y2 : Int32) (hr : isR x1 y1 x2 y2 = true) : Ct l T D yX2_looks cX2_looks 5 (some .int) (3 * h + 7) (60 * h + 170) 0 0 [.ref o, .int x1, .int y1, .int x2, .int y2] (ovR T N o S) sz (fun v M' z' => v = some (.int (lkR (tkR (uC S 0 0) x1 y1 x2 y2) h (rC S 4))) ∧ (∃ S', M' = ovR T N o S' ∧ SE S S' ∧ rC S' 0 = 0) ∧ sz = z') := by
  refine Ct.ofX hl (by decide) (Nat.le_of_ble_eq_true rfl) ?_
  intro X hl0 hT0 hD0 hlt hX hF
  subst hl0; subst hT0; subst hD0
  show G X 5 (ovR (cxT X) N o S) sz 0 0 0 [(0, .ref o), (1, .int x1), (2, .int y1), (3, .int x2), (4, .int y2)] []
  refine g_aload_n hX dX2_looks_0 0 rfl ?_
  refine g_iconst (v := 0) hX dX2_looks_1 (by decide) ?_
  refine g_put (ci := 2) hX rfl fld_X2 (ovR_o (S := S)) 0 (by decide) fl_X2_38 rfl rfl rfl (Nat.le_of_ble_eq_true rfl) dX2_looks_2 ?_
  refine g_eqM (ovR_uC0 0 rfl) ?_
  refine g_iload_n hX dX2_looks_5 1 rfl ?_
  refine g_iload_n hX dX2_looks_6 2 rfl ?_
  refine g_iload_n hX dX2_looks_7 3 rfl ?_
  refine g_iload hX dX2_looks_8 4 rfl ?_
  refine g_callS [] hX (cr_isRect hX.st sz _ _ _ _) cw_X2_isRect stt_X2_isRect lk_X2_100 ⟨by omega, by omega⟩ ⟨by omega, by omega⟩ (Nat.le_of_ble_eq_true rfl) rfl dX2_looks_10 rfl (fun v10 M10 z10 hp10 hz10 hd10 => ?_)
  rw [show isR x1 y1 x2 y2 = true from hr] at hp10
  obtain ⟨rfl, rfl, rfl⟩ := hp10
  show G X _ (ovR (cxT X) N o (uC S 0 0)) sz (0 + 0) (0 + 0) 13 [(0, .ref o), (1, .int x1), (2, .int y1), (3, .int x2), (4, .int y2)] [.int 1]
  refine g_if_ne hX 22 dX2_looks_13 (by decide) (fun _ => ?_) (fun c13 => absurd c13 (by decide))
  refine g_aload_n hX dX2_looks_22 0 rfl ?_
  refine g_iload_n hX dX2_looks_23 1 rfl ?_
  refine g_iload_n hX dX2_looks_24 2 rfl ?_
  refine g_iload_n hX dX2_looks_25 3 rfl ?_
  refine g_iload hX dX2_looks_26 4 rfl ?_
  refine g_callV [] hX (cr_take hX.st sz (S := uC S 0 0) _ _ _ _) cw_X2_take cv_X2_take lk_X2_106 (ci := 2) rfl rfl ovR_o ⟨by omega, by omega⟩ ⟨by omega, by omega⟩ (Nat.le_of_ble_eq_true rfl) rfl dX2_looks_28 rfl (fun v28 M28 z28 hp28 hz28 hd28 => ?_)
  obtain ⟨rfl, rfl, rfl⟩ := hp28
  show G X _ (ovR (cxT X) N o (tkR (uC S 0 0) x1 y1 x2 y2)) sz ((0 + 0) + 0) ((0 + 0) + 0) 31 [(0, .ref o), (1, .int x1), (2, .int y1), (3, .int x2), (4, .int y2)] []
  refine g_aload_n hX dX2_looks_31 0 rfl ?_
  refine g_aload_n hX dX2_looks_32 0 rfl ?_
  refine g_get (ci := 2) hX rfl fin_X2 (ovR_o (S := (tkR (uC S 0 0) x1 y1 x2 y2))) 6 (by decide) fl_X2_80 rfl dX2_looks_33 ?_
  refine g_callV [] hX (cr_looksFrom hX.st sz (S := tkR (uC S 0 0) x1 y1 x2 y2) h (rC S 4) (SE.tt (S' := tkR (uC S 0 0) x1 y1 x2 y2) (SE.rfl' S) ht) (by omega)) cw_X2_looksFrom cv_X2_looksFrom lk_X2_150 (ci := 2) rfl rfl ovR_o ⟨by omega, by omega⟩ ⟨by omega, by omega⟩ (Nat.le_of_ble_eq_true rfl) rfl dX2_looks_36 rfl (fun v36 M36 z36 hp36 hz36 hd36 => ?_)
  obtain ⟨rfl, rfl, rfl⟩ := hp36
  show G X _ (ovR (cxT X) N o (tkR (uC S 0 0) x1 y1 x2 y2)) sz (((0 + 0) + 0) + 0) (((0 + 0) + 0) + 0) 39 [(0, .ref o), (1, .int x1), (2, .int y1), (3, .int x2), (4, .int y2)] [.int (lkR (tkR (uC S 0 0) x1 y1 x2 y2) h (rC S 4))]
  exact hF (some (.int (lkR (tkR (uC S 0 0) x1 y1 x2 y2) h (rC S 4)))) (ovR (cxT X) N o (tkR (uC S 0 0) x1 y1 x2 y2)) sz _ _ _ _ .ireturn (⟨rfl, ⟨(tkR (uC S 0 0) x1 y1 x2 y2), rfl, SE.rfl' S, rfl⟩, rfl⟩) (by omega) (by omega) ret_i dX2_looks_39

set_option maxHeartbeats 4000000 in
set_option maxRecDepth 100000 in
theorem cr_nearest_no {l : Launch} (hl : l.stackTraces = false) {T : CT3} {D : va_G} {N : AH} {o : Nat} {S : RS} (sz : Nat) (x y : Int32) (hr : isR x y x y = false) : Ct l T D yX2_nearest cX2_nearest 5 (some .int) 1 30 0 0 [.ref o, .int x, .int y] (ovR T N o S) sz (fun v M' z' => v = some (.int 0) ∧ M' = ovR T N o (uC (uC S 0 0) 0 1) ∧ sz = z') := by
  refine Ct.ofX hl (by decide) (Nat.le_of_ble_eq_true rfl) ?_
  intro X hl0 hT0 hD0 hlt hX hF
  subst hl0; subst hT0; subst hD0
  show G X 5 (ovR (cxT X) N o S) sz 0 0 0 [(0, .ref o), (1, .int x), (2, .int y)] []
  refine g_aload_n hX dX2_nearest_0 0 rfl ?_
  refine g_iconst (v := 0) hX dX2_nearest_1 (by decide) ?_
  refine g_put (ci := 2) hX rfl fld_X2 (ovR_o (S := S)) 0 (by decide) fl_X2_38 rfl rfl rfl (Nat.le_of_ble_eq_true rfl) dX2_nearest_2 ?_
  refine g_eqM (ovR_uC0 0 rfl) ?_
  refine g_iload_n hX dX2_nearest_5 1 rfl ?_
  refine g_iload_n hX dX2_nearest_6 2 rfl ?_
  refine g_iload_n hX dX2_nearest_7 1 rfl ?_
  refine g_iload_n hX dX2_nearest_8 2 rfl ?_
  refine g_callS [] hX (cr_isRect hX.st sz _ _ _ _) cw_X2_isRect stt_X2_isRect lk_X2_100 ⟨by omega, by omega⟩ ⟨by omega, by omega⟩ (Nat.le_of_ble_eq_true rfl) rfl dX2_nearest_9 rfl (fun v9 M9 z9 hp9 hz9 hd9 => ?_)
  rw [show isR x y x y = false from hr] at hp9
  obtain ⟨rfl, rfl, rfl⟩ := hp9
  show G X _ (ovR (cxT X) N o (uC S 0 0)) sz (0 + 0) (0 + 0) 12 [(0, .ref o), (1, .int x), (2, .int y)] [.int 0]
  refine g_if_ne hX 21 dX2_nearest_12 (by decide) (fun c12 => absurd (by decide) c12) (fun _ => ?_)
  refine g_aload_n hX dX2_nearest_15 0 rfl ?_
  refine g_iconst (v := 1) hX dX2_nearest_16 (by decide) ?_
  refine g_callV [] hX (cr_no hX.st sz (S := uC S 0 0) 1) cw_X2_no cv_X2_no lk_X2_103 (ci := 2) rfl rfl ovR_o ⟨by omega, by omega⟩ ⟨by omega, by omega⟩ (Nat.le_of_ble_eq_true rfl) rfl dX2_nearest_17 rfl (fun v17 M17 z17 hp17 hz17 hd17 => ?_)
  obtain ⟨rfl, rfl, rfl⟩ := hp17
  show G X _ (ovR (cxT X) N o (uC (uC S 0 0) 0 1)) sz ((0 + 0) + 0) ((0 + 0) + 0) 20 [(0, .ref o), (1, .int x), (2, .int y)] [.int 0]
  exact hF (some (.int 0)) (ovR (cxT X) N o (uC (uC S 0 0) 0 1)) sz _ _ _ _ .ireturn (⟨rfl, rfl, rfl⟩) (by omega) (by omega) ret_i dX2_nearest_20

set_option maxHeartbeats 4000000 in
set_option maxRecDepth 100000 in
theorem cr_nearest {l : Launch} (hl : l.stackTraces = false) {T : CT3} {D : va_G} {N : AH} {o : Nat} {S : RS} (sz : Nat) (hc : rC S 1 ≤ 60) (hd : ∀ a, a < 60 → rD S a ≤ 1) (x y : Int32) (hr : isR x y x y = true) : Ct l T D yX2_nearest cX2_nearest 5 (some .int) 2 60 0 0 [.ref o, .int x, .int y] (ovR T N o S) sz (fun v M' z' => v = some (.int (onI (nrR S x y (rC S 1)))) ∧ (∃ S', M' = ovR T N o S' ∧ SE S S' ∧ rC S' 0 = 0) ∧ sz = z') := by
  refine Ct.ofX hl (by decide) (Nat.le_of_ble_eq_true rfl) ?_
  intro X hl0 hT0 hD0 hlt hX hF
  subst hl0; subst hT0; subst hD0
  have loop : ∀ k, k ≤ (rC S 1) → G X 5 (ovR (cxT X) N o (uC S 0 0)) sz 0 0 26 [(4, .int (nI k)), (3, .int (onI (nrR S x y k))), (0, .ref o), (1, .int x), (2, .int y)] [] := by
    refine loop_up ?_
    intro k ih hk
    refine g_iload hX dX2_nearest_26 0 rfl ?_
    refine g_aload_n hX dX2_nearest_28 2 rfl ?_
    refine g_get (ci := 2) hX rfl fin_X2 (ovR_o (S := (uC S 0 0))) 1 (by decide) fl_X2_41 rfl dX2_nearest_29 ?_
    refine g_icmp_ge hX 78 dX2_nearest_32 (by decide) (fun c32 => ?_) (fun c32 => ?_)
    · skip
      have hke : k = rC S 1 := by have h9 := (nI_leI (a := rC S 1) (b := k) (by omega) (by omega)).mp c32; omega
      subst hke
      refine g_iload_n hX dX2_nearest_78 1 rfl ?_
      exact hF (some (.int (onI (nrR S x y (rC S 1))))) (ovR (cxT X) N o (uC S 0 0)) sz _ _ _ _ .ireturn (⟨rfl, ⟨(uC S 0 0), rfl, SE.rfl' S, rfl⟩, rfl⟩) (by omega) (by omega) ret_i dX2_nearest_79
    · skip
      have hk2 : k < rC S 1 := by have h9 := mt (nI_leI (a := rC S 1) (b := k) (by omega) (by omega)).mpr c32; omega
      have hdk := hd k (by omega)
      refine g_aload_n hX dX2_nearest_35 2 rfl ?_
      refine g_get (ci := 2) hX rfl fin_X2 (ovR_o (S := (uC S 0 0))) 4 (by decide) fl_X2_13 rfl dX2_nearest_36 ?_
      refine g_iload hX dX2_nearest_39 0 rfl ?_
      refine g_iald hX (ovR_at (S := (uC S 0 0)) 2 rfl) k rfl (by omega) (by decide) dX2_nearest_41 ?_
      refine g_iconst (v := 1) hX dX2_nearest_42 (by decide) ?_
      refine g_icmp_ne hX 72 dX2_nearest_43 (by decide) (fun c43 => ?_) (fun c43 => ?_)
      · skip
        have hd0 : ¬ rD S k = 1 := fun e => c43 (by show nI (rD S k) = 1; rw [e]; rfl)
        refine g_iinc (v := nI (k + 1)) (L' := [(4, .int (nI (k + 1))), (3, .int (onI (nrR S x y k))), (0, .ref o), (1, .int x), (2, .int y)]) hX dX2_nearest_72 0 rfl (nI_1 _) (by decide) rfl ?_
        refine g_goto hX 26 dX2_nearest_75 (by decide) ?_
        have hst : nrR S x y (k + 1) = nrR S x y k := by show (if _ then _ else _) = _; rw [if_neg hd0]
        refine g_sub [0, 1, 2, 3, 4] rfl ?_
        have h9 := ih (k + 1) (by omega) (by omega)
        rw [hst] at h9
        exact h9
      · skip
        have hd1 : rD S k = 1 := (nI_eq (a := rD S k) (b := 1) (by omega) (by omega)).mp c43
        rcases hb : nrR S x y k with _ | b
        · skip
          show G X _ (ovR (cxT X) N o (uC S 0 0)) sz 0 0 46 [(4, .int (nI k)), (3, .int (-1)), (0, .ref o), (1, .int x), (2, .int y)] []
          refine g_iload_n hX dX2_nearest_46 1 rfl ?_
          refine g_iconst (v := (-1)) hX dX2_nearest_47 (by decide) ?_
          refine g_icmp_eq hX 69 dX2_nearest_48 (by decide) (fun _ => ?_) (fun c48 => absurd rfl c48)
          refine g_iload hX dX2_nearest_69 0 rfl ?_
          refine g_istore_n (L' := [(3, .int (nI k)), (4, .int (nI k)), (0, .ref o), (1, .int x), (2, .int y)]) hX dX2_nearest_71 (by decide) rfl ?_
          refine g_iinc (v := nI (k + 1)) (L' := [(4, .int (nI (k + 1))), (3, .int (nI k)), (0, .ref o), (1, .int x), (2, .int y)]) hX dX2_nearest_72 1 rfl (nI_1 _) (by decide) rfl ?_
          refine g_goto hX 26 dX2_nearest_75 (by decide) ?_
          have hst : nrR S x y (k + 1) = some k := by show (if _ then _ else _) = _; rw [if_pos hd1, hb]
          refine g_sub [0, 1, 2, 3, 4] rfl ?_
          have h9 := ih (k + 1) (by omega) (by omega)
          rw [hst] at h9
          exact h9
        · skip
          have hbk := nrR_lt hb
          show G X _ (ovR (cxT X) N o (uC S 0 0)) sz 0 0 46 [(4, .int (nI k)), (3, .int (nI b)), (0, .ref o), (1, .int x), (2, .int y)] []
          refine g_iload_n hX dX2_nearest_46 1 rfl ?_
          refine g_iconst (v := (-1)) hX dX2_nearest_47 (by decide) ?_
          refine g_icmp_eq hX 69 dX2_nearest_48 (by decide) (fun c48 => absurd c48 (fun e => nI_pos (n := b) (by omega) (by rw [e]; decide))) (fun _ => ?_)
          refine g_aload_n hX dX2_nearest_51 2 rfl ?_
          refine g_iload hX dX2_nearest_52 0 rfl ?_
          refine g_iload_n hX dX2_nearest_54 3 rfl ?_
          refine g_iload_n hX dX2_nearest_55 4 rfl ?_
          refine g_callV [] hX (cr_farFrom hX.st sz (S := uC S 0 0) (a := k) (by omega) x y) cw_X2_farFrom cv_X2_farFrom lk_X2_156 (ci := 2) rfl rfl ovR_o ⟨by omega, by omega⟩ ⟨by omega, by omega⟩ (Nat.le_of_ble_eq_true rfl) rfl dX2_nearest_56 rfl (fun v56 M56 z56 hp56 hz56 hd56 => ?_)
          rw [show farR (uC S 0 0) k x y = farR S k x y from rfl] at hp56
          obtain ⟨rfl, rfl, rfl⟩ := hp56
          show G X _ (ovR (cxT X) N o (uC S 0 0)) sz (0 + 0) (0 + 0) 59 [(4, .int (nI k)), (3, .int (nI b)), (0, .ref o), (1, .int x), (2, .int y)] [.int (farR S k x y)]
          refine g_aload_n hX dX2_nearest_59 2 rfl ?_
          refine g_iload_n hX dX2_nearest_60 1 rfl ?_
          refine g_iload_n hX dX2_nearest_61 3 rfl ?_
          refine g_iload_n hX dX2_nearest_62 4 rfl ?_
          refine g_callV [.int (farR S k x y)] hX (cr_farFrom hX.st sz (S := uC S 0 0) (a := b) (by omega) x y) cw_X2_farFrom cv_X2_farFrom lk_X2_156 (ci := 2) rfl rfl ovR_o ⟨by omega, by omega⟩ ⟨by omega, by omega⟩ (Nat.le_of_ble_eq_true rfl) rfl dX2_nearest_63 rfl (fun v63 M63 z63 hp63 hz63 hd63 => ?_)
          rw [show farR (uC S 0 0) b x y = farR S b x y from rfl] at hp63
          obtain ⟨rfl, rfl, rfl⟩ := hp63
          show G X _ (ovR (cxT X) N o (uC S 0 0)) sz ((0 + 0) + 0) ((0 + 0) + 0) 66 [(4, .int (nI k)), (3, .int (nI b)), (0, .ref o), (1, .int x), (2, .int y)] [.int (farR S b x y), .int (farR S k x y)]
          refine g_icmp_ge hX 72 dX2_nearest_66 (by decide) (fun c66 => ?_) (fun c66 => ?_)
          · skip
            refine g_iinc (v := nI (k + 1)) (L' := [(4, .int (nI (k + 1))), (3, .int (nI b)), (0, .ref o), (1, .int x), (2, .int y)]) hX dX2_nearest_72 0 rfl (nI_1 _) (by decide) rfl ?_
            refine g_goto hX 26 dX2_nearest_75 (by decide) ?_
            have hst : nrR S x y (k + 1) = some b := by show (if _ then _ else _) = _; rw [if_pos hd1, hb]; show (if _ then _ else _) = _; rw [if_neg (Int32.not_lt.mpr c66)]
            refine g_sub [0, 1, 2, 3, 4] rfl ?_
            have h9 := ih (k + 1) (by omega) (by omega)
            rw [hst] at h9
            exact h9
          · skip
            refine g_iload hX dX2_nearest_69 0 rfl ?_
            refine g_istore_n (L' := [(3, .int (nI k)), (4, .int (nI k)), (0, .ref o), (1, .int x), (2, .int y)]) hX dX2_nearest_71 (by decide) rfl ?_
            refine g_iinc (v := nI (k + 1)) (L' := [(4, .int (nI (k + 1))), (3, .int (nI k)), (0, .ref o), (1, .int x), (2, .int y)]) hX dX2_nearest_72 1 rfl (nI_1 _) (by decide) rfl ?_
            refine g_goto hX 26 dX2_nearest_75 (by decide) ?_
            have hst : nrR S x y (k + 1) = some k := by show (if _ then _ else _) = _; rw [if_pos hd1, hb]; show (if _ then _ else _) = _; rw [if_pos (Int32.not_le.mp c66)]
            refine g_sub [0, 1, 2, 3, 4] rfl ?_
            have h9 := ih (k + 1) (by omega) (by omega)
            rw [hst] at h9
            exact h9
  show G X 5 (ovR (cxT X) N o S) sz 0 0 0 [(0, .ref o), (1, .int x), (2, .int y)] []
  refine g_aload_n hX dX2_nearest_0 0 rfl ?_
  refine g_iconst (v := 0) hX dX2_nearest_1 (by decide) ?_
  refine g_put (ci := 2) hX rfl fld_X2 (ovR_o (S := S)) 0 (by decide) fl_X2_38 rfl rfl rfl (Nat.le_of_ble_eq_true rfl) dX2_nearest_2 ?_
  refine g_eqM (ovR_uC0 0 rfl) ?_
  refine g_iload_n hX dX2_nearest_5 1 rfl ?_
  refine g_iload_n hX dX2_nearest_6 2 rfl ?_
  refine g_iload_n hX dX2_nearest_7 1 rfl ?_
  refine g_iload_n hX dX2_nearest_8 2 rfl ?_
  refine g_callS [] hX (cr_isRect hX.st sz _ _ _ _) cw_X2_isRect stt_X2_isRect lk_X2_100 ⟨by omega, by omega⟩ ⟨by omega, by omega⟩ (Nat.le_of_ble_eq_true rfl) rfl dX2_nearest_9 rfl (fun v9 M9 z9 hp9 hz9 hd9 => ?_)
  rw [show isR x y x y = true from hr] at hp9
  obtain ⟨rfl, rfl, rfl⟩ := hp9
  show G X _ (ovR (cxT X) N o (uC S 0 0)) sz (0 + 0) (0 + 0) 12 [(0, .ref o), (1, .int x), (2, .int y)] [.int 1]
  refine g_if_ne hX 21 dX2_nearest_12 (by decide) (fun _ => ?_) (fun c12 => absurd c12 (by decide))
  refine g_iconst (v := (-1)) hX dX2_nearest_21 (by decide) ?_
  refine g_istore_n (L' := [(3, .int (-1)), (0, .ref o), (1, .int x), (2, .int y)]) hX dX2_nearest_22 (by decide) rfl ?_
  refine g_iconst (v := 0) hX dX2_nearest_23 (by decide) ?_
  refine g_istore (L' := [(4, .int 0), (3, .int (-1)), (0, .ref o), (1, .int x), (2, .int y)]) hX dX2_nearest_24 (by decide) rfl ?_
  refine g_sub [0, 1, 2, 3, 4] rfl ?_
  exact loop 0 (Nat.zero_le _)

set_option maxHeartbeats 4000000 in
set_option maxRecDepth 100000 in
theorem cr_count {l : Launch} (hl : l.stackTraces = false) {T : CT3} {D : va_G} {N : AH} {o : Nat} {S : RS} (sz : Nat) {h : Nat} (ht : TrR S h (rC S 4)) (hh : h < 58) (hc : rC S 1 ≤ 60) {w : Nat} (hw : w ≤ 8) : Ct l T D yX2_count cX2_count 2 (some .int) (3 * h + 8) (60 * h + 190) 0 0 [.ref o, .int (nI w)] (ovR T N o S) sz (fun v M' z' => v = some (.int (cnR S h w)) ∧ (∃ S', M' = ovR T N o S' ∧ SE S S' ∧ rC S' 0 = 0) ∧ sz = z') := by
  refine Ct.ofX hl (by decide) (Nat.le_of_ble_eq_true rfl) ?_
  intro X hl0 hT0 hD0 hlt hX hF
  subst hl0; subst hT0; subst hD0
  show G X 2 (ovR (cxT X) N o S) sz 0 0 0 [(0, .ref o), (1, .int (nI w))] []
  refine g_aload_n hX dX2_count_0 0 rfl ?_
  refine g_iconst (v := 0) hX dX2_count_1 (by decide) ?_
  refine g_put (ci := 2) hX rfl fld_X2 (ovR_o (S := S)) 0 (by decide) fl_X2_38 rfl rfl rfl (Nat.le_of_ble_eq_true rfl) dX2_count_2 ?_
  refine g_eqM (ovR_uC0 0 rfl) ?_
  refine g_iload_n hX dX2_count_5 1 rfl ?_
  refine g_if_lt hX 23 dX2_count_6 (by decide) (fun c6 => absurd c6 (mt (nI_ltI (a := w) (b := 0) (by omega) (by omega)).mp (by omega))) (fun _ => ?_)
  refine g_iload_n hX dX2_count_9 1 rfl ?_
  refine g_bipush (v := 8) hX dX2_count_10 (by decide) ?_
  refine g_icmp_gt hX 23 dX2_count_12 (by decide) (fun c12 => absurd c12 (mt (nI_ltI (a := 8) (b := w) (by omega) (by omega)).mp (by omega))) (fun _ => ?_)
  refine g_aload_n hX dX2_count_15 0 rfl ?_
  refine g_iload_n hX dX2_count_16 1 rfl ?_
  refine g_callV [] hX (cr_counted hX.st sz (S := uC S 0 0) (h := h) (SE.tt (S' := uC S 0 0) (SE.rfl' S) ht) hh hc w hw) cw_X2_counted cv_X2_counted lk_X2_165 (ci := 2) rfl rfl ovR_o ⟨by omega, by omega⟩ ⟨by omega, by omega⟩ (Nat.le_of_ble_eq_true rfl) rfl dX2_count_17 rfl (fun v17 M17 z17 hp17 hz17 hd17 => ?_)
  rw [SE.cn (S' := uC S 0 0) (SE.rfl' S)] at hp17
  obtain ⟨rfl, ⟨r, rfl⟩, rfl⟩ := hp17
  show G X _ (ovR (cxT X) N o (uRf (uC S 0 0) r)) sz (0 + 0) (0 + 0) 20 [(0, .ref o), (1, .int (nI w))] [.int (cnR S h w)]
  refine g_goto hX 28 dX2_count_20 (by decide) ?_
  exact hF (some (.int (cnR S h w))) (ovR (cxT X) N o (uRf (uC S 0 0) r)) sz _ _ _ _ .ireturn (⟨rfl, ⟨(uRf (uC S 0 0) r), rfl, SE.rfl' S, rfl⟩, rfl⟩) (by omega) (by omega) ret_i dX2_count_28

set_option maxHeartbeats 4000000 in
set_option maxRecDepth 100000 in
theorem cr_count_no {l : Launch} (hl : l.stackTraces = false) {T : CT3} {D : va_G} {N : AH} {o : Nat} {S : RS} (sz : Nat) {x : Int32} (hno : ¬ (0 ≤ x ∧ x ≤ 8)) : Ct l T D yX2_count cX2_count 2 (some .int) 1 30 0 0 [.ref o, .int x] (ovR T N o S) sz (fun v M' z' => v = some (.int 0) ∧ M' = ovR T N o (uC (uC S 0 0) 0 1) ∧ sz = z') := by
  refine Ct.ofX hl (by decide) (Nat.le_of_ble_eq_true rfl) ?_
  intro X hl0 hT0 hD0 hlt hX hF
  subst hl0; subst hT0; subst hD0
  show G X 2 (ovR (cxT X) N o S) sz 0 0 0 [(0, .ref o), (1, .int x)] []
  refine g_aload_n hX dX2_count_0 0 rfl ?_
  refine g_iconst (v := 0) hX dX2_count_1 (by decide) ?_
  refine g_put (ci := 2) hX rfl fld_X2 (ovR_o (S := S)) 0 (by decide) fl_X2_38 rfl rfl rfl (Nat.le_of_ble_eq_true rfl) dX2_count_2 ?_
  refine g_eqM (ovR_uC0 0 rfl) ?_
  refine g_iload_n hX dX2_count_5 1 rfl ?_
  refine g_if_lt hX 23 dX2_count_6 (by decide) (fun c6 => ?_) (fun c6 => ?_)
  · skip
    refine g_aload_n hX dX2_count_23 0 rfl ?_
    refine g_iconst (v := 1) hX dX2_count_24 (by decide) ?_
    refine g_callV [] hX (cr_no hX.st sz (S := uC S 0 0) 1) cw_X2_no cv_X2_no lk_X2_103 (ci := 2) rfl rfl ovR_o ⟨by omega, by omega⟩ ⟨by omega, by omega⟩ (Nat.le_of_ble_eq_true rfl) rfl dX2_count_25 rfl (fun v25 M25 z25 hp25 hz25 hd25 => ?_)
    obtain ⟨rfl, rfl, rfl⟩ := hp25
    show G X _ (ovR (cxT X) N o (uC (uC S 0 0) 0 1)) sz (0 + 0) (0 + 0) 28 [(0, .ref o), (1, .int x)] [.int 0]
    exact hF (some (.int 0)) (ovR (cxT X) N o (uC (uC S 0 0) 0 1)) sz _ _ _ _ .ireturn (⟨rfl, rfl, rfl⟩) (by omega) (by omega) ret_i dX2_count_28
  · skip
    refine g_iload_n hX dX2_count_9 1 rfl ?_
    refine g_bipush (v := 8) hX dX2_count_10 (by decide) ?_
    refine g_icmp_gt hX 23 dX2_count_12 (by decide) (fun c12 => ?_) (fun c12 => ?_)
    · skip
      refine g_aload_n hX dX2_count_23 0 rfl ?_
      refine g_iconst (v := 1) hX dX2_count_24 (by decide) ?_
      refine g_callV [] hX (cr_no hX.st sz (S := uC S 0 0) 1) cw_X2_no cv_X2_no lk_X2_103 (ci := 2) rfl rfl ovR_o ⟨by omega, by omega⟩ ⟨by omega, by omega⟩ (Nat.le_of_ble_eq_true rfl) rfl dX2_count_25 rfl (fun v25 M25 z25 hp25 hz25 hd25 => ?_)
      obtain ⟨rfl, rfl, rfl⟩ := hp25
      show G X _ (ovR (cxT X) N o (uC (uC S 0 0) 0 1)) sz (0 + 0) (0 + 0) 28 [(0, .ref o), (1, .int x)] [.int 0]
      exact hF (some (.int 0)) (ovR (cxT X) N o (uC (uC S 0 0) 0 1)) sz _ _ _ _ .ireturn (⟨rfl, rfl, rfl⟩) (by omega) (by omega) ret_i dX2_count_28
    · skip
      exact absurd ⟨Int32.not_lt.mp c6, Int32.not_lt.mp c12⟩ hno
