set_option maxHeartbeats 4000000 in
set_option maxRecDepth 100000 in
theorem ct_count {l : Launch} (hl : l.stackTraces = false) {T : CT3} {D : va_G} {N : AH} {P : PS} {F : FS} (sz : Nat) (hwF : WfF P F) {n : Nat} (hal : Alok P F) (ht : TrP P n (fT F)) (hn : n < 40) {w : Nat} (hw : w ≤ 8) : Ct l T D yX1_count cX1_count 2 (some .int) (n + 6) (140 + 60 * n) 0 0 [.ref (fO F), .int (nI w)] (ov T (ovF T N F) P) sz (fun v M' z' => v = some (.int (cntP P F n w)) ∧ M' = ov T (ovF T N F) P ∧ sz = z') := by
  refine Ct.ofX hl (by decide) (Nat.le_of_ble_eq_true rfl) ?_
  intro X hl0 hT0 hD0 hlt hX hF
  subst hl0; subst hT0; subst hD0
  show G X 2 (ov (cxT X) (ovF (cxT X) N F) P) sz 0 0 0 [(0, .ref (fO F)), (1, .int (nI w))] []
  refine g_iload_n hX dX1_count_0 1 rfl ?_
  refine g_callS [] hX (ct_isQuestion hX.st sz (nI w)) cw_X1_isQuestion stt_X1_isQuestion lk_X1_90 ⟨by omega, by omega⟩ ⟨by omega, by omega⟩ (Nat.le_of_ble_eq_true rfl) rfl dX1_count_1 rfl (fun v1 M1 z1 hp1 hz1 hd1 => ?_)
  rw [show isQ (nI w) = true from isQ_n hw] at hp1
  obtain ⟨rfl, rfl, rfl⟩ := hp1
  show G X _ (ov (cxT X) (ovF (cxT X) N F) P) sz (0 + 0) (0 + 0) 4 [(0, .ref (fO F)), (1, .int (nI w))] [.int 1]
  refine g_if_ne hX 17 dX1_count_4 (by decide) (fun _ => ?_) (fun c4 => absurd c4 (by decide))
  refine g_aload_n hX dX1_count_17 0 rfl ?_
  refine g_iload_n hX dX1_count_18 1 rfl ?_
  refine g_callV [] hX (ct_counted hX.st sz hwF hal ht hn w hw) cw_X1_counted cv_X1_counted lk_X1_126 (ci := 1) rfl rfl (ovF_o hwF) ⟨by omega, by omega⟩ ⟨by omega, by omega⟩ (Nat.le_of_ble_eq_true rfl) rfl dX1_count_19 rfl (fun v19 M19 z19 hp19 hz19 hd19 => ?_)
  obtain ⟨rfl, rfl, rfl⟩ := hp19
  show G X _ (ov (cxT X) (ovF (cxT X) N F) P) sz ((0 + 0) + 0) ((0 + 0) + 0) 22 [(0, .ref (fO F)), (1, .int (nI w))] [.int (cntP P F n w)]
  exact hF (some (.int (cntP P F n w))) (ov (cxT X) (ovF (cxT X) N F) P) sz _ _ _ _ .ireturn (⟨rfl, rfl, rfl⟩) (by omega) (by omega) ret_i dX1_count_22

set_option maxHeartbeats 4000000 in
set_option maxRecDepth 100000 in
theorem ct_told {l : Launch} (hl : l.stackTraces = false) {T : CT3} {D : va_G} {N : AH} {P : PS} {F : FS} (sz : Nat) (hwF : WfF P F) (hal : Alok P F) (x : Int32) {g : Nat} (ha : alI F x = some g) (pl : Nat → Nat) (hpl : Plc P pl g) {w : Nat} (hw : w ≤ 8) : Ct l T D yX1_told cX1_told 4 (some .int) 5 130 0 0 [.ref (fO F), .int x, .int (nI w)] (ov T (ovF T N F) P) sz (fun v M' z' => v = some (.int (ansP P F pl g w)) ∧ M' = ov T (ovF T N F) P ∧ sz = z') := by
  refine Ct.ofX hl (by decide) (Nat.le_of_ble_eq_true rfl) ?_
  intro X hl0 hT0 hD0 hlt hX hF
  subst hl0; subst hT0; subst hD0
  have hg := hal.al ha
  show G X 4 (ov (cxT X) (ovF (cxT X) N F) P) sz 0 0 0 [(0, .ref (fO F)), (1, .int x), (2, .int (nI w))] []
  refine g_aload_n hX dX1_told_0 0 rfl ?_
  refine g_iload_n hX dX1_told_1 1 rfl ?_
  refine g_callV [] hX (ct_aon hX.st sz hwF hal x) cw_X1_allotmentOrNull cv_X1_allotmentOrNull lk_X1_59 (ci := 1) rfl rfl (ovF_o hwF) ⟨by omega, by omega⟩ ⟨by omega, by omega⟩ (Nat.le_of_ble_eq_true rfl) rfl dX1_told_2 rfl (fun v2 M2 z2 hp2 hz2 hd2 => ?_)
  rw [ha] at hp2
  obtain ⟨rfl, rfl, rfl⟩ := hp2
  show G X _ (ov (cxT X) (ovF (cxT X) N F) P) sz (0 + 0) (0 + 0) 5 [(0, .ref (fO F)), (1, .int x), (2, .int (nI w))] [.ref g]
  refine g_astore_n (L' := [(3, .ref g), (0, .ref (fO F)), (1, .int x), (2, .int (nI w))]) hX dX1_told_5 (by decide) rfl ?_
  refine g_aload_n hX dX1_told_6 0 rfl ?_
  refine g_ifnullR hX dX1_told_7 ?_
  refine g_iload_n hX dX1_told_10 3 rfl ?_
  refine g_callS [] hX (ct_isQuestion hX.st sz (nI w)) cw_X1_isQuestion stt_X1_isQuestion lk_X1_90 ⟨by omega, by omega⟩ ⟨by omega, by omega⟩ (Nat.le_of_ble_eq_true rfl) rfl dX1_told_11 rfl (fun v11 M11 z11 hp11 hz11 hd11 => ?_)
  rw [show isQ (nI w) = true from isQ_n hw] at hp11
  obtain ⟨rfl, rfl, rfl⟩ := hp11
  show G X _ (ov (cxT X) (ovF (cxT X) N F) P) sz ((0 + 0) + 0) ((0 + 0) + 0) 14 [(3, .ref g), (0, .ref (fO F)), (1, .int x), (2, .int (nI w))] [.int 1]
  refine g_if_ne hX 27 dX1_told_14 (by decide) (fun _ => ?_) (fun c14 => absurd c14 (by decide))
  refine g_aload_n hX dX1_told_27 1 rfl ?_
  refine g_aload_n hX dX1_told_28 0 rfl ?_
  refine g_iload_n hX dX1_told_29 3 rfl ?_
  refine g_callV [] hX (ct_answerOf hX.st sz hwF hal pl hg hpl w hw) cw_X1_answerOf cv_X1_answerOf lk_X1_96 (ci := 1) rfl rfl (ovF_o hwF) ⟨by omega, by omega⟩ ⟨by omega, by omega⟩ (Nat.le_of_ble_eq_true rfl) rfl dX1_told_30 rfl (fun v30 M30 z30 hp30 hz30 hd30 => ?_)
  obtain ⟨rfl, rfl, rfl⟩ := hp30
  show G X _ (ov (cxT X) (ovF (cxT X) N F) P) sz (((0 + 0) + 0) + 0) (((0 + 0) + 0) + 0) 33 [(3, .ref g), (0, .ref (fO F)), (1, .int x), (2, .int (nI w))] [.int (ansP P F pl g w)]
  exact hF (some (.int (ansP P F pl g w))) (ov (cxT X) (ovF (cxT X) N F) P) sz _ _ _ _ .ireturn (⟨rfl, rfl, rfl⟩) (by omega) (by omega) ret_i dX1_told_33

set_option maxHeartbeats 4000000 in
set_option maxRecDepth 100000 in
theorem ct_go {l : Launch} (hl : l.stackTraces = false) {T : CT3} {D : va_G} {N : AH} {P : PS} {F : FS} (sz : Nat) (hwF : WfF P F) (hal : Alok P F) (x : Int32) {g f k0 n : Nat} (ha : alI F x = some g) (hh : pH P g = some f) (htk : TkI P f g k0) (pl : Nat → Nat) (hdr : DrI pl n (tkP P f g k0) (some f)) (hlw : LwI 40 (drpP pl n (tkP P f g k0) (some f)) F) : Ct l T D yX1_go cX1_go 4 (some .int) 4 110 0 0 [.ref (fO F), .int x] (ov T (ovF T N F) P) sz (fun v M' z' => v = some (.int (arB (lwP 40 (drpP pl n (tkP P f g k0) (some f)) F).1 g)) ∧ M' = ov T (ovF T N (lwP 40 (drpP pl n (tkP P f g k0) (some f)) F).2) (lwP 40 (drpP pl n (tkP P f g k0) (some f)) F).1 ∧ sz = z') := by
  refine Ct.ofX hl (by decide) (Nat.le_of_ble_eq_true rfl) ?_
  intro X hl0 hT0 hD0 hlt hX hF
  subst hl0; subst hT0; subst hD0
  have hg := hal.al ha
  show G X 4 (ov (cxT X) (ovF (cxT X) N F) P) sz 0 0 0 [(0, .ref (fO F)), (1, .int x)] []
  refine g_aload_n hX dX1_go_0 0 rfl ?_
  refine g_iload_n hX dX1_go_1 1 rfl ?_
  refine g_callV [] hX (ct_aon hX.st sz hwF hal x) cw_X1_allotmentOrNull cv_X1_allotmentOrNull lk_X1_59 (ci := 1) rfl rfl (ovF_o hwF) ⟨by omega, by omega⟩ ⟨by omega, by omega⟩ (Nat.le_of_ble_eq_true rfl) rfl dX1_go_2 rfl (fun v2 M2 z2 hp2 hz2 hd2 => ?_)
  rw [ha] at hp2
  obtain ⟨rfl, rfl, rfl⟩ := hp2
  show G X _ (ov (cxT X) (ovF (cxT X) N F) P) sz (0 + 0) (0 + 0) 5 [(0, .ref (fO F)), (1, .int x)] [.ref g]
  refine g_astore_n (L' := [(2, .ref g), (0, .ref (fO F)), (1, .int x)]) hX dX1_go_5 (by decide) rfl ?_
  refine g_aload_n hX dX1_go_6 0 rfl ?_
  refine g_ifnonnullR hX 20 dX1_go_7 (by decide) ?_
  refine g_aload_n hX dX1_go_20 0 rfl ?_
  refine g_getN (ci := 0) hX rfl fin_X0 (ov_pc (P := P) hg) 4 (by decide) fn_X1_68 rfl dX1_go_21 ?_
  rw [hh]
  show G X _ (ov (cxT X) (ovF (cxT X) N F) P) sz (0 + 0) (0 + 0) 24 [(2, .ref g), (0, .ref (fO F)), (1, .int x)] [.ref f]
  refine g_astore_n (L' := [(3, .ref f), (2, .ref g), (0, .ref (fO F)), (1, .int x)]) hX dX1_go_24 (by decide) rfl ?_
  refine g_aload_n hX dX1_go_25 0 rfl ?_
  refine g_ifnonnullR hX 39 dX1_go_26 (by decide) ?_
  refine g_aload_n hX dX1_go_39 0 rfl ?_
  refine g_aload_n hX dX1_go_40 0 rfl ?_
  refine g_aload_n hX dX1_go_41 1 rfl ?_
  refine g_callVN [.ref f] hX (ct_placeOf hX.st sz hwF.1 (P := P) (q := f) (r := g) (k0 := k0) htk.1 htk.2.1 htk.2.2.1 htk.2.2.2.1 htk.2.2.2.2.1 htk.2.2.2.2.2.1) cw_X0_placeOf cv_X0_placeOf ln_X1_73 (ci := 0) rfl rfl (ov_pc (P := P) htk.1) ⟨by omega, by omega⟩ ⟨by omega, by omega⟩ (Nat.le_of_ble_eq_true rfl) rfl dX1_go_42 rfl (fun v42 M42 z42 hp42 hz42 hd42 => ?_)
  obtain ⟨rfl, rfl, rfl⟩ := hp42
  show G X _ (ov (cxT X) (ovF (cxT X) N F) P) sz ((0 + 0) + 0) ((0 + 0) + 0) 45 [(3, .ref f), (2, .ref g), (0, .ref (fO F)), (1, .int x)] [.int (nI k0), .ref f]
  refine g_callVN [] hX (ct_takeOut hX.st sz hwF.1 (P := P) (q := f) (r := g) (p := k0) htk.1 hg htk.2.2.2.1 htk.2.2.2.2.1 htk.2.1 htk.2.2.1 htk.2.2.2.2.2.2) cw_X0_takeOut cv_X0_takeOut ln_X1_77 (ci := 0) rfl rfl (ov_pc (P := P) htk.1) ⟨by omega, by omega⟩ ⟨by omega, by omega⟩ (Nat.le_of_ble_eq_true rfl) rfl dX1_go_45 rfl (fun v45 M45 z45 hp45 hz45 hd45 => ?_)
  obtain ⟨rfl, rfl, rfl⟩ := hp45
  show G X _ (ov (cxT X) (ovF (cxT X) N F) (tkP P f g k0)) sz (((0 + 0) + 0) + 0) (((0 + 0) + 0) + 0) 48 [(3, .ref f), (2, .ref g), (0, .ref (fO F)), (1, .int x)] [.ref g]
  refine g_pop hX dX1_go_48 rfl ?_
  have hw2 : WfF (drpP pl n (tkP P f g k0) (some f)) F := hwF.of (by rw [drp_D]; rfl) rfl
  refine g_aload_n hX dX1_go_49 0 rfl ?_
  refine g_callS [] hX (ct_drop hX.st sz (P := (tkP P f g k0)) (Wf_tk hwF.1 f g k0) pl hdr) cw_X1_dropEmptyAndTighten stt_X1_dropEmptyAndTighten lk_X1_80 ⟨by omega, by omega⟩ ⟨by omega, by omega⟩ (Nat.le_of_ble_eq_true rfl) rfl dX1_go_50 rfl (fun v50 M50 z50 hp50 hz50 hd50 => ?_)
  obtain ⟨rfl, rfl, rfl⟩ := hp50
  show G X _ (ov (cxT X) (ovF (cxT X) N F) (drpP pl n (tkP P f g k0) (some f))) sz ((((0 + 0) + 0) + 0) + 0) ((((0 + 0) + 0) + 0) + 0) 53 [(3, .ref f), (2, .ref g), (0, .ref (fO F)), (1, .int x)] []
  refine g_aload_n hX dX1_go_53 2 rfl ?_
  refine g_callV [] hX (ct_lower hX.st sz hw2 hlw) cw_X1_lowerTop cv_X1_lowerTop lk_X1_83 (ci := 1) rfl rfl (ovF_o hw2) ⟨by omega, by omega⟩ ⟨by omega, by omega⟩ (Nat.le_of_ble_eq_true rfl) rfl dX1_go_54 rfl (fun v54 M54 z54 hp54 hz54 hd54 => ?_)
  obtain ⟨rfl, rfl, rfl⟩ := hp54
  show G X _ (ov (cxT X) (ovF (cxT X) N (lwP 40 (drpP pl n (tkP P f g k0) (some f)) F).2) (lwP 40 (drpP pl n (tkP P f g k0) (some f)) F).1) sz (((((0 + 0) + 0) + 0) + 0) + 0) (((((0 + 0) + 0) + 0) + 0) + 0) 57 [(3, .ref f), (2, .ref g), (0, .ref (fO F)), (1, .int x)] []
  have hw3 : WfF (lwP 40 (drpP pl n (tkP P f g k0) (some f)) F).1 (lwP 40 (drpP pl n (tkP P f g k0) (some f)) F).2 := hwF.of (by rw [lw_D, drp_D]; rfl) (lw_O _ _ _)
  have hg3 : pD (lwP 40 (drpP pl n (tkP P f g k0) (some f)) F).1 g = true := by rw [lw_D, drp_D]; exact hg
  refine g_aload_n hX dX1_go_57 1 rfl ?_
  refine g_callVN [] hX (ct_area hX.st sz hw3.1 hg3) cw_X0_area cv_X0_area ln_X1_86 (ci := 0) rfl rfl (ov_pc (P := (lwP 40 (drpP pl n (tkP P f g k0) (some f)) F).1) hg3) ⟨by omega, by omega⟩ ⟨by omega, by omega⟩ (Nat.le_of_ble_eq_true rfl) rfl dX1_go_58 rfl (fun v58 M58 z58 hp58 hz58 hd58 => ?_)
  obtain ⟨rfl, rfl, rfl⟩ := hp58
  show G X _ (ov (cxT X) (ovF (cxT X) N (lwP 40 (drpP pl n (tkP P f g k0) (some f)) F).2) (lwP 40 (drpP pl n (tkP P f g k0) (some f)) F).1) sz ((((((0 + 0) + 0) + 0) + 0) + 0) + 0) ((((((0 + 0) + 0) + 0) + 0) + 0) + 0) 61 [(3, .ref f), (2, .ref g), (0, .ref (fO F)), (1, .int x)] [.int (arB (lwP 40 (drpP pl n (tkP P f g k0) (some f)) F).1 g)]
  exact hF (some (.int (arB (lwP 40 (drpP pl n (tkP P f g k0) (some f)) F).1 g))) (ov (cxT X) (ovF (cxT X) N (lwP 40 (drpP pl n (tkP P f g k0) (some f)) F).2) (lwP 40 (drpP pl n (tkP P f g k0) (some f)) F).1) sz _ _ _ _ .ireturn (⟨rfl, rfl, rfl⟩) (by omega) (by omega) ret_i dX1_go_61
