set_option maxHeartbeats 4000000 in
set_option maxRecDepth 100000 in
theorem cr_cnt0 {l : Launch} (hl : l.stackTraces = false) {T : CT3} {D : va_G} {N : AH} {o : Nat} {S : RS} (sz : Nat) {h : Nat} (ht : TrR S h (rC S 4)) (hh : h < 58) (hc : rC S 1 ≤ 60) : Ct l T D yX2_counted cX2_counted 2 (some .int) (3 * h + 7) (60 * h + 160) 0 0 [.ref o, .int 0] (ovR T N o S) sz (fun v M' z' => v = some (.int (cnR S h 0)) ∧ (∃ r, M' = ovR T N o (uRf S r)) ∧ sz = z') := by
  refine Ct.ofX hl (by decide) (Nat.le_of_ble_eq_true rfl) ?_
  intro X hl0 hT0 hD0 hlt hX hF
  subst hl0; subst hT0; subst hD0
  have htf := ht.f
  show G X 2 (ovR (cxT X) N o S) sz 0 0 0 [(0, .ref o), (1, .int 0)] []
  refine g_iload_n hX dX2_counted_0 1 rfl ?_
  refine g_tableIn (off := 47) hX 48 dX2_counted_1 (by decide) (by decide) (by decide) (by decide) ?_
  refine g_aload_n hX dX2_counted_48 0 rfl ?_
  refine g_callV [] hX (cr_heldNow hX.st sz hc) cw_X2_heldNow cv_X2_heldNow lk_X2_162 (ci := 2) rfl rfl ovR_o ⟨by omega, by omega⟩ ⟨by omega, by omega⟩ (Nat.le_of_ble_eq_true rfl) rfl dX2_counted_49 rfl (fun v49 M49 z49 hp49 hz49 hd49 => ?_)
  obtain ⟨rfl, rfl, rfl⟩ := hp49
  show G X _ (ovR (cxT X) N o S) sz (0 + 0) (0 + 0) 52 [(0, .ref o), (1, .int 0)] [.int (sumA 0 (fun a => nI (rD S a)) (rC S 1))]
  exact hF (some (.int (sumA 0 (fun a => nI (rD S a)) (rC S 1)))) (ovR (cxT X) N o S) sz _ _ _ _ .ireturn (⟨rfl, ⟨rR S, rfl⟩, rfl⟩) (by omega) (by omega) ret_i dX2_counted_52

set_option maxHeartbeats 4000000 in
set_option maxRecDepth 100000 in
theorem cr_cnt1 {l : Launch} (hl : l.stackTraces = false) {T : CT3} {D : va_G} {N : AH} {o : Nat} {S : RS} (sz : Nat) {h : Nat} (ht : TrR S h (rC S 4)) (hh : h < 58) (hc : rC S 1 ≤ 60) : Ct l T D yX2_counted cX2_counted 2 (some .int) (3 * h + 7) (60 * h + 160) 0 0 [.ref o, .int 1] (ovR T N o S) sz (fun v M' z' => v = some (.int (cnR S h 1)) ∧ (∃ r, M' = ovR T N o (uRf S r)) ∧ sz = z') := by
  refine Ct.ofX hl (by decide) (Nat.le_of_ble_eq_true rfl) ?_
  intro X hl0 hT0 hD0 hlt hX hF
  subst hl0; subst hT0; subst hD0
  have htf := ht.f
  show G X 2 (ovR (cxT X) N o S) sz 0 0 0 [(0, .ref o), (1, .int 1)] []
  refine g_iload_n hX dX2_counted_0 1 rfl ?_
  refine g_tableIn (off := 52) hX 53 dX2_counted_1 (by decide) (by decide) (by decide) (by decide) ?_
  refine g_aload_n hX dX2_counted_53 0 rfl ?_
  refine g_get (ci := 2) hX rfl fin_X2 (ovR_o (S := S)) 1 (by decide) fl_X2_41 rfl dX2_counted_54 ?_
  exact hF (some (.int (nI (rC S 1)))) (ovR (cxT X) N o S) sz _ _ _ _ .ireturn (⟨rfl, ⟨rR S, rfl⟩, rfl⟩) (by omega) (by omega) ret_i dX2_counted_57

set_option maxHeartbeats 4000000 in
set_option maxRecDepth 100000 in
theorem cr_cnt2 {l : Launch} (hl : l.stackTraces = false) {T : CT3} {D : va_G} {N : AH} {o : Nat} {S : RS} (sz : Nat) {h : Nat} (ht : TrR S h (rC S 4)) (hh : h < 58) (hc : rC S 1 ≤ 60) : Ct l T D yX2_counted cX2_counted 2 (some .int) (3 * h + 7) (60 * h + 160) 0 0 [.ref o, .int 2] (ovR T N o S) sz (fun v M' z' => v = some (.int (cnR S h 2)) ∧ (∃ r, M' = ovR T N o (uRf S r)) ∧ sz = z') := by
  refine Ct.ofX hl (by decide) (Nat.le_of_ble_eq_true rfl) ?_
  intro X hl0 hT0 hD0 hlt hX hF
  subst hl0; subst hT0; subst hD0
  have htf := ht.f
  show G X 2 (ovR (cxT X) N o S) sz 0 0 0 [(0, .ref o), (1, .int 2)] []
  refine g_iload_n hX dX2_counted_0 1 rfl ?_
  refine g_tableIn (off := 57) hX 58 dX2_counted_1 (by decide) (by decide) (by decide) (by decide) ?_
  refine g_aload_n hX dX2_counted_58 0 rfl ?_
  refine g_aload_n hX dX2_counted_59 0 rfl ?_
  refine g_get (ci := 2) hX rfl fin_X2 (ovR_o (S := S)) 6 (by decide) fl_X2_80 rfl dX2_counted_60 ?_
  refine g_iconst (v := 0) hX dX2_counted_63 (by decide) ?_
  refine g_callV [] hX (cr_sum0 hX.st sz h (rC S 4) ht (by omega)) cw_X2_sum cv_X2_sum lk_X2_159 (ci := 2) rfl rfl ovR_o ⟨by omega, by omega⟩ ⟨by omega, by omega⟩ (Nat.le_of_ble_eq_true rfl) rfl dX2_counted_64 rfl (fun v64 M64 z64 hp64 hz64 hd64 => ?_)
  obtain ⟨rfl, rfl, rfl⟩ := hp64
  show G X _ (ovR (cxT X) N o S) sz (0 + 0) (0 + 0) 67 [(0, .ref o), (1, .int 2)] [.int (s0R S h (rC S 4))]
  exact hF (some (.int (s0R S h (rC S 4)))) (ovR (cxT X) N o S) sz _ _ _ _ .ireturn (⟨rfl, ⟨rR S, rfl⟩, rfl⟩) (by omega) (by omega) ret_i dX2_counted_67

set_option maxHeartbeats 4000000 in
set_option maxRecDepth 100000 in
theorem cr_cnt3 {l : Launch} (hl : l.stackTraces = false) {T : CT3} {D : va_G} {N : AH} {o : Nat} {S : RS} (sz : Nat) {h : Nat} (ht : TrR S h (rC S 4)) (hh : h < 58) (hc : rC S 1 ≤ 60) : Ct l T D yX2_counted cX2_counted 2 (some .int) (3 * h + 7) (60 * h + 160) 0 0 [.ref o, .int 3] (ovR T N o S) sz (fun v M' z' => v = some (.int (cnR S h 3)) ∧ (∃ r, M' = ovR T N o (uRf S r)) ∧ sz = z') := by
  refine Ct.ofX hl (by decide) (Nat.le_of_ble_eq_true rfl) ?_
  intro X hl0 hT0 hD0 hlt hX hF
  subst hl0; subst hT0; subst hD0
  have htf := ht.f
  show G X 2 (ovR (cxT X) N o S) sz 0 0 0 [(0, .ref o), (1, .int 3)] []
  refine g_iload_n hX dX2_counted_0 1 rfl ?_
  refine g_tableIn (off := 67) hX 68 dX2_counted_1 (by decide) (by decide) (by decide) (by decide) ?_
  refine g_aload_n hX dX2_counted_68 0 rfl ?_
  refine g_get (ci := 2) hX rfl fin_X2 (ovR_o (S := S)) 9 (by decide) fl_X2_26 rfl dX2_counted_69 ?_
  refine g_aload_n hX dX2_counted_72 0 rfl ?_
  refine g_get (ci := 2) hX rfl fin_X2 (ovR_o (S := S)) 6 (by decide) fl_X2_80 rfl dX2_counted_73 ?_
  refine g_iald hX (ovR_at (S := S) 5 rfl) (rC S 4) rfl (by omega) (by decide) dX2_counted_76 ?_
  rw [ht.g]
  exact hF (some (.int (nI h))) (ovR (cxT X) N o S) sz _ _ _ _ .ireturn (⟨rfl, ⟨rR S, rfl⟩, rfl⟩) (by omega) (by omega) ret_i dX2_counted_77

set_option maxHeartbeats 4000000 in
set_option maxRecDepth 100000 in
theorem cr_cnt4 {l : Launch} (hl : l.stackTraces = false) {T : CT3} {D : va_G} {N : AH} {o : Nat} {S : RS} (sz : Nat) {h : Nat} (ht : TrR S h (rC S 4)) (hh : h < 58) (hc : rC S 1 ≤ 60) : Ct l T D yX2_counted cX2_counted 2 (some .int) (3 * h + 7) (60 * h + 160) 0 0 [.ref o, .int 4] (ovR T N o S) sz (fun v M' z' => v = some (.int (cnR S h 4)) ∧ (∃ r, M' = ovR T N o (uRf S r)) ∧ sz = z') := by
  refine Ct.ofX hl (by decide) (Nat.le_of_ble_eq_true rfl) ?_
  intro X hl0 hT0 hD0 hlt hX hF
  subst hl0; subst hT0; subst hD0
  have htf := ht.f
  show G X 2 (ovR (cxT X) N o S) sz 0 0 0 [(0, .ref o), (1, .int 4)] []
  refine g_iload_n hX dX2_counted_0 1 rfl ?_
  refine g_tableIn (off := 77) hX 78 dX2_counted_1 (by decide) (by decide) (by decide) (by decide) ?_
  refine g_aload_n hX dX2_counted_78 0 rfl ?_
  refine g_aload_n hX dX2_counted_79 0 rfl ?_
  refine g_get (ci := 2) hX rfl fin_X2 (ovR_o (S := S)) 6 (by decide) fl_X2_80 rfl dX2_counted_80 ?_
  refine g_iconst (v := 1) hX dX2_counted_83 (by decide) ?_
  refine g_callV [] hX (cr_sum1 hX.st sz h (rC S 4) ht (by omega)) cw_X2_sum cv_X2_sum lk_X2_159 (ci := 2) rfl rfl ovR_o ⟨by omega, by omega⟩ ⟨by omega, by omega⟩ (Nat.le_of_ble_eq_true rfl) rfl dX2_counted_84 rfl (fun v84 M84 z84 hp84 hz84 hd84 => ?_)
  obtain ⟨rfl, rfl, rfl⟩ := hp84
  show G X _ (ovR (cxT X) N o S) sz (0 + 0) (0 + 0) 87 [(0, .ref o), (1, .int 4)] [.int (s1R S h (rC S 4))]
  exact hF (some (.int (s1R S h (rC S 4)))) (ovR (cxT X) N o S) sz _ _ _ _ .ireturn (⟨rfl, ⟨rR S, rfl⟩, rfl⟩) (by omega) (by omega) ret_i dX2_counted_87

set_option maxHeartbeats 4000000 in
set_option maxRecDepth 100000 in
theorem cr_cnt5 {l : Launch} (hl : l.stackTraces = false) {T : CT3} {D : va_G} {N : AH} {o : Nat} {S : RS} (sz : Nat) {h : Nat} (ht : TrR S h (rC S 4)) (hh : h < 58) (hc : rC S 1 ≤ 60) : Ct l T D yX2_counted cX2_counted 2 (some .int) (3 * h + 7) (60 * h + 160) 0 0 [.ref o, .int 5] (ovR T N o S) sz (fun v M' z' => v = some (.int (cnR S h 5)) ∧ (∃ r, M' = ovR T N o (uRf S r)) ∧ sz = z') := by
  refine Ct.ofX hl (by decide) (Nat.le_of_ble_eq_true rfl) ?_
  intro X hl0 hT0 hD0 hlt hX hF
  subst hl0; subst hT0; subst hD0
  have htf := ht.f
  show G X 2 (ovR (cxT X) N o S) sz 0 0 0 [(0, .ref o), (1, .int 5)] []
  refine g_iload_n hX dX2_counted_0 1 rfl ?_
  refine g_tableIn (off := 87) hX 88 dX2_counted_1 (by decide) (by decide) (by decide) (by decide) ?_
  refine g_aload_n hX dX2_counted_88 0 rfl ?_
  refine g_aload_n hX dX2_counted_89 0 rfl ?_
  refine g_get (ci := 2) hX rfl fin_X2 (ovR_o (S := S)) 6 (by decide) fl_X2_80 rfl dX2_counted_90 ?_
  refine g_callV [] hX (cr_areaF hX.st sz ht (by omega)) cw_X2_area_ cv_X2_area_ lk_X2_70 (ci := 2) rfl rfl ovR_o ⟨by omega, by omega⟩ ⟨by omega, by omega⟩ (Nat.le_of_ble_eq_true rfl) rfl dX2_counted_93 rfl (fun v93 M93 z93 hp93 hz93 hd93 => ?_)
  obtain ⟨rfl, rfl, rfl⟩ := hp93
  show G X _ (ovR (cxT X) N o S) sz (0 + 0) (0 + 0) 96 [(0, .ref o), (1, .int 5)] [.int (arR S h (rC S 4))]
  exact hF (some (.int (arR S h (rC S 4)))) (ovR (cxT X) N o S) sz _ _ _ _ .ireturn (⟨rfl, ⟨rR S, rfl⟩, rfl⟩) (by omega) (by omega) ret_i dX2_counted_96

set_option maxHeartbeats 4000000 in
set_option maxRecDepth 100000 in
theorem cr_cnt6 {l : Launch} (hl : l.stackTraces = false) {T : CT3} {D : va_G} {N : AH} {o : Nat} {S : RS} (sz : Nat) {h : Nat} (ht : TrR S h (rC S 4)) (hh : h < 58) (hc : rC S 1 ≤ 60) : Ct l T D yX2_counted cX2_counted 2 (some .int) (3 * h + 7) (60 * h + 160) 0 0 [.ref o, .int 6] (ovR T N o S) sz (fun v M' z' => v = some (.int (cnR S h 6)) ∧ (∃ r, M' = ovR T N o (uRf S r)) ∧ sz = z') := by
  refine Ct.ofX hl (by decide) (Nat.le_of_ble_eq_true rfl) ?_
  intro X hl0 hT0 hD0 hlt hX hF
  subst hl0; subst hT0; subst hD0
  have htf := ht.f
  show G X 2 (ovR (cxT X) N o S) sz 0 0 0 [(0, .ref o), (1, .int 6)] []
  refine g_iload_n hX dX2_counted_0 1 rfl ?_
  refine g_tableIn (off := 96) hX 97 dX2_counted_1 (by decide) (by decide) (by decide) (by decide) ?_
  refine g_aload_n hX dX2_counted_97 0 rfl ?_
  refine g_aload_n hX dX2_counted_98 0 rfl ?_
  refine g_get (ci := 2) hX rfl fin_X2 (ovR_o (S := S)) 6 (by decide) fl_X2_80 rfl dX2_counted_99 ?_
  refine g_iconst (v := 2) hX dX2_counted_102 (by decide) ?_
  refine g_callV [] hX (cr_sum2 hX.st sz h (rC S 4) S ht (by omega)) cw_X2_sum cv_X2_sum lk_X2_159 (ci := 2) rfl rfl ovR_o ⟨by omega, by omega⟩ ⟨by omega, by omega⟩ (Nat.le_of_ble_eq_true rfl) rfl dX2_counted_103 rfl (fun v103 M103 z103 hp103 hz103 hd103 => ?_)
  obtain ⟨rfl, ⟨r, rfl⟩, rfl⟩ := hp103
  show G X _ (ovR (cxT X) N o (uRf S r)) sz (0 + 0) (0 + 0) 106 [(0, .ref o), (1, .int 6)] [.int (s2R S h (rC S 4))]
  exact hF (some (.int (s2R S h (rC S 4)))) (ovR (cxT X) N o (uRf S r)) sz _ _ _ _ .ireturn (⟨rfl, ⟨r, rfl⟩, rfl⟩) (by omega) (by omega) ret_i dX2_counted_106

set_option maxHeartbeats 4000000 in
set_option maxRecDepth 100000 in
theorem cr_cnt7 {l : Launch} (hl : l.stackTraces = false) {T : CT3} {D : va_G} {N : AH} {o : Nat} {S : RS} (sz : Nat) {h : Nat} (ht : TrR S h (rC S 4)) (hh : h < 58) (hc : rC S 1 ≤ 60) : Ct l T D yX2_counted cX2_counted 2 (some .int) (3 * h + 7) (60 * h + 160) 0 0 [.ref o, .int 7] (ovR T N o S) sz (fun v M' z' => v = some (.int (cnR S h 7)) ∧ (∃ r, M' = ovR T N o (uRf S r)) ∧ sz = z') := by
  refine Ct.ofX hl (by decide) (Nat.le_of_ble_eq_true rfl) ?_
  intro X hl0 hT0 hD0 hlt hX hF
  subst hl0; subst hT0; subst hD0
  have htf := ht.f
  show G X 2 (ovR (cxT X) N o S) sz 0 0 0 [(0, .ref o), (1, .int 7)] []
  refine g_iload_n hX dX2_counted_0 1 rfl ?_
  refine g_tableIn (off := 106) hX 107 dX2_counted_1 (by decide) (by decide) (by decide) (by decide) ?_
  refine g_aload_n hX dX2_counted_107 0 rfl ?_
  refine g_get (ci := 2) hX rfl fin_X2 (ovR_o (S := S)) 2 (by decide) fl_X2_97 rfl dX2_counted_108 ?_
  exact hF (some (.int (nI (rC S 2)))) (ovR (cxT X) N o S) sz _ _ _ _ .ireturn (⟨rfl, ⟨rR S, rfl⟩, rfl⟩) (by omega) (by omega) ret_i dX2_counted_111

set_option maxHeartbeats 4000000 in
set_option maxRecDepth 100000 in
theorem cr_cnt8 {l : Launch} (hl : l.stackTraces = false) {T : CT3} {D : va_G} {N : AH} {o : Nat} {S : RS} (sz : Nat) {h : Nat} (ht : TrR S h (rC S 4)) (hh : h < 58) (hc : rC S 1 ≤ 60) : Ct l T D yX2_counted cX2_counted 2 (some .int) (3 * h + 7) (60 * h + 160) 0 0 [.ref o, .int 8] (ovR T N o S) sz (fun v M' z' => v = some (.int (cnR S h 8)) ∧ (∃ r, M' = ovR T N o (uRf S r)) ∧ sz = z') := by
  refine Ct.ofX hl (by decide) (Nat.le_of_ble_eq_true rfl) ?_
  intro X hl0 hT0 hD0 hlt hX hF
  subst hl0; subst hT0; subst hD0
  have htf := ht.f
  show G X 2 (ovR (cxT X) N o S) sz 0 0 0 [(0, .ref o), (1, .int 8)] []
  refine g_iload_n hX dX2_counted_0 1 rfl ?_
  refine g_tableOut hX 112 dX2_counted_1 (by decide) (by decide) ?_
  refine g_aload_n hX dX2_counted_112 0 rfl ?_
  refine g_get (ci := 2) hX rfl fin_X2 (ovR_o (S := S)) 7 (by decide) fl_X2_20 rfl dX2_counted_113 ?_
  refine g_aload_n hX dX2_counted_116 0 rfl ?_
  refine g_get (ci := 2) hX rfl fin_X2 (ovR_o (S := S)) 6 (by decide) fl_X2_80 rfl dX2_counted_117 ?_
  refine g_iald hX (ovR_at (S := S) 3 rfl) (rC S 4) rfl (by omega) (by decide) dX2_counted_120 ?_
  exact hF (some (.int (nI (rM S (rC S 4))))) (ovR (cxT X) N o S) sz _ _ _ _ .ireturn (⟨rfl, ⟨rR S, rfl⟩, rfl⟩) (by omega) (by omega) ret_i dX2_counted_121

theorem cr_counted {l : Launch} (hl : l.stackTraces = false) {T : CT3} {D : va_G} {N : AH} {o : Nat} {S : RS} (sz : Nat) {h : Nat} (ht : TrR S h (rC S 4)) (hh : h < 58) (hc : rC S 1 ≤ 60) (w : Nat) (hw : w ≤ 8) : Ct l T D yX2_counted cX2_counted 2 (some .int) (3 * h + 7) (60 * h + 160) 0 0 [.ref o, .int (nI w)] (ovR T N o S) sz (fun v M' z' => v = some (.int (cnR S h w)) ∧ (∃ r, M' = ovR T N o (uRf S r)) ∧ sz = z') := by
  rcases (show w = 0 ∨ w = 1 ∨ w = 2 ∨ w = 3 ∨ w = 4 ∨ w = 5 ∨ w = 6 ∨ w = 7 ∨ w = 8 by omega) with rfl | rfl | rfl | rfl | rfl | rfl | rfl | rfl | rfl
  · exact cr_cnt0 hl sz ht hh hc
  · exact cr_cnt1 hl sz ht hh hc
  · exact cr_cnt2 hl sz ht hh hc
  · exact cr_cnt3 hl sz ht hh hc
  · exact cr_cnt4 hl sz ht hh hc
  · exact cr_cnt5 hl sz ht hh hc
  · exact cr_cnt6 hl sz ht hh hc
  · exact cr_cnt7 hl sz ht hh hc
  · exact cr_cnt8 hl sz ht hh hc

set_option maxHeartbeats 4000000 in
set_option maxRecDepth 100000 in
theorem cr_al3 {l : Launch} (hl : l.stackTraces = false) {T : CT3} {D : va_G} {N : AH} {o : Nat} {S : RS} (sz : Nat) {h : Nat} (ht : TrR S h (rC S 4)) (hh : h < 58) (hc : rC S 1 ≤ 60) (hd : ∀ a, a < 60 → rD S a ≤ 1) {a : Nat} (ha : a < 60) {fr ps : Nat → Nat} (hp : rD S a = 1 → Pth S h a fr ps ∧ fr 0 = rC S 4) {w : Nat} (hw : w < 4) : Ct l T D yX2_allotmentTold cX2_allotmentTold 4 (some .int) (h + 6) (27 * h + 120) 0 0 [.ref o, .int (nI a), .int (nI w)] (ovR T N o S) sz (fun v M' z' => v = some (.int (alR S h fr ps a w)) ∧ (∃ S', M' = ovR T N o S' ∧ SE S S' ∧ rC S' 0 = rC S 0) ∧ sz = z') := by
  refine Ct.ofX hl (by decide) (Nat.le_of_ble_eq_true rfl) ?_
  intro X hl0 hT0 hD0 hlt hX hF
  subst hl0; subst hT0; subst hD0
  show G X 4 (ovR (cxT X) N o S) sz 0 0 0 [(0, .ref o), (1, .int (nI a)), (2, .int (nI w))] []
  refine g_iload_n hX dX2_allotmentTold_0 2 rfl ?_
  refine g_iconst (v := 4) hX dX2_allotmentTold_1 (by decide) ?_
  refine g_icmp_ge hX 16 dX2_allotmentTold_2 (by decide) (fun c2 => absurd c2 (mt (nI_leI (a := 4) (b := w) (by omega) (by omega)).mp (by omega))) (fun _ => ?_)
  refine g_aload_n hX dX2_allotmentTold_5 0 rfl ?_
  refine g_get (ci := 2) hX rfl fin_X2 (ovR_o (S := S)) 3 (by decide) fl_X2_9 rfl dX2_allotmentTold_6 ?_
  refine g_iconst (v := 4) hX dX2_allotmentTold_9 (by decide) ?_
  refine g_iload_n hX dX2_allotmentTold_10 1 rfl ?_
  refine g_imul hX dX2_allotmentTold_11 ?_
  refine g_iload_n hX dX2_allotmentTold_12 2 rfl ?_
  refine g_iadd hX dX2_allotmentTold_13 ?_
  refine g_iald hX (ovR_at (S := S) 1 rfl) (4 * a + w) (ix4 _ _) (by omega) (by decide) dX2_allotmentTold_14 ?_
  exact hF (some (.int (rE S (4 * a + w)))) (ovR (cxT X) N o S) sz _ _ _ _ .ireturn (⟨by rw [alR_3 hw], ⟨S, rfl, SE.rfl' S, rfl⟩, rfl⟩) (by omega) (by omega) ret_i dX2_allotmentTold_15

set_option maxHeartbeats 4000000 in
set_option maxRecDepth 100000 in
theorem cr_al_4 {l : Launch} (hl : l.stackTraces = false) {T : CT3} {D : va_G} {N : AH} {o : Nat} {S : RS} (sz : Nat) {h : Nat} (ht : TrR S h (rC S 4)) (hh : h < 58) (hc : rC S 1 ≤ 60) (hd : ∀ a, a < 60 → rD S a ≤ 1) {a : Nat} (ha : a < 60) {fr ps : Nat → Nat} (hp : rD S a = 1 → Pth S h a fr ps ∧ fr 0 = rC S 4) : Ct l T D yX2_allotmentTold cX2_allotmentTold 4 (some .int) (h + 6) (27 * h + 120) 0 0 [.ref o, .int (nI a), .int 4] (ovR T N o S) sz (fun v M' z' => v = some (.int (alR S h fr ps a 4)) ∧ (∃ S', M' = ovR T N o S' ∧ SE S S' ∧ rC S' 0 = rC S 0) ∧ sz = z') := by
  refine Ct.ofX hl (by decide) (Nat.le_of_ble_eq_true rfl) ?_
  intro X hl0 hT0 hD0 hlt hX hF
  subst hl0; subst hT0; subst hD0
  have htf := ht.f
  show G X 4 (ovR (cxT X) N o S) sz 0 0 0 [(0, .ref o), (1, .int (nI a)), (2, .int 4)] []
  refine g_iload_n hX dX2_allotmentTold_0 2 rfl ?_
  refine g_iconst (v := 4) hX dX2_allotmentTold_1 (by decide) ?_
  refine g_icmp_ge hX 16 dX2_allotmentTold_2 (by decide) (fun _ => ?_) (fun c2 => absurd (by decide) c2)
  refine g_iload_n hX dX2_allotmentTold_16 2 rfl ?_
  refine g_iconst (v := 4) hX dX2_allotmentTold_17 (by decide) ?_
  refine g_icmp_ne hX 27 dX2_allotmentTold_18 (by decide) (fun c18 => absurd (by decide) c18) (fun _ => ?_)
  refine g_aload_n hX dX2_allotmentTold_21 0 rfl ?_
  refine g_iload_n hX dX2_allotmentTold_22 1 rfl ?_
  refine g_callV [] hX (cr_areaOf hX.st sz ha) cw_X2_areaOf cv_X2_areaOf lk_X2_135 (ci := 2) rfl rfl ovR_o ⟨by omega, by omega⟩ ⟨by omega, by omega⟩ (Nat.le_of_ble_eq_true rfl) rfl dX2_allotmentTold_23 rfl (fun v23 M23 z23 hp23 hz23 hd23 => ?_)
  obtain ⟨rfl, rfl, rfl⟩ := hp23
  show G X _ (ovR (cxT X) N o S) sz (0 + 0) (0 + 0) 26 [(0, .ref o), (1, .int (nI a)), (2, .int 4)] [.int (aroR S a)]
  exact hF (some (.int (aroR S a))) (ovR (cxT X) N o S) sz _ _ _ _ .ireturn (⟨rfl, ⟨S, rfl, SE.rfl' S, rfl⟩, rfl⟩) (by omega) (by omega) ret_i dX2_allotmentTold_26

set_option maxHeartbeats 4000000 in
set_option maxRecDepth 100000 in
theorem cr_al_5 {l : Launch} (hl : l.stackTraces = false) {T : CT3} {D : va_G} {N : AH} {o : Nat} {S : RS} (sz : Nat) {h : Nat} (ht : TrR S h (rC S 4)) (hh : h < 58) (hc : rC S 1 ≤ 60) (hd : ∀ a, a < 60 → rD S a ≤ 1) {a : Nat} (ha : a < 60) {fr ps : Nat → Nat} (hp : rD S a = 1 → Pth S h a fr ps ∧ fr 0 = rC S 4) : Ct l T D yX2_allotmentTold cX2_allotmentTold 4 (some .int) (h + 6) (27 * h + 120) 0 0 [.ref o, .int (nI a), .int 5] (ovR T N o S) sz (fun v M' z' => v = some (.int (alR S h fr ps a 5)) ∧ (∃ S', M' = ovR T N o S' ∧ SE S S' ∧ rC S' 0 = rC S 0) ∧ sz = z') := by
  refine Ct.ofX hl (by decide) (Nat.le_of_ble_eq_true rfl) ?_
  intro X hl0 hT0 hD0 hlt hX hF
  subst hl0; subst hT0; subst hD0
  have htf := ht.f
  show G X 4 (ovR (cxT X) N o S) sz 0 0 0 [(0, .ref o), (1, .int (nI a)), (2, .int 5)] []
  refine g_iload_n hX dX2_allotmentTold_0 2 rfl ?_
  refine g_iconst (v := 4) hX dX2_allotmentTold_1 (by decide) ?_
  refine g_icmp_ge hX 16 dX2_allotmentTold_2 (by decide) (fun _ => ?_) (fun c2 => absurd (by decide) c2)
  refine g_iload_n hX dX2_allotmentTold_16 2 rfl ?_
  refine g_iconst (v := 4) hX dX2_allotmentTold_17 (by decide) ?_
  refine g_icmp_ne hX 27 dX2_allotmentTold_18 (by decide) (fun _ => ?_) (fun c18 => absurd c18 (by decide))
  refine g_iload_n hX dX2_allotmentTold_27 2 rfl ?_
  refine g_bipush (v := 8) hX dX2_allotmentTold_28 (by decide) ?_
  refine g_icmp_ne hX 87 dX2_allotmentTold_30 (by decide) (fun _ => ?_) (fun c30 => absurd c30 (by decide))
  refine g_aload_n hX dX2_allotmentTold_87 0 rfl ?_
  refine g_get (ci := 2) hX rfl fin_X2 (ovR_o (S := S)) 4 (by decide) fl_X2_13 rfl dX2_allotmentTold_88 ?_
  refine g_iload_n hX dX2_allotmentTold_91 1 rfl ?_
  refine g_iald hX (ovR_at (S := S) 2 rfl) a rfl (by omega) (by decide) dX2_allotmentTold_92 ?_
  refine g_if_ne hX 98 dX2_allotmentTold_93 (by decide) (fun c93 => ?_) (fun c93 => ?_)
  · skip
    have h9 : ¬ rD S a = 0 := fun e => c93 (by rw [e]; rfl)
    have hd1 : rD S a = 1 := by have h8 := hd a ha; omega
    obtain ⟨hpp, hfr⟩ := hp hd1
    have htb := Pth_tr hpp (by rw [hfr]; exact ht)
    have htm := htb.m
    have htbf := htb.f
    refine g_aload_n hX dX2_allotmentTold_98 0 rfl ?_
    refine g_aload_n hX dX2_allotmentTold_99 0 rfl ?_
    refine g_get (ci := 2) hX rfl fin_X2 (ovR_o (S := S)) 6 (by decide) fl_X2_80 rfl dX2_allotmentTold_100 ?_
    refine g_iload_n hX dX2_allotmentTold_103 1 rfl ?_
    refine g_iconst (v := 0) hX dX2_allotmentTold_104 (by decide) ?_
    refine g_callV [] hX (cr_find hX.st sz h (rC S 4) a 0 fr ps S ht hpp hfr (by omega) ha) cw_X2_find cv_X2_find lk_X2_125 (ci := 2) rfl rfl ovR_o ⟨by omega, by omega⟩ ⟨by omega, by omega⟩ (Nat.le_of_ble_eq_true rfl) rfl dX2_allotmentTold_105 rfl (fun v105 M105 z105 hp105 hz105 hd105 => ?_)
    obtain ⟨rfl, ⟨w, p, rfl, hw1, hp1, hw3, hp3⟩, rfl⟩ := hp105
    show G X _ (ovR (cxT X) N o (uWP S (va_up (rC S) 5 (0 + h)) w p)) sz (0 + 0) (0 + 0) 108 [(0, .ref o), (1, .int (nI a)), (2, .int 5)] [.int (nI (ps h))]
    refine g_istore_n (L' := [(3, .int (nI (ps h))), (0, .ref o), (1, .int (nI a)), (2, .int 5)]) hX dX2_allotmentTold_108 (by decide) rfl ?_
    refine g_iload_n hX dX2_allotmentTold_109 3 rfl ?_
    refine g_iconst (v := 5) hX dX2_allotmentTold_110 (by decide) ?_
    refine g_icmp_ne hX 118 dX2_allotmentTold_111 (by decide) (fun c111 => absurd (by decide) c111) (fun _ => ?_)
    refine g_iload_n hX dX2_allotmentTold_114 0 rfl ?_
    refine g_goto hX 154 dX2_allotmentTold_115 (by decide) ?_
    exact hF (some (.int (nI (ps h)))) (ovR (cxT X) N o (uWP S (va_up (rC S) 5 (0 + h)) w p)) sz _ _ _ _ .ireturn (⟨by rw [show alR S h fr ps a 5 = _ from (if_neg (by omega))], ⟨(uWP S (va_up (rC S) 5 (0 + h)) w p), rfl, SE.rfl' S, rfl⟩, rfl⟩) (by omega) (by omega) ret_i dX2_allotmentTold_154
  · skip
    have hd0 : rD S a = 0 := (nI_eq (a := rD S a) (b := 0) (by have := hd a ha; omega) (by omega)).mp c93
    refine g_iconst (v := (-1)) hX dX2_allotmentTold_96 (by decide) ?_
    exact hF (some (.int (-1))) (ovR (cxT X) N o S) sz _ _ _ _ .ireturn (⟨by rw [show alR S h fr ps a 5 = _ from (if_pos hd0)], ⟨S, rfl, SE.rfl' S, rfl⟩, rfl⟩) (by omega) (by omega) ret_i dX2_allotmentTold_97

set_option maxHeartbeats 4000000 in
set_option maxRecDepth 100000 in
theorem cr_al_6 {l : Launch} (hl : l.stackTraces = false) {T : CT3} {D : va_G} {N : AH} {o : Nat} {S : RS} (sz : Nat) {h : Nat} (ht : TrR S h (rC S 4)) (hh : h < 58) (hc : rC S 1 ≤ 60) (hd : ∀ a, a < 60 → rD S a ≤ 1) {a : Nat} (ha : a < 60) {fr ps : Nat → Nat} (hp : rD S a = 1 → Pth S h a fr ps ∧ fr 0 = rC S 4) : Ct l T D yX2_allotmentTold cX2_allotmentTold 4 (some .int) (h + 6) (27 * h + 120) 0 0 [.ref o, .int (nI a), .int 6] (ovR T N o S) sz (fun v M' z' => v = some (.int (alR S h fr ps a 6)) ∧ (∃ S', M' = ovR T N o S' ∧ SE S S' ∧ rC S' 0 = rC S 0) ∧ sz = z') := by
  refine Ct.ofX hl (by decide) (Nat.le_of_ble_eq_true rfl) ?_
  intro X hl0 hT0 hD0 hlt hX hF
  subst hl0; subst hT0; subst hD0
  have htf := ht.f
  show G X 4 (ovR (cxT X) N o S) sz 0 0 0 [(0, .ref o), (1, .int (nI a)), (2, .int 6)] []
  refine g_iload_n hX dX2_allotmentTold_0 2 rfl ?_
  refine g_iconst (v := 4) hX dX2_allotmentTold_1 (by decide) ?_
  refine g_icmp_ge hX 16 dX2_allotmentTold_2 (by decide) (fun _ => ?_) (fun c2 => absurd (by decide) c2)
  refine g_iload_n hX dX2_allotmentTold_16 2 rfl ?_
  refine g_iconst (v := 4) hX dX2_allotmentTold_17 (by decide) ?_
  refine g_icmp_ne hX 27 dX2_allotmentTold_18 (by decide) (fun _ => ?_) (fun c18 => absurd c18 (by decide))
  refine g_iload_n hX dX2_allotmentTold_27 2 rfl ?_
  refine g_bipush (v := 8) hX dX2_allotmentTold_28 (by decide) ?_
  refine g_icmp_ne hX 87 dX2_allotmentTold_30 (by decide) (fun _ => ?_) (fun c30 => absurd c30 (by decide))
  refine g_aload_n hX dX2_allotmentTold_87 0 rfl ?_
  refine g_get (ci := 2) hX rfl fin_X2 (ovR_o (S := S)) 4 (by decide) fl_X2_13 rfl dX2_allotmentTold_88 ?_
  refine g_iload_n hX dX2_allotmentTold_91 1 rfl ?_
  refine g_iald hX (ovR_at (S := S) 2 rfl) a rfl (by omega) (by decide) dX2_allotmentTold_92 ?_
  refine g_if_ne hX 98 dX2_allotmentTold_93 (by decide) (fun c93 => ?_) (fun c93 => ?_)
  · skip
    have h9 : ¬ rD S a = 0 := fun e => c93 (by rw [e]; rfl)
    have hd1 : rD S a = 1 := by have h8 := hd a ha; omega
    obtain ⟨hpp, hfr⟩ := hp hd1
    have htb := Pth_tr hpp (by rw [hfr]; exact ht)
    have htm := htb.m
    have htbf := htb.f
    refine g_aload_n hX dX2_allotmentTold_98 0 rfl ?_
    refine g_aload_n hX dX2_allotmentTold_99 0 rfl ?_
    refine g_get (ci := 2) hX rfl fin_X2 (ovR_o (S := S)) 6 (by decide) fl_X2_80 rfl dX2_allotmentTold_100 ?_
    refine g_iload_n hX dX2_allotmentTold_103 1 rfl ?_
    refine g_iconst (v := 0) hX dX2_allotmentTold_104 (by decide) ?_
    refine g_callV [] hX (cr_find hX.st sz h (rC S 4) a 0 fr ps S ht hpp hfr (by omega) ha) cw_X2_find cv_X2_find lk_X2_125 (ci := 2) rfl rfl ovR_o ⟨by omega, by omega⟩ ⟨by omega, by omega⟩ (Nat.le_of_ble_eq_true rfl) rfl dX2_allotmentTold_105 rfl (fun v105 M105 z105 hp105 hz105 hd105 => ?_)
    obtain ⟨rfl, ⟨w, p, rfl, hw1, hp1, hw3, hp3⟩, rfl⟩ := hp105
    show G X _ (ovR (cxT X) N o (uWP S (va_up (rC S) 5 (0 + h)) w p)) sz (0 + 0) (0 + 0) 108 [(0, .ref o), (1, .int (nI a)), (2, .int 6)] [.int (nI (ps h))]
    refine g_istore_n (L' := [(3, .int (nI (ps h))), (0, .ref o), (1, .int (nI a)), (2, .int 6)]) hX dX2_allotmentTold_108 (by decide) rfl ?_
    refine g_iload_n hX dX2_allotmentTold_109 3 rfl ?_
    refine g_iconst (v := 5) hX dX2_allotmentTold_110 (by decide) ?_
    refine g_icmp_ne hX 118 dX2_allotmentTold_111 (by decide) (fun _ => ?_) (fun c111 => absurd c111 (by decide))
    refine g_iload_n hX dX2_allotmentTold_118 3 rfl ?_
    refine g_bipush (v := 6) hX dX2_allotmentTold_119 (by decide) ?_
    refine g_icmp_ne hX 141 dX2_allotmentTold_121 (by decide) (fun c121 => absurd (by decide) c121) (fun _ => ?_)
    refine g_aload_n hX dX2_allotmentTold_124 1 rfl ?_
    refine g_get (ci := 2) hX rfl fin_X2 (ovR_o (S := (uWP S (va_up (rC S) 5 (0 + h)) w p))) 7 (by decide) fl_X2_20 rfl dX2_allotmentTold_125 ?_
    refine g_aload_n hX dX2_allotmentTold_128 1 rfl ?_
    refine g_get (ci := 2) hX rfl fin_X2 (ovR_o (S := (uWP S (va_up (rC S) 5 (0 + h)) w p))) 10 (by decide) fl_X2_29 rfl dX2_allotmentTold_129 ?_
    refine g_aload_n hX dX2_allotmentTold_132 1 rfl ?_
    refine g_get (ci := 2) hX rfl fin_X2 (ovR_o (S := (uWP S (va_up (rC S) 5 (0 + h)) w p))) 12 (by decide) fl_X2_77 rfl dX2_allotmentTold_133 ?_
    rw [show rC (uWP S (va_up (rC S) 5 (0 + h)) w p) 5 = 0 + h from va_up_self (rC S) 5 (0 + h)]
    refine g_iald hX (ovR_at (S := (uWP S (va_up (rC S) 5 (0 + h)) w p)) 6 rfl) (0 + h) rfl (by omega) (by decide) dX2_allotmentTold_136 ?_
    rw [show rW (uWP S (va_up (rC S) 5 (0 + h)) w p) (0 + h) = fr h from hw3 h (Nat.le_refl _)]
    refine g_iald hX (ovR_at (S := (uWP S (va_up (rC S) 5 (0 + h)) w p)) 3 rfl) (fr h) rfl (by omega) (by decide) dX2_allotmentTold_137 ?_
    refine g_goto hX 154 dX2_allotmentTold_138 (by decide) ?_
    exact hF (some (.int (nI (rM S (fr h))))) (ovR (cxT X) N o (uWP S (va_up (rC S) 5 (0 + h)) w p)) sz _ _ _ _ .ireturn (⟨by rw [show alR S h fr ps a 6 = _ from (if_neg (by omega))], ⟨(uWP S (va_up (rC S) 5 (0 + h)) w p), rfl, SE.rfl' S, rfl⟩, rfl⟩) (by omega) (by omega) ret_i dX2_allotmentTold_154
  · skip
    have hd0 : rD S a = 0 := (nI_eq (a := rD S a) (b := 0) (by have := hd a ha; omega) (by omega)).mp c93
    refine g_iconst (v := (-1)) hX dX2_allotmentTold_96 (by decide) ?_
    exact hF (some (.int (-1))) (ovR (cxT X) N o S) sz _ _ _ _ .ireturn (⟨by rw [show alR S h fr ps a 6 = _ from (if_pos hd0)], ⟨S, rfl, SE.rfl' S, rfl⟩, rfl⟩) (by omega) (by omega) ret_i dX2_allotmentTold_97

set_option maxHeartbeats 4000000 in
set_option maxRecDepth 100000 in
theorem cr_al_7 {l : Launch} (hl : l.stackTraces = false) {T : CT3} {D : va_G} {N : AH} {o : Nat} {S : RS} (sz : Nat) {h : Nat} (ht : TrR S h (rC S 4)) (hh : h < 58) (hc : rC S 1 ≤ 60) (hd : ∀ a, a < 60 → rD S a ≤ 1) {a : Nat} (ha : a < 60) {fr ps : Nat → Nat} (hp : rD S a = 1 → Pth S h a fr ps ∧ fr 0 = rC S 4) : Ct l T D yX2_allotmentTold cX2_allotmentTold 4 (some .int) (h + 6) (27 * h + 120) 0 0 [.ref o, .int (nI a), .int 7] (ovR T N o S) sz (fun v M' z' => v = some (.int (alR S h fr ps a 7)) ∧ (∃ S', M' = ovR T N o S' ∧ SE S S' ∧ rC S' 0 = rC S 0) ∧ sz = z') := by
  refine Ct.ofX hl (by decide) (Nat.le_of_ble_eq_true rfl) ?_
  intro X hl0 hT0 hD0 hlt hX hF
  subst hl0; subst hT0; subst hD0
  have htf := ht.f
  show G X 4 (ovR (cxT X) N o S) sz 0 0 0 [(0, .ref o), (1, .int (nI a)), (2, .int 7)] []
  refine g_iload_n hX dX2_allotmentTold_0 2 rfl ?_
  refine g_iconst (v := 4) hX dX2_allotmentTold_1 (by decide) ?_
  refine g_icmp_ge hX 16 dX2_allotmentTold_2 (by decide) (fun _ => ?_) (fun c2 => absurd (by decide) c2)
  refine g_iload_n hX dX2_allotmentTold_16 2 rfl ?_
  refine g_iconst (v := 4) hX dX2_allotmentTold_17 (by decide) ?_
  refine g_icmp_ne hX 27 dX2_allotmentTold_18 (by decide) (fun _ => ?_) (fun c18 => absurd c18 (by decide))
  refine g_iload_n hX dX2_allotmentTold_27 2 rfl ?_
  refine g_bipush (v := 8) hX dX2_allotmentTold_28 (by decide) ?_
  refine g_icmp_ne hX 87 dX2_allotmentTold_30 (by decide) (fun _ => ?_) (fun c30 => absurd c30 (by decide))
  refine g_aload_n hX dX2_allotmentTold_87 0 rfl ?_
  refine g_get (ci := 2) hX rfl fin_X2 (ovR_o (S := S)) 4 (by decide) fl_X2_13 rfl dX2_allotmentTold_88 ?_
  refine g_iload_n hX dX2_allotmentTold_91 1 rfl ?_
  refine g_iald hX (ovR_at (S := S) 2 rfl) a rfl (by omega) (by decide) dX2_allotmentTold_92 ?_
  refine g_if_ne hX 98 dX2_allotmentTold_93 (by decide) (fun c93 => ?_) (fun c93 => ?_)
  · skip
    have h9 : ¬ rD S a = 0 := fun e => c93 (by rw [e]; rfl)
    have hd1 : rD S a = 1 := by have h8 := hd a ha; omega
    obtain ⟨hpp, hfr⟩ := hp hd1
    have htb := Pth_tr hpp (by rw [hfr]; exact ht)
    have htm := htb.m
    have htbf := htb.f
    refine g_aload_n hX dX2_allotmentTold_98 0 rfl ?_
    refine g_aload_n hX dX2_allotmentTold_99 0 rfl ?_
    refine g_get (ci := 2) hX rfl fin_X2 (ovR_o (S := S)) 6 (by decide) fl_X2_80 rfl dX2_allotmentTold_100 ?_
    refine g_iload_n hX dX2_allotmentTold_103 1 rfl ?_
    refine g_iconst (v := 0) hX dX2_allotmentTold_104 (by decide) ?_
    refine g_callV [] hX (cr_find hX.st sz h (rC S 4) a 0 fr ps S ht hpp hfr (by omega) ha) cw_X2_find cv_X2_find lk_X2_125 (ci := 2) rfl rfl ovR_o ⟨by omega, by omega⟩ ⟨by omega, by omega⟩ (Nat.le_of_ble_eq_true rfl) rfl dX2_allotmentTold_105 rfl (fun v105 M105 z105 hp105 hz105 hd105 => ?_)
    obtain ⟨rfl, ⟨w, p, rfl, hw1, hp1, hw3, hp3⟩, rfl⟩ := hp105
    show G X _ (ovR (cxT X) N o (uWP S (va_up (rC S) 5 (0 + h)) w p)) sz (0 + 0) (0 + 0) 108 [(0, .ref o), (1, .int (nI a)), (2, .int 7)] [.int (nI (ps h))]
    refine g_istore_n (L' := [(3, .int (nI (ps h))), (0, .ref o), (1, .int (nI a)), (2, .int 7)]) hX dX2_allotmentTold_108 (by decide) rfl ?_
    refine g_iload_n hX dX2_allotmentTold_109 3 rfl ?_
    refine g_iconst (v := 5) hX dX2_allotmentTold_110 (by decide) ?_
    refine g_icmp_ne hX 118 dX2_allotmentTold_111 (by decide) (fun _ => ?_) (fun c111 => absurd c111 (by decide))
    refine g_iload_n hX dX2_allotmentTold_118 3 rfl ?_
    refine g_bipush (v := 6) hX dX2_allotmentTold_119 (by decide) ?_
    refine g_icmp_ne hX 141 dX2_allotmentTold_121 (by decide) (fun _ => ?_) (fun c121 => absurd c121 (by decide))
    refine g_aload_n hX dX2_allotmentTold_141 1 rfl ?_
    refine g_aload_n hX dX2_allotmentTold_142 1 rfl ?_
    refine g_get (ci := 2) hX rfl fin_X2 (ovR_o (S := (uWP S (va_up (rC S) 5 (0 + h)) w p))) 10 (by decide) fl_X2_29 rfl dX2_allotmentTold_143 ?_
    refine g_aload_n hX dX2_allotmentTold_146 1 rfl ?_
    refine g_get (ci := 2) hX rfl fin_X2 (ovR_o (S := (uWP S (va_up (rC S) 5 (0 + h)) w p))) 12 (by decide) fl_X2_77 rfl dX2_allotmentTold_147 ?_
    rw [show rC (uWP S (va_up (rC S) 5 (0 + h)) w p) 5 = 0 + h from va_up_self (rC S) 5 (0 + h)]
    refine g_iald hX (ovR_at (S := (uWP S (va_up (rC S) 5 (0 + h)) w p)) 6 rfl) (0 + h) rfl (by omega) (by decide) dX2_allotmentTold_150 ?_
    rw [show rW (uWP S (va_up (rC S) 5 (0 + h)) w p) (0 + h) = fr h from hw3 h (Nat.le_refl _)]
    refine g_callV [] hX (cr_areaF hX.st sz (S := uWP S (va_up (rC S) 5 (0 + h)) w p) (n := 0) (f := fr h) (TrR.cg (S := S) (S' := uWP S (va_up (rC S) 5 (0 + h)) w p) rfl rfl rfl htb) (by omega)) cw_X2_area_ cv_X2_area_ lk_X2_70 (ci := 2) rfl rfl ovR_o ⟨by omega, by omega⟩ ⟨by omega, by omega⟩ (Nat.le_of_ble_eq_true rfl) rfl dX2_allotmentTold_151 rfl (fun v151 M151 z151 hp151 hz151 hd151 => ?_)
    rw [arR_cg (S := S) (S' := uWP S (va_up (rC S) 5 (0 + h)) w p) rfl rfl rfl] at hp151
    obtain ⟨rfl, rfl, rfl⟩ := hp151
    show G X _ (ovR (cxT X) N o (uWP S (va_up (rC S) 5 (0 + h)) w p)) sz ((0 + 0) + 0) ((0 + 0) + 0) 154 [(3, .int (nI (ps h))), (0, .ref o), (1, .int (nI a)), (2, .int 7)] [.int (arR S 0 (fr h))]
    exact hF (some (.int (arR S 0 (fr h)))) (ovR (cxT X) N o (uWP S (va_up (rC S) 5 (0 + h)) w p)) sz _ _ _ _ .ireturn (⟨by rw [show alR S h fr ps a 7 = _ from (if_neg (by omega))], ⟨(uWP S (va_up (rC S) 5 (0 + h)) w p), rfl, SE.rfl' S, rfl⟩, rfl⟩) (by omega) (by omega) ret_i dX2_allotmentTold_154
  · skip
    have hd0 : rD S a = 0 := (nI_eq (a := rD S a) (b := 0) (by have := hd a ha; omega) (by omega)).mp c93
    refine g_iconst (v := (-1)) hX dX2_allotmentTold_96 (by decide) ?_
    exact hF (some (.int (-1))) (ovR (cxT X) N o S) sz _ _ _ _ .ireturn (⟨by rw [show alR S h fr ps a 7 = _ from (if_pos hd0)], ⟨S, rfl, SE.rfl' S, rfl⟩, rfl⟩) (by omega) (by omega) ret_i dX2_allotmentTold_97

set_option maxHeartbeats 4000000 in
set_option maxRecDepth 100000 in
theorem cr_al_8 {l : Launch} (hl : l.stackTraces = false) {T : CT3} {D : va_G} {N : AH} {o : Nat} {S : RS} (sz : Nat) {h : Nat} (ht : TrR S h (rC S 4)) (hh : h < 58) (hc : rC S 1 ≤ 60) (hd : ∀ a, a < 60 → rD S a ≤ 1) {a : Nat} (ha : a < 60) {fr ps : Nat → Nat} (hp : rD S a = 1 → Pth S h a fr ps ∧ fr 0 = rC S 4) : Ct l T D yX2_allotmentTold cX2_allotmentTold 4 (some .int) (h + 6) (27 * h + 120) 0 0 [.ref o, .int (nI a), .int 8] (ovR T N o S) sz (fun v M' z' => v = some (.int (alR S h fr ps a 8)) ∧ (∃ S', M' = ovR T N o S' ∧ SE S S' ∧ rC S' 0 = rC S 0) ∧ sz = z') := by
  refine Ct.ofX hl (by decide) (Nat.le_of_ble_eq_true rfl) ?_
  intro X hl0 hT0 hD0 hlt hX hF
  subst hl0; subst hT0; subst hD0
  have htf := ht.f
  show G X 4 (ovR (cxT X) N o S) sz 0 0 0 [(0, .ref o), (1, .int (nI a)), (2, .int 8)] []
  refine g_iload_n hX dX2_allotmentTold_0 2 rfl ?_
  refine g_iconst (v := 4) hX dX2_allotmentTold_1 (by decide) ?_
  refine g_icmp_ge hX 16 dX2_allotmentTold_2 (by decide) (fun _ => ?_) (fun c2 => absurd (by decide) c2)
  refine g_iload_n hX dX2_allotmentTold_16 2 rfl ?_
  refine g_iconst (v := 4) hX dX2_allotmentTold_17 (by decide) ?_
  refine g_icmp_ne hX 27 dX2_allotmentTold_18 (by decide) (fun _ => ?_) (fun c18 => absurd c18 (by decide))
  refine g_iload_n hX dX2_allotmentTold_27 2 rfl ?_
  refine g_bipush (v := 8) hX dX2_allotmentTold_28 (by decide) ?_
  refine g_icmp_ne hX 87 dX2_allotmentTold_30 (by decide) (fun c30 => absurd (by decide) c30) (fun _ => ?_)
  refine g_aload_n hX dX2_allotmentTold_33 0 rfl ?_
  refine g_aload_n hX dX2_allotmentTold_34 0 rfl ?_
  refine g_get (ci := 2) hX rfl fin_X2 (ovR_o (S := S)) 3 (by decide) fl_X2_9 rfl dX2_allotmentTold_35 ?_
  refine g_iconst (v := 4) hX dX2_allotmentTold_38 (by decide) ?_
  refine g_iload_n hX dX2_allotmentTold_39 1 rfl ?_
  refine g_imul hX dX2_allotmentTold_40 ?_
  refine g_iald hX (ovR_at (S := S) 1 rfl) (4 * a) (ix40 _) (by omega) (by decide) dX2_allotmentTold_41 ?_
  refine g_aload_n hX dX2_allotmentTold_42 0 rfl ?_
  refine g_get (ci := 2) hX rfl fin_X2 (ovR_o (S := S)) 3 (by decide) fl_X2_9 rfl dX2_allotmentTold_43 ?_
  refine g_iconst (v := 4) hX dX2_allotmentTold_46 (by decide) ?_
  refine g_iload_n hX dX2_allotmentTold_47 1 rfl ?_
  refine g_imul hX dX2_allotmentTold_48 ?_
  refine g_iconst (v := 1) hX dX2_allotmentTold_49 (by decide) ?_
  refine g_iadd hX dX2_allotmentTold_50 ?_
  refine g_iald hX (ovR_at (S := S) 1 rfl) (4 * a + 1) (ix41 _) (by omega) (by decide) dX2_allotmentTold_51 ?_
  refine g_aload_n hX dX2_allotmentTold_52 0 rfl ?_
  refine g_get (ci := 2) hX rfl fin_X2 (ovR_o (S := S)) 3 (by decide) fl_X2_9 rfl dX2_allotmentTold_53 ?_
  refine g_iconst (v := 4) hX dX2_allotmentTold_56 (by decide) ?_
  refine g_iload_n hX dX2_allotmentTold_57 1 rfl ?_
  refine g_imul hX dX2_allotmentTold_58 ?_
  refine g_iconst (v := 2) hX dX2_allotmentTold_59 (by decide) ?_
  refine g_iadd hX dX2_allotmentTold_60 ?_
  refine g_iald hX (ovR_at (S := S) 1 rfl) (4 * a + 2) (ix42 _) (by omega) (by decide) dX2_allotmentTold_61 ?_
  refine g_aload_n hX dX2_allotmentTold_62 0 rfl ?_
  refine g_get (ci := 2) hX rfl fin_X2 (ovR_o (S := S)) 3 (by decide) fl_X2_9 rfl dX2_allotmentTold_63 ?_
  refine g_iconst (v := 4) hX dX2_allotmentTold_66 (by decide) ?_
  refine g_iload_n hX dX2_allotmentTold_67 1 rfl ?_
  refine g_imul hX dX2_allotmentTold_68 ?_
  refine g_iconst (v := 3) hX dX2_allotmentTold_69 (by decide) ?_
  refine g_iadd hX dX2_allotmentTold_70 ?_
  refine g_iald hX (ovR_at (S := S) 1 rfl) (4 * a + 3) (ix43 _) (by omega) (by decide) dX2_allotmentTold_71 ?_
  refine g_callV [] hX (cr_take hX.st sz _ _ _ _) cw_X2_take cv_X2_take lk_X2_106 (ci := 2) rfl rfl ovR_o ⟨by omega, by omega⟩ ⟨by omega, by omega⟩ (Nat.le_of_ble_eq_true rfl) rfl dX2_allotmentTold_72 rfl (fun v72 M72 z72 hp72 hz72 hd72 => ?_)
  obtain ⟨rfl, rfl, rfl⟩ := hp72
  show G X _ (ovR (cxT X) N o (uRf S (r4R (rR S) (fun s => rE S (4 * a + s))))) sz (0 + 0) (0 + 0) 75 [(0, .ref o), (1, .int (nI a)), (2, .int 8)] []
  refine g_aload_n hX dX2_allotmentTold_75 0 rfl ?_
  refine g_callV [] hX (cr_all hX.st sz (S := uRf S (r4R (rR S) (fun s => rE S (4 * a + s)))) hc hd) cw_X2_all cv_X2_all lk_X2_138 (ci := 2) rfl rfl ovR_o ⟨by omega, by omega⟩ ⟨by omega, by omega⟩ (Nat.le_of_ble_eq_true rfl) rfl dX2_allotmentTold_76 rfl (fun v76 M76 z76 hp76 hz76 hd76 => ?_)
  obtain ⟨rfl, rfl, rfl⟩ := hp76
  show G X _ (ovR (cxT X) N o (uRf S (r4R (rR S) (fun s => rE S (4 * a + s))))) sz ((0 + 0) + 0) ((0 + 0) + 0) 79 [(0, .ref o), (1, .int (nI a)), (2, .int 8)] [.int (lapR S a)]
  refine g_aload_n hX dX2_allotmentTold_79 0 rfl ?_
  refine g_get (ci := 2) hX rfl fin_X2 (ovR_o (S := (uRf S (r4R (rR S) (fun s => rE S (4 * a + s)))))) 4 (by decide) fl_X2_13 rfl dX2_allotmentTold_80 ?_
  refine g_iload_n hX dX2_allotmentTold_83 1 rfl ?_
  refine g_iald hX (ovR_at (S := (uRf S (r4R (rR S) (fun s => rE S (4 * a + s))))) 2 rfl) a rfl (by omega) (by decide) dX2_allotmentTold_84 ?_
  refine g_isub hX dX2_allotmentTold_85 ?_
  exact hF (some (.int ((lapR S a) - (nI (rD S a))))) (ovR (cxT X) N o (uRf S (r4R (rR S) (fun s => rE S (4 * a + s))))) sz _ _ _ _ .ireturn (⟨rfl, ⟨(uRf S (r4R (rR S) (fun s => rE S (4 * a + s)))), rfl, SE.rfl' S, rfl⟩, rfl⟩) (by omega) (by omega) ret_i dX2_allotmentTold_86

theorem cr_allot {l : Launch} (hl : l.stackTraces = false) {T : CT3} {D : va_G} {N : AH} {o : Nat} {S : RS} (sz : Nat) {h : Nat} (ht : TrR S h (rC S 4)) (hh : h < 58) (hc : rC S 1 ≤ 60) (hd : ∀ a, a < 60 → rD S a ≤ 1) {a : Nat} (ha : a < 60) {fr ps : Nat → Nat} (hp : rD S a = 1 → Pth S h a fr ps ∧ fr 0 = rC S 4) (w : Nat) (hw : w ≤ 8) : Ct l T D yX2_allotmentTold cX2_allotmentTold 4 (some .int) (h + 6) (27 * h + 120) 0 0 [.ref o, .int (nI a), .int (nI w)] (ovR T N o S) sz (fun v M' z' => v = some (.int (alR S h fr ps a w)) ∧ (∃ S', M' = ovR T N o S' ∧ SE S S' ∧ rC S' 0 = rC S 0) ∧ sz = z') := by
  rcases (show w < 4 ∨ w = 4 ∨ w = 5 ∨ w = 6 ∨ w = 7 ∨ w = 8 by omega) with hw4 | rfl | rfl | rfl | rfl | rfl
  · exact cr_al3 hl sz ht hh hc hd ha hp hw4
  · exact cr_al_4 hl sz ht hh hc hd ha hp
  · exact cr_al_5 hl sz ht hh hc hd ha hp
  · exact cr_al_6 hl sz ht hh hc hd ha hp
  · exact cr_al_7 hl sz ht hh hc hd ha hp
  · exact cr_al_8 hl sz ht hh hc hd ha hp
