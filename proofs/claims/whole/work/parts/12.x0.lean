set_option maxHeartbeats 4000000 in
set_option maxRecDepth 100000 in
theorem ct_area {l : Launch} (hl : l.stackTraces = false) {T : CT3} {D : va_G} {N : AH} {P : PS} (sz : Nat) (hw : Wf P) {q : Nat} (hq : pD P q = true) : Ct l T D yX0_area cX0_area 1 (some .int) 0 0 0 0 [.ref q] (ov T N P) sz (fun v M' z' => v = some (.int (arB P q)) ∧ M' = ov T N P ∧ sz = z') := by
  refine Ct.ofX hl (by decide) (Nat.le_of_ble_eq_true rfl) ?_
  intro X hl0 hT0 hD0 hlt hX hF
  subst hl0; subst hT0; subst hD0
  show G X 1 (ov (cxT X) N P) sz 0 0 0 [(0, .ref q)] []
  refine g_aload_n hX dX0_area_0 0 rfl ?_
  refine g_get (ci := 0) hX rfl fin_X0 (ov_pc hq) 7 (by decide) fl_X0_28 rfl dX0_area_1 ?_
  refine g_aload_n hX dX0_area_4 0 rfl ?_
  refine g_get (ci := 0) hX rfl fin_X0 (ov_pc hq) 5 (by decide) fl_X0_22 rfl dX0_area_5 ?_
  refine g_isub hX dX0_area_8 ?_
  refine g_iconst (v := 1) hX dX0_area_9 (by decide) ?_
  refine g_iadd hX dX0_area_10 ?_
  refine g_aload_n hX dX0_area_11 0 rfl ?_
  refine g_get (ci := 0) hX rfl fin_X0 (ov_pc hq) 8 (by decide) fl_X0_31 rfl dX0_area_12 ?_
  refine g_aload_n hX dX0_area_15 0 rfl ?_
  refine g_get (ci := 0) hX rfl fin_X0 (ov_pc hq) 6 (by decide) fl_X0_25 rfl dX0_area_16 ?_
  refine g_isub hX dX0_area_19 ?_
  refine g_iconst (v := 1) hX dX0_area_20 (by decide) ?_
  refine g_iadd hX dX0_area_21 ?_
  refine g_imul hX dX0_area_22 ?_
  exact hF (some (.int ((((pB P q 2) - (pB P q 0)) + 1) * (((pB P q 3) - (pB P q 1)) + 1)))) (ov (cxT X) N P) sz _ _ _ _ .ireturn (⟨rfl, rfl, rfl⟩) (by omega) (by omega) ret_i dX0_area_23

set_option maxHeartbeats 4000000 in
set_option maxRecDepth 100000 in
theorem ct_meets {l : Launch} (hl : l.stackTraces = false) {T : CT3} {D : va_G} {N : AH} {P : PS} (sz : Nat) (hw : Wf P) {q r : Nat} (hq : pD P q = true) (hr : pD P r = true) : Ct l T D yX0_meets cX0_meets 2 (some .boolean) 0 0 0 0 [.ref q, .ref r] (ov T N P) sz (fun v M' z' => v = some (.int (bI (mtB P q r))) ∧ M' = ov T N P ∧ sz = z') := by
  refine Ct.ofX hl (by decide) (Nat.le_of_ble_eq_true rfl) ?_
  intro X hl0 hT0 hD0 hlt hX hF
  subst hl0; subst hT0; subst hD0
  show G X 2 (ov (cxT X) N P) sz 0 0 0 [(0, .ref q), (1, .ref r)] []
  refine g_aload_n hX dX0_meets_0 0 rfl ?_
  refine g_get (ci := 0) hX rfl fin_X0 (ov_pc hq) 5 (by decide) fl_X0_22 rfl dX0_meets_1 ?_
  refine g_aload_n hX dX0_meets_4 1 rfl ?_
  refine g_get (ci := 0) hX rfl fin_X0 (ov_pc hr) 7 (by decide) fl_X0_28 rfl dX0_meets_5 ?_
  refine g_icmp_gt hX 48 dX0_meets_8 (by decide) (fun c8 => ?_) (fun c8 => ?_)
  · skip
    refine g_iconst (v := 0) hX dX0_meets_48 (by decide) ?_
    exact hF (some (.int 0)) (ov (cxT X) N P) sz _ _ _ _ .ireturn (⟨by rw [show mtB P q r = false from meet_1 c8]; rfl, rfl, rfl⟩) (by omega) (by omega) (ret_b (by decide)) dX0_meets_49
  · skip
    refine g_aload_n hX dX0_meets_11 1 rfl ?_
    refine g_get (ci := 0) hX rfl fin_X0 (ov_pc hr) 5 (by decide) fl_X0_22 rfl dX0_meets_12 ?_
    refine g_aload_n hX dX0_meets_15 0 rfl ?_
    refine g_get (ci := 0) hX rfl fin_X0 (ov_pc hq) 7 (by decide) fl_X0_28 rfl dX0_meets_16 ?_
    refine g_icmp_gt hX 48 dX0_meets_19 (by decide) (fun c19 => ?_) (fun c19 => ?_)
    · skip
      refine g_iconst (v := 0) hX dX0_meets_48 (by decide) ?_
      exact hF (some (.int 0)) (ov (cxT X) N P) sz _ _ _ _ .ireturn (⟨by rw [show mtB P q r = false from meet_2 c19]; rfl, rfl, rfl⟩) (by omega) (by omega) (ret_b (by decide)) dX0_meets_49
    · skip
      refine g_aload_n hX dX0_meets_22 0 rfl ?_
      refine g_get (ci := 0) hX rfl fin_X0 (ov_pc hq) 6 (by decide) fl_X0_25 rfl dX0_meets_23 ?_
      refine g_aload_n hX dX0_meets_26 1 rfl ?_
      refine g_get (ci := 0) hX rfl fin_X0 (ov_pc hr) 8 (by decide) fl_X0_31 rfl dX0_meets_27 ?_
      refine g_icmp_gt hX 48 dX0_meets_30 (by decide) (fun c30 => ?_) (fun c30 => ?_)
      · skip
        refine g_iconst (v := 0) hX dX0_meets_48 (by decide) ?_
        exact hF (some (.int 0)) (ov (cxT X) N P) sz _ _ _ _ .ireturn (⟨by rw [show mtB P q r = false from meet_3 c30]; rfl, rfl, rfl⟩) (by omega) (by omega) (ret_b (by decide)) dX0_meets_49
      · skip
        refine g_aload_n hX dX0_meets_33 1 rfl ?_
        refine g_get (ci := 0) hX rfl fin_X0 (ov_pc hr) 6 (by decide) fl_X0_25 rfl dX0_meets_34 ?_
        refine g_aload_n hX dX0_meets_37 0 rfl ?_
        refine g_get (ci := 0) hX rfl fin_X0 (ov_pc hq) 8 (by decide) fl_X0_31 rfl dX0_meets_38 ?_
        refine g_icmp_gt hX 48 dX0_meets_41 (by decide) (fun c41 => ?_) (fun c41 => ?_)
        · skip
          refine g_iconst (v := 0) hX dX0_meets_48 (by decide) ?_
          exact hF (some (.int 0)) (ov (cxT X) N P) sz _ _ _ _ .ireturn (⟨by rw [show mtB P q r = false from meet_4 c41]; rfl, rfl, rfl⟩) (by omega) (by omega) (ret_b (by decide)) dX0_meets_49
        · skip
          refine g_iconst (v := 1) hX dX0_meets_44 (by decide) ?_
          refine g_goto hX 49 dX0_meets_45 (by decide) ?_
          exact hF (some (.int 1)) (ov (cxT X) N P) sz _ _ _ _ .ireturn (⟨by rw [show mtB P q r = true from meet_t c8 c19 c30 c41]; rfl, rfl, rfl⟩) (by omega) (by omega) (ret_b (by decide)) dX0_meets_49

set_option maxHeartbeats 4000000 in
set_option maxRecDepth 100000 in
theorem ct_growthFor {l : Launch} (hl : l.stackTraces = false) {T : CT3} {D : va_G} {N : AH} {P : PS} (sz : Nat) (hw : Wf P) {q r : Nat} (hq : pD P q = true) (hr : pD P r = true) : Ct l T D yX0_growthFor cX0_growthFor 4 (some .int) 1 21 0 0 [.ref q, .ref r] (ov T N P) sz (fun v M' z' => v = some (.int (grB P q r)) ∧ M' = ov T N P ∧ sz = z') := by
  refine Ct.ofX hl (by decide) (Nat.le_of_ble_eq_true rfl) ?_
  intro X hl0 hT0 hD0 hlt hX hF
  subst hl0; subst hT0; subst hD0
  show G X 4 (ov (cxT X) N P) sz 0 0 0 [(0, .ref q), (1, .ref r)] []
  refine g_aload_n hX dX0_growthFor_0 0 rfl ?_
  refine g_callV [] hX (ct_area hX.st sz hw hq) cw_X0_area cv_X0_area lk_X0_34 (ci := 0) rfl rfl (ov_pc hq) ⟨by omega, by omega⟩ ⟨by omega, by omega⟩ (Nat.le_of_ble_eq_true rfl) rfl dX0_growthFor_1 rfl (fun v1 M1 z1 hp1 hz1 hd1 => ?_)
  obtain ⟨rfl, rfl, rfl⟩ := hp1
  show G X _ (ov (cxT X) N P) sz (0 + 0) (0 + 0) 4 [(0, .ref q), (1, .ref r)] [.int (arB P q)]
  refine g_if_ne hX 12 dX0_growthFor_4 (by decide) (fun c4 => ?_) (fun c4 => ?_)
  · skip
    refine g_aload_n hX dX0_growthFor_12 0 rfl ?_
    refine g_get (ci := 0) hX rfl fin_X0 (ov_pc hq) 7 (by decide) fl_X0_28 rfl dX0_growthFor_13 ?_
    refine g_aload_n hX dX0_growthFor_16 1 rfl ?_
    refine g_get (ci := 0) hX rfl fin_X0 (ov_pc hr) 7 (by decide) fl_X0_28 rfl dX0_growthFor_17 ?_
    refine g_maxI [] hX lk_X0_38 (by omega) (by omega) (Nat.le_of_ble_eq_true rfl) ⟨by omega, by omega⟩ dX0_growthFor_20 ?_
    refine g_aload_n hX dX0_growthFor_23 0 rfl ?_
    refine g_get (ci := 0) hX rfl fin_X0 (ov_pc hq) 5 (by decide) fl_X0_22 rfl dX0_growthFor_24 ?_
    refine g_aload_n hX dX0_growthFor_27 1 rfl ?_
    refine g_get (ci := 0) hX rfl fin_X0 (ov_pc hr) 5 (by decide) fl_X0_22 rfl dX0_growthFor_28 ?_
    refine g_minI [.int (maxI (pB P q 2) (pB P r 2))] hX lk_X0_44 (by omega) (by omega) (Nat.le_of_ble_eq_true rfl) ⟨by omega, by omega⟩ dX0_growthFor_31 ?_
    refine g_isub hX dX0_growthFor_34 ?_
    refine g_iconst (v := 1) hX dX0_growthFor_35 (by decide) ?_
    refine g_iadd hX dX0_growthFor_36 ?_
    refine g_istore_n (L' := [(2, .int (((maxI (pB P q 2) (pB P r 2)) - (minI (pB P q 0) (pB P r 0))) + 1)), (0, .ref q), (1, .ref r)]) hX dX0_growthFor_37 (by decide) rfl ?_
    refine g_aload_n hX dX0_growthFor_38 1 rfl ?_
    refine g_get (ci := 0) hX rfl fin_X0 (ov_pc hq) 8 (by decide) fl_X0_31 rfl dX0_growthFor_39 ?_
    refine g_aload_n hX dX0_growthFor_42 2 rfl ?_
    refine g_get (ci := 0) hX rfl fin_X0 (ov_pc hr) 8 (by decide) fl_X0_31 rfl dX0_growthFor_43 ?_
    refine g_maxI [] hX lk_X0_38 (by omega) (by omega) (Nat.le_of_ble_eq_true rfl) ⟨by omega, by omega⟩ dX0_growthFor_46 ?_
    refine g_aload_n hX dX0_growthFor_49 1 rfl ?_
    refine g_get (ci := 0) hX rfl fin_X0 (ov_pc hq) 6 (by decide) fl_X0_25 rfl dX0_growthFor_50 ?_
    refine g_aload_n hX dX0_growthFor_53 2 rfl ?_
    refine g_get (ci := 0) hX rfl fin_X0 (ov_pc hr) 6 (by decide) fl_X0_25 rfl dX0_growthFor_54 ?_
    refine g_minI [.int (maxI (pB P q 3) (pB P r 3))] hX lk_X0_44 (by omega) (by omega) (Nat.le_of_ble_eq_true rfl) ⟨by omega, by omega⟩ dX0_growthFor_57 ?_
    refine g_isub hX dX0_growthFor_60 ?_
    refine g_iconst (v := 1) hX dX0_growthFor_61 (by decide) ?_
    refine g_iadd hX dX0_growthFor_62 ?_
    refine g_istore_n (L' := [(3, .int (((maxI (pB P q 3) (pB P r 3)) - (minI (pB P q 1) (pB P r 1))) + 1)), (2, .int (((maxI (pB P q 2) (pB P r 2)) - (minI (pB P q 0) (pB P r 0))) + 1)), (0, .ref q), (1, .ref r)]) hX dX0_growthFor_63 (by decide) rfl ?_
    refine g_iload_n hX dX0_growthFor_64 1 rfl ?_
    refine g_iload_n hX dX0_growthFor_65 0 rfl ?_
    refine g_imul hX dX0_growthFor_66 ?_
    refine g_aload_n hX dX0_growthFor_67 2 rfl ?_
    refine g_callV [.int ((((maxI (pB P q 2) (pB P r 2)) - (minI (pB P q 0) (pB P r 0))) + 1) * (((maxI (pB P q 3) (pB P r 3)) - (minI (pB P q 1) (pB P r 1))) + 1))] hX (ct_area hX.st sz hw hq) cw_X0_area cv_X0_area lk_X0_34 (ci := 0) rfl rfl (ov_pc hq) ⟨by omega, by omega⟩ ⟨by omega, by omega⟩ (Nat.le_of_ble_eq_true rfl) rfl dX0_growthFor_68 rfl (fun v68 M68 z68 hp68 hz68 hd68 => ?_)
    obtain ⟨rfl, rfl, rfl⟩ := hp68
    show G X _ (ov (cxT X) N P) sz ((0 + 0) + 0) ((0 + 0) + 0) 71 [(3, .int (((maxI (pB P q 3) (pB P r 3)) - (minI (pB P q 1) (pB P r 1))) + 1)), (2, .int (((maxI (pB P q 2) (pB P r 2)) - (minI (pB P q 0) (pB P r 0))) + 1)), (0, .ref q), (1, .ref r)] [.int (arB P q), .int ((((maxI (pB P q 2) (pB P r 2)) - (minI (pB P q 0) (pB P r 0))) + 1) * (((maxI (pB P q 3) (pB P r 3)) - (minI (pB P q 1) (pB P r 1))) + 1))]
    refine g_isub hX dX0_growthFor_71 ?_
    exact hF (some (.int (((((maxI (pB P q 2) (pB P r 2)) - (minI (pB P q 0) (pB P r 0))) + 1) * (((maxI (pB P q 3) (pB P r 3)) - (minI (pB P q 1) (pB P r 1))) + 1)) - (arB P q)))) (ov (cxT X) N P) sz _ _ _ _ .ireturn (⟨by unfold grB; first | rw [if_pos c4] | rw [if_neg c4]; rfl, rfl, rfl⟩) (by omega) (by omega) ret_i dX0_growthFor_72
  · skip
    refine g_aload_n hX dX0_growthFor_7 1 rfl ?_
    refine g_callV [] hX (ct_area hX.st sz hw hr) cw_X0_area cv_X0_area lk_X0_34 (ci := 0) rfl rfl (ov_pc hr) ⟨by omega, by omega⟩ ⟨by omega, by omega⟩ (Nat.le_of_ble_eq_true rfl) rfl dX0_growthFor_8 rfl (fun v8 M8 z8 hp8 hz8 hd8 => ?_)
    obtain ⟨rfl, rfl, rfl⟩ := hp8
    show G X _ (ov (cxT X) N P) sz ((0 + 0) + 0) ((0 + 0) + 0) 11 [(0, .ref q), (1, .ref r)] [.int (arB P r)]
    exact hF (some (.int (arB P r))) (ov (cxT X) N P) sz _ _ _ _ .ireturn (⟨by unfold grB; first | rw [if_pos c4] | rw [if_neg c4]; rfl, rfl, rfl⟩) (by omega) (by omega) ret_i dX0_growthFor_11

set_option maxHeartbeats 4000000 in
set_option maxRecDepth 100000 in
theorem ct_squaredDistance {l : Launch} (hl : l.stackTraces = false) {T : CT3} {D : va_G} {N : AH} {P : PS} (sz : Nat) (hw : Wf P) {q : Nat} (hq : pD P q = true) (x y : Int32) : Ct l T D yX0_squaredDistance cX0_squaredDistance 5 (some .int) 1 21 0 0 [.ref q, .int x, .int y] (ov T N P) sz (fun v M' z' => v = some (.int (sdI (pB P q) x y)) ∧ M' = ov T N P ∧ sz = z') := by
  refine Ct.ofX hl (by decide) (Nat.le_of_ble_eq_true rfl) ?_
  intro X hl0 hT0 hD0 hlt hX hF
  subst hl0; subst hT0; subst hD0
  show G X 5 (ov (cxT X) N P) sz 0 0 0 [(0, .ref q), (1, .int x), (2, .int y)] []
  refine g_iconst (v := 0) hX dX0_squaredDistance_0 (by decide) ?_
  refine g_aload_n hX dX0_squaredDistance_1 0 rfl ?_
  refine g_get (ci := 0) hX rfl fin_X0 (ov_pc hq) 5 (by decide) fl_X0_22 rfl dX0_squaredDistance_2 ?_
  refine g_iload_n hX dX0_squaredDistance_5 1 rfl ?_
  refine g_isub hX dX0_squaredDistance_6 ?_
  refine g_iload_n hX dX0_squaredDistance_7 1 rfl ?_
  refine g_aload_n hX dX0_squaredDistance_8 0 rfl ?_
  refine g_get (ci := 0) hX rfl fin_X0 (ov_pc hq) 7 (by decide) fl_X0_28 rfl dX0_squaredDistance_9 ?_
  refine g_isub hX dX0_squaredDistance_12 ?_
  refine g_maxI [.int 0] hX lk_X0_38 (by omega) (by omega) (Nat.le_of_ble_eq_true rfl) ⟨by omega, by omega⟩ dX0_squaredDistance_13 ?_
  refine g_maxI [] hX lk_X0_38 (by omega) (by omega) (Nat.le_of_ble_eq_true rfl) ⟨by omega, by omega⟩ dX0_squaredDistance_16 ?_
  refine g_istore_n (L' := [(3, .int (maxI 0 (maxI ((pB P q 0) - x) (x - (pB P q 2))))), (0, .ref q), (1, .int x), (2, .int y)]) hX dX0_squaredDistance_19 (by decide) rfl ?_
  refine g_iconst (v := 0) hX dX0_squaredDistance_20 (by decide) ?_
  refine g_aload_n hX dX0_squaredDistance_21 1 rfl ?_
  refine g_get (ci := 0) hX rfl fin_X0 (ov_pc hq) 6 (by decide) fl_X0_25 rfl dX0_squaredDistance_22 ?_
  refine g_iload_n hX dX0_squaredDistance_25 3 rfl ?_
  refine g_isub hX dX0_squaredDistance_26 ?_
  refine g_iload_n hX dX0_squaredDistance_27 3 rfl ?_
  refine g_aload_n hX dX0_squaredDistance_28 1 rfl ?_
  refine g_get (ci := 0) hX rfl fin_X0 (ov_pc hq) 8 (by decide) fl_X0_31 rfl dX0_squaredDistance_29 ?_
  refine g_isub hX dX0_squaredDistance_32 ?_
  refine g_maxI [.int 0] hX lk_X0_38 (by omega) (by omega) (Nat.le_of_ble_eq_true rfl) ⟨by omega, by omega⟩ dX0_squaredDistance_33 ?_
  refine g_maxI [] hX lk_X0_38 (by omega) (by omega) (Nat.le_of_ble_eq_true rfl) ⟨by omega, by omega⟩ dX0_squaredDistance_36 ?_
  refine g_istore (L' := [(4, .int (maxI 0 (maxI ((pB P q 1) - y) (y - (pB P q 3))))), (3, .int (maxI 0 (maxI ((pB P q 0) - x) (x - (pB P q 2))))), (0, .ref q), (1, .int x), (2, .int y)]) hX dX0_squaredDistance_39 (by decide) rfl ?_
  refine g_iload_n hX dX0_squaredDistance_41 1 rfl ?_
  refine g_iload_n hX dX0_squaredDistance_42 1 rfl ?_
  refine g_imul hX dX0_squaredDistance_43 ?_
  refine g_iload hX dX0_squaredDistance_44 0 rfl ?_
  refine g_iload hX dX0_squaredDistance_46 0 rfl ?_
  refine g_imul hX dX0_squaredDistance_48 ?_
  refine g_iadd hX dX0_squaredDistance_49 ?_
  exact hF (some (.int (((maxI 0 (maxI ((pB P q 0) - x) (x - (pB P q 2)))) * (maxI 0 (maxI ((pB P q 0) - x) (x - (pB P q 2))))) + ((maxI 0 (maxI ((pB P q 1) - y) (y - (pB P q 3)))) * (maxI 0 (maxI ((pB P q 1) - y) (y - (pB P q 3)))))))) (ov (cxT X) N P) sz _ _ _ _ .ireturn (⟨rfl, rfl, rfl⟩) (by omega) (by omega) ret_i dX0_squaredDistance_50

set_option maxHeartbeats 4000000 in
set_option maxRecDepth 100000 in
theorem ct_at {l : Launch} (hl : l.stackTraces = false) {T : CT3} {D : va_G} {N : AH} {P : PS} (sz : Nat) (hw : Wf P) {q p : Nat} (hq : pD P q = true) (hp : p < 1000) (hs : pS P q ≤ pW P q) (hs2 : pW P q < 1000) : Ct l T D yX0_at cX0_at 2 (some (.object "NestedFrames$Piece")) 0 0 0 0 [.ref q, .int (nI p)] (ov T N P) sz (fun v M' z' => v = some (va_rf (if p < pS P q then pA P q p else none)) ∧ M' = ov T N P ∧ sz = z') := by
  refine Ct.ofX hl (by decide) (Nat.le_of_ble_eq_true rfl) ?_
  intro X hl0 hT0 hD0 hlt hX hF
  subst hl0; subst hT0; subst hD0
  show G X 2 (ov (cxT X) N P) sz 0 0 0 [(0, .ref q), (1, .int (nI p))] []
  refine g_iload_n hX dX0_at_0 1 rfl ?_
  refine g_if_lt hX 30 dX0_at_1 (by decide) (fun c1 => absurd c1 (nI_pos (by omega))) (fun _ => ?_)
  refine g_iload_n hX dX0_at_4 1 rfl ?_
  refine g_aload_n hX dX0_at_5 0 rfl ?_
  refine g_get (ci := 0) hX rfl fin_X0 (ov_pc hq) 3 (by decide) fl_X0_47 rfl dX0_at_6 ?_
  refine g_icmp_ge hX 30 dX0_at_9 (by decide) (fun c9 => ?_) (fun c9 => ?_)
  · skip
    have hge : pS P q ≤ p := (nI_leI (by omega) (by omega)).mp c9
    refine g_null hX dX0_at_30 ?_
    exact hF (some (.null)) (ov (cxT X) N P) sz _ _ _ _ .areturn (⟨by first | rw [if_pos hlt0] | (rw [if_neg (by omega)]; rfl), rfl, rfl⟩) (by omega) (by omega) (ret_a (r := none)) dX0_at_31
  · skip
    have hlt0 : p < pS P q := by have h9 := mt (nI_leI (a := pS P q) (b := p) (by omega) (by omega)).mpr c9; omega
    refine g_iload_n hX dX0_at_12 1 rfl ?_
    refine g_aload_n hX dX0_at_13 0 rfl ?_
    refine g_get (ci := 0) hX rfl fin_X0 (ov_pc hq) 2 (by decide) fl_X0_18 rfl dX0_at_14 ?_
    refine g_alen hX (ov_ar hw hq) dX0_at_17 ?_
    refine g_icmp_ge hX 30 dX0_at_18 (by decide) (fun c18 => absurd c18 (nI_ge (by omega) (by omega))) (fun _ => ?_)
    refine g_aload_n hX dX0_at_21 0 rfl ?_
    refine g_get (ci := 0) hX rfl fin_X0 (ov_pc hq) 2 (by decide) fl_X0_18 rfl dX0_at_22 ?_
    refine g_iload_n hX dX0_at_25 1 rfl ?_
    refine g_aald hX (ov_ar hw hq) p rfl (by omega) (by omega) dX0_at_26 ?_
    refine g_goto hX 31 dX0_at_27 (by decide) ?_
    exact hF (some (va_rf (pA P q p))) (ov (cxT X) N P) sz _ _ _ _ .areturn (⟨by first | rw [if_pos hlt0] | (rw [if_neg (by omega)]; rfl), rfl, rfl⟩) (by omega) (by omega) (ret_a (r := (pA P q p))) dX0_at_31
