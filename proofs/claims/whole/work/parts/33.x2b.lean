set_option maxHeartbeats 4000000 in
set_option maxRecDepth 100000 in
theorem cr_area {l : Launch} (hl : l.stackTraces = false) {T : CT3} {D : va_G} {M : AH} (sz : Nat) (x1 y1 x2 y2 : Int32) : Ct l T D yX2_area cX2_area 4 (some .int) 0 0 0 0 [.int x1, .int y1, .int x2, .int y2] M sz (fun v M' z' => v = some (.int (areaI x1 y1 x2 y2)) ∧ M' = M ∧ sz = z') := by
  refine Ct.ofX hl (by decide) (Nat.le_of_ble_eq_true rfl) ?_
  intro X hl0 hT0 hD0 hlt hX hF
  subst hl0; subst hT0; subst hD0
  show G X 4 M sz 0 0 0 [(0, .int x1), (1, .int y1), (2, .int x2), (3, .int y2)] []
  refine g_iload_n hX dX2_area_0 2 rfl ?_
  refine g_iload_n hX dX2_area_1 0 rfl ?_
  refine g_isub hX dX2_area_2 ?_
  refine g_iconst (v := 1) hX dX2_area_3 (by decide) ?_
  refine g_iadd hX dX2_area_4 ?_
  refine g_iload_n hX dX2_area_5 3 rfl ?_
  refine g_iload_n hX dX2_area_6 1 rfl ?_
  refine g_isub hX dX2_area_7 ?_
  refine g_iconst (v := 1) hX dX2_area_8 (by decide) ?_
  refine g_iadd hX dX2_area_9 ?_
  refine g_imul hX dX2_area_10 ?_
  exact hF (some (.int (((x2 - x1) + 1) * ((y2 - y1) + 1)))) M sz _ _ _ _ .ireturn (⟨rfl, rfl, rfl⟩) (by omega) (by omega) ret_i dX2_area_11

set_option maxHeartbeats 4000000 in
set_option maxRecDepth 100000 in
theorem cr_areaF {l : Launch} (hl : l.stackTraces = false) {T : CT3} {D : va_G} {N : AH} {o : Nat} {S : RS} (sz : Nat) {n f : Nat} (ht : TrR S n f) (hn : n < 1000) : Ct l T D yX2_area_ cX2_area_ 2 (some .int) (2 * n + 3) (49 * n + 71) 0 0 [.ref o, .int (nI f)] (ovR T N o S) sz (fun v M' z' => v = some (.int (arR S n f)) ∧ M' = ovR T N o S ∧ sz = z') := by
  refine Ct.ofX hl (by decide) (Nat.le_of_ble_eq_true rfl) ?_
  intro X hl0 hT0 hD0 hlt hX hF
  subst hl0; subst hT0; subst hD0
  have hf := ht.f
  show G X 2 (ovR (cxT X) N o S) sz 0 0 0 [(0, .ref o), (1, .int (nI f))] []
  refine g_aload_n hX dX2_area__0 0 rfl ?_
  refine g_get (ci := 2) hX rfl fin_X2 (ovR_o (S := S)) 7 (by decide) fl_X2_20 rfl dX2_area__1 ?_
  refine g_iload_n hX dX2_area__4 1 rfl ?_
  refine g_iald hX (ovR_at (S := S) 3 rfl) f rfl (by omega) (by decide) dX2_area__5 ?_
  refine g_if_ne hX 13 dX2_area__6 (by decide) (fun c6 => ?_) (fun c6 => ?_)
  · skip
    have h0 : 0 < rM S f := by have hm := ht.m; have h9 : ¬ rM S f = 0 := fun e => c6 (by rw [e]; rfl); omega
    refine g_aload_n hX dX2_area__13 0 rfl ?_
    refine g_iload_n hX dX2_area__14 1 rfl ?_
    refine g_iconst (v := 0) hX dX2_area__15 (by decide) ?_
    refine g_callV [] hX (cr_edge n ht h0 (by decide) (by omega) hX.st sz) cw_X2_edge cv_X2_edge lk_X2_47 (ci := 2) rfl rfl ovR_o ⟨by omega, by omega⟩ ⟨by omega, by omega⟩ (Nat.le_of_ble_eq_true rfl) rfl dX2_area__16 rfl (fun v16 M16 z16 hp16 hz16 hd16 => ?_)
    obtain ⟨rfl, rfl, rfl⟩ := hp16
    show G X _ (ovR (cxT X) N o S) sz (0 + 0) (0 + 0) 19 [(0, .ref o), (1, .int (nI f))] [.int (edR S n f 0)]
    refine g_aload_n hX dX2_area__19 0 rfl ?_
    refine g_iload_n hX dX2_area__20 1 rfl ?_
    refine g_iconst (v := 1) hX dX2_area__21 (by decide) ?_
    refine g_callV [.int (edR S n f 0)] hX (cr_edge n ht h0 (by decide) (by omega) hX.st sz) cw_X2_edge cv_X2_edge lk_X2_47 (ci := 2) rfl rfl ovR_o ⟨by omega, by omega⟩ ⟨by omega, by omega⟩ (Nat.le_of_ble_eq_true rfl) rfl dX2_area__22 rfl (fun v22 M22 z22 hp22 hz22 hd22 => ?_)
    obtain ⟨rfl, rfl, rfl⟩ := hp22
    show G X _ (ovR (cxT X) N o S) sz ((0 + 0) + 0) ((0 + 0) + 0) 25 [(0, .ref o), (1, .int (nI f))] [.int (edR S n f 1), .int (edR S n f 0)]
    refine g_aload_n hX dX2_area__25 0 rfl ?_
    refine g_iload_n hX dX2_area__26 1 rfl ?_
    refine g_iconst (v := 2) hX dX2_area__27 (by decide) ?_
    refine g_callV [.int (edR S n f 1), .int (edR S n f 0)] hX (cr_edge n ht h0 (by decide) (by omega) hX.st sz) cw_X2_edge cv_X2_edge lk_X2_47 (ci := 2) rfl rfl ovR_o ⟨by omega, by omega⟩ ⟨by omega, by omega⟩ (Nat.le_of_ble_eq_true rfl) rfl dX2_area__28 rfl (fun v28 M28 z28 hp28 hz28 hd28 => ?_)
    obtain ⟨rfl, rfl, rfl⟩ := hp28
    show G X _ (ovR (cxT X) N o S) sz (((0 + 0) + 0) + 0) (((0 + 0) + 0) + 0) 31 [(0, .ref o), (1, .int (nI f))] [.int (edR S n f 2), .int (edR S n f 1), .int (edR S n f 0)]
    refine g_aload_n hX dX2_area__31 0 rfl ?_
    refine g_iload_n hX dX2_area__32 1 rfl ?_
    refine g_iconst (v := 3) hX dX2_area__33 (by decide) ?_
    refine g_callV [.int (edR S n f 2), .int (edR S n f 1), .int (edR S n f 0)] hX (cr_edge n ht h0 (by decide) (by omega) hX.st sz) cw_X2_edge cv_X2_edge lk_X2_47 (ci := 2) rfl rfl ovR_o ⟨by omega, by omega⟩ ⟨by omega, by omega⟩ (Nat.le_of_ble_eq_true rfl) rfl dX2_area__34 rfl (fun v34 M34 z34 hp34 hz34 hd34 => ?_)
    obtain ⟨rfl, rfl, rfl⟩ := hp34
    show G X _ (ovR (cxT X) N o S) sz ((((0 + 0) + 0) + 0) + 0) ((((0 + 0) + 0) + 0) + 0) 37 [(0, .ref o), (1, .int (nI f))] [.int (edR S n f 3), .int (edR S n f 2), .int (edR S n f 1), .int (edR S n f 0)]
    refine g_callS [] hX (cr_area hX.st sz _ _ _ _) cw_X2_area stt_X2_area lk_X2_62 ⟨by omega, by omega⟩ ⟨by omega, by omega⟩ (Nat.le_of_ble_eq_true rfl) rfl dX2_area__37 rfl (fun v37 M37 z37 hp37 hz37 hd37 => ?_)
    obtain ⟨rfl, rfl, rfl⟩ := hp37
    show G X _ (ovR (cxT X) N o S) sz (((((0 + 0) + 0) + 0) + 0) + 0) (((((0 + 0) + 0) + 0) + 0) + 0) 40 [(0, .ref o), (1, .int (nI f))] [.int (areaI (edR S n f 0) (edR S n f 1) (edR S n f 2) (edR S n f 3))]
    exact hF (some (.int (areaI (edR S n f 0) (edR S n f 1) (edR S n f 2) (edR S n f 3)))) (ovR (cxT X) N o S) sz _ _ _ _ .ireturn (⟨by unfold arR; rw [if_neg (by omega)], rfl, rfl⟩) (by omega) (by omega) ret_i dX2_area__40
  · skip
    have h0 : rM S f = 0 := by have hm := ht.m; exact (nI_eq (a := rM S f) (b := 0) (by omega) (by omega)).mp c6
    refine g_iconst (v := 0) hX dX2_area__9 (by decide) ?_
    refine g_goto hX 40 dX2_area__10 (by decide) ?_
    exact hF (some (.int 0)) (ovR (cxT X) N o S) sz _ _ _ _ .ireturn (⟨by unfold arR; rw [if_pos h0], rfl, rfl⟩) (by omega) (by omega) ret_i dX2_area__40

set_option maxHeartbeats 4000000 in
set_option maxRecDepth 100000 in
theorem cr_rectArea {l : Launch} (hl : l.stackTraces = false) {T : CT3} {D : va_G} {N : AH} {o : Nat} {S : RS} (sz : Nat) : Ct l T D yX2_rectArea cX2_rectArea 1 (some .int) 1 23 0 0 [.ref o] (ovR T N o S) sz (fun v M' z' => v = some (.int (rctA S)) ∧ M' = ovR T N o S ∧ sz = z') := by
  refine Ct.ofX hl (by decide) (Nat.le_of_ble_eq_true rfl) ?_
  intro X hl0 hT0 hD0 hlt hX hF
  subst hl0; subst hT0; subst hD0
  show G X 1 (ovR (cxT X) N o S) sz 0 0 0 [(0, .ref o)] []
  refine g_aload_n hX dX2_rectArea_0 0 rfl ?_
  refine g_get (ci := 2) hX rfl fin_X2 (ovR_o (S := S)) 13 (by decide) fl_X2_35 rfl dX2_rectArea_1 ?_
  refine g_iconst (v := 0) hX dX2_rectArea_4 (by decide) ?_
  refine g_iald hX (ovR_at (S := S) 8 rfl) 0 rfl (by omega) (by decide) dX2_rectArea_5 ?_
  refine g_aload_n hX dX2_rectArea_6 0 rfl ?_
  refine g_get (ci := 2) hX rfl fin_X2 (ovR_o (S := S)) 13 (by decide) fl_X2_35 rfl dX2_rectArea_7 ?_
  refine g_iconst (v := 1) hX dX2_rectArea_10 (by decide) ?_
  refine g_iald hX (ovR_at (S := S) 8 rfl) 1 rfl (by omega) (by decide) dX2_rectArea_11 ?_
  refine g_aload_n hX dX2_rectArea_12 0 rfl ?_
  refine g_get (ci := 2) hX rfl fin_X2 (ovR_o (S := S)) 13 (by decide) fl_X2_35 rfl dX2_rectArea_13 ?_
  refine g_iconst (v := 2) hX dX2_rectArea_16 (by decide) ?_
  refine g_iald hX (ovR_at (S := S) 8 rfl) 2 rfl (by omega) (by decide) dX2_rectArea_17 ?_
  refine g_aload_n hX dX2_rectArea_18 0 rfl ?_
  refine g_get (ci := 2) hX rfl fin_X2 (ovR_o (S := S)) 13 (by decide) fl_X2_35 rfl dX2_rectArea_19 ?_
  refine g_iconst (v := 3) hX dX2_rectArea_22 (by decide) ?_
  refine g_iald hX (ovR_at (S := S) 8 rfl) 3 rfl (by omega) (by decide) dX2_rectArea_23 ?_
  refine g_callS [] hX (cr_area hX.st sz _ _ _ _) cw_X2_area stt_X2_area lk_X2_62 ⟨by omega, by omega⟩ ⟨by omega, by omega⟩ (Nat.le_of_ble_eq_true rfl) rfl dX2_rectArea_24 rfl (fun v24 M24 z24 hp24 hz24 hd24 => ?_)
  obtain ⟨rfl, rfl, rfl⟩ := hp24
  show G X _ (ovR (cxT X) N o S) sz (0 + 0) (0 + 0) 27 [(0, .ref o)] [.int (rctA S)]
  exact hF (some (.int (rctA S))) (ovR (cxT X) N o S) sz _ _ _ _ .ireturn (⟨rfl, rfl, rfl⟩) (by omega) (by omega) ret_i dX2_rectArea_27

set_option maxHeartbeats 4000000 in
set_option maxRecDepth 100000 in
theorem cr_growth {l : Launch} (hl : l.stackTraces = false) {T : CT3} {D : va_G} {N : AH} {o : Nat} {S : RS} (sz : Nat) {n f : Nat} (ht : TrR S n f) (hn : n < 1000) : Ct l T D yX2_growth cX2_growth 2 (some .int) (2 * n + 4) (49 * n + 92) 0 0 [.ref o, .int (nI f)] (ovR T N o S) sz (fun v M' z' => v = some (.int (gwR S n f)) ∧ M' = ovR T N o S ∧ sz = z') := by
  refine Ct.ofX hl (by decide) (Nat.le_of_ble_eq_true rfl) ?_
  intro X hl0 hT0 hD0 hlt hX hF
  subst hl0; subst hT0; subst hD0
  have hf := ht.f
  show G X 2 (ovR (cxT X) N o S) sz 0 0 0 [(0, .ref o), (1, .int (nI f))] []
  refine g_aload_n hX dX2_growth_0 0 rfl ?_
  refine g_get (ci := 2) hX rfl fin_X2 (ovR_o (S := S)) 7 (by decide) fl_X2_20 rfl dX2_growth_1 ?_
  refine g_iload_n hX dX2_growth_4 1 rfl ?_
  refine g_iald hX (ovR_at (S := S) 3 rfl) f rfl (by omega) (by decide) dX2_growth_5 ?_
  refine g_if_ne hX 14 dX2_growth_6 (by decide) (fun c6 => ?_) (fun c6 => ?_)
  · skip
    have h0 : 0 < rM S f := by have hm := ht.m; have h9 : ¬ rM S f = 0 := fun e => c6 (by rw [e]; rfl); omega
    refine g_aload_n hX dX2_growth_14 0 rfl ?_
    refine g_iload_n hX dX2_growth_15 1 rfl ?_
    refine g_iconst (v := 0) hX dX2_growth_16 (by decide) ?_
    refine g_callV [] hX (cr_edge n ht h0 (by decide) (by omega) hX.st sz) cw_X2_edge cv_X2_edge lk_X2_47 (ci := 2) rfl rfl ovR_o ⟨by omega, by omega⟩ ⟨by omega, by omega⟩ (Nat.le_of_ble_eq_true rfl) rfl dX2_growth_17 rfl (fun v17 M17 z17 hp17 hz17 hd17 => ?_)
    obtain ⟨rfl, rfl, rfl⟩ := hp17
    show G X _ (ovR (cxT X) N o S) sz (0 + 0) (0 + 0) 20 [(0, .ref o), (1, .int (nI f))] [.int (edR S n f 0)]
    refine g_aload_n hX dX2_growth_20 0 rfl ?_
    refine g_get (ci := 2) hX rfl fin_X2 (ovR_o (S := S)) 13 (by decide) fl_X2_35 rfl dX2_growth_21 ?_
    refine g_iconst (v := 0) hX dX2_growth_24 (by decide) ?_
    refine g_iald hX (ovR_at (S := S) 8 rfl) 0 rfl (by omega) (by decide) dX2_growth_25 ?_
    refine g_minI [] hX lk_X2_54 (by omega) (by omega) (Nat.le_of_ble_eq_true rfl) ⟨by omega, by omega⟩ dX2_growth_26 ?_
    refine g_aload_n hX dX2_growth_29 0 rfl ?_
    refine g_iload_n hX dX2_growth_30 1 rfl ?_
    refine g_iconst (v := 1) hX dX2_growth_31 (by decide) ?_
    refine g_callV [.int (minI (edR S n f 0) (rR S 0))] hX (cr_edge n ht h0 (by decide) (by omega) hX.st sz) cw_X2_edge cv_X2_edge lk_X2_47 (ci := 2) rfl rfl ovR_o ⟨by omega, by omega⟩ ⟨by omega, by omega⟩ (Nat.le_of_ble_eq_true rfl) rfl dX2_growth_32 rfl (fun v32 M32 z32 hp32 hz32 hd32 => ?_)
    obtain ⟨rfl, rfl, rfl⟩ := hp32
    show G X _ (ovR (cxT X) N o S) sz ((0 + 0) + 0) ((0 + 0) + 0) 35 [(0, .ref o), (1, .int (nI f))] [.int (edR S n f 1), .int (minI (edR S n f 0) (rR S 0))]
    refine g_aload_n hX dX2_growth_35 0 rfl ?_
    refine g_get (ci := 2) hX rfl fin_X2 (ovR_o (S := S)) 13 (by decide) fl_X2_35 rfl dX2_growth_36 ?_
    refine g_iconst (v := 1) hX dX2_growth_39 (by decide) ?_
    refine g_iald hX (ovR_at (S := S) 8 rfl) 1 rfl (by omega) (by decide) dX2_growth_40 ?_
    refine g_minI [.int (minI (edR S n f 0) (rR S 0))] hX lk_X2_54 (by omega) (by omega) (Nat.le_of_ble_eq_true rfl) ⟨by omega, by omega⟩ dX2_growth_41 ?_
    refine g_aload_n hX dX2_growth_44 0 rfl ?_
    refine g_iload_n hX dX2_growth_45 1 rfl ?_
    refine g_iconst (v := 2) hX dX2_growth_46 (by decide) ?_
    refine g_callV [.int (minI (edR S n f 1) (rR S 1)), .int (minI (edR S n f 0) (rR S 0))] hX (cr_edge n ht h0 (by decide) (by omega) hX.st sz) cw_X2_edge cv_X2_edge lk_X2_47 (ci := 2) rfl rfl ovR_o ⟨by omega, by omega⟩ ⟨by omega, by omega⟩ (Nat.le_of_ble_eq_true rfl) rfl dX2_growth_47 rfl (fun v47 M47 z47 hp47 hz47 hd47 => ?_)
    obtain ⟨rfl, rfl, rfl⟩ := hp47
    show G X _ (ovR (cxT X) N o S) sz (((0 + 0) + 0) + 0) (((0 + 0) + 0) + 0) 50 [(0, .ref o), (1, .int (nI f))] [.int (edR S n f 2), .int (minI (edR S n f 1) (rR S 1)), .int (minI (edR S n f 0) (rR S 0))]
    refine g_aload_n hX dX2_growth_50 0 rfl ?_
    refine g_get (ci := 2) hX rfl fin_X2 (ovR_o (S := S)) 13 (by decide) fl_X2_35 rfl dX2_growth_51 ?_
    refine g_iconst (v := 2) hX dX2_growth_54 (by decide) ?_
    refine g_iald hX (ovR_at (S := S) 8 rfl) 2 rfl (by omega) (by decide) dX2_growth_55 ?_
    refine g_maxI [.int (minI (edR S n f 1) (rR S 1)), .int (minI (edR S n f 0) (rR S 0))] hX lk_X2_59 (by omega) (by omega) (Nat.le_of_ble_eq_true rfl) ⟨by omega, by omega⟩ dX2_growth_56 ?_
    refine g_aload_n hX dX2_growth_59 0 rfl ?_
    refine g_iload_n hX dX2_growth_60 1 rfl ?_
    refine g_iconst (v := 3) hX dX2_growth_61 (by decide) ?_
    refine g_callV [.int (maxI (edR S n f 2) (rR S 2)), .int (minI (edR S n f 1) (rR S 1)), .int (minI (edR S n f 0) (rR S 0))] hX (cr_edge n ht h0 (by decide) (by omega) hX.st sz) cw_X2_edge cv_X2_edge lk_X2_47 (ci := 2) rfl rfl ovR_o ⟨by omega, by omega⟩ ⟨by omega, by omega⟩ (Nat.le_of_ble_eq_true rfl) rfl dX2_growth_62 rfl (fun v62 M62 z62 hp62 hz62 hd62 => ?_)
    obtain ⟨rfl, rfl, rfl⟩ := hp62
    show G X _ (ovR (cxT X) N o S) sz ((((0 + 0) + 0) + 0) + 0) ((((0 + 0) + 0) + 0) + 0) 65 [(0, .ref o), (1, .int (nI f))] [.int (edR S n f 3), .int (maxI (edR S n f 2) (rR S 2)), .int (minI (edR S n f 1) (rR S 1)), .int (minI (edR S n f 0) (rR S 0))]
    refine g_aload_n hX dX2_growth_65 0 rfl ?_
    refine g_get (ci := 2) hX rfl fin_X2 (ovR_o (S := S)) 13 (by decide) fl_X2_35 rfl dX2_growth_66 ?_
    refine g_iconst (v := 3) hX dX2_growth_69 (by decide) ?_
    refine g_iald hX (ovR_at (S := S) 8 rfl) 3 rfl (by omega) (by decide) dX2_growth_70 ?_
    refine g_maxI [.int (maxI (edR S n f 2) (rR S 2)), .int (minI (edR S n f 1) (rR S 1)), .int (minI (edR S n f 0) (rR S 0))] hX lk_X2_59 (by omega) (by omega) (Nat.le_of_ble_eq_true rfl) ⟨by omega, by omega⟩ dX2_growth_71 ?_
    refine g_callS [] hX (cr_area hX.st sz _ _ _ _) cw_X2_area stt_X2_area lk_X2_62 ⟨by omega, by omega⟩ ⟨by omega, by omega⟩ (Nat.le_of_ble_eq_true rfl) rfl dX2_growth_74 rfl (fun v74 M74 z74 hp74 hz74 hd74 => ?_)
    obtain ⟨rfl, rfl, rfl⟩ := hp74
    show G X _ (ovR (cxT X) N o S) sz (((((0 + 0) + 0) + 0) + 0) + 0) (((((0 + 0) + 0) + 0) + 0) + 0) 77 [(0, .ref o), (1, .int (nI f))] [.int (areaI (minI (edR S n f 0) (rR S 0)) (minI (edR S n f 1) (rR S 1)) (maxI (edR S n f 2) (rR S 2)) (maxI (edR S n f 3) (rR S 3)))]
    refine g_aload_n hX dX2_growth_77 0 rfl ?_
    refine g_iload_n hX dX2_growth_78 1 rfl ?_
    refine g_callV [.int (areaI (minI (edR S n f 0) (rR S 0)) (minI (edR S n f 1) (rR S 1)) (maxI (edR S n f 2) (rR S 2)) (maxI (edR S n f 3) (rR S 3)))] hX (cr_areaF hX.st sz ht hn) cw_X2_area_ cv_X2_area_ lk_X2_70 (ci := 2) rfl rfl ovR_o ⟨by omega, by omega⟩ ⟨by omega, by omega⟩ (Nat.le_of_ble_eq_true rfl) rfl dX2_growth_79 rfl (fun v79 M79 z79 hp79 hz79 hd79 => ?_)
    obtain ⟨rfl, rfl, rfl⟩ := hp79
    show G X _ (ovR (cxT X) N o S) sz ((((((0 + 0) + 0) + 0) + 0) + 0) + 0) ((((((0 + 0) + 0) + 0) + 0) + 0) + 0) 82 [(0, .ref o), (1, .int (nI f))] [.int (arR S n f), .int (areaI (minI (edR S n f 0) (rR S 0)) (minI (edR S n f 1) (rR S 1)) (maxI (edR S n f 2) (rR S 2)) (maxI (edR S n f 3) (rR S 3)))]
    refine g_isub hX dX2_growth_82 ?_
    exact hF (some (.int ((areaI (minI (edR S n f 0) (rR S 0)) (minI (edR S n f 1) (rR S 1)) (maxI (edR S n f 2) (rR S 2)) (maxI (edR S n f 3) (rR S 3))) - (arR S n f)))) (ovR (cxT X) N o S) sz _ _ _ _ .ireturn (⟨by unfold gwR growI arR; rw [if_neg (by omega), if_neg (by omega)], rfl, rfl⟩) (by omega) (by omega) ret_i dX2_growth_83
  · skip
    have h0 : rM S f = 0 := by have hm := ht.m; exact (nI_eq (a := rM S f) (b := 0) (by omega) (by omega)).mp c6
    refine g_aload_n hX dX2_growth_9 0 rfl ?_
    refine g_callV [] hX (cr_rectArea hX.st sz) cw_X2_rectArea cv_X2_rectArea lk_X2_66 (ci := 2) rfl rfl ovR_o ⟨by omega, by omega⟩ ⟨by omega, by omega⟩ (Nat.le_of_ble_eq_true rfl) rfl dX2_growth_10 rfl (fun v10 M10 z10 hp10 hz10 hd10 => ?_)
    obtain ⟨rfl, rfl, rfl⟩ := hp10
    show G X _ (ovR (cxT X) N o S) sz (0 + 0) (0 + 0) 13 [(0, .ref o), (1, .int (nI f))] [.int (rctA S)]
    exact hF (some (.int (rctA S))) (ovR (cxT X) N o S) sz _ _ _ _ .ireturn (⟨by unfold gwR; rw [if_pos h0], rfl, rfl⟩) (by omega) (by omega) ret_i dX2_growth_13

set_option maxHeartbeats 4000000 in
set_option maxRecDepth 100000 in
theorem cr_meets {l : Launch} (hl : l.stackTraces = false) {T : CT3} {D : va_G} {N : AH} {o : Nat} {S : RS} (sz : Nat) (x1 y1 x2 y2 : Int32) : Ct l T D yX2_meets cX2_meets 5 (some .boolean) 0 0 0 0 [.ref o, .int x1, .int y1, .int x2, .int y2] (ovR T N o S) sz (fun v M' z' => v = some (.int (bI (meetI x1 y1 x2 y2 (rR S 0) (rR S 1) (rR S 2) (rR S 3)))) ∧ M' = ovR T N o S ∧ sz = z') := by
  refine Ct.ofX hl (by decide) (Nat.le_of_ble_eq_true rfl) ?_
  intro X hl0 hT0 hD0 hlt hX hF
  subst hl0; subst hT0; subst hD0
  show G X 5 (ovR (cxT X) N o S) sz 0 0 0 [(0, .ref o), (1, .int x1), (2, .int y1), (3, .int x2), (4, .int y2)] []
  refine g_iload_n hX dX2_meets_0 1 rfl ?_
  refine g_aload_n hX dX2_meets_1 0 rfl ?_
  refine g_get (ci := 2) hX rfl fin_X2 (ovR_o (S := S)) 13 (by decide) fl_X2_35 rfl dX2_meets_2 ?_
  refine g_iconst (v := 2) hX dX2_meets_5 (by decide) ?_
  refine g_iald hX (ovR_at (S := S) 8 rfl) 2 rfl (by omega) (by decide) dX2_meets_6 ?_
  refine g_icmp_gt hX 45 dX2_meets_7 (by decide) (fun c7 => ?_) (fun c7 => ?_)
  · skip
    refine g_iconst (v := 0) hX dX2_meets_45 (by decide) ?_
    exact hF (some (.int 0)) (ovR (cxT X) N o S) sz _ _ _ _ .ireturn (⟨by rw [meet_1 c7]; rfl, rfl, rfl⟩) (by omega) (by omega) (ret_b (by decide)) dX2_meets_46
  · skip
    refine g_aload_n hX dX2_meets_10 0 rfl ?_
    refine g_get (ci := 2) hX rfl fin_X2 (ovR_o (S := S)) 13 (by decide) fl_X2_35 rfl dX2_meets_11 ?_
    refine g_iconst (v := 0) hX dX2_meets_14 (by decide) ?_
    refine g_iald hX (ovR_at (S := S) 8 rfl) 0 rfl (by omega) (by decide) dX2_meets_15 ?_
    refine g_iload_n hX dX2_meets_16 3 rfl ?_
    refine g_icmp_gt hX 45 dX2_meets_17 (by decide) (fun c17 => ?_) (fun c17 => ?_)
    · skip
      refine g_iconst (v := 0) hX dX2_meets_45 (by decide) ?_
      exact hF (some (.int 0)) (ovR (cxT X) N o S) sz _ _ _ _ .ireturn (⟨by rw [meet_2 c17]; rfl, rfl, rfl⟩) (by omega) (by omega) (ret_b (by decide)) dX2_meets_46
    · skip
      refine g_iload_n hX dX2_meets_20 2 rfl ?_
      refine g_aload_n hX dX2_meets_21 0 rfl ?_
      refine g_get (ci := 2) hX rfl fin_X2 (ovR_o (S := S)) 13 (by decide) fl_X2_35 rfl dX2_meets_22 ?_
      refine g_iconst (v := 3) hX dX2_meets_25 (by decide) ?_
      refine g_iald hX (ovR_at (S := S) 8 rfl) 3 rfl (by omega) (by decide) dX2_meets_26 ?_
      refine g_icmp_gt hX 45 dX2_meets_27 (by decide) (fun c27 => ?_) (fun c27 => ?_)
      · skip
        refine g_iconst (v := 0) hX dX2_meets_45 (by decide) ?_
        exact hF (some (.int 0)) (ovR (cxT X) N o S) sz _ _ _ _ .ireturn (⟨by rw [meet_3 c27]; rfl, rfl, rfl⟩) (by omega) (by omega) (ret_b (by decide)) dX2_meets_46
      · skip
        refine g_aload_n hX dX2_meets_30 0 rfl ?_
        refine g_get (ci := 2) hX rfl fin_X2 (ovR_o (S := S)) 13 (by decide) fl_X2_35 rfl dX2_meets_31 ?_
        refine g_iconst (v := 1) hX dX2_meets_34 (by decide) ?_
        refine g_iald hX (ovR_at (S := S) 8 rfl) 1 rfl (by omega) (by decide) dX2_meets_35 ?_
        refine g_iload hX dX2_meets_36 4 rfl ?_
        refine g_icmp_gt hX 45 dX2_meets_38 (by decide) (fun c38 => ?_) (fun c38 => ?_)
        · skip
          refine g_iconst (v := 0) hX dX2_meets_45 (by decide) ?_
          exact hF (some (.int 0)) (ovR (cxT X) N o S) sz _ _ _ _ .ireturn (⟨by rw [meet_4 c38]; rfl, rfl, rfl⟩) (by omega) (by omega) (ret_b (by decide)) dX2_meets_46
        · skip
          refine g_iconst (v := 1) hX dX2_meets_41 (by decide) ?_
          refine g_goto hX 46 dX2_meets_42 (by decide) ?_
          exact hF (some (.int 1)) (ovR (cxT X) N o S) sz _ _ _ _ .ireturn (⟨by rw [meet_t c7 c17 c27 c38]; rfl, rfl, rfl⟩) (by omega) (by omega) (ret_b (by decide)) dX2_meets_46

set_option maxHeartbeats 4000000 in
set_option maxRecDepth 100000 in
theorem cr_meetsAllotment {l : Launch} (hl : l.stackTraces = false) {T : CT3} {D : va_G} {N : AH} {o : Nat} {S : RS} (sz : Nat) {a : Nat} (ha : a < 60) (hd : rD S a ≤ 1) : Ct l T D yX2_meetsAllotment cX2_meetsAllotment 2 (some .boolean) 1 24 0 0 [.ref o, .int (nI a)] (ovR T N o S) sz (fun v M' z' => v = some (.int (mta S a)) ∧ M' = ovR T N o S ∧ sz = z') := by
  refine Ct.ofX hl (by decide) (Nat.le_of_ble_eq_true rfl) ?_
  intro X hl0 hT0 hD0 hlt hX hF
  subst hl0; subst hT0; subst hD0
  show G X 2 (ovR (cxT X) N o S) sz 0 0 0 [(0, .ref o), (1, .int (nI a))] []
  refine g_aload_n hX dX2_meetsAllotment_0 0 rfl ?_
  refine g_get (ci := 2) hX rfl fin_X2 (ovR_o (S := S)) 4 (by decide) fl_X2_13 rfl dX2_meetsAllotment_1 ?_
  refine g_iload_n hX dX2_meetsAllotment_4 1 rfl ?_
  refine g_iald hX (ovR_at (S := S) 2 rfl) a rfl (by omega) (by decide) dX2_meetsAllotment_5 ?_
  refine g_iconst (v := 1) hX dX2_meetsAllotment_6 (by decide) ?_
  refine g_icmp_ne hX 59 dX2_meetsAllotment_7 (by decide) (fun c7 => ?_) (fun c7 => ?_)
  · skip
    have hd1 : ¬ rD S a = 1 := fun e => c7 (by rw [e]; rfl)
    refine g_iconst (v := 0) hX dX2_meetsAllotment_59 (by decide) ?_
    exact hF (some (.int 0)) (ovR (cxT X) N o S) sz _ _ _ _ .ireturn (⟨by rw [mta_n hd1], rfl, rfl⟩) (by omega) (by omega) (ret_b (by decide)) dX2_meetsAllotment_60
  · skip
    have hd1 : rD S a = 1 := (nI_eq (a := rD S a) (b := 1) (by omega) (by omega)).mp c7
    refine g_aload_n hX dX2_meetsAllotment_10 0 rfl ?_
    refine g_aload_n hX dX2_meetsAllotment_11 0 rfl ?_
    refine g_get (ci := 2) hX rfl fin_X2 (ovR_o (S := S)) 3 (by decide) fl_X2_9 rfl dX2_meetsAllotment_12 ?_
    refine g_iconst (v := 4) hX dX2_meetsAllotment_15 (by decide) ?_
    refine g_iload_n hX dX2_meetsAllotment_16 1 rfl ?_
    refine g_imul hX dX2_meetsAllotment_17 ?_
    refine g_iald hX (ovR_at (S := S) 1 rfl) (4 * a) (ix40 _) (by omega) (by decide) dX2_meetsAllotment_18 ?_
    refine g_aload_n hX dX2_meetsAllotment_19 0 rfl ?_
    refine g_get (ci := 2) hX rfl fin_X2 (ovR_o (S := S)) 3 (by decide) fl_X2_9 rfl dX2_meetsAllotment_20 ?_
    refine g_iconst (v := 4) hX dX2_meetsAllotment_23 (by decide) ?_
    refine g_iload_n hX dX2_meetsAllotment_24 1 rfl ?_
    refine g_imul hX dX2_meetsAllotment_25 ?_
    refine g_iconst (v := 1) hX dX2_meetsAllotment_26 (by decide) ?_
    refine g_iadd hX dX2_meetsAllotment_27 ?_
    refine g_iald hX (ovR_at (S := S) 1 rfl) (4 * a + 1) (ix41 _) (by omega) (by decide) dX2_meetsAllotment_28 ?_
    refine g_aload_n hX dX2_meetsAllotment_29 0 rfl ?_
    refine g_get (ci := 2) hX rfl fin_X2 (ovR_o (S := S)) 3 (by decide) fl_X2_9 rfl dX2_meetsAllotment_30 ?_
    refine g_iconst (v := 4) hX dX2_meetsAllotment_33 (by decide) ?_
    refine g_iload_n hX dX2_meetsAllotment_34 1 rfl ?_
    refine g_imul hX dX2_meetsAllotment_35 ?_
    refine g_iconst (v := 2) hX dX2_meetsAllotment_36 (by decide) ?_
    refine g_iadd hX dX2_meetsAllotment_37 ?_
    refine g_iald hX (ovR_at (S := S) 1 rfl) (4 * a + 2) (ix42 _) (by omega) (by decide) dX2_meetsAllotment_38 ?_
    refine g_aload_n hX dX2_meetsAllotment_39 0 rfl ?_
    refine g_get (ci := 2) hX rfl fin_X2 (ovR_o (S := S)) 3 (by decide) fl_X2_9 rfl dX2_meetsAllotment_40 ?_
    refine g_iconst (v := 4) hX dX2_meetsAllotment_43 (by decide) ?_
    refine g_iload_n hX dX2_meetsAllotment_44 1 rfl ?_
    refine g_imul hX dX2_meetsAllotment_45 ?_
    refine g_iconst (v := 3) hX dX2_meetsAllotment_46 (by decide) ?_
    refine g_iadd hX dX2_meetsAllotment_47 ?_
    refine g_iald hX (ovR_at (S := S) 1 rfl) (4 * a + 3) (ix43 _) (by omega) (by decide) dX2_meetsAllotment_48 ?_
    refine g_callV [] hX (cr_meets hX.st sz _ _ _ _) cw_X2_meets cv_X2_meets lk_X2_73 (ci := 2) rfl rfl ovR_o ⟨by omega, by omega⟩ ⟨by omega, by omega⟩ (Nat.le_of_ble_eq_true rfl) rfl dX2_meetsAllotment_49 rfl (fun v49 M49 z49 hp49 hz49 hd49 => ?_)
    obtain ⟨rfl, rfl, rfl⟩ := hp49
    show G X _ (ovR (cxT X) N o S) sz (0 + 0) (0 + 0) 52 [(0, .ref o), (1, .int (nI a))] [.int (bI (mtR S (fun s => rE S (4 * a + s))))]
    refine g_if_eq hX 59 dX2_meetsAllotment_52 (by decide) (fun c52 => ?_) (fun c52 => ?_)
    · skip
      refine g_iconst (v := 0) hX dX2_meetsAllotment_59 (by decide) ?_
      exact hF (some (.int 0)) (ovR (cxT X) N o S) sz _ _ _ _ .ireturn (⟨by rw [mta_s hd1, bI_0 c52]; rfl, rfl, rfl⟩) (by omega) (by omega) (ret_b (by decide)) dX2_meetsAllotment_60
    · skip
      refine g_iconst (v := 1) hX dX2_meetsAllotment_55 (by decide) ?_
      refine g_goto hX 60 dX2_meetsAllotment_56 (by decide) ?_
      exact hF (some (.int 1)) (ovR (cxT X) N o S) sz _ _ _ _ .ireturn (⟨by rw [mta_s hd1, bI_1 c52]; rfl, rfl, rfl⟩) (by omega) (by omega) (ret_b (by decide)) dX2_meetsAllotment_60

set_option maxHeartbeats 4000000 in
set_option maxRecDepth 100000 in
theorem cr_meetsHedge {l : Launch} (hl : l.stackTraces = false) {T : CT3} {D : va_G} {N : AH} {o : Nat} {S : RS} (sz : Nat) {n f : Nat} (ht : TrR S n f) (hn : n < 1000) (h0 : 0 < rM S f) : Ct l T D yX2_meetsHedge cX2_meetsHedge 2 (some .boolean) (2 * n + 3) (49 * n + 71) 0 0 [.ref o, .int (nI f)] (ovR T N o S) sz (fun v M' z' => v = some (.int (bI (mtR S (edR S n f)))) ∧ M' = ovR T N o S ∧ sz = z') := by
  refine Ct.ofX hl (by decide) (Nat.le_of_ble_eq_true rfl) ?_
  intro X hl0 hT0 hD0 hlt hX hF
  subst hl0; subst hT0; subst hD0
  show G X 2 (ovR (cxT X) N o S) sz 0 0 0 [(0, .ref o), (1, .int (nI f))] []
  refine g_aload_n hX dX2_meetsHedge_0 0 rfl ?_
  refine g_aload_n hX dX2_meetsHedge_1 0 rfl ?_
  refine g_iload_n hX dX2_meetsHedge_2 1 rfl ?_
  refine g_iconst (v := 0) hX dX2_meetsHedge_3 (by decide) ?_
  refine g_callV [.ref o] hX (cr_edge n ht h0 (by decide) (by omega) hX.st sz) cw_X2_edge cv_X2_edge lk_X2_47 (ci := 2) rfl rfl ovR_o ⟨by omega, by omega⟩ ⟨by omega, by omega⟩ (Nat.le_of_ble_eq_true rfl) rfl dX2_meetsHedge_4 rfl (fun v4 M4 z4 hp4 hz4 hd4 => ?_)
  obtain ⟨rfl, rfl, rfl⟩ := hp4
  show G X _ (ovR (cxT X) N o S) sz (0 + 0) (0 + 0) 7 [(0, .ref o), (1, .int (nI f))] [.int (edR S n f 0), .ref o]
  refine g_aload_n hX dX2_meetsHedge_7 0 rfl ?_
  refine g_iload_n hX dX2_meetsHedge_8 1 rfl ?_
  refine g_iconst (v := 1) hX dX2_meetsHedge_9 (by decide) ?_
  refine g_callV [.int (edR S n f 0), .ref o] hX (cr_edge n ht h0 (by decide) (by omega) hX.st sz) cw_X2_edge cv_X2_edge lk_X2_47 (ci := 2) rfl rfl ovR_o ⟨by omega, by omega⟩ ⟨by omega, by omega⟩ (Nat.le_of_ble_eq_true rfl) rfl dX2_meetsHedge_10 rfl (fun v10 M10 z10 hp10 hz10 hd10 => ?_)
  obtain ⟨rfl, rfl, rfl⟩ := hp10
  show G X _ (ovR (cxT X) N o S) sz ((0 + 0) + 0) ((0 + 0) + 0) 13 [(0, .ref o), (1, .int (nI f))] [.int (edR S n f 1), .int (edR S n f 0), .ref o]
  refine g_aload_n hX dX2_meetsHedge_13 0 rfl ?_
  refine g_iload_n hX dX2_meetsHedge_14 1 rfl ?_
  refine g_iconst (v := 2) hX dX2_meetsHedge_15 (by decide) ?_
  refine g_callV [.int (edR S n f 1), .int (edR S n f 0), .ref o] hX (cr_edge n ht h0 (by decide) (by omega) hX.st sz) cw_X2_edge cv_X2_edge lk_X2_47 (ci := 2) rfl rfl ovR_o ⟨by omega, by omega⟩ ⟨by omega, by omega⟩ (Nat.le_of_ble_eq_true rfl) rfl dX2_meetsHedge_16 rfl (fun v16 M16 z16 hp16 hz16 hd16 => ?_)
  obtain ⟨rfl, rfl, rfl⟩ := hp16
  show G X _ (ovR (cxT X) N o S) sz (((0 + 0) + 0) + 0) (((0 + 0) + 0) + 0) 19 [(0, .ref o), (1, .int (nI f))] [.int (edR S n f 2), .int (edR S n f 1), .int (edR S n f 0), .ref o]
  refine g_aload_n hX dX2_meetsHedge_19 0 rfl ?_
  refine g_iload_n hX dX2_meetsHedge_20 1 rfl ?_
  refine g_iconst (v := 3) hX dX2_meetsHedge_21 (by decide) ?_
  refine g_callV [.int (edR S n f 2), .int (edR S n f 1), .int (edR S n f 0), .ref o] hX (cr_edge n ht h0 (by decide) (by omega) hX.st sz) cw_X2_edge cv_X2_edge lk_X2_47 (ci := 2) rfl rfl ovR_o ⟨by omega, by omega⟩ ⟨by omega, by omega⟩ (Nat.le_of_ble_eq_true rfl) rfl dX2_meetsHedge_22 rfl (fun v22 M22 z22 hp22 hz22 hd22 => ?_)
  obtain ⟨rfl, rfl, rfl⟩ := hp22
  show G X _ (ovR (cxT X) N o S) sz ((((0 + 0) + 0) + 0) + 0) ((((0 + 0) + 0) + 0) + 0) 25 [(0, .ref o), (1, .int (nI f))] [.int (edR S n f 3), .int (edR S n f 2), .int (edR S n f 1), .int (edR S n f 0), .ref o]
  refine g_callV [] hX (cr_meets hX.st sz _ _ _ _) cw_X2_meets cv_X2_meets lk_X2_73 (ci := 2) rfl rfl ovR_o ⟨by omega, by omega⟩ ⟨by omega, by omega⟩ (Nat.le_of_ble_eq_true rfl) rfl dX2_meetsHedge_25 rfl (fun v25 M25 z25 hp25 hz25 hd25 => ?_)
  obtain ⟨rfl, rfl, rfl⟩ := hp25
  show G X _ (ovR (cxT X) N o S) sz (((((0 + 0) + 0) + 0) + 0) + 0) (((((0 + 0) + 0) + 0) + 0) + 0) 28 [(0, .ref o), (1, .int (nI f))] [.int (bI (mtR S (edR S n f)))]
  exact hF (some (.int (bI (mtR S (edR S n f))))) (ovR (cxT X) N o S) sz _ _ _ _ .ireturn (⟨rfl, rfl, rfl⟩) (by omega) (by omega) (ret_b (bI_or _)) dX2_meetsHedge_28

set_option maxHeartbeats 4000000 in
set_option maxRecDepth 100000 in
theorem cr_areaOf {l : Launch} (hl : l.stackTraces = false) {T : CT3} {D : va_G} {N : AH} {o : Nat} {S : RS} (sz : Nat) {a : Nat} (ha : a < 60) : Ct l T D yX2_areaOf cX2_areaOf 2 (some .int) 1 23 0 0 [.ref o, .int (nI a)] (ovR T N o S) sz (fun v M' z' => v = some (.int (aroR S a)) ∧ M' = ovR T N o S ∧ sz = z') := by
  refine Ct.ofX hl (by decide) (Nat.le_of_ble_eq_true rfl) ?_
  intro X hl0 hT0 hD0 hlt hX hF
  subst hl0; subst hT0; subst hD0
  show G X 2 (ovR (cxT X) N o S) sz 0 0 0 [(0, .ref o), (1, .int (nI a))] []
  refine g_aload_n hX dX2_areaOf_0 0 rfl ?_
  refine g_get (ci := 2) hX rfl fin_X2 (ovR_o (S := S)) 3 (by decide) fl_X2_9 rfl dX2_areaOf_1 ?_
  refine g_iconst (v := 4) hX dX2_areaOf_4 (by decide) ?_
  refine g_iload_n hX dX2_areaOf_5 1 rfl ?_
  refine g_imul hX dX2_areaOf_6 ?_
  refine g_iald hX (ovR_at (S := S) 1 rfl) (4 * a) (ix40 _) (by omega) (by decide) dX2_areaOf_7 ?_
  refine g_aload_n hX dX2_areaOf_8 0 rfl ?_
  refine g_get (ci := 2) hX rfl fin_X2 (ovR_o (S := S)) 3 (by decide) fl_X2_9 rfl dX2_areaOf_9 ?_
  refine g_iconst (v := 4) hX dX2_areaOf_12 (by decide) ?_
  refine g_iload_n hX dX2_areaOf_13 1 rfl ?_
  refine g_imul hX dX2_areaOf_14 ?_
  refine g_iconst (v := 1) hX dX2_areaOf_15 (by decide) ?_
  refine g_iadd hX dX2_areaOf_16 ?_
  refine g_iald hX (ovR_at (S := S) 1 rfl) (4 * a + 1) (ix41 _) (by omega) (by decide) dX2_areaOf_17 ?_
  refine g_aload_n hX dX2_areaOf_18 0 rfl ?_
  refine g_get (ci := 2) hX rfl fin_X2 (ovR_o (S := S)) 3 (by decide) fl_X2_9 rfl dX2_areaOf_19 ?_
  refine g_iconst (v := 4) hX dX2_areaOf_22 (by decide) ?_
  refine g_iload_n hX dX2_areaOf_23 1 rfl ?_
  refine g_imul hX dX2_areaOf_24 ?_
  refine g_iconst (v := 2) hX dX2_areaOf_25 (by decide) ?_
  refine g_iadd hX dX2_areaOf_26 ?_
  refine g_iald hX (ovR_at (S := S) 1 rfl) (4 * a + 2) (ix42 _) (by omega) (by decide) dX2_areaOf_27 ?_
  refine g_aload_n hX dX2_areaOf_28 0 rfl ?_
  refine g_get (ci := 2) hX rfl fin_X2 (ovR_o (S := S)) 3 (by decide) fl_X2_9 rfl dX2_areaOf_29 ?_
  refine g_iconst (v := 4) hX dX2_areaOf_32 (by decide) ?_
  refine g_iload_n hX dX2_areaOf_33 1 rfl ?_
  refine g_imul hX dX2_areaOf_34 ?_
  refine g_iconst (v := 3) hX dX2_areaOf_35 (by decide) ?_
  refine g_iadd hX dX2_areaOf_36 ?_
  refine g_iald hX (ovR_at (S := S) 1 rfl) (4 * a + 3) (ix43 _) (by omega) (by decide) dX2_areaOf_37 ?_
  refine g_callS [] hX (cr_area hX.st sz _ _ _ _) cw_X2_area stt_X2_area lk_X2_62 ⟨by omega, by omega⟩ ⟨by omega, by omega⟩ (Nat.le_of_ble_eq_true rfl) rfl dX2_areaOf_38 rfl (fun v38 M38 z38 hp38 hz38 hd38 => ?_)
  obtain ⟨rfl, rfl, rfl⟩ := hp38
  show G X _ (ovR (cxT X) N o S) sz (0 + 0) (0 + 0) 41 [(0, .ref o), (1, .int (nI a))] [.int (aroR S a)]
  exact hF (some (.int (aroR S a))) (ovR (cxT X) N o S) sz _ _ _ _ .ireturn (⟨rfl, rfl, rfl⟩) (by omega) (by omega) ret_i dX2_areaOf_41

set_option maxHeartbeats 4000000 in
set_option maxRecDepth 100000 in
theorem cr_off {l : Launch} (hl : l.stackTraces = false) {T : CT3} {D : va_G} {M : AH} (sz : Nat) (x lo hi : Int32) : Ct l T D yX2_off cX2_off 3 (some .int) 0 0 0 0 [.int x, .int lo, .int hi] M sz (fun v M' z' => v = some (.int (offR x lo hi)) ∧ M' = M ∧ sz = z') := by
  refine Ct.ofX hl (by decide) (Nat.le_of_ble_eq_true rfl) ?_
  intro X hl0 hT0 hD0 hlt hX hF
  subst hl0; subst hT0; subst hD0
  show G X 3 M sz 0 0 0 [(0, .int x), (1, .int lo), (2, .int hi)] []
  refine g_iload_n hX dX2_off_0 0 rfl ?_
  refine g_iload_n hX dX2_off_1 1 rfl ?_
  refine g_icmp_ge hX 11 dX2_off_2 (by decide) (fun c2 => ?_) (fun c2 => ?_)
  · skip
    refine g_iload_n hX dX2_off_11 0 rfl ?_
    refine g_iload_n hX dX2_off_12 2 rfl ?_
    refine g_icmp_le hX 22 dX2_off_13 (by decide) (fun c13 => ?_) (fun c13 => ?_)
    · skip
      refine g_iconst (v := 0) hX dX2_off_22 (by decide) ?_
      exact hF (some (.int 0)) M sz _ _ _ _ .ireturn (⟨by unfold offR; rw [if_neg (Int32.not_lt.mpr c2), if_neg (Int32.not_lt.mpr c13)], rfl, rfl⟩) (by omega) (by omega) ret_i dX2_off_23
    · skip
      refine g_iload_n hX dX2_off_16 0 rfl ?_
      refine g_iload_n hX dX2_off_17 2 rfl ?_
      refine g_isub hX dX2_off_18 ?_
      refine g_goto hX 23 dX2_off_19 (by decide) ?_
      exact hF (some (.int (x - hi))) M sz _ _ _ _ .ireturn (⟨by unfold offR; rw [if_neg (Int32.not_lt.mpr c2), if_pos (Int32.not_le.mp c13)], rfl, rfl⟩) (by omega) (by omega) ret_i dX2_off_23
  · skip
    refine g_iload_n hX dX2_off_5 1 rfl ?_
    refine g_iload_n hX dX2_off_6 0 rfl ?_
    refine g_isub hX dX2_off_7 ?_
    refine g_goto hX 23 dX2_off_8 (by decide) ?_
    exact hF (some (.int (lo - x))) M sz _ _ _ _ .ireturn (⟨by unfold offR; rw [if_pos (Int32.not_le.mp c2)], rfl, rfl⟩) (by omega) (by omega) ret_i dX2_off_23

set_option maxHeartbeats 4000000 in
set_option maxRecDepth 100000 in
theorem cr_farFrom {l : Launch} (hl : l.stackTraces = false) {T : CT3} {D : va_G} {N : AH} {o : Nat} {S : RS} (sz : Nat) {a : Nat} (ha : a < 60) (x y : Int32) : Ct l T D yX2_farFrom cX2_farFrom 6 (some .int) 1 22 0 0 [.ref o, .int (nI a), .int x, .int y] (ovR T N o S) sz (fun v M' z' => v = some (.int (farR S a x y)) ∧ M' = ovR T N o S ∧ sz = z') := by
  refine Ct.ofX hl (by decide) (Nat.le_of_ble_eq_true rfl) ?_
  intro X hl0 hT0 hD0 hlt hX hF
  subst hl0; subst hT0; subst hD0
  show G X 6 (ovR (cxT X) N o S) sz 0 0 0 [(0, .ref o), (1, .int (nI a)), (2, .int x), (3, .int y)] []
  refine g_iload_n hX dX2_farFrom_0 2 rfl ?_
  refine g_aload_n hX dX2_farFrom_1 0 rfl ?_
  refine g_get (ci := 2) hX rfl fin_X2 (ovR_o (S := S)) 3 (by decide) fl_X2_9 rfl dX2_farFrom_2 ?_
  refine g_iconst (v := 4) hX dX2_farFrom_5 (by decide) ?_
  refine g_iload_n hX dX2_farFrom_6 1 rfl ?_
  refine g_imul hX dX2_farFrom_7 ?_
  refine g_iald hX (ovR_at (S := S) 1 rfl) (4 * a) (ix40 _) (by omega) (by decide) dX2_farFrom_8 ?_
  refine g_aload_n hX dX2_farFrom_9 0 rfl ?_
  refine g_get (ci := 2) hX rfl fin_X2 (ovR_o (S := S)) 3 (by decide) fl_X2_9 rfl dX2_farFrom_10 ?_
  refine g_iconst (v := 4) hX dX2_farFrom_13 (by decide) ?_
  refine g_iload_n hX dX2_farFrom_14 1 rfl ?_
  refine g_imul hX dX2_farFrom_15 ?_
  refine g_iconst (v := 2) hX dX2_farFrom_16 (by decide) ?_
  refine g_iadd hX dX2_farFrom_17 ?_
  refine g_iald hX (ovR_at (S := S) 1 rfl) (4 * a + 2) (ix42 _) (by omega) (by decide) dX2_farFrom_18 ?_
  refine g_callS [] hX (cr_off hX.st sz _ _ _) cw_X2_off stt_X2_off lk_X2_153 ⟨by omega, by omega⟩ ⟨by omega, by omega⟩ (Nat.le_of_ble_eq_true rfl) rfl dX2_farFrom_19 rfl (fun v19 M19 z19 hp19 hz19 hd19 => ?_)
  obtain ⟨rfl, rfl, rfl⟩ := hp19
  show G X _ (ovR (cxT X) N o S) sz (0 + 0) (0 + 0) 22 [(0, .ref o), (1, .int (nI a)), (2, .int x), (3, .int y)] [.int (offR x (rE S (4 * a)) (rE S (4 * a + 2)))]
  refine g_istore (L' := [(4, .int (offR x (rE S (4 * a)) (rE S (4 * a + 2)))), (0, .ref o), (1, .int (nI a)), (2, .int x), (3, .int y)]) hX dX2_farFrom_22 (by decide) rfl ?_
  refine g_iload_n hX dX2_farFrom_24 4 rfl ?_
  refine g_aload_n hX dX2_farFrom_25 1 rfl ?_
  refine g_get (ci := 2) hX rfl fin_X2 (ovR_o (S := S)) 3 (by decide) fl_X2_9 rfl dX2_farFrom_26 ?_
  refine g_iconst (v := 4) hX dX2_farFrom_29 (by decide) ?_
  refine g_iload_n hX dX2_farFrom_30 2 rfl ?_
  refine g_imul hX dX2_farFrom_31 ?_
  refine g_iconst (v := 1) hX dX2_farFrom_32 (by decide) ?_
  refine g_iadd hX dX2_farFrom_33 ?_
  refine g_iald hX (ovR_at (S := S) 1 rfl) (4 * a + 1) (ix41 _) (by omega) (by decide) dX2_farFrom_34 ?_
  refine g_aload_n hX dX2_farFrom_35 1 rfl ?_
  refine g_get (ci := 2) hX rfl fin_X2 (ovR_o (S := S)) 3 (by decide) fl_X2_9 rfl dX2_farFrom_36 ?_
  refine g_iconst (v := 4) hX dX2_farFrom_39 (by decide) ?_
  refine g_iload_n hX dX2_farFrom_40 2 rfl ?_
  refine g_imul hX dX2_farFrom_41 ?_
  refine g_iconst (v := 3) hX dX2_farFrom_42 (by decide) ?_
  refine g_iadd hX dX2_farFrom_43 ?_
  refine g_iald hX (ovR_at (S := S) 1 rfl) (4 * a + 3) (ix43 _) (by omega) (by decide) dX2_farFrom_44 ?_
  refine g_callS [] hX (cr_off hX.st sz _ _ _) cw_X2_off stt_X2_off lk_X2_153 ⟨by omega, by omega⟩ ⟨by omega, by omega⟩ (Nat.le_of_ble_eq_true rfl) rfl dX2_farFrom_45 rfl (fun v45 M45 z45 hp45 hz45 hd45 => ?_)
  obtain ⟨rfl, rfl, rfl⟩ := hp45
  show G X _ (ovR (cxT X) N o S) sz ((0 + 0) + 0) ((0 + 0) + 0) 48 [(4, .int (offR x (rE S (4 * a)) (rE S (4 * a + 2)))), (0, .ref o), (1, .int (nI a)), (2, .int x), (3, .int y)] [.int (offR y (rE S (4 * a + 1)) (rE S (4 * a + 3)))]
  refine g_istore (L' := [(5, .int (offR y (rE S (4 * a + 1)) (rE S (4 * a + 3)))), (4, .int (offR x (rE S (4 * a)) (rE S (4 * a + 2)))), (0, .ref o), (1, .int (nI a)), (2, .int x), (3, .int y)]) hX dX2_farFrom_48 (by decide) rfl ?_
  refine g_iload hX dX2_farFrom_50 1 rfl ?_
  refine g_iload hX dX2_farFrom_52 1 rfl ?_
  refine g_imul hX dX2_farFrom_54 ?_
  refine g_iload hX dX2_farFrom_55 0 rfl ?_
  refine g_iload hX dX2_farFrom_57 0 rfl ?_
  refine g_imul hX dX2_farFrom_59 ?_
  refine g_iadd hX dX2_farFrom_60 ?_
  exact hF (some (.int (((offR x (rE S (4 * a)) (rE S (4 * a + 2))) * (offR x (rE S (4 * a)) (rE S (4 * a + 2)))) + ((offR y (rE S (4 * a + 1)) (rE S (4 * a + 3))) * (offR y (rE S (4 * a + 1)) (rE S (4 * a + 3))))))) (ovR (cxT X) N o S) sz _ _ _ _ .ireturn (⟨rfl, rfl, rfl⟩) (by omega) (by omega) ret_i dX2_farFrom_61

set_option maxHeartbeats 4000000 in
set_option maxRecDepth 100000 in
theorem cr_all {l : Launch} (hl : l.stackTraces = false) {T : CT3} {D : va_G} {N : AH} {o : Nat} {S : RS} (sz : Nat) (hc : rC S 1 ≤ 60) (hd : ∀ a, a < 60 → rD S a ≤ 1) : Ct l T D yX2_all cX2_all 3 (some .int) 2 48 0 0 [.ref o] (ovR T N o S) sz (fun v M' z' => v = some (.int (sumA 0 (mta S) (rC S 1))) ∧ M' = ovR T N o S ∧ sz = z') := by
  refine Ct.ofX hl (by decide) (Nat.le_of_ble_eq_true rfl) ?_
  intro X hl0 hT0 hD0 hlt hX hF
  subst hl0; subst hT0; subst hD0
  have loop : ∀ k, k ≤ (rC S 1) → G X 3 (ovR (cxT X) N o S) sz 0 0 4 [(2, .int (nI k)), (1, .int (sumA 0 (mta S) k)), (0, .ref o)] [] := by
    refine loop_up ?_
    intro k ih hk
    refine g_iload_n hX dX2_all_4 0 rfl ?_
    refine g_aload_n hX dX2_all_5 2 rfl ?_
    refine g_get (ci := 2) hX rfl fin_X2 (ovR_o (S := S)) 1 (by decide) fl_X2_41 rfl dX2_all_6 ?_
    refine g_icmp_ge hX 34 dX2_all_9 (by decide) (fun c9 => ?_) (fun c9 => ?_)
    · skip
      have hke : k = rC S 1 := by have h9 := (nI_leI (a := rC S 1) (b := k) (by omega) (by omega)).mp c9; omega
      subst hke
      refine g_iload_n hX dX2_all_34 1 rfl ?_
      exact hF (some (.int (sumA 0 (mta S) (rC S 1)))) (ovR (cxT X) N o S) sz _ _ _ _ .ireturn (⟨rfl, rfl, rfl⟩) (by omega) (by omega) ret_i dX2_all_35
    · skip
      have hk2 : k < rC S 1 := by have h9 := mt (nI_leI (a := rC S 1) (b := k) (by omega) (by omega)).mpr c9; omega
      refine g_iload_n hX dX2_all_12 1 rfl ?_
      refine g_aload_n hX dX2_all_13 2 rfl ?_
      refine g_iload_n hX dX2_all_14 0 rfl ?_
      refine g_callV [.int (sumA 0 (mta S) k)] hX (cr_meetsAllotment hX.st sz (a := k) (by omega) (hd k (by omega))) cw_X2_meetsAllotment cv_X2_meetsAllotment lk_X2_144 (ci := 2) rfl rfl ovR_o ⟨by omega, by omega⟩ ⟨by omega, by omega⟩ (Nat.le_of_ble_eq_true rfl) rfl dX2_all_15 rfl (fun v15 M15 z15 hp15 hz15 hd15 => ?_)
      obtain ⟨rfl, rfl, rfl⟩ := hp15
      show G X _ (ovR (cxT X) N o S) sz (0 + 0) (0 + 0) 18 [(2, .int (nI k)), (1, .int (sumA 0 (mta S) k)), (0, .ref o)] [.int (mta S k), .int (sumA 0 (mta S) k)]
      refine g_if_eq hX 25 dX2_all_18 (by decide) (fun c18 => ?_) (fun c18 => ?_)
      · skip
        have hm18 : mta S k = 0 := c18
        refine g_iconst (v := 0) hX dX2_all_25 (by decide) ?_
        refine g_iadd hX dX2_all_26 ?_
        refine g_istore_n (L' := [(1, .int ((sumA 0 (mta S) k) + 0)), (2, .int (nI k)), (0, .ref o)]) hX dX2_all_27 (by decide) rfl ?_
        refine g_iinc (v := nI (k + 1)) (L' := [(2, .int (nI (k + 1))), (1, .int ((sumA 0 (mta S) k) + 0)), (0, .ref o)]) hX dX2_all_28 1 rfl (nI_1 _) (by decide) rfl ?_
        refine g_goto hX 4 dX2_all_31 (by decide) ?_
        rw [show sumA 0 (mta S) k + 0 = sumA 0 (mta S) (k + 1) from by show _ = _ + mta S k; rw [hm18]]
        refine g_sub [0, 1, 2] rfl ?_
        exact ih (k + 1) (by omega) (by omega)
      · skip
        have hm18 : mta S k = 1 := (mta_or S k).resolve_left c18
        refine g_iconst (v := 1) hX dX2_all_21 (by decide) ?_
        refine g_goto hX 26 dX2_all_22 (by decide) ?_
        refine g_iadd hX dX2_all_26 ?_
        refine g_istore_n (L' := [(1, .int ((sumA 0 (mta S) k) + 1)), (2, .int (nI k)), (0, .ref o)]) hX dX2_all_27 (by decide) rfl ?_
        refine g_iinc (v := nI (k + 1)) (L' := [(2, .int (nI (k + 1))), (1, .int ((sumA 0 (mta S) k) + 1)), (0, .ref o)]) hX dX2_all_28 1 rfl (nI_1 _) (by decide) rfl ?_
        refine g_goto hX 4 dX2_all_31 (by decide) ?_
        rw [show sumA 0 (mta S) k + 1 = sumA 0 (mta S) (k + 1) from by show _ = _ + mta S k; rw [hm18]]
        refine g_sub [0, 1, 2] rfl ?_
        exact ih (k + 1) (by omega) (by omega)
  show G X 3 (ovR (cxT X) N o S) sz 0 0 0 [(0, .ref o)] []
  refine g_iconst (v := 0) hX dX2_all_0 (by decide) ?_
  refine g_istore_n (L' := [(1, .int 0), (0, .ref o)]) hX dX2_all_1 (by decide) rfl ?_
  refine g_iconst (v := 0) hX dX2_all_2 (by decide) ?_
  refine g_istore_n (L' := [(2, .int 0), (1, .int 0), (0, .ref o)]) hX dX2_all_3 (by decide) rfl ?_
  refine g_sub [0, 1, 2] rfl ?_
  exact loop 0 (Nat.zero_le _)

set_option maxHeartbeats 4000000 in
set_option maxRecDepth 100000 in
theorem cr_heldNow {l : Launch} (hl : l.stackTraces = false) {T : CT3} {D : va_G} {N : AH} {o : Nat} {S : RS} (sz : Nat) (hc : rC S 1 ≤ 60) : Ct l T D yX2_heldNow cX2_heldNow 3 (some .int) 0 0 0 0 [.ref o] (ovR T N o S) sz (fun v M' z' => v = some (.int (sumA 0 (fun a => nI (rD S a)) (rC S 1))) ∧ M' = ovR T N o S ∧ sz = z') := by
  refine Ct.ofX hl (by decide) (Nat.le_of_ble_eq_true rfl) ?_
  intro X hl0 hT0 hD0 hlt hX hF
  subst hl0; subst hT0; subst hD0
  have loop : ∀ k, k ≤ (rC S 1) → G X 3 (ovR (cxT X) N o S) sz 0 0 4 [(2, .int (nI k)), (1, .int (sumA 0 (fun a => nI (rD S a)) k)), (0, .ref o)] [] := by
    refine loop_up ?_
    intro k ih hk
    refine g_iload_n hX dX2_heldNow_4 0 rfl ?_
    refine g_aload_n hX dX2_heldNow_5 2 rfl ?_
    refine g_get (ci := 2) hX rfl fin_X2 (ovR_o (S := S)) 1 (by decide) fl_X2_41 rfl dX2_heldNow_6 ?_
    refine g_icmp_ge hX 27 dX2_heldNow_9 (by decide) (fun c9 => ?_) (fun c9 => ?_)
    · skip
      have hke : k = rC S 1 := by have h9 := (nI_leI (a := rC S 1) (b := k) (by omega) (by omega)).mp c9; omega
      subst hke
      refine g_iload_n hX dX2_heldNow_27 1 rfl ?_
      exact hF (some (.int (sumA 0 (fun a => nI (rD S a)) (rC S 1)))) (ovR (cxT X) N o S) sz _ _ _ _ .ireturn (⟨rfl, rfl, rfl⟩) (by omega) (by omega) ret_i dX2_heldNow_28
    · skip
      have hk2 : k < rC S 1 := by have h9 := mt (nI_leI (a := rC S 1) (b := k) (by omega) (by omega)).mpr c9; omega
      refine g_iload_n hX dX2_heldNow_12 1 rfl ?_
      refine g_aload_n hX dX2_heldNow_13 2 rfl ?_
      refine g_get (ci := 2) hX rfl fin_X2 (ovR_o (S := S)) 4 (by decide) fl_X2_13 rfl dX2_heldNow_14 ?_
      refine g_iload_n hX dX2_heldNow_17 0 rfl ?_
      refine g_iald hX (ovR_at (S := S) 2 rfl) k rfl (by omega) (by decide) dX2_heldNow_18 ?_
      refine g_iadd hX dX2_heldNow_19 ?_
      refine g_istore_n (L' := [(1, .int ((sumA 0 (fun a => nI (rD S a)) k) + (nI (rD S k)))), (2, .int (nI k)), (0, .ref o)]) hX dX2_heldNow_20 (by decide) rfl ?_
      refine g_iinc (v := nI (k + 1)) (L' := [(2, .int (nI (k + 1))), (1, .int ((sumA 0 (fun a => nI (rD S a)) k) + (nI (rD S k)))), (0, .ref o)]) hX dX2_heldNow_21 1 rfl (nI_1 _) (by decide) rfl ?_
      refine g_goto hX 4 dX2_heldNow_24 (by decide) ?_
      refine g_sub [0, 1, 2] rfl ?_
      exact ih (k + 1) (by omega) (by omega)
  show G X 3 (ovR (cxT X) N o S) sz 0 0 0 [(0, .ref o)] []
  refine g_iconst (v := 0) hX dX2_heldNow_0 (by decide) ?_
  refine g_istore_n (L' := [(1, .int 0), (0, .ref o)]) hX dX2_heldNow_1 (by decide) rfl ?_
  refine g_iconst (v := 0) hX dX2_heldNow_2 (by decide) ?_
  refine g_istore_n (L' := [(2, .int 0), (1, .int 0), (0, .ref o)]) hX dX2_heldNow_3 (by decide) rfl ?_
  refine g_sub [0, 1, 2] rfl ?_
  exact loop 0 (Nat.zero_le _)
