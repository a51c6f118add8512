set_option maxHeartbeats 1000000 in
set_option maxRecDepth 100000 in
theorem ct_come {l : Launch} (hl : l.stackTraces = false) {T : CT3} {D : va_G} {N : AH} {P : PS} {F : FS} (sz : Nat) (hwF : WfF P F) {n k : Nat} (hal : Alok P F) (x1 y1 x2 y2 : Int32) (hr : isR x1 y1 x2 y2 = true) (hc : fC F < 60) (ht : TrP (fpP P F sz x1 y1 x2 y2) n (fT F)) (hn : n < 40) (hk : k < 40) (pl : Nat → Nat) (hfr : pD (fpP P F sz x1 y1 x2 y2) (ffP (fpP P F sz x1 y1 x2 y2) sz n (fT F)) = true) (hs : pS (fpP P F sz x1 y1 x2 y2) (ffP (fpP P F sz x1 y1 x2 y2) sz n (fT F)) < pW (fpP P F sz x1 y1 x2 y2) (ffP (fpP P F sz x1 y1 x2 y2) sz n (fT F))) (hs2 : pW (fpP P F sz x1 y1 x2 y2) (ffP (fpP P F sz x1 y1 x2 y2) sz n (fT F)) < 1000) (hch : ∀ j c, j < pS (fpP P F sz x1 y1 x2 y2) (ffP (fpP P F sz x1 y1 x2 y2) sz n (fT F)) → pA (fpP P F sz x1 y1 x2 y2) (ffP (fpP P F sz x1 y1 x2 y2) sz n (fT F)) j = some c → pD (fpP P F sz x1 y1 x2 y2) c = true) (hsc : ScI pl k (apP (fpP P F sz x1 y1 x2 y2) (ffP (fpP P F sz x1 y1 x2 y2) sz n (fT F)) sz) (cF2 F sz) (sz + 1 + 1) (some (ffP (fpP P F sz x1 y1 x2 y2) sz n (fT F)))) (hz : pD (scP pl k (apP (fpP P F sz x1 y1 x2 y2) (ffP (fpP P F sz x1 y1 x2 y2) sz n (fT F)) sz) (cF2 F sz) (sz + 1 + 1) (some (ffP (fpP P F sz x1 y1 x2 y2) sz n (fT F)))).1 sz = true) : Ct l T D yX1_come cX1_come 7 (some .int) 6 150 (4 * k + 2) (28 * k + 9) [.ref (fO F), .int x1, .int y1, .int x2, .int y2] (ov T (ovF T N F) P) sz (fun v M' z' => v = some (.int (pN (scP pl k (apP (fpP P F sz x1 y1 x2 y2) (ffP (fpP P F sz x1 y1 x2 y2) sz n (fT F)) sz) (cF2 F sz) (sz + 1 + 1) (some (ffP (fpP P F sz x1 y1 x2 y2) sz n (fT F)))).1 sz)) ∧ M' = ov T (ovF T N (scP pl k (apP (fpP P F sz x1 y1 x2 y2) (ffP (fpP P F sz x1 y1 x2 y2) sz n (fT F)) sz) (cF2 F sz) (sz + 1 + 1) (some (ffP (fpP P F sz x1 y1 x2 y2) sz n (fT F)))).2.1) (scP pl k (apP (fpP P F sz x1 y1 x2 y2) (ffP (fpP P F sz x1 y1 x2 y2) sz n (fT F)) sz) (cF2 F sz) (sz + 1 + 1) (some (ffP (fpP P F sz x1 y1 x2 y2) sz n (fT F)))).1 ∧ (scP pl k (apP (fpP P F sz x1 y1 x2 y2) (ffP (fpP P F sz x1 y1 x2 y2) sz n (fT F)) sz) (cF2 F sz) (sz + 1 + 1) (some (ffP (fpP P F sz x1 y1 x2 y2) sz n (fT F)))).2.2 = z') := by
  refine Ct.ofX hl (by decide) (Nat.le_of_ble_eq_true rfl) ?_
  intro X hl0 hT0 hD0 hlt hX hF
  subst hl0; subst hT0; subst hD0
  have hdl := dom_lt hwF.1 hlt
  have hoL := obj_lt hwF hlt
  show G X 7 (ov (cxT X) (ovF (cxT X) N F) P) sz 0 0 0 [(0, .ref (fO F)), (1, .int x1), (2, .int y1), (3, .int x2), (4, .int y2)] []
  refine g_iload_n hX dX1_come_0 1 rfl ?_
  refine g_iload_n hX dX1_come_1 2 rfl ?_
  refine g_iload_n hX dX1_come_2 3 rfl ?_
  refine g_iload hX dX1_come_3 4 rfl ?_
  refine g_callS [] hX (ct_isRectangle hX.st sz _ _ _ _) cw_X1_isRectangle stt_X1_isRectangle lk_X1_22 ⟨by omega, by omega⟩ ⟨by omega, by omega⟩ (Nat.le_of_ble_eq_true rfl) rfl dX1_come_5 rfl (fun v5 M5 z5 hp5 hz5 hd5 => ?_)
  rw [show isR x1 y1 x2 y2 = true from hr] at hp5
  obtain ⟨rfl, rfl, rfl⟩ := hp5
  show G X _ (ov (cxT X) (ovF (cxT X) N F) P) sz (0 + 0) (0 + 0) 8 [(0, .ref (fO F)), (1, .int x1), (2, .int y1), (3, .int x2), (4, .int y2)] [.int 1]
  refine g_if_ne hX 21 dX1_come_8 (by decide) (fun _ => ?_) (fun c8 => absurd c8 (by decide))
  refine g_aload_n hX dX1_come_21 0 rfl ?_
  refine g_get (ci := 1) hX rfl fin_X1 (ovF_o hwF) 1 (by decide) fl_X1_33 rfl dX1_come_22 ?_
  refine g_if_lt hX 40 dX1_come_25 (by decide) (fun c25 => absurd c25 (mt (nI_ltI (a := fC F) (b := 0) (by omega) (by omega)).mp (by omega))) (fun _ => ?_)
  refine g_aload_n hX dX1_come_28 0 rfl ?_
  refine g_get (ci := 1) hX rfl fin_X1 (ovF_o hwF) 1 (by decide) fl_X1_33 rfl dX1_come_29 ?_
  refine g_aload_n hX dX1_come_32 0 rfl ?_
  refine g_get (ci := 1) hX rfl fin_X1 (ovF_o hwF) 0 (by decide) fl_X1_11 rfl dX1_come_33 ?_
  refine g_alen hX (ovF_a hwF) dX1_come_36 ?_
  refine g_icmp_lt hX 50 dX1_come_37 (by decide) (fun _ => ?_) (fun c37 => absurd ((nI_ltI (a := fC F) (b := 60) (by omega) (by omega)).mpr hc) c37)
  refine g_new (ci := 0) (fs := [.int 0, .int 0, .null, .int 0, .null, .int 0, .int 0, .int 0, .int 0]) hX rfl fld_X0 cl_X1_9 ins_NestedFrames_Piece ini_NestedFrames_Piece tyP9 (by omega) (by omega) dX1_come_50 ?_
  show G X _ (va_up (ov (cxT X) (ovF (cxT X) N F) P) sz (some blkP)) (sz + 1) ((0 + 0) + 1) ((0 + 0) + 9) 53 [(0, .ref (fO F)), (1, .int x1), (2, .int y1), (3, .int x2), (4, .int y2)] [.ref sz]
  refine g_dup hX dX1_come_53 rfl ?_
  refine g_aload_n hX dX1_come_54 0 rfl ?_
  refine g_get (ci := 1) hX rfl fin_X1 (by rw [va_up_ne _ _ (by have h9 := hoL; omega)]; exact (ovF_o hwF)) 1 (by decide) fl_X1_33 rfl dX1_come_55 ?_
  refine g_iload_n hX dX1_come_58 1 rfl ?_
  refine g_iload_n hX dX1_come_59 2 rfl ?_
  refine g_iload_n hX dX1_come_60 3 rfl ?_
  refine g_iload hX dX1_come_61 4 rfl ?_
  refine g_callIN [.ref sz] hX (ct_Pinit hX.st (M := (va_up (ov (cxT X) (ovF (cxT X) N F) P) sz (some blkP))) (q := sz) (va_up_self _ _ _) (nI (fC F)) x1 y1 x2 y2) cw_X0_init rfl im_X0_init ln_X1_42 ⟨by omega, by omega⟩ ⟨by omega, by omega⟩ (Nat.le_of_ble_eq_true rfl) rfl dX1_come_63 rfl (fun v63 M63 z63 hp63 hz63 hd63 => ?_)
  obtain ⟨rfl, rfl, rfl⟩ := hp63
  refine g_eqM (ov_nw (nI (fC F)) 0 (bx4 x1 y1 x2 y2) 0 hdl rfl) ?_
  have hw1 : WfF (fpP P F sz x1 y1 x2 y2) F := hwF.nw hdl hoL (nI (fC F)) 0 (bx4 x1 y1 x2 y2) 0
  have hr1 : pD (fpP P F sz x1 y1 x2 y2) sz = true := nwq _ _ _
  show G X _ (ov (cxT X) (ovF (cxT X) N F) (fpP P F sz x1 y1 x2 y2)) (sz + 1 + 1) (((0 + 0) + 1) + 1) (((0 + 0) + 9) + 0) 66 [(0, .ref (fO F)), (1, .int x1), (2, .int y1), (3, .int x2), (4, .int y2)] [.ref sz]
  refine g_astore (L' := [(5, .ref sz), (0, .ref (fO F)), (1, .int x1), (2, .int y1), (3, .int x2), (4, .int y2)]) hX dX1_come_66 (by decide) rfl ?_
  obtain ⟨P1, hP1⟩ : ∃ P1, P1 = (fpP P F sz x1 y1 x2 y2) := ⟨_, rfl⟩
  rw [← hP1] at hw1 hr1 ht hfr hs hs2 hch hsc hz hF ⊢
  refine g_aload_n hX dX1_come_68 1 rfl ?_
  refine g_get (ci := 1) hX rfl fin_X1 (ovF_o hw1) 0 (by decide) fl_X1_11 rfl dX1_come_69 ?_
  refine g_aload_n hX dX1_come_72 1 rfl ?_
  refine g_get (ci := 1) hX rfl fin_X1 (ovF_o hw1) 1 (by decide) fl_X1_33 rfl dX1_come_73 ?_
  refine g_aload hX dX1_come_76 0 rfl ?_
  refine g_aastQ (r := some sz) hX (ovF_a hw1) (fun v9 h9 => ⟨_, ov_pc (by cases h9; exact hr1)⟩) (fC F) rfl hc (by decide) dX1_come_78 ?_
  refine g_eqM (ovF_ua hw1 (va_up (fA F) (fC F) (some sz))) ?_
  show G X _ (ov (cxT X) (ovF (cxT X) N (sAl F (va_up (fA F) (fC F) (some sz)))) P1) (sz + 1 + 1) (((0 + 0) + 1) + 1) (((0 + 0) + 9) + 0) 79 [(5, .ref sz), (0, .ref (fO F)), (1, .int x1), (2, .int y1), (3, .int x2), (4, .int y2)] []
  have hwA : WfF P1 (sAl F (va_up (fA F) (fC F) (some sz))) := hw1
  refine g_aload_n hX dX1_come_79 1 rfl ?_
  refine g_dup hX dX1_come_80 rfl ?_
  refine g_get (ci := 1) hX rfl fin_X1 (ovF_o hwA) 1 (by decide) fl_X1_33 rfl dX1_come_81 ?_
  refine g_iconst (v := 1) hX dX1_come_84 (by decide) ?_
  refine g_iadd hX dX1_come_85 ?_
  refine g_put (ci := 1) hX rfl fld_X1 (ovF_o hwA) 1 (by decide) fl_X1_33 rfl rfl rfl (Nat.le_of_ble_eq_true rfl) dX1_come_86 ?_
  refine g_eqM (ovF_sC hwA (fC F + 1) (nI_1 _)) ?_
  show G X _ (ov (cxT X) (ovF (cxT X) N (cF2 F sz)) P1) (sz + 1 + 1) (((0 + 0) + 1) + 1) (((0 + 0) + 9) + 0) 89 [(5, .ref sz), (0, .ref (fO F)), (1, .int x1), (2, .int y1), (3, .int x2), (4, .int y2)] []
  have hw2 : WfF P1 (cF2 F sz) := hw1
  refine g_aload_n hX dX1_come_89 1 rfl ?_
  refine g_aload hX dX1_come_90 0 rfl ?_
  refine g_callV [] hX (ct_frameFor hX.st (sz + 1 + 1) (P := P1) (F := cF2 F sz) (r := sz) hw2 hr1 ht hn) cw_X1_frameFor cv_X1_frameFor lk_X1_45 (ci := 1) rfl rfl (ovF_o hw2) ⟨by omega, by omega⟩ ⟨by omega, by omega⟩ (Nat.le_of_ble_eq_true rfl) rfl dX1_come_92 rfl (fun v92 M92 z92 hp92 hz92 hd92 => ?_)
  obtain ⟨rfl, rfl, rfl⟩ := hp92
  show G X _ (ov (cxT X) (ovF (cxT X) N (cF2 F sz)) P1) (sz + 1 + 1) ((((0 + 0) + 1) + 1) + 0) ((((0 + 0) + 9) + 0) + 0) 95 [(5, .ref sz), (0, .ref (fO F)), (1, .int x1), (2, .int y1), (3, .int x2), (4, .int y2)] [.ref (ffP P1 sz n (fT F))]
  refine g_astore (L' := [(6, .ref (ffP P1 sz n (fT F))), (5, .ref sz), (0, .ref (fO F)), (1, .int x1), (2, .int y1), (3, .int x2), (4, .int y2)]) hX dX1_come_95 (by decide) rfl ?_
  refine g_aload hX dX1_come_97 0 rfl ?_
  refine g_aload hX dX1_come_99 1 rfl ?_
  refine g_callVN [] hX (ct_append hX.st (sz + 1 + 1) hw1.1 (P := P1) (q := (ffP P1 sz n (fT F))) (r := sz) hfr hr1 hs hs2 hch) cw_X0_append cv_X0_append ln_X1_49 (ci := 0) rfl rfl (ov_pc (P := P1) hfr) ⟨by omega, by omega⟩ ⟨by omega, by omega⟩ (Nat.le_of_ble_eq_true rfl) rfl dX1_come_101 rfl (fun v101 M101 z101 hp101 hz101 hd101 => ?_)
  obtain ⟨rfl, rfl, rfl⟩ := hp101
  show G X _ (ov (cxT X) (ovF (cxT X) N (cF2 F sz)) (apP P1 (ffP P1 sz n (fT F)) sz)) (sz + 1 + 1) (((((0 + 0) + 1) + 1) + 0) + 0) (((((0 + 0) + 9) + 0) + 0) + 0) 104 [(6, .ref (ffP P1 sz n (fT F))), (5, .ref sz), (0, .ref (fO F)), (1, .int x1), (2, .int y1), (3, .int x2), (4, .int y2)] []
  refine g_aload_n hX dX1_come_104 2 rfl ?_
  refine g_aload hX dX1_come_105 0 rfl ?_
  refine g_callV [] hX (ct_crowd hX.st (sz + 1 + 1) (P := (apP P1 (ffP P1 sz n (fT F)) sz)) (F := cF2 F sz) (q := (ffP P1 sz n (fT F))) (n := k) hw2 pl hsc hk) cw_X1_splitCrowdedAndTighten cv_X1_splitCrowdedAndTighten lk_X1_53 (ci := 1) rfl rfl (ovF_o (P := (apP P1 (ffP P1 sz n (fT F)) sz)) hw2) ⟨by omega, by omega⟩ ⟨by omega, by omega⟩ (Nat.le_of_ble_eq_true rfl) rfl dX1_come_107 rfl (fun v107 M107 z107 hp107 hz107 hd107 => ?_)
  obtain ⟨rfl, rfl, rfl⟩ := hp107
  show G X _ (ov (cxT X) (ovF (cxT X) N (scP pl k (apP P1 (ffP P1 sz n (fT F)) sz) (cF2 F sz) (sz + 1 + 1) (some (ffP P1 sz n (fT F)))).2.1) (scP pl k (apP P1 (ffP P1 sz n (fT F)) sz) (cF2 F sz) (sz + 1 + 1) (some (ffP P1 sz n (fT F)))).1) ((scP pl k (apP P1 (ffP P1 sz n (fT F)) sz) (cF2 F sz) (sz + 1 + 1) (some (ffP P1 sz n (fT F)))).2.2) ((((((0 + 0) + 1) + 1) + 0) + 0) + 4 * k) ((((((0 + 0) + 9) + 0) + 0) + 0) + 28 * k) 110 [(6, .ref (ffP P1 sz n (fT F))), (5, .ref sz), (0, .ref (fO F)), (1, .int x1), (2, .int y1), (3, .int x2), (4, .int y2)] []
  obtain ⟨⟨P3, F3, z3⟩, hs3⟩ : ∃ s, s = (scP pl k (apP P1 (ffP P1 sz n (fT F)) sz) (cF2 F sz) (sz + 1 + 1) (some (ffP P1 sz n (fT F)))) := ⟨_, rfl⟩
  rw [← hs3] at hz hF ⊢
  show G X _ (ov (cxT X) (ovF (cxT X) N F3) P3) z3 ((((((0 + 0) + 1) + 1) + 0) + 0) + 4 * k) ((((((0 + 0) + 9) + 0) + 0) + 0) + 28 * k) 110 [(6, .ref (ffP P1 sz n (fT F))), (5, .ref sz), (0, .ref (fO F)), (1, .int x1), (2, .int y1), (3, .int x2), (4, .int y2)] []
  refine g_aload hX dX1_come_110 1 rfl ?_
  refine g_getN (ci := 0) hX rfl fin_X0 (ov_pc (P := P3) hz) 0 (by decide) fn_X1_56 rfl dX1_come_112 ?_
  exact hF (some (.int (pN P3 sz))) (ov (cxT X) (ovF (cxT X) N F3) P3) z3 _ _ _ _ .ireturn (⟨rfl, rfl, rfl⟩) (by omega) (by omega) ret_i dX1_come_115
