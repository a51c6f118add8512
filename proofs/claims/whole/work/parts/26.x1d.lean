set_option maxHeartbeats 4000000 in
set_option maxRecDepth 100000 in
theorem ct_raiseTop {l : Launch} (hl : l.stackTraces = false) {T : CT3} {D : va_G} {N : AH} {P : PS} {F : FS} (sz : Nat) (hwF : WfF P F) (htd : pD P (fT F) = true) : Ct l T D yX1_raiseTop cX1_raiseTop 2 none 2 44 2 14 [.ref (fO F)] (ov T (ovF T N F) P) sz (fun v M' z' => v = none ∧ M' = ov T (ovF T N (sT F sz)) (rsP P F sz) ∧ sz + 1 + 1 = z') := by
  refine Ct.ofX hl (by decide) (Nat.le_of_ble_eq_true rfl) ?_
  intro X hl0 hT0 hD0 hlt hX hF
  subst hl0; subst hT0; subst hD0
  have hdl := dom_lt hwF.1 hlt
  have hoL := obj_lt hwF hlt
  show G X 2 (ov (cxT X) (ovF (cxT X) N F) P) sz 0 0 0 [(0, .ref (fO F))] []
  refine g_new (ci := 0) (fs := [.int 0, .int 0, .null, .int 0, .null, .int 0, .int 0, .int 0, .int 0]) hX rfl fld_X0 cl_X1_9 ins_NestedFrames_Piece ini_NestedFrames_Piece tyP9 (by omega) (by omega) dX1_raiseTop_0 ?_
  show G X _ (va_up (ov (cxT X) (ovF (cxT X) N F) P) sz (some blkP)) (sz + 1) (0 + 1) (0 + 9) 3 [(0, .ref (fO F))] [.ref sz]
  refine g_dup hX dX1_raiseTop_3 rfl ?_
  refine g_aload_n hX dX1_raiseTop_4 0 rfl ?_
  refine g_get (ci := 1) hX rfl fin_X1 (by rw [va_up_ne _ _ (by have h9 := hoL; omega)]; exact (ovF_o hwF)) 3 (by decide) fl_X1_18 rfl dX1_raiseTop_5 ?_
  refine g_getN (ci := 0) hX rfl fin_X0 (by rw [va_up_ne _ _ (by have h9 := hdl _ htd; omega)]; exact (ov_pc (P := P) htd)) 1 (by decide) fn_X1_102 rfl dX1_raiseTop_8 ?_
  refine g_iconst (v := 1) hX dX1_raiseTop_11 (by decide) ?_
  refine g_iadd hX dX1_raiseTop_12 ?_
  rw [nI_1]
  show G X _ (va_up (ov (cxT X) (ovF (cxT X) N F) P) sz (some blkP)) (sz + 1) (0 + 1) (0 + 9) 13 [(0, .ref (fO F))] [.int (nI (pL P (fT F) + 1)), .ref sz, .ref sz]
  refine g_callIN [.ref sz] hX (ct_Pinit_ hX.st (M := (va_up (ov (cxT X) (ovF (cxT X) N F) P) sz (some blkP))) (q := sz) (va_up_self _ _ _) (pL P (fT F) + 1)) cw_X0_init_ rfl im_X0_init_ ln_X1_15 ⟨by omega, by omega⟩ ⟨by omega, by omega⟩ (Nat.le_of_ble_eq_true rfl) rfl dX1_raiseTop_13 rfl (fun v13 M13 z13 hp13 hz13 hd13 => ?_)
  obtain ⟨rfl, rfl, rfl⟩ := hp13
  refine g_eqM (ov_nw (-1) (pL P (fT F) + 1) bx0 5 hdl rfl) ?_
  show G X _ (ov (cxT X) (ovF (cxT X) N F) (nwP P sz (-1) (pL P (fT F) + 1) bx0 5)) (sz + 1 + 1) ((0 + 1) + 1) ((0 + 9) + 5) 16 [(0, .ref (fO F))] [.ref sz]
  have hwF1 := hwF.nw hdl hoL (-1) (pL P (fT F) + 1) bx0 5
  have htl := hdl _ htd
  refine g_astore_n (L' := [(1, .ref sz), (0, .ref (fO F))]) hX dX1_raiseTop_16 (by decide) rfl ?_
  refine g_aload_n hX dX1_raiseTop_17 0 rfl ?_
  refine g_aload_n hX dX1_raiseTop_18 1 rfl ?_
  refine g_get (ci := 1) hX rfl fin_X1 (ovF_o hwF1) 3 (by decide) fl_X1_18 rfl dX1_raiseTop_19 ?_
  have htd1 : pD (nwP P sz (-1) (pL P (fT F) + 1) bx0 5) (fT F) = true := by rw [pD_nwP, va_up_ne _ _ (by omega)]; exact htd
  refine g_callVN [] hX (ct_append hX.st (sz + 1 + 1) hwF1.1 (P := nwP P sz (-1) (pL P (fT F) + 1) bx0 5) (q := sz) (r := fT F) (nwq _ _ _) htd1 (by rw [pS_nwP, pW_nwP, nwq, nwq]; decide) (by rw [pW_nwP, nwq]; decide) (by intro k c hk; rw [pS_nwP, nwq] at hk; exact absurd hk (Nat.not_lt_zero k))) cw_X0_append cv_X0_append ln_X1_49 (ci := 0) rfl rfl (ov_pc (P := (nwP P sz (-1) (pL P (fT F) + 1) bx0 5)) (nwq _ _ _)) ⟨by omega, by omega⟩ ⟨by omega, by omega⟩ (Nat.le_of_ble_eq_true rfl) rfl dX1_raiseTop_22 rfl (fun v22 M22 z22 hp22 hz22 hd22 => ?_)
  rw [pS_nwP, pA_nwP, nwq, nwq] at hp22
  obtain ⟨rfl, rfl, rfl⟩ := hp22
  show G X _ (ov (cxT X) (ovF (cxT X) N F) (sS (sH (sA (nwP P sz (-1) (pL P (fT F) + 1) bx0 5) sz (insF (fun _ => none) 0 0 (fT F))) (fT F) (some sz)) sz (0 + 1))) (sz + 1 + 1) (((0 + 1) + 1) + 0) (((0 + 9) + 5) + 0) 25 [(1, .ref sz), (0, .ref (fO F))] []
  refine g_aload_n hX dX1_raiseTop_25 1 rfl ?_
  refine g_aload_n hX dX1_raiseTop_26 0 rfl ?_
  refine g_put (ci := 1) hX rfl fld_X1 (ovF_o (P := sS (sH (sA (nwP P sz (-1) (pL P (fT F) + 1) bx0 5) sz (insF (fun _ => none) 0 0 (fT F))) (fT F) (some sz)) sz (0 + 1)) hwF1) 3 (by decide) fl_X1_18 rfl rfl rfl (Nat.le_of_ble_eq_true rfl) dX1_raiseTop_27 ?_
  refine g_eqM (ovF_sT (P := sS (sH (sA (nwP P sz (-1) (pL P (fT F) + 1) bx0 5) sz (insF (fun _ => none) 0 0 (fT F))) (fT F) (some sz)) sz (0 + 1)) hwF1 sz) ?_
  exact hF none (ov (cxT X) (ovF (cxT X) N (sT F sz)) (rsP P F sz)) (sz + 1 + 1) _ _ _ _ .return_ (⟨rfl, rfl, rfl⟩) (by omega) (by omega) ret_v dX1_raiseTop_30
