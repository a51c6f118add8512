set_option maxHeartbeats 1000000 in
set_option maxRecDepth 100000 in
theorem cr_mean {l : Launch} (hl : l.stackTraces = false) {T : CT3} {D : va_G} {N : AH} {o : Nat} {S : RS} (sz : Nat) (hc : rC S 1 ≤ 60) (hok : mnOk (sumA 0 (fun a => nI (rD S a) * aroR S a) (rC S 1)) (sumA 0 (fun a => nI (rD S a)) (rC S 1))) : Ct l T D yX2_mean cX2_mean 3 (some .double) 3 100 0 0 [.ref o] (ovR T N o S) sz (fun v M' z' => v = some (.double (mnV (sumA 0 (fun a => nI (rD S a) * aroR S a) (rC S 1)) (sumA 0 (fun a => nI (rD S a)) (rC S 1)))) ∧ (∃ S', M' = ovR T N o S' ∧ SE S S' ∧ rC S' 0 = 0) ∧ sz = z') := by
  refine Ct.ofX hl (by decide) (Nat.le_of_ble_eq_true rfl) ?_
  intro X hl0 hT0 hD0 hlt hX hF
  subst hl0; subst hT0; subst hD0
  have loop : ∀ k, k ≤ (rC S 1) → G X 3 (ovR (cxT X) N o (uC S 0 0)) sz 0 0 9 [(2, .int (nI k)), (1, .int (sumA 0 (fun a => nI (rD S a) * aroR S a) k)), (0, .ref o)] [] := by
    refine loop_up ?_
    intro k ih hk
    refine g_iload_n hX dX2_mean_9 0 rfl ?_
    refine g_aload_n hX dX2_mean_10 2 rfl ?_
    refine g_get (ci := 2) hX rfl fin_X2 (ovR_o (S := (uC S 0 0))) 1 (by decide) fl_X2_41 rfl dX2_mean_11 ?_
    refine g_icmp_ge hX 38 dX2_mean_14 (by decide) (fun c14 => ?_) (fun c14 => ?_)
    · skip
      have hke : k = rC S 1 := by have h9 := (nI_leI (a := rC S 1) (b := k) (by omega) (by omega)).mp c14; omega
      subst hke
      refine g_aload_n hX dX2_mean_38 2 rfl ?_
      refine g_callV [] hX (cr_heldNow hX.st sz (S := uC S 0 0) hc) cw_X2_heldNow cv_X2_heldNow lk_X2_162 (ci := 2) rfl rfl ovR_o ⟨by omega, by omega⟩ ⟨by omega, by omega⟩ (Nat.le_of_ble_eq_true rfl) rfl dX2_mean_39 rfl (fun v39 M39 z39 hp39 hz39 hd39 => ?_)
      obtain ⟨rfl, rfl, rfl⟩ := hp39
      show G X _ (ovR (cxT X) N o (uC S 0 0)) sz (0 + 0) (0 + 0) 42 [(2, .int (nI (rC S 1))), (1, .int (sumA 0 (fun a => nI (rD S a) * aroR S a) (rC S 1))), (0, .ref o)] [.int (sumA 0 (fun a => nI (rD S a)) (rC S 1))]
      refine g_if_ne hX 49 dX2_mean_42 (by decide) (fun c42 => ?_) (fun c42 => ?_)
      · skip
        refine g_iload_n hX dX2_mean_49 1 rfl ?_
        refine g_i2d hX dX2_mean_50 ?_
        refine g_aload_n hX dX2_mean_51 2 rfl ?_
        refine g_callV [.double (FP.i2d (sumA 0 (fun a => nI (rD S a) * aroR S a) (rC S 1)))] hX (cr_heldNow hX.st sz (S := uC S 0 0) hc) cw_X2_heldNow cv_X2_heldNow lk_X2_162 (ci := 2) rfl rfl ovR_o ⟨by omega, by omega⟩ ⟨by omega, by omega⟩ (Nat.le_of_ble_eq_true rfl) rfl dX2_mean_52 rfl (fun v52 M52 z52 hp52 hz52 hd52 => ?_)
        obtain ⟨rfl, rfl, rfl⟩ := hp52
        show G X _ (ovR (cxT X) N o (uC S 0 0)) sz ((0 + 0) + 0) ((0 + 0) + 0) 55 [(2, .int (nI (rC S 1))), (1, .int (sumA 0 (fun a => nI (rD S a) * aroR S a) (rC S 1))), (0, .ref o)] [.int (sumA 0 (fun a => nI (rD S a)) (rC S 1)), .double (FP.i2d (sumA 0 (fun a => nI (rD S a) * aroR S a) (rC S 1)))]
        refine g_i2d hX dX2_mean_55 ?_
        refine g_ddiv hX dX2_mean_56 (hok c42) ?_
        exact hF (some (.double (FP.ddiv (FP.i2d (sumA 0 (fun a => nI (rD S a) * aroR S a) (rC S 1))) (FP.i2d (sumA 0 (fun a => nI (rD S a)) (rC S 1)))))) (ovR (cxT X) N o (uC S 0 0)) sz _ _ _ _ .dreturn (⟨by rw [show mnV (sumA 0 (fun a => nI (rD S a) * aroR S a) (rC S 1)) (sumA 0 (fun a => nI (rD S a)) (rC S 1)) = _ from if_neg c42], ⟨uC S 0 0, rfl, SE.rfl' S, rfl⟩, rfl⟩) (by omega) (by omega) ret_d dX2_mean_57
      · skip
        refine g_dconst0 hX dX2_mean_45 ?_
        refine g_goto hX 57 dX2_mean_46 (by decide) ?_
        exact hF (some (.double FP.dconst0)) (ovR (cxT X) N o (uC S 0 0)) sz _ _ _ _ .dreturn (⟨by rw [show mnV (sumA 0 (fun a => nI (rD S a) * aroR S a) (rC S 1)) (sumA 0 (fun a => nI (rD S a)) (rC S 1)) = _ from if_pos c42], ⟨uC S 0 0, rfl, SE.rfl' S, rfl⟩, rfl⟩) (by omega) (by omega) ret_d dX2_mean_57
    · skip
      have hk2 : k < rC S 1 := by have h9 := mt (nI_leI (a := rC S 1) (b := k) (by omega) (by omega)).mpr c14; omega
      refine g_iload_n hX dX2_mean_17 1 rfl ?_
      refine g_aload_n hX dX2_mean_18 2 rfl ?_
      refine g_get (ci := 2) hX rfl fin_X2 (ovR_o (S := (uC S 0 0))) 4 (by decide) fl_X2_13 rfl dX2_mean_19 ?_
      refine g_iload_n hX dX2_mean_22 0 rfl ?_
      refine g_iald hX (ovR_at (S := (uC S 0 0)) 2 rfl) k rfl (by omega) (by decide) dX2_mean_23 ?_
      refine g_aload_n hX dX2_mean_24 2 rfl ?_
      refine g_iload_n hX dX2_mean_25 0 rfl ?_
      refine g_callV [.int (nI (rD S k)), .int (sumA 0 (fun a => nI (rD S a) * aroR S a) k)] hX (cr_areaOf hX.st sz (S := uC S 0 0) (a := k) (by omega)) cw_X2_areaOf cv_X2_areaOf lk_X2_135 (ci := 2) rfl rfl ovR_o ⟨by omega, by omega⟩ ⟨by omega, by omega⟩ (Nat.le_of_ble_eq_true rfl) rfl dX2_mean_26 rfl (fun v26 M26 z26 hp26 hz26 hd26 => ?_)
      rw [show aroR (uC S 0 0) k = aroR S k from rfl] at hp26
      obtain ⟨rfl, rfl, rfl⟩ := hp26
      show G X _ (ovR (cxT X) N o (uC S 0 0)) sz (0 + 0) (0 + 0) 29 [(2, .int (nI k)), (1, .int (sumA 0 (fun a => nI (rD S a) * aroR S a) k)), (0, .ref o)] [.int (aroR S k), .int (nI (rD S k)), .int (sumA 0 (fun a => nI (rD S a) * aroR S a) k)]
      refine g_imul hX dX2_mean_29 ?_
      refine g_iadd hX dX2_mean_30 ?_
      refine g_istore_n (L' := [(1, .int ((sumA 0 (fun a => nI (rD S a) * aroR S a) k) + ((nI (rD S k)) * (aroR S k)))), (2, .int (nI k)), (0, .ref o)]) hX dX2_mean_31 (by decide) rfl ?_
      refine g_iinc (v := nI (k + 1)) (L' := [(2, .int (nI (k + 1))), (1, .int ((sumA 0 (fun a => nI (rD S a) * aroR S a) k) + ((nI (rD S k)) * (aroR S k)))), (0, .ref o)]) hX dX2_mean_32 1 rfl (nI_1 _) (by decide) rfl ?_
      refine g_goto hX 9 dX2_mean_35 (by decide) ?_
      refine g_sub [0, 1, 2] rfl ?_
      exact ih (k + 1) (by omega) (by omega)
  show G X 3 (ovR (cxT X) N o S) sz 0 0 0 [(0, .ref o)] []
  refine g_aload_n hX dX2_mean_0 0 rfl ?_
  refine g_iconst (v := 0) hX dX2_mean_1 (by decide) ?_
  refine g_put (ci := 2) hX rfl fld_X2 (ovR_o (S := S)) 0 (by decide) fl_X2_38 rfl rfl rfl (Nat.le_of_ble_eq_true rfl) dX2_mean_2 ?_
  refine g_eqM (ovR_uC0 0 rfl) ?_
  refine g_iconst (v := 0) hX dX2_mean_5 (by decide) ?_
  refine g_istore_n (L' := [(1, .int 0), (0, .ref o)]) hX dX2_mean_6 (by decide) rfl ?_
  refine g_iconst (v := 0) hX dX2_mean_7 (by decide) ?_
  refine g_istore_n (L' := [(2, .int 0), (1, .int 0), (0, .ref o)]) hX dX2_mean_8 (by decide) rfl ?_
  refine g_sub [0, 1, 2] rfl ?_
  exact loop 0 (Nat.zero_le _)

set_option maxHeartbeats 1000000 in
set_option maxRecDepth 100000 in
theorem ct_mean {l : Launch} (hl : l.stackTraces = false) {T : CT3} {D : va_G} {N : AH} {P : PS} {F : FS} (sz : Nat) (hwF : WfF P F) (hal : Alok P F) (hok : mnOk (sumA 0 (arH P F) (fC F)) (sumA 0 (hld P F) (fC F))) : Ct l T D yX1_mean cX1_mean 5 (some .double) 3 80 0 0 [.ref (fO F)] (ov T (ovF T N F) P) sz (fun v M' z' => v = some (.double (mnV (sumA 0 (arH P F) (fC F)) (sumA 0 (hld P F) (fC F)))) ∧ M' = ov T (ovF T N F) P ∧ sz = z') := by
  refine Ct.ofX hl (by decide) (Nat.le_of_ble_eq_true rfl) ?_
  intro X hl0 hT0 hD0 hlt hX hF
  subst hl0; subst hT0; subst hD0
  have h60 := hal.1
  have loop : ∀ k, k ≤ fC F → G X 5 (ov (cxT X) (ovF (cxT X) N F) P) sz 0 0 6 [(3, .int (nI k)), (1, .int (sumA 0 (hld P F) k)), (2, .int (sumA 0 (arH P F) k)), (0, .ref (fO F))] [] := by
    refine loop_up ?_
    intro k ih hk
    refine g_iload_n hX dX1_mean_6 0 rfl ?_
    refine g_aload_n hX dX1_mean_7 3 rfl ?_
    refine g_get (ci := 1) hX rfl fin_X1 (ovF_o hwF) 1 (by decide) fl_X1_33 rfl dX1_mean_8 ?_
    refine g_icmp_ge hX 43 dX1_mean_11 (by decide) (fun c11 => ?_) (fun c11 => ?_)
    · skip
      have hke : k = fC F := by have h9 := (nI_leI (a := fC F) (b := k) (by omega) (by omega)).mp c11; omega
      subst hke
      refine g_iload_n hX dX1_mean_43 1 rfl ?_
      refine g_if_ne hX 51 dX1_mean_44 (by decide) (fun c44 => ?_) (fun c44 => ?_)
      · skip
        refine g_iload_n hX dX1_mean_51 2 rfl ?_
        refine g_i2d hX dX1_mean_52 ?_
        refine g_iload_n hX dX1_mean_53 1 rfl ?_
        refine g_i2d hX dX1_mean_54 ?_
        refine g_ddiv hX dX1_mean_55 (hok c44) ?_
        exact hF (some (.double (FP.ddiv (FP.i2d (sumA 0 (arH P F) (fC F))) (FP.i2d (sumA 0 (hld P F) (fC F)))))) (ov (cxT X) (ovF (cxT X) N F) P) sz _ _ _ _ .dreturn (⟨by rw [show mnV (sumA 0 (arH P F) (fC F)) (sumA 0 (hld P F) (fC F)) = _ from if_neg c44], rfl, rfl⟩) (by omega) (by omega) ret_d dX1_mean_56
      · skip
        refine g_dconst0 hX dX1_mean_47 ?_
        refine g_goto hX 56 dX1_mean_48 (by decide) ?_
        exact hF (some (.double FP.dconst0)) (ov (cxT X) (ovF (cxT X) N F) P) sz _ _ _ _ .dreturn (⟨by rw [show mnV (sumA 0 (arH P F) (fC F)) (sumA 0 (hld P F) (fC F)) = _ from if_pos c44], rfl, rfl⟩) (by omega) (by omega) ret_d dX1_mean_56
    · skip
      have hk2 : k < fC F := by have h9 := mt (nI_leI (a := fC F) (b := k) (by omega) (by omega)).mpr c11; omega
      refine g_aload_n hX dX1_mean_14 3 rfl ?_
      refine g_iload_n hX dX1_mean_15 0 rfl ?_
      refine g_callV [] hX (ct_hon hX.st sz hwF hal (nI k)) cw_X1_heldOrNull cv_X1_heldOrNull lk_X1_117 (ci := 1) rfl rfl (ovF_o hwF) ⟨by omega, by omega⟩ ⟨by omega, by omega⟩ (Nat.le_of_ble_eq_true rfl) rfl dX1_mean_16 rfl (fun v16 M16 z16 hp16 hz16 hd16 => ?_)
      obtain ⟨rfl, rfl, rfl⟩ := hp16
      show G X _ (ov (cxT X) (ovF (cxT X) N F) P) sz (0 + 0) (0 + 0) 19 [(3, .int (nI k)), (1, .int (sumA 0 (hld P F) k)), (2, .int (sumA 0 (arH P F) k)), (0, .ref (fO F))] [va_rf (hoI P F (nI k))]
      refine g_astoreQ (L' := [(4, va_rf (hoI P F (nI k))), (3, .int (nI k)), (1, .int (sumA 0 (hld P F) k)), (2, .int (sumA 0 (arH P F) k)), (0, .ref (fO F))]) hX dX1_mean_19 (by decide) rfl ?_
      refine g_aloadQ hX dX1_mean_21 0 rfl ?_
      refine g_ifnull hX 37 dX1_mean_23 (by decide) (fun c23 => ?_) (fun x23 c23 => ?_)
      · skip
        refine g_iinc (v := nI (k + 1)) (L' := [(3, .int (nI (k + 1))), (4, va_rf (hoI P F (nI k))), (1, .int (sumA 0 (hld P F) k)), (2, .int (sumA 0 (arH P F) k)), (0, .ref (fO F))]) hX dX1_mean_37 1 rfl (nI_1 _) (by decide) rfl ?_
        refine g_goto hX 6 dX1_mean_40 (by decide) ?_
        refine g_sub [0, 2, 3, 4] rfl ?_
        have h9 := ih (k + 1) (by omega) (by omega)
        rw [show (sumA 0 (hld P F) (k + 1)) = (sumA 0 (hld P F) k) from by show _ + hld P F k = _; rw [(hld_n2 c23).1, Int32.add_zero], show (sumA 0 (arH P F) (k + 1)) = (sumA 0 (arH P F) k) from by show _ + arH P F k = _; rw [(hld_n2 c23).2, Int32.add_zero]] at h9
        exact h9
      · skip
        have hcd := hal.ho c23
        rw [c23]
        show G X _ (ov (cxT X) (ovF (cxT X) N F) P) sz (0 + 0) (0 + 0) 26 [(4, .ref x23), (3, .int (nI k)), (1, .int (sumA 0 (hld P F) k)), (2, .int (sumA 0 (arH P F) k)), (0, .ref (fO F))] []
        refine g_iinc (v := (sumA 0 (hld P F) k) + 1) (L' := [(1, .int ((sumA 0 (hld P F) k) + 1)), (4, .ref x23), (3, .int (nI k)), (2, .int (sumA 0 (arH P F) k)), (0, .ref (fO F))]) hX dX1_mean_26 2 rfl rfl (by decide) rfl ?_
        refine g_iload_n hX dX1_mean_29 3 rfl ?_
        refine g_aload hX dX1_mean_30 1 rfl ?_
        refine g_callVN [.int (sumA 0 (arH P F) k)] hX (ct_area hX.st sz hwF.1 (P := P) hcd) cw_X0_area cv_X0_area ln_X1_86 (ci := 0) rfl rfl (ov_pc (P := P) hcd) ⟨by omega, by omega⟩ ⟨by omega, by omega⟩ (Nat.le_of_ble_eq_true rfl) rfl dX1_mean_32 rfl (fun v32 M32 z32 hp32 hz32 hd32 => ?_)
        obtain ⟨rfl, rfl, rfl⟩ := hp32
        show G X _ (ov (cxT X) (ovF (cxT X) N F) P) sz ((0 + 0) + 0) ((0 + 0) + 0) 35 [(1, .int ((sumA 0 (hld P F) k) + 1)), (4, .ref x23), (3, .int (nI k)), (2, .int (sumA 0 (arH P F) k)), (0, .ref (fO F))] [.int (arB P x23), .int (sumA 0 (arH P F) k)]
        refine g_iadd hX dX1_mean_35 ?_
        refine g_istore_n (L' := [(2, .int ((sumA 0 (arH P F) k) + (arB P x23))), (1, .int ((sumA 0 (hld P F) k) + 1)), (4, .ref x23), (3, .int (nI k)), (0, .ref (fO F))]) hX dX1_mean_36 (by decide) rfl ?_
        refine g_iinc (v := nI (k + 1)) (L' := [(3, .int (nI (k + 1))), (2, .int ((sumA 0 (arH P F) k) + (arB P x23))), (1, .int ((sumA 0 (hld P F) k) + 1)), (4, .ref x23), (0, .ref (fO F))]) hX dX1_mean_37 3 rfl (nI_1 _) (by decide) rfl ?_
        refine g_goto hX 6 dX1_mean_40 (by decide) ?_
        refine g_sub [0, 2, 1, 4] rfl ?_
        have h9 := ih (k + 1) (by omega) (by omega)
        rw [show (sumA 0 (hld P F) (k + 1)) = (sumA 0 (hld P F) k) + 1 from by show _ + hld P F k = _; rw [(hld_s2 c23).1], show (sumA 0 (arH P F) (k + 1)) = (sumA 0 (arH P F) k) + arB P x23 from by show _ + arH P F k = _; rw [(hld_s2 c23).2]] at h9
        exact h9
  show G X 5 (ov (cxT X) (ovF (cxT X) N F) P) sz 0 0 0 [(0, .ref (fO F))] []
  refine g_iconst (v := 0) hX dX1_mean_0 (by decide) ?_
  refine g_istore_n (L' := [(1, .int 0), (0, .ref (fO F))]) hX dX1_mean_1 (by decide) rfl ?_
  refine g_iconst (v := 0) hX dX1_mean_2 (by decide) ?_
  refine g_istore_n (L' := [(2, .int 0), (1, .int 0), (0, .ref (fO F))]) hX dX1_mean_3 (by decide) rfl ?_
  refine g_iconst (v := 0) hX dX1_mean_4 (by decide) ?_
  refine g_istore_n (L' := [(3, .int 0), (2, .int 0), (1, .int 0), (0, .ref (fO F))]) hX dX1_mean_5 (by decide) rfl ?_
  refine g_sub [0, 2, 1, 3] rfl ?_
  exact loop 0 (Nat.zero_le _)
