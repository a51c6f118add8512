set_option maxHeartbeats 1000000 in
set_option maxRecDepth 100000 in
theorem ct_nearest {l : Launch} (hl : l.stackTraces = false) {T : CT3} {D : va_G} {N : AH} {P : PS} {F : FS} (sz : Nat) (hwF : WfF P F) (hal : Alok P F) (x y : Int32) (hr : isR x y x y = true) : Ct l T D yX1_nearest cX1_nearest 6 (some .int) 2 60 0 0 [.ref (fO F), .int x, .int y] (ov T (ovF T N F) P) sz (fun v M' z' => v = some (.int (nrV P (nrP P F x y (fC F)))) ∧ M' = ov T (ovF T N F) P ∧ sz = z') := by
  refine Ct.ofX hl (by decide) (Nat.le_of_ble_eq_true rfl) ?_
  intro X hl0 hT0 hD0 hlt hX hF
  subst hl0; subst hT0; subst hD0
  have h60 := hal.1
  obtain ⟨hx0, hy0, hx9, hy9⟩ := isR_inv hr
  have loop : ∀ k, k ≤ fC F → G X 6 (ov (cxT X) (ovF (cxT X) N F) P) sz 0 0 35 [(4, .int (nI k)), (3, va_rf (nrP P F x y k)), (0, .ref (fO F)), (1, .int x), (2, .int y)] [] := by
    refine loop_up ?_
    intro k ih hk
    rcases hb : nrP P F x y k with _ | b
    · skip
      show G X _ (ov (cxT X) (ovF (cxT X) N F) P) sz 0 0 35 [(4, .int (nI k)), (3, .null), (0, .ref (fO F)), (1, .int x), (2, .int y)] []
      refine g_iload hX dX1_nearest_35 0 rfl ?_
      refine g_aload_n hX dX1_nearest_37 2 rfl ?_
      refine g_get (ci := 1) hX rfl fin_X1 (ovF_o hwF) 1 (by decide) fl_X1_33 rfl dX1_nearest_38 ?_
      refine g_icmp_ge hX 86 dX1_nearest_41 (by decide) (fun c41 => ?_) (fun c41 => ?_)
      · skip
        have hke : k = fC F := by have h9 := (nI_leI (a := fC F) (b := k) (by omega) (by omega)).mp c41; omega
        rw [hke] at hb
        refine g_aload_nN hX dX1_nearest_86 1 rfl ?_
        refine g_ifnonnullN hX dX1_nearest_87 ?_
        refine g_iconst (v := (-1)) hX dX1_nearest_90 (by decide) ?_
        refine g_goto hX 98 dX1_nearest_91 (by decide) ?_
        exact hF (some (.int (-1))) (ov (cxT X) (ovF (cxT X) N F) P) sz _ _ _ _ .ireturn (⟨by rw [hb]; rfl, rfl, rfl⟩) (by omega) (by omega) ret_i dX1_nearest_98
      · skip
        have hk2 : k < fC F := by have h9 := mt (nI_leI (a := fC F) (b := k) (by omega) (by omega)).mpr c41; omega
        refine g_aload_n hX dX1_nearest_44 2 rfl ?_
        refine g_iload hX dX1_nearest_45 0 rfl ?_
        refine g_callV [] hX (ct_hon hX.st sz hwF hal (nI k)) cw_X1_heldOrNull cv_X1_heldOrNull lk_X1_117 (ci := 1) rfl rfl (ovF_o hwF) ⟨by omega, by omega⟩ ⟨by omega, by omega⟩ (Nat.le_of_ble_eq_true rfl) rfl dX1_nearest_47 rfl (fun v47 M47 z47 hp47 hz47 hd47 => ?_)
        obtain ⟨rfl, rfl, rfl⟩ := hp47
        show G X _ (ov (cxT X) (ovF (cxT X) N F) P) sz (0 + 0) (0 + 0) 50 [(4, .int (nI k)), (3, .null), (0, .ref (fO F)), (1, .int x), (2, .int y)] [va_rf (hoI P F (nI k))]
        refine g_astoreQ (L' := [(5, va_rf (hoI P F (nI k))), (4, .int (nI k)), (3, .null), (0, .ref (fO F)), (1, .int x), (2, .int y)]) hX dX1_nearest_50 (by decide) rfl ?_
        refine g_aloadQ hX dX1_nearest_52 0 rfl ?_
        refine g_ifnull hX 80 dX1_nearest_54 (by decide) (fun c54 => ?_) (fun x54 c54 => ?_)
        · skip
          refine g_iinc (v := nI (k + 1)) (L' := [(4, .int (nI (k + 1))), (5, va_rf (hoI P F (nI k))), (3, .null), (0, .ref (fO F)), (1, .int x), (2, .int y)]) hX dX1_nearest_80 1 rfl (nI_1 _) (by decide) rfl ?_
          refine g_goto hX 35 dX1_nearest_83 (by decide) ?_
          refine g_sub [0, 2, 3, 4, 5] rfl ?_
          have h9 := ih (k + 1) (by omega) (by omega)
          rw [nrP_0 c54, hb] at h9
          exact h9
        · skip
          have hcd := hal.ho c54
          rw [c54]
          show G X _ (ov (cxT X) (ovF (cxT X) N F) P) sz (0 + 0) (0 + 0) 57 [(5, .ref x54), (4, .int (nI k)), (3, .null), (0, .ref (fO F)), (1, .int x), (2, .int y)] []
          refine g_aload_nN hX dX1_nearest_57 2 rfl ?_
          refine g_ifnullN hX 77 dX1_nearest_58 (by decide) ?_
          refine g_aload hX dX1_nearest_77 0 rfl ?_
          refine g_astore_n (L' := [(3, .ref x54), (5, .ref x54), (4, .int (nI k)), (0, .ref (fO F)), (1, .int x), (2, .int y)]) hX dX1_nearest_79 (by decide) rfl ?_
          refine g_iinc (v := nI (k + 1)) (L' := [(4, .int (nI (k + 1))), (3, .ref x54), (5, .ref x54), (0, .ref (fO F)), (1, .int x), (2, .int y)]) hX dX1_nearest_80 2 rfl (nI_1 _) (by decide) rfl ?_
          refine g_goto hX 35 dX1_nearest_83 (by decide) ?_
          refine g_sub [0, 1, 3, 4, 5] rfl ?_
          have h9 := ih (k + 1) (by omega) (by omega)
          rw [nrP_1 c54 hb] at h9
          exact h9
    · skip
      have hbd := nrP_d hal hb
      show G X _ (ov (cxT X) (ovF (cxT X) N F) P) sz 0 0 35 [(4, .int (nI k)), (3, .ref b), (0, .ref (fO F)), (1, .int x), (2, .int y)] []
      refine g_iload hX dX1_nearest_35 0 rfl ?_
      refine g_aload_n hX dX1_nearest_37 2 rfl ?_
      refine g_get (ci := 1) hX rfl fin_X1 (ovF_o hwF) 1 (by decide) fl_X1_33 rfl dX1_nearest_38 ?_
      refine g_icmp_ge hX 86 dX1_nearest_41 (by decide) (fun c41 => ?_) (fun c41 => ?_)
      · skip
        have hke : k = fC F := by have h9 := (nI_leI (a := fC F) (b := k) (by omega) (by omega)).mp c41; omega
        rw [hke] at hb
        refine g_aload_n hX dX1_nearest_86 1 rfl ?_
        refine g_ifnonnullR hX 94 dX1_nearest_87 (by decide) ?_
        refine g_aload_n hX dX1_nearest_94 1 rfl ?_
        refine g_getN (ci := 0) hX rfl fin_X0 (ov_pc (P := P) hbd) 0 (by decide) fn_X1_56 rfl dX1_nearest_95 ?_
        exact hF (some (.int (pN P b))) (ov (cxT X) (ovF (cxT X) N F) P) sz _ _ _ _ .ireturn (⟨by rw [hb]; rfl, rfl, rfl⟩) (by omega) (by omega) ret_i dX1_nearest_98
      · skip
        have hk2 : k < fC F := by have h9 := mt (nI_leI (a := fC F) (b := k) (by omega) (by omega)).mpr c41; omega
        refine g_aload_n hX dX1_nearest_44 2 rfl ?_
        refine g_iload hX dX1_nearest_45 0 rfl ?_
        refine g_callV [] hX (ct_hon hX.st sz hwF hal (nI k)) cw_X1_heldOrNull cv_X1_heldOrNull lk_X1_117 (ci := 1) rfl rfl (ovF_o hwF) ⟨by omega, by omega⟩ ⟨by omega, by omega⟩ (Nat.le_of_ble_eq_true rfl) rfl dX1_nearest_47 rfl (fun v47 M47 z47 hp47 hz47 hd47 => ?_)
        obtain ⟨rfl, rfl, rfl⟩ := hp47
        show G X _ (ov (cxT X) (ovF (cxT X) N F) P) sz (0 + 0) (0 + 0) 50 [(4, .int (nI k)), (3, .ref b), (0, .ref (fO F)), (1, .int x), (2, .int y)] [va_rf (hoI P F (nI k))]
        refine g_astoreQ (L' := [(5, va_rf (hoI P F (nI k))), (4, .int (nI k)), (3, .ref b), (0, .ref (fO F)), (1, .int x), (2, .int y)]) hX dX1_nearest_50 (by decide) rfl ?_
        refine g_aloadQ hX dX1_nearest_52 0 rfl ?_
        refine g_ifnull hX 80 dX1_nearest_54 (by decide) (fun c54 => ?_) (fun x54 c54 => ?_)
        · skip
          refine g_iinc (v := nI (k + 1)) (L' := [(4, .int (nI (k + 1))), (5, va_rf (hoI P F (nI k))), (3, .ref b), (0, .ref (fO F)), (1, .int x), (2, .int y)]) hX dX1_nearest_80 1 rfl (nI_1 _) (by decide) rfl ?_
          refine g_goto hX 35 dX1_nearest_83 (by decide) ?_
          refine g_sub [0, 2, 3, 4, 5] rfl ?_
          have h9 := ih (k + 1) (by omega) (by omega)
          rw [nrP_0 c54, hb] at h9
          exact h9
        · skip
          have hcd := hal.ho c54
          rw [c54]
          show G X _ (ov (cxT X) (ovF (cxT X) N F) P) sz (0 + 0) (0 + 0) 57 [(5, .ref x54), (4, .int (nI k)), (3, .ref b), (0, .ref (fO F)), (1, .int x), (2, .int y)] []
          refine g_aload_n hX dX1_nearest_57 2 rfl ?_
          refine g_ifnullR hX dX1_nearest_58 ?_
          refine g_aload hX dX1_nearest_61 0 rfl ?_
          refine g_iload_n hX dX1_nearest_63 4 rfl ?_
          refine g_iload_n hX dX1_nearest_64 5 rfl ?_
          refine g_callVN [] hX (ct_squaredDistance hX.st sz hwF.1 (P := P) (q := x54) hcd x y) cw_X0_squaredDistance cv_X0_squaredDistance ln_X1_120 (ci := 0) rfl rfl (ov_pc (P := P) hcd) ⟨by omega, by omega⟩ ⟨by omega, by omega⟩ (Nat.le_of_ble_eq_true rfl) rfl dX1_nearest_65 rfl (fun v65 M65 z65 hp65 hz65 hd65 => ?_)
          obtain ⟨rfl, rfl, rfl⟩ := hp65
          show G X _ (ov (cxT X) (ovF (cxT X) N F) P) sz ((0 + 0) + 0) ((0 + 0) + 0) 68 [(5, .ref x54), (4, .int (nI k)), (3, .ref b), (0, .ref (fO F)), (1, .int x), (2, .int y)] [.int (sdI (pB P x54) x y)]
          refine g_aload_n hX dX1_nearest_68 2 rfl ?_
          refine g_iload_n hX dX1_nearest_69 4 rfl ?_
          refine g_iload_n hX dX1_nearest_70 5 rfl ?_
          refine g_callVN [.int (sdI (pB P x54) x y)] hX (ct_squaredDistance hX.st sz hwF.1 (P := P) (q := b) hbd x y) cw_X0_squaredDistance cv_X0_squaredDistance ln_X1_120 (ci := 0) rfl rfl (ov_pc (P := P) hbd) ⟨by omega, by omega⟩ ⟨by omega, by omega⟩ (Nat.le_of_ble_eq_true rfl) rfl dX1_nearest_71 rfl (fun v71 M71 z71 hp71 hz71 hd71 => ?_)
          obtain ⟨rfl, rfl, rfl⟩ := hp71
          show G X _ (ov (cxT X) (ovF (cxT X) N F) P) sz (((0 + 0) + 0) + 0) (((0 + 0) + 0) + 0) 74 [(5, .ref x54), (4, .int (nI k)), (3, .ref b), (0, .ref (fO F)), (1, .int x), (2, .int y)] [.int (sdI (pB P b) x y), .int (sdI (pB P x54) x y)]
          refine g_icmp_ge hX 80 dX1_nearest_74 (by decide) (fun c74 => ?_) (fun c74 => ?_)
          · skip
            refine g_iinc (v := nI (k + 1)) (L' := [(4, .int (nI (k + 1))), (5, .ref x54), (3, .ref b), (0, .ref (fO F)), (1, .int x), (2, .int y)]) hX dX1_nearest_80 1 rfl (nI_1 _) (by decide) rfl ?_
            refine g_goto hX 35 dX1_nearest_83 (by decide) ?_
            refine g_sub [0, 2, 3, 4, 5] rfl ?_
            have h9 := ih (k + 1) (by omega) (by omega)
            rw [nrP_2 c54 hb, if_neg (Int32.not_lt.mpr c74)] at h9
            exact h9
          · skip
            refine g_aload hX dX1_nearest_77 0 rfl ?_
            refine g_astore_n (L' := [(3, .ref x54), (5, .ref x54), (4, .int (nI k)), (0, .ref (fO F)), (1, .int x), (2, .int y)]) hX dX1_nearest_79 (by decide) rfl ?_
            refine g_iinc (v := nI (k + 1)) (L' := [(4, .int (nI (k + 1))), (3, .ref x54), (5, .ref x54), (0, .ref (fO F)), (1, .int x), (2, .int y)]) hX dX1_nearest_80 2 rfl (nI_1 _) (by decide) rfl ?_
            refine g_goto hX 35 dX1_nearest_83 (by decide) ?_
            refine g_sub [0, 1, 3, 4, 5] rfl ?_
            have h9 := ih (k + 1) (by omega) (by omega)
            rw [nrP_2 c54 hb, if_pos (Int32.not_le.mp c74)] at h9
            exact h9
  show G X 6 (ov (cxT X) (ovF (cxT X) N F) P) sz 0 0 0 [(0, .ref (fO F)), (1, .int x), (2, .int y)] []
  refine g_iload_n hX dX1_nearest_0 1 rfl ?_
  refine g_if_lt hX 20 dX1_nearest_1 (by decide) (fun c1 => absurd c1 hx0) (fun _ => ?_)
  refine g_iload_n hX dX1_nearest_4 2 rfl ?_
  refine g_if_lt hX 20 dX1_nearest_5 (by decide) (fun c5 => absurd c5 hy0) (fun _ => ?_)
  refine g_iload_n hX dX1_nearest_8 1 rfl ?_
  refine g_bipush (v := 99) hX dX1_nearest_9 (by decide) ?_
  refine g_icmp_gt hX 20 dX1_nearest_11 (by decide) (fun c11 => absurd c11 hx9) (fun _ => ?_)
  refine g_iload_n hX dX1_nearest_14 2 rfl ?_
  refine g_bipush (v := 99) hX dX1_nearest_15 (by decide) ?_
  refine g_icmp_le hX 30 dX1_nearest_17 (by decide) (fun _ => ?_) (fun c17 => absurd hy9 c17)
  refine g_null hX dX1_nearest_30 ?_
  refine g_astore_nN (L' := [(3, .null), (0, .ref (fO F)), (1, .int x), (2, .int y)]) hX dX1_nearest_31 (by decide) rfl ?_
  refine g_iconst (v := 0) hX dX1_nearest_32 (by decide) ?_
  refine g_istore (L' := [(4, .int 0), (3, .null), (0, .ref (fO F)), (1, .int x), (2, .int y)]) hX dX1_nearest_33 (by decide) rfl ?_
  refine g_sub [0, 1, 2, 3, 4] rfl ?_
  exact loop 0 (Nat.zero_le _)
