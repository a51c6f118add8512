set_option maxHeartbeats 400000 in
set_option maxRecDepth 100000 in
theorem ct_digest {l : Launch} (hl : l.stackTraces = false) {T : CT3} {D : va_G} {N : AH} {P : PS} {F : FS} (sz : Nat) (hwF : WfF P F) {n : Nat} (hal : Alok P F) (ht : TrP P n (fT F)) (hn : n < 40) {gA : Nat → Nat} {pl : Nat → Nat → Nat} (hg : ∀ a, a < fC F → alI F (nI a) = some (gA a) ∧ Plc P (pl a) (gA a)) : Ct l T D yX1_digest cX1_digest 6 (some .long) (n + 8) (160 + 60 * n) 0 0 [.ref (fO F)] (ov T (ovF T N F) P) sz (fun v M' z' => v = some (.long (dgP P n (fT F) (iterL (alDP P F gA pl) (cnDP P F n) (fC F)))) ∧ M' = ov T (ovF T N F) P ∧ sz = z') := by
  refine Ct.ofX hl (by decide) (Nat.le_of_ble_eq_true rfl) ?_
  intro X hl0 hT0 hD0 hlt hX hF
  subst hl0; subst hT0; subst hD0
  have h60 := hal.1
  have loop2 : ∀ a, a ≤ (fC F) → G X 6 (ov (cxT X) (ovF (cxT X) N F) P) sz 0 0 33 [(3, .int (nI a)), (1, .long (iterL (alDP P F gA pl) (cnDP P F n) a)), (0, .ref (fO F))] [] := by
    refine loop_up ?_
    intro a ih2 hk
    refine g_iload_n hX dX1_digest_33 0 rfl ?_
    refine g_aload_n hX dX1_digest_34 2 rfl ?_
    refine g_get (ci := 1) hX rfl fin_X1 (ovF_o hwF) 1 (by decide) fl_X1_33 rfl dX1_digest_35 ?_
    refine g_icmp_ge hX 91 dX1_digest_38 (by decide) (fun c38 => ?_) (fun c38 => ?_)
    · skip
      have hae : a = fC F := by have h9 := (nI_leI (a := fC F) (b := a) (by omega) (by omega)).mp c38; omega
      subst hae
      refine g_aload_n hX dX1_digest_91 2 rfl ?_
      refine g_get (ci := 1) hX rfl fin_X1 (ovF_o hwF) 3 (by decide) fl_X1_18 rfl dX1_digest_92 ?_
      refine g_lload_n hX dX1_digest_95 1 rfl ?_
      refine g_iconst (v := 0) hX dX1_digest_96 (by decide) ?_
      refine g_callS [] hX (ct_digestOfFrames hX.st sz hwF.1 n (fT F) 0 (iterL (alDP P F gA pl) (cnDP P F n) (fC F)) ht (by omega)) cw_X1_digestOfFrames stt_X1_digestOfFrames lk_X1_140 ⟨by omega, by omega⟩ ⟨by omega, by omega⟩ (Nat.le_of_ble_eq_true rfl) rfl dX1_digest_97 rfl (fun v97 M97 z97 hp97 hz97 hd97 => ?_)
      obtain ⟨rfl, rfl, rfl⟩ := hp97
      show G X _ (ov (cxT X) (ovF (cxT X) N F) P) sz (0 + 0) (0 + 0) 100 [(3, .int (nI (fC F))), (1, .long (iterL (alDP P F gA pl) (cnDP P F n) (fC F))), (0, .ref (fO F))] [.long (dgP P n (fT F) (iterL (alDP P F gA pl) (cnDP P F n) (fC F)))]
      exact hF (some (.long (dgP P n (fT F) (iterL (alDP P F gA pl) (cnDP P F n) (fC F))))) (ov (cxT X) (ovF (cxT X) N F) P) sz _ _ _ _ .lreturn (⟨rfl, rfl, rfl⟩) (by omega) (by omega) ret_l dX1_digest_100
    · skip
      have ha2 : a < fC F := by have h9 := mt (nI_leI (a := fC F) (b := a) (by omega) (by omega)).mpr c38; omega
      obtain ⟨hga, hpla⟩ := hg a ha2
      have hgd := hal.al hga
      refine g_aload_n hX dX1_digest_41 2 rfl ?_
      refine g_iload_n hX dX1_digest_42 0 rfl ?_
      refine g_callV [] hX (ct_aon hX.st sz hwF hal (nI a)) cw_X1_allotmentOrNull cv_X1_allotmentOrNull lk_X1_59 (ci := 1) rfl rfl (ovF_o hwF) ⟨by omega, by omega⟩ ⟨by omega, by omega⟩ (Nat.le_of_ble_eq_true rfl) rfl dX1_digest_43 rfl (fun v43 M43 z43 hp43 hz43 hd43 => ?_)
      rw [hga] at hp43
      obtain ⟨rfl, rfl, rfl⟩ := hp43
      show G X _ (ov (cxT X) (ovF (cxT X) N F) P) sz (0 + 0) (0 + 0) 46 [(3, .int (nI a)), (1, .long (iterL (alDP P F gA pl) (cnDP P F n) a)), (0, .ref (fO F))] [.ref (gA a)]
      refine g_astore (L' := [(4, .ref (gA a)), (3, .int (nI a)), (1, .long (iterL (alDP P F gA pl) (cnDP P F n) a)), (0, .ref (fO F))]) hX dX1_digest_46 (by decide) rfl ?_
      refine g_iconst (v := 0) hX dX1_digest_48 (by decide) ?_
      refine g_istore (L' := [(5, .int 0), (4, .ref (gA a)), (3, .int (nI a)), (1, .long (iterL (alDP P F gA pl) (cnDP P F n) a)), (0, .ref (fO F))]) hX dX1_digest_49 (by decide) rfl ?_
      have loop3 : ∀ w, w ≤ 9 → G X 6 (ov (cxT X) (ovF (cxT X) N F) P) sz 0 0 51 [(5, .int (nI w)), (1, .long (iterL (fun u d => d * 31 + (ansP P F (pl a) (gA a) u).toInt64) (iterL (alDP P F gA pl) (cnDP P F n) a) w)), (3, .int (nI a)), (4, .ref (gA a)), (0, .ref (fO F))] [] := by
        refine loop_up ?_
        intro w ih3 hk3
        refine g_aload hX dX1_digest_51 3 rfl ?_
        refine g_ifnullR hX dX1_digest_53 ?_
        refine g_iload hX dX1_digest_56 0 rfl ?_
        refine g_bipush (v := 8) hX dX1_digest_58 (by decide) ?_
        refine g_icmp_gt hX 85 dX1_digest_60 (by decide) (fun c60 => ?_) (fun c60 => ?_)
        · skip
          have hwe : w = 9 := by have h9 := mt (nI_leI (a := w) (b := 8) (by omega) (by omega)).mpr (Int32.not_le.mpr c60); omega
          subst hwe
          refine g_sub [2, 1, 4] rfl ?_
          refine g_iinc (v := nI (a + 1)) (L' := [(3, .int (nI (a + 1))), (1, .long (iterL (fun u d => d * 31 + (ansP P F (pl a) (gA a) u).toInt64) (iterL (alDP P F gA pl) (cnDP P F n) a) 9)), (0, .ref (fO F))]) hX dX1_digest_85 0 rfl (nI_1 _) (by decide) rfl ?_
          refine g_goto hX 33 dX1_digest_88 (by decide) ?_
          refine g_sub [0, 1, 2] rfl ?_
          rw [alDP_e, ← iterL_s (alDP P F gA pl) (cnDP P F n) a]
          exact ih2 (a + 1) (by omega) (by omega)
        · skip
          have hw8 : w ≤ 8 := (nI_leI (a := w) (b := 8) (by omega) (by omega)).mp (Int32.not_lt.mp c60)
          refine g_lload_n hX dX1_digest_63 1 rfl ?_
          refine g_ldc2 hX kl_X1_138 dX1_digest_64 ?_
          refine g_lmul hX dX1_digest_67 ?_
          refine g_aload_n hX dX1_digest_68 4 rfl ?_
          refine g_aload hX dX1_digest_69 3 rfl ?_
          refine g_iload hX dX1_digest_71 0 rfl ?_
          refine g_callV [.long ((iterL (fun u d => d * 31 + (ansP P F (pl a) (gA a) u).toInt64) (iterL (alDP P F gA pl) (cnDP P F n) a) w) * 31)] hX (ct_answerOf hX.st sz hwF hal (pl a) hgd hpla w hw8) cw_X1_answerOf cv_X1_answerOf lk_X1_96 (ci := 1) rfl rfl (ovF_o hwF) ⟨by omega, by omega⟩ ⟨by omega, by omega⟩ (Nat.le_of_ble_eq_true rfl) rfl dX1_digest_73 rfl (fun v73 M73 z73 hp73 hz73 hd73 => ?_)
          obtain ⟨rfl, rfl, rfl⟩ := hp73
          show G X _ (ov (cxT X) (ovF (cxT X) N F) P) sz (0 + 0) (0 + 0) 76 [(5, .int (nI w)), (1, .long (iterL (fun u d => d * 31 + (ansP P F (pl a) (gA a) u).toInt64) (iterL (alDP P F gA pl) (cnDP P F n) a) w)), (3, .int (nI a)), (4, .ref (gA a)), (0, .ref (fO F))] [.int (ansP P F (pl a) (gA a) w), .long ((iterL (fun u d => d * 31 + (ansP P F (pl a) (gA a) u).toInt64) (iterL (alDP P F gA pl) (cnDP P F n) a) w) * 31)]
          refine g_i2l hX dX1_digest_76 ?_
          refine g_ladd hX dX1_digest_77 ?_
          refine g_lstore_n (L' := [(1, .long (((iterL (fun u d => d * 31 + (ansP P F (pl a) (gA a) u).toInt64) (iterL (alDP P F gA pl) (cnDP P F n) a) w) * 31) + ((ansP P F (pl a) (gA a) w).toInt64))), (5, .int (nI w)), (3, .int (nI a)), (4, .ref (gA a)), (0, .ref (fO F))]) hX dX1_digest_78 (by decide) rfl ?_
          refine g_iinc (v := nI (w + 1)) (L' := [(5, .int (nI (w + 1))), (1, .long (((iterL (fun u d => d * 31 + (ansP P F (pl a) (gA a) u).toInt64) (iterL (alDP P F gA pl) (cnDP P F n) a) w) * 31) + ((ansP P F (pl a) (gA a) w).toInt64))), (3, .int (nI a)), (4, .ref (gA a)), (0, .ref (fO F))]) hX dX1_digest_79 1 rfl (nI_1 _) (by decide) rfl ?_
          refine g_goto hX 51 dX1_digest_82 (by decide) ?_
          refine g_sub [0, 1, 2, 3, 4] rfl ?_
          exact ih3 (w + 1) (by omega) (by omega)
      refine g_sub [0, 3, 2, 1, 4] rfl ?_
      have h9 := loop3 0 (Nat.zero_le _)
      rw [iterL_0 _ (iterL (alDP P F gA pl) (cnDP P F n) a)] at h9
      exact h9
  have loop1 : ∀ k, k ≤ 9 → G X 6 (ov (cxT X) (ovF (cxT X) N F) P) sz 0 0 6 [(3, .int (nI k)), (1, .long (iterL (fun u d => d * 31 + (cntP P F n u).toInt64) 1303 k)), (0, .ref (fO F))] [] := by
    refine loop_up ?_
    intro k ih hk
    refine g_iload_n hX dX1_digest_6 0 rfl ?_
    refine g_bipush (v := 8) hX dX1_digest_7 (by decide) ?_
    refine g_icmp_gt hX 31 dX1_digest_9 (by decide) (fun c9 => ?_) (fun c9 => ?_)
    · skip
      have hke : k = 9 := by have h9 := mt (nI_leI (a := k) (b := 8) (by omega) (by omega)).mpr (Int32.not_le.mpr c9); omega
      subst hke
      refine g_iconst (v := 0) hX dX1_digest_31 (by decide) ?_
      refine g_istore_n (L' := [(3, .int 0), (1, .long (iterL (fun u d => d * 31 + (cntP P F n u).toInt64) 1303 9)), (0, .ref (fO F))]) hX dX1_digest_32 (by decide) rfl ?_
      refine g_sub [0, 1, 2] rfl ?_
      rw [cnDP_e]
      have h9 := loop2 0 (Nat.zero_le _)
      rw [iterL_0 _ (cnDP P F n)] at h9
      exact h9
    · skip
      have hk8 : k ≤ 8 := (nI_leI (a := k) (b := 8) (by omega) (by omega)).mp (Int32.not_lt.mp c9)
      refine g_lload_n hX dX1_digest_12 1 rfl ?_
      refine g_ldc2 hX kl_X1_138 dX1_digest_13 ?_
      refine g_lmul hX dX1_digest_16 ?_
      refine g_aload_n hX dX1_digest_17 2 rfl ?_
      refine g_iload_n hX dX1_digest_18 0 rfl ?_
      refine g_callV [.long ((iterL (fun u d => d * 31 + (cntP P F n u).toInt64) 1303 k) * 31)] hX (ct_counted hX.st sz hwF hal ht hn k hk8) cw_X1_counted cv_X1_counted lk_X1_126 (ci := 1) rfl rfl (ovF_o hwF) ⟨by omega, by omega⟩ ⟨by omega, by omega⟩ (Nat.le_of_ble_eq_true rfl) rfl dX1_digest_19 rfl (fun v19 M19 z19 hp19 hz19 hd19 => ?_)
      obtain ⟨rfl, rfl, rfl⟩ := hp19
      show G X _ (ov (cxT X) (ovF (cxT X) N F) P) sz (0 + 0) (0 + 0) 22 [(3, .int (nI k)), (1, .long (iterL (fun u d => d * 31 + (cntP P F n u).toInt64) 1303 k)), (0, .ref (fO F))] [.int (cntP P F n k), .long ((iterL (fun u d => d * 31 + (cntP P F n u).toInt64) 1303 k) * 31)]
      refine g_i2l hX dX1_digest_22 ?_
      refine g_ladd hX dX1_digest_23 ?_
      refine g_lstore_n (L' := [(1, .long (((iterL (fun u d => d * 31 + (cntP P F n u).toInt64) 1303 k) * 31) + ((cntP P F n k).toInt64))), (3, .int (nI k)), (0, .ref (fO F))]) hX dX1_digest_24 (by decide) rfl ?_
      refine g_iinc (v := nI (k + 1)) (L' := [(3, .int (nI (k + 1))), (1, .long (((iterL (fun u d => d * 31 + (cntP P F n u).toInt64) 1303 k) * 31) + ((cntP P F n k).toInt64))), (0, .ref (fO F))]) hX dX1_digest_25 1 rfl (nI_1 _) (by decide) rfl ?_
      refine g_goto hX 6 dX1_digest_28 (by decide) ?_
      refine g_sub [0, 1, 2] rfl ?_
      exact ih (k + 1) (by omega) (by omega)
  show G X 6 (ov (cxT X) (ovF (cxT X) N F) P) sz 0 0 0 [(0, .ref (fO F))] []
  refine g_ldc2 hX kl_X1_136 dX1_digest_0 ?_
  refine g_lstore_n (L' := [(1, .long 1303), (0, .ref (fO F))]) hX dX1_digest_3 (by decide) rfl ?_
  refine g_iconst (v := 0) hX dX1_digest_4 (by decide) ?_
  refine g_istore_n (L' := [(3, .int 0), (1, .long 1303), (0, .ref (fO F))]) hX dX1_digest_5 (by decide) rfl ?_
  refine g_sub [0, 1, 2] rfl ?_
  exact loop1 0 (Nat.zero_le _)
