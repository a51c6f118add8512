set_option maxHeartbeats 1000000 in
set_option maxRecDepth 100000 in
theorem ct_way_lo {l : Launch} (hl : l.stackTraces = false) {T : CT3} {D : va_G} {N : AH} {P : PS} {F : FS} (sz : Nat) (hwF : WfF P F) (hal : Alok P F) (x : Int32) {g : Nat} (ha : alI F x = some g) (htd : pD P (fT F) = true) {y : Nat} (hy : y < 2147483648) (hlo : (((nI (pL P (fT F))) - 1) - (nI y)) < 1) : Ct l T D yX1_way cX1_way 6 (some .int) 3 60 0 0 [.ref (fO F), .int x, .int (nI y)] (ov T (ovF T N F) P) sz (fun v M' z' => v = some (.int (-1)) ∧ M' = ov T (ovF T N F) P ∧ sz = z') := by
  refine Ct.ofX hl (by decide) (Nat.le_of_ble_eq_true rfl) ?_
  intro X hl0 hT0 hD0 hlt hX hF
  subst hl0; subst hT0; subst hD0
  have hg := hal.al ha
  show G X 6 (ov (cxT X) (ovF (cxT X) N F) P) sz 0 0 0 [(0, .ref (fO F)), (1, .int x), (2, .int (nI y))] []
  refine g_aload_n hX dX1_way_0 0 rfl ?_
  refine g_iload_n hX dX1_way_1 1 rfl ?_
  refine g_callV [] hX (ct_aon hX.st sz hwF hal x) cw_X1_allotmentOrNull cv_X1_allotmentOrNull lk_X1_59 (ci := 1) rfl rfl (ovF_o hwF) ⟨by omega, by omega⟩ ⟨by omega, by omega⟩ (Nat.le_of_ble_eq_true rfl) rfl dX1_way_2 rfl (fun v2 M2 z2 hp2 hz2 hd2 => ?_)
  rw [ha] at hp2
  obtain ⟨rfl, rfl, rfl⟩ := hp2
  show G X _ (ov (cxT X) (ovF (cxT X) N F) P) sz (0 + 0) (0 + 0) 5 [(0, .ref (fO F)), (1, .int x), (2, .int (nI y))] [.ref g]
  refine g_astore_n (L' := [(3, .ref g), (0, .ref (fO F)), (1, .int x), (2, .int (nI y))]) hX dX1_way_5 (by decide) rfl ?_
  refine g_aload_n hX dX1_way_6 0 rfl ?_
  refine g_ifnullR hX dX1_way_7 ?_
  refine g_iload_n hX dX1_way_10 3 rfl ?_
  refine g_if_ge hX 24 dX1_way_11 (by decide) (fun _ => ?_) (fun c11 => absurd ((nI_leI (a := 0) (b := y) (by omega) (by omega)).mpr (by omega)) c11)
  refine g_aload_n hX dX1_way_24 1 rfl ?_
  refine g_get (ci := 1) hX rfl fin_X1 (ovF_o hwF) 3 (by decide) fl_X1_18 rfl dX1_way_25 ?_
  refine g_getN (ci := 0) hX rfl fin_X0 (ov_pc (P := P) htd) 1 (by decide) fn_X1_102 rfl dX1_way_28 ?_
  refine g_iconst (v := 1) hX dX1_way_31 (by decide) ?_
  refine g_isub hX dX1_way_32 ?_
  refine g_iload_n hX dX1_way_33 3 rfl ?_
  refine g_isub hX dX1_way_34 ?_
  refine g_istore (L' := [(4, .int (((nI (pL P (fT F))) - 1) - (nI y))), (3, .ref g), (0, .ref (fO F)), (1, .int x), (2, .int (nI y))]) hX dX1_way_35 (by decide) rfl ?_
  refine g_iload hX dX1_way_37 0 rfl ?_
  refine g_iconst (v := 1) hX dX1_way_39 (by decide) ?_
  refine g_icmp_ge hX 45 dX1_way_40 (by decide) (fun c40 => absurd c40 (Int32.not_le.mpr hlo)) (fun _ => ?_)
  refine g_iconst (v := (-1)) hX dX1_way_43 (by decide) ?_
  exact hF (some (.int (-1))) (ov (cxT X) (ovF (cxT X) N F) P) sz _ _ _ _ .ireturn (⟨rfl, rfl, rfl⟩) (by omega) (by omega) ret_i dX1_way_44

set_option maxHeartbeats 1000000 in
set_option maxRecDepth 100000 in
theorem ct_way {l : Launch} (hl : l.stackTraces = false) {T : CT3} {D : va_G} {N : AH} {P : PS} {F : FS} (sz : Nat) (hwF : WfF P F) (hal : Alok P F) (x : Int32) {g : Nat} (ha : alI F x = some g) (htd : pD P (fT F) = true) {y : Nat} (hy : y < 2147483648) {lv k : Nat} (hlv : (((nI (pL P (fT F))) - 1) - (nI y)) = nI lv) (h1 : 1 ≤ lv) (h2 : lv < 1000) (hup : UpI (fun f => pD P f = true ∧ pL P f < 1000) (pH P) k (pH P g)) (pl : Nat → Nat) (hpl : ∀ f, wyP P lv k (pH P g) = some f → pD P f = true ∧ Plc P pl f) : Ct l T D yX1_way cX1_way 6 (some .int) 4 90 0 0 [.ref (fO F), .int x, .int (nI y)] (ov T (ovF T N F) P) sz (fun v M' z' => v = some (.int (plO P pl (wyP P lv k (pH P g)))) ∧ M' = ov T (ovF T N F) P ∧ sz = z') := by
  refine Ct.ofX hl (by decide) (Nat.le_of_ble_eq_true rfl) ?_
  intro X hl0 hT0 hD0 hlt hX hF
  subst hl0; subst hT0; subst hD0
  have hg := hal.al ha
  have chain : ∀ m r, UpI (fun f => pD P f = true ∧ pL P f < 1000) (pH P) m r → G X 6 (ov (cxT X) (ovF (cxT X) N F) P) sz 0 0 76 [(5, va_rf (wyP P lv m r))] [] → G X 6 (ov (cxT X) (ovF (cxT X) N F) P) sz 0 0 51 [(5, va_rf r), (4, .int (nI lv))] [] := by
    intro m
    induction m with
    | zero =>
      intro r hi hG
      obtain rfl : r = none := hi
      show G X _ (ov (cxT X) (ovF (cxT X) N F) P) sz 0 0 51 [(5, .null), (4, .int (nI lv))] []
      refine g_aloadN hX dX1_way_51 0 rfl ?_
      refine g_ifnullN hX 76 dX1_way_53 (by decide) ?_
      refine g_sub [0] rfl ?_
      exact hG
    | succ m ihm =>
      intro r hi hG
      rcases r with _ | f
      · skip
        show G X _ (ov (cxT X) (ovF (cxT X) N F) P) sz 0 0 51 [(5, .null), (4, .int (nI lv))] []
        refine g_aloadN hX dX1_way_51 0 rfl ?_
        refine g_ifnullN hX 76 dX1_way_53 (by decide) ?_
        refine g_sub [0] rfl ?_
        rw [wy_n] at hG
        exact hG
      · obtain ⟨hq, hi2⟩ := hi f rfl
        have hq2 := hq.2
        show G X _ (ov (cxT X) (ovF (cxT X) N F) P) sz 0 0 51 [(5, .ref f), (4, .int (nI lv))] []
        refine g_aload hX dX1_way_51 0 rfl ?_
        refine g_ifnullR hX dX1_way_53 ?_
        refine g_aload hX dX1_way_56 0 rfl ?_
        refine g_getN (ci := 0) hX rfl fin_X0 (ov_pc (P := P) hq.1) 1 (by decide) fn_X1_102 rfl dX1_way_58 ?_
        refine g_iload hX dX1_way_61 1 rfl ?_
        refine g_icmp_ge hX 76 dX1_way_63 (by decide) (fun c63 => ?_) (fun c63 => ?_)
        · skip
          have h9 : lv ≤ pL P f := (nI_leI (a := lv) (b := pL P f) (by omega) (by omega)).mp c63
          refine g_sub [0] rfl ?_
          rw [wy_t h9] at hG
          exact hG
        · skip
          have h9 : ¬ lv ≤ pL P f := mt (nI_leI (a := lv) (b := pL P f) (by omega) (by omega)).mpr c63
          refine g_aload hX dX1_way_66 0 rfl ?_
          refine g_getN (ci := 0) hX rfl fin_X0 (ov_pc (P := P) hq.1) 4 (by decide) fn_X1_68 rfl dX1_way_68 ?_
          refine g_astoreQ (L' := [(5, va_rf (pH P f)), (4, .int (nI lv))]) hX dX1_way_71 (by decide) rfl ?_
          refine g_goto hX 51 dX1_way_73 (by decide) ?_
          refine g_sub [0, 1] rfl ?_
          rw [wy_f h9] at hG
          exact ihm _ hi2 hG
  show G X 6 (ov (cxT X) (ovF (cxT X) N F) P) sz 0 0 0 [(0, .ref (fO F)), (1, .int x), (2, .int (nI y))] []
  refine g_aload_n hX dX1_way_0 0 rfl ?_
  refine g_iload_n hX dX1_way_1 1 rfl ?_
  refine g_callV [] hX (ct_aon hX.st sz hwF hal x) cw_X1_allotmentOrNull cv_X1_allotmentOrNull lk_X1_59 (ci := 1) rfl rfl (ovF_o hwF) ⟨by omega, by omega⟩ ⟨by omega, by omega⟩ (Nat.le_of_ble_eq_true rfl) rfl dX1_way_2 rfl (fun v2 M2 z2 hp2 hz2 hd2 => ?_)
  rw [ha] at hp2
  obtain ⟨rfl, rfl, rfl⟩ := hp2
  show G X _ (ov (cxT X) (ovF (cxT X) N F) P) sz (0 + 0) (0 + 0) 5 [(0, .ref (fO F)), (1, .int x), (2, .int (nI y))] [.ref g]
  refine g_astore_n (L' := [(3, .ref g), (0, .ref (fO F)), (1, .int x), (2, .int (nI y))]) hX dX1_way_5 (by decide) rfl ?_
  refine g_aload_n hX dX1_way_6 0 rfl ?_
  refine g_ifnullR hX dX1_way_7 ?_
  refine g_iload_n hX dX1_way_10 3 rfl ?_
  refine g_if_ge hX 24 dX1_way_11 (by decide) (fun _ => ?_) (fun c11 => absurd ((nI_leI (a := 0) (b := y) (by omega) (by omega)).mpr (by omega)) c11)
  refine g_aload_n hX dX1_way_24 1 rfl ?_
  refine g_get (ci := 1) hX rfl fin_X1 (ovF_o hwF) 3 (by decide) fl_X1_18 rfl dX1_way_25 ?_
  refine g_getN (ci := 0) hX rfl fin_X0 (ov_pc (P := P) htd) 1 (by decide) fn_X1_102 rfl dX1_way_28 ?_
  refine g_iconst (v := 1) hX dX1_way_31 (by decide) ?_
  refine g_isub hX dX1_way_32 ?_
  refine g_iload_n hX dX1_way_33 3 rfl ?_
  refine g_isub hX dX1_way_34 ?_
  rw [hlv]
  show G X _ (ov (cxT X) (ovF (cxT X) N F) P) sz (0 + 0) (0 + 0) 35 [(3, .ref g), (0, .ref (fO F)), (1, .int x), (2, .int (nI y))] [.int (nI lv)]
  refine g_istore (L' := [(4, .int (nI lv)), (3, .ref g), (0, .ref (fO F)), (1, .int x), (2, .int (nI y))]) hX dX1_way_35 (by decide) rfl ?_
  refine g_iload hX dX1_way_37 0 rfl ?_
  refine g_iconst (v := 1) hX dX1_way_39 (by decide) ?_
  refine g_icmp_ge hX 45 dX1_way_40 (by decide) (fun _ => ?_) (fun c40 => absurd ((nI_leI (a := 1) (b := lv) (by omega) (by omega)).mpr h1) c40)
  refine g_aload_n hX dX1_way_45 1 rfl ?_
  refine g_getN (ci := 0) hX rfl fin_X0 (ov_pc (P := P) hg) 4 (by decide) fn_X1_68 rfl dX1_way_46 ?_
  refine g_astoreQ (L' := [(5, va_rf (pH P g)), (4, .int (nI lv)), (3, .ref g), (0, .ref (fO F)), (1, .int x), (2, .int (nI y))]) hX dX1_way_49 (by decide) rfl ?_
  refine g_sub [0, 1] rfl ?_
  refine chain k (pH P g) hup ?_
  rcases he : wyP P lv k (pH P g) with _ | f
  · skip
    show G X _ (ov (cxT X) (ovF (cxT X) N F) P) sz (0 + 0) (0 + 0) 76 [(5, .null)] []
    refine g_aloadN hX dX1_way_76 0 rfl ?_
    refine g_callS [] hX (ct_pbo0 hX.st sz) cw_X1_placeBesideOthers stt_X1_placeBesideOthers lk_X1_105 ⟨by omega, by omega⟩ ⟨by omega, by omega⟩ (Nat.le_of_ble_eq_true rfl) rfl dX1_way_78 rfl (fun v78 M78 z78 hp78 hz78 hd78 => ?_)
    obtain ⟨rfl, rfl, rfl⟩ := hp78
    show G X _ (ov (cxT X) (ovF (cxT X) N F) P) sz ((0 + 0) + 0) ((0 + 0) + 0) 81 [(5, .null)] [.int (-1)]
    exact hF (some (.int (-1))) (ov (cxT X) (ovF (cxT X) N F) P) sz _ _ _ _ .ireturn (⟨by rw [he]; rfl, rfl, rfl⟩) (by omega) (by omega) ret_i dX1_way_81
  · skip
    obtain ⟨hq, hpf⟩ := hpl f he
    show G X _ (ov (cxT X) (ovF (cxT X) N F) P) sz (0 + 0) (0 + 0) 76 [(5, .ref f)] []
    refine g_aload hX dX1_way_76 0 rfl ?_
    refine g_callS [] hX (ct_pbo hX.st sz hwF.1 pl hq hpf) cw_X1_placeBesideOthers stt_X1_placeBesideOthers lk_X1_105 ⟨by omega, by omega⟩ ⟨by omega, by omega⟩ (Nat.le_of_ble_eq_true rfl) rfl dX1_way_78 rfl (fun v78 M78 z78 hp78 hz78 hd78 => ?_)
    obtain ⟨rfl, rfl, rfl⟩ := hp78
    show G X _ (ov (cxT X) (ovF (cxT X) N F) P) sz ((0 + 0) + 0) ((0 + 0) + 0) 81 [(5, .ref f)] [.int (plI P pl f)]
    exact hF (some (.int (plI P pl f))) (ov (cxT X) (ovF (cxT X) N F) P) sz _ _ _ _ .ireturn (⟨by rw [he]; rfl, rfl, rfl⟩) (by omega) (by omega) ret_i dX1_way_81
