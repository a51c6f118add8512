set_option maxHeartbeats 4000000 in
set_option maxRecDepth 100000 in
theorem ct_tighten {l : Launch} (hl : l.stackTraces = false) {T : CT3} {D : va_G} {N : AH} {P : PS} (sz : Nat) (hw : Wf P) {q : Nat} (hq : pD P q = true) (h0 : 0 < pS P q) (hs : pS P q ≤ pW P q) (hs2 : pW P q < 1000) (hc : Kids P (pA P q) (pS P q) (fun c => c ≠ q)) : Ct l T D yX0_tighten cX0_tighten 4 none 2 42 0 0 [.ref q] (ov T N P) sz (fun v M' z' => v = none ∧ M' = ov T N (sBx P q (hulP P q (pS P q - 1))) ∧ sz = z') := by
  refine Ct.ofX hl (by decide) (Nat.le_of_ble_eq_true rfl) ?_
  intro X hl0 hT0 hD0 hlt hX hF
  subst hl0; subst hT0; subst hD0
  have loop : ∀ k, k ≤ (pS P q - 1) → G X 4 (ov (cxT X) N (sBx P q (hulP P q k))) sz 0 0 72 [(2, .int (nI (k + 1))), (0, .ref q)] [] := by
    refine loop_up ?_
    intro k ih hk
    refine g_iload_n hX dX0_tighten_72 0 rfl ?_
    refine g_aload_n hX dX0_tighten_73 1 rfl ?_
    refine g_get (ci := 0) hX rfl fin_X0 (ov_pc (P := (sBx P q (hulP P q k))) hq) 3 (by decide) fl_X0_47 rfl dX0_tighten_74 ?_
    refine g_icmp_ge hX 101 dX0_tighten_77 (by decide) (fun c77 => ?_) (fun c77 => ?_)
    · skip
      have hks : k = pS P q - 1 := by have h9 := (nI_leI (a := pS P q) (b := k + 1) (by omega) (by omega)).mp c77; omega
      subst hks
      exact hF none (ov (cxT X) N (sBx P q (hulP P q (pS P q - 1)))) sz _ _ _ _ .return_ (⟨rfl, rfl, rfl⟩) (by omega) (by omega) ret_v dX0_tighten_101
    · skip
      have hks : k + 1 < pS P q := by have h9 := mt (nI_leI (a := pS P q) (b := k + 1) (by omega) (by omega)).mpr c77; omega
      refine g_aload_n hX dX0_tighten_80 1 rfl ?_
      refine g_iload_n hX dX0_tighten_81 0 rfl ?_
      refine g_callV [] hX (ct_at hX.st sz hw (P := sBx P q (hulP P q k)) (q := q) (p := k + 1) hq (by omega) hs hs2) cw_X0_at cv_X0_at lk_X0_50 (ci := 0) rfl rfl (ov_pc (P := (sBx P q (hulP P q k))) hq) ⟨by omega, by omega⟩ ⟨by omega, by omega⟩ (Nat.le_of_ble_eq_true rfl) rfl dX0_tighten_82 rfl (fun v82 M82 z82 hp82 hz82 hd82 => ?_)
      rw [if_pos (show k + 1 < pS (sBx P q (hulP P q k)) q from hks), show pA (sBx P q (hulP P q k)) q (k + 1) = some (kd P q (k + 1)) from (hc (k + 1) hks).1] at hp82
      obtain ⟨rfl, rfl, rfl⟩ := hp82
      show G X _ (ov (cxT X) N (sBx P q (hulP P q k))) sz (0 + 0) (0 + 0) 85 [(2, .int (nI (k + 1))), (0, .ref q)] [.ref (kd P q (k + 1))]
      refine g_astore_n (L' := [(3, .ref (kd P q (k + 1))), (2, .int (nI (k + 1))), (0, .ref q)]) hX dX0_tighten_85 (by decide) rfl ?_
      refine g_aload_n hX dX0_tighten_86 0 rfl ?_
      refine g_ifnullR hX dX0_tighten_87 ?_
      refine g_aload_n hX dX0_tighten_90 2 rfl ?_
      refine g_aload_n hX dX0_tighten_91 0 rfl ?_
      refine g_callV [] hX (ct_widenTo hX.st sz hw (P := sBx P q (hulP P q k)) (q := q) (r := kd P q (k + 1)) hq (hc (k + 1) hks).2.1 (hc (k + 1) hks).2.2) cw_X0_widenTo cv_X0_widenTo lk_X0_62 (ci := 0) rfl rfl (ov_pc (P := (sBx P q (hulP P q k))) hq) ⟨by omega, by omega⟩ ⟨by omega, by omega⟩ (Nat.le_of_ble_eq_true rfl) rfl dX0_tighten_92 rfl (fun v92 M92 z92 hp92 hz92 hd92 => ?_)
      rw [sBx_sBx, pBq_sBx, pBr_sBx _ _ (hc (k + 1) hks).2.2] at hp92
      obtain ⟨rfl, rfl, rfl⟩ := hp92
      show G X _ (ov (cxT X) N (sBx P q (hulP P q (k + 1)))) sz ((0 + 0) + 0) ((0 + 0) + 0) 95 [(3, .ref (kd P q (k + 1))), (2, .int (nI (k + 1))), (0, .ref q)] []
      refine g_iinc (v := nI (k + 1 + 1)) (L' := [(2, .int (nI (k + 1 + 1))), (3, .ref (kd P q (k + 1))), (0, .ref q)]) hX dX0_tighten_95 1 rfl (nI_1 _) (by decide) rfl ?_
      refine g_goto hX 72 dX0_tighten_98 (by decide) ?_
      refine g_sub [0, 2] rfl ?_
      exact ih (k + 1) (by omega) (by omega)
  have hc0 : kd P q 0 ≠ q := (hc 0 h0).2.2
  show G X 4 (ov (cxT X) N P) sz 0 0 0 [(0, .ref q)] []
  refine g_aload_n hX dX0_tighten_0 0 rfl ?_
  refine g_iconst (v := 0) hX dX0_tighten_1 (by decide) ?_
  refine g_callV [] hX (ct_at hX.st sz hw (P := P) (q := q) (p := 0) hq (by omega) hs hs2) cw_X0_at cv_X0_at lk_X0_50 (ci := 0) rfl rfl (ov_pc (P := P) hq) ⟨by omega, by omega⟩ ⟨by omega, by omega⟩ (Nat.le_of_ble_eq_true rfl) rfl dX0_tighten_2 rfl (fun v2 M2 z2 hp2 hz2 hd2 => ?_)
  rw [if_pos (h0), (hc 0 h0).1] at hp2
  obtain ⟨rfl, rfl, rfl⟩ := hp2
  show G X _ (ov (cxT X) N P) sz (0 + 0) (0 + 0) 5 [(0, .ref q)] [.ref (kd P q 0)]
  refine g_astore_n (L' := [(1, .ref (kd P q 0)), (0, .ref q)]) hX dX0_tighten_5 (by decide) rfl ?_
  refine g_aload_n hX dX0_tighten_6 1 rfl ?_
  refine g_aload_n hX dX0_tighten_7 0 rfl ?_
  refine g_ifnonnullR hX 15 dX0_tighten_8 (by decide) ?_
  refine g_aload_n hX dX0_tighten_15 0 rfl ?_
  refine g_get (ci := 0) hX rfl fin_X0 (ov_pc (P := P) ((hc 0 h0).2.1)) 5 (by decide) fl_X0_22 rfl dX0_tighten_16 ?_
  refine g_put (ci := 0) hX rfl fld_X0 (ov_pc (P := P) hq) 5 (by decide) fl_X0_22 rfl rfl rfl (Nat.le_of_ble_eq_true rfl) dX0_tighten_19 ?_
  refine g_eqM (ov_sB (P := P) hq hw 0 (by decide) (pB P (kd P q 0) 0)) ?_
  refine g_aload_n hX dX0_tighten_22 1 rfl ?_
  refine g_aload_n hX dX0_tighten_23 0 rfl ?_
  refine g_ifnonnullR hX 31 dX0_tighten_24 (by decide) ?_
  refine g_aload_n hX dX0_tighten_31 0 rfl ?_
  refine g_get (ci := 0) hX rfl fin_X0 (ov_pc (P := (sB P q 0 (pB P (kd P q 0) 0))) ((hc 0 h0).2.1)) 6 (by decide) fl_X0_25 rfl dX0_tighten_32 ?_
  rw [show pB (sB P q 0 (pB P (kd P q 0) 0)) (kd P q 0) 1 = pB P (kd P q 0) 1 from by simp only [pB_sB, va_up_ne _ _ hc0]]
  refine g_put (ci := 0) hX rfl fld_X0 (ov_pc (P := (sB P q 0 (pB P (kd P q 0) 0))) hq) 6 (by decide) fl_X0_25 rfl rfl rfl (Nat.le_of_ble_eq_true rfl) dX0_tighten_35 ?_
  refine g_eqM (ov_sB (P := (sB P q 0 (pB P (kd P q 0) 0))) hq hw 1 (by decide) (pB P (kd P q 0) 1)) ?_
  refine g_aload_n hX dX0_tighten_38 1 rfl ?_
  refine g_aload_n hX dX0_tighten_39 0 rfl ?_
  refine g_ifnonnullR hX 47 dX0_tighten_40 (by decide) ?_
  refine g_aload_n hX dX0_tighten_47 0 rfl ?_
  refine g_get (ci := 0) hX rfl fin_X0 (ov_pc (P := (sB (sB P q 0 (pB P (kd P q 0) 0)) q 1 (pB P (kd P q 0) 1))) ((hc 0 h0).2.1)) 7 (by decide) fl_X0_28 rfl dX0_tighten_48 ?_
  rw [show pB (sB (sB P q 0 (pB P (kd P q 0) 0)) q 1 (pB P (kd P q 0) 1)) (kd P q 0) 2 = pB P (kd P q 0) 2 from by simp only [pB_sB, va_up_ne _ _ hc0]]
  refine g_put (ci := 0) hX rfl fld_X0 (ov_pc (P := (sB (sB P q 0 (pB P (kd P q 0) 0)) q 1 (pB P (kd P q 0) 1))) hq) 7 (by decide) fl_X0_28 rfl rfl rfl (Nat.le_of_ble_eq_true rfl) dX0_tighten_51 ?_
  refine g_eqM (ov_sB (P := (sB (sB P q 0 (pB P (kd P q 0) 0)) q 1 (pB P (kd P q 0) 1))) hq hw 2 (by decide) (pB P (kd P q 0) 2)) ?_
  refine g_aload_n hX dX0_tighten_54 1 rfl ?_
  refine g_aload_n hX dX0_tighten_55 0 rfl ?_
  refine g_ifnonnullR hX 63 dX0_tighten_56 (by decide) ?_
  refine g_aload_n hX dX0_tighten_63 0 rfl ?_
  refine g_get (ci := 0) hX rfl fin_X0 (ov_pc (P := (sB (sB (sB P q 0 (pB P (kd P q 0) 0)) q 1 (pB P (kd P q 0) 1)) q 2 (pB P (kd P q 0) 2))) ((hc 0 h0).2.1)) 8 (by decide) fl_X0_31 rfl dX0_tighten_64 ?_
  rw [show pB (sB (sB (sB P q 0 (pB P (kd P q 0) 0)) q 1 (pB P (kd P q 0) 1)) q 2 (pB P (kd P q 0) 2)) (kd P q 0) 3 = pB P (kd P q 0) 3 from by simp only [pB_sB, va_up_ne _ _ hc0]]
  refine g_put (ci := 0) hX rfl fld_X0 (ov_pc (P := (sB (sB (sB P q 0 (pB P (kd P q 0) 0)) q 1 (pB P (kd P q 0) 1)) q 2 (pB P (kd P q 0) 2))) hq) 8 (by decide) fl_X0_31 rfl rfl rfl (Nat.le_of_ble_eq_true rfl) dX0_tighten_67 ?_
  refine g_eqM (ov_sB (P := (sB (sB (sB P q 0 (pB P (kd P q 0) 0)) q 1 (pB P (kd P q 0) 1)) q 2 (pB P (kd P q 0) 2))) hq hw 3 (by decide) (pB P (kd P q 0) 3)) ?_
  refine g_eqM (ov_sBx (bx := pB P (kd P q 0)) rfl rfl rfl rfl) ?_
  refine g_iconst (v := 1) hX dX0_tighten_70 (by decide) ?_
  refine g_istore_n (L' := [(2, .int 1), (1, .ref (kd P q 0)), (0, .ref q)]) hX dX0_tighten_71 (by decide) rfl ?_
  refine g_sub [0, 2] rfl ?_
  exact loop 0 (Nat.zero_le _)

set_option maxHeartbeats 4000000 in
set_option maxRecDepth 100000 in
theorem ct_tighten0 {l : Launch} (hl : l.stackTraces = false) {T : CT3} {D : va_G} {N : AH} {P : PS} (sz : Nat) (hw : Wf P) {q : Nat} (hq : pD P q = true) (h0 : pS P q = 0) (hs2 : pW P q < 1000) : Ct l T D yX0_tighten cX0_tighten 4 none 2 42 0 0 [.ref q] (ov T N P) sz (fun v M' z' => v = none ∧ M' = ov T N (sBx P q (bx4 0 0 (-1) (-1))) ∧ sz = z') := by
  refine Ct.ofX hl (by decide) (Nat.le_of_ble_eq_true rfl) ?_
  intro X hl0 hT0 hD0 hlt hX hF
  subst hl0; subst hT0; subst hD0
  show G X 4 (ov (cxT X) N P) sz 0 0 0 [(0, .ref q)] []
  refine g_aload_n hX dX0_tighten_0 0 rfl ?_
  refine g_iconst (v := 0) hX dX0_tighten_1 (by decide) ?_
  refine g_callV [] hX (ct_at hX.st sz hw (P := P) (q := q) (p := 0) hq (by omega) (by omega) hs2) cw_X0_at cv_X0_at lk_X0_50 (ci := 0) rfl rfl (ov_pc (P := P) hq) ⟨by omega, by omega⟩ ⟨by omega, by omega⟩ (Nat.le_of_ble_eq_true rfl) rfl dX0_tighten_2 rfl (fun v2 M2 z2 hp2 hz2 hd2 => ?_)
  rw [if_neg (by omega)] at hp2
  obtain ⟨rfl, rfl, rfl⟩ := hp2
  show G X _ (ov (cxT X) N P) sz (0 + 0) (0 + 0) 5 [(0, .ref q)] [.null]
  refine g_astore_nN (L' := [(1, .null), (0, .ref q)]) hX dX0_tighten_5 (by decide) rfl ?_
  refine g_aload_n hX dX0_tighten_6 1 rfl ?_
  refine g_aload_nN hX dX0_tighten_7 0 rfl ?_
  refine g_ifnonnullN hX dX0_tighten_8 ?_
  refine g_iconst (v := 0) hX dX0_tighten_11 (by decide) ?_
  refine g_goto hX 19 dX0_tighten_12 (by decide) ?_
  refine g_put (ci := 0) hX rfl fld_X0 (ov_pc (P := P) hq) 5 (by decide) fl_X0_22 rfl rfl rfl (Nat.le_of_ble_eq_true rfl) dX0_tighten_19 ?_
  refine g_eqM (ov_sB (P := P) hq hw 0 (by decide) 0) ?_
  refine g_aload_n hX dX0_tighten_22 1 rfl ?_
  refine g_aload_nN hX dX0_tighten_23 0 rfl ?_
  refine g_ifnonnullN hX dX0_tighten_24 ?_
  refine g_iconst (v := 0) hX dX0_tighten_27 (by decide) ?_
  refine g_goto hX 35 dX0_tighten_28 (by decide) ?_
  refine g_put (ci := 0) hX rfl fld_X0 (ov_pc (P := (sB P q 0 0)) hq) 6 (by decide) fl_X0_25 rfl rfl rfl (Nat.le_of_ble_eq_true rfl) dX0_tighten_35 ?_
  refine g_eqM (ov_sB (P := (sB P q 0 0)) hq hw 1 (by decide) 0) ?_
  refine g_aload_n hX dX0_tighten_38 1 rfl ?_
  refine g_aload_nN hX dX0_tighten_39 0 rfl ?_
  refine g_ifnonnullN hX dX0_tighten_40 ?_
  refine g_iconst (v := (-1)) hX dX0_tighten_43 (by decide) ?_
  refine g_goto hX 51 dX0_tighten_44 (by decide) ?_
  refine g_put (ci := 0) hX rfl fld_X0 (ov_pc (P := (sB (sB P q 0 0) q 1 0)) hq) 7 (by decide) fl_X0_28 rfl rfl rfl (Nat.le_of_ble_eq_true rfl) dX0_tighten_51 ?_
  refine g_eqM (ov_sB (P := (sB (sB P q 0 0) q 1 0)) hq hw 2 (by decide) (-1)) ?_
  refine g_aload_n hX dX0_tighten_54 1 rfl ?_
  refine g_aload_nN hX dX0_tighten_55 0 rfl ?_
  refine g_ifnonnullN hX dX0_tighten_56 ?_
  refine g_iconst (v := (-1)) hX dX0_tighten_59 (by decide) ?_
  refine g_goto hX 67 dX0_tighten_60 (by decide) ?_
  refine g_put (ci := 0) hX rfl fld_X0 (ov_pc (P := (sB (sB (sB P q 0 0) q 1 0) q 2 (-1))) hq) 8 (by decide) fl_X0_31 rfl rfl rfl (Nat.le_of_ble_eq_true rfl) dX0_tighten_67 ?_
  refine g_eqM (ov_sB (P := (sB (sB (sB P q 0 0) q 1 0) q 2 (-1))) hq hw 3 (by decide) (-1)) ?_
  refine g_eqM (ov_sBx (bx := bx4 0 0 (-1) (-1)) rfl rfl rfl rfl) ?_
  refine g_iconst (v := 1) hX dX0_tighten_70 (by decide) ?_
  refine g_istore_n (L' := [(2, .int 1), (1, .null), (0, .ref q)]) hX dX0_tighten_71 (by decide) rfl ?_
  refine g_iload_n hX dX0_tighten_72 0 rfl ?_
  refine g_aload_n hX dX0_tighten_73 2 rfl ?_
  refine g_get (ci := 0) hX rfl fin_X0 (ov_pc (P := (sBx P q (bx4 0 0 (-1) (-1)))) hq) 3 (by decide) fl_X0_47 rfl dX0_tighten_74 ?_
  refine g_icmp_ge hX 101 dX0_tighten_77 (by decide) (fun _ => ?_) (fun c77 => absurd (by rw [show pS (sBx P q (bx4 0 0 (-1) (-1))) q = 0 from h0]; decide) c77)
  exact hF none (ov (cxT X) N (sBx P q (bx4 0 0 (-1) (-1)))) sz _ _ _ _ .return_ (⟨rfl, rfl, rfl⟩) (by omega) (by omega) ret_v dX0_tighten_101

set_option maxHeartbeats 4000000 in
set_option maxRecDepth 100000 in
theorem ct_Pinit {l : Launch} (hl : l.stackTraces = false) {T : CT3} {D : va_G} {M : AH} {q : Nat} (hMq : M q = some blkP) (n x1 y1 x2 y2 : Int32) : Ct l T D yX0_init cX0_init 6 none 1 21 1 0 [.ref q, .int n, .int x1, .int y1, .int x2, .int y2] M (q + 1) (fun v M' z' => v = none ∧ M' = va_up (va_up M q (some (.inr (0, [.int n, .int 0, .ref (q + 1), .int 0, .null, .int x1, .int y1, .int x2, .int y2])))) (q + 1) (some (eR T 0 (fun _ => none))) ∧ q + 1 + 1 = z') := by
  refine Ct.ofX hl (by decide) (Nat.le_of_ble_eq_true rfl) ?_
  intro X hl0 hT0 hD0 hlt hX hF
  subst hl0; subst hT0; subst hD0
  show G X 6 M (q + 1) 0 0 0 [(0, .ref q), (1, .int n), (2, .int x1), (3, .int y1), (4, .int x2), (5, .int y2)] []
  refine g_aload_n hX dX0_init_0 0 rfl ?_
  refine g_objInit [] hX lk_X0_3 im_Lib_objectInit cd_Lib_objectInit (by omega) (by omega) (Nat.le_of_ble_eq_true rfl) dX0_init_1 ?_
  refine g_aload_n hX dX0_init_4 0 rfl ?_
  refine g_iload_n hX dX0_init_5 1 rfl ?_
  refine g_putF (fs := [.int 0, .int 0, .null, .int 0, .null, .int 0, .int 0, .int 0, .int 0]) (ci := 0) hX rfl fld_X0 hMq 0 (by decide) fl_X0_9 rfl rfl rfl rfl rfl (Nat.le_of_ble_eq_true rfl) dX0_init_6 ?_
  show G X 6 (va_up M q (some (.inr (0, [.int n, .int 0, .null, .int 0, .null, .int 0, .int 0, .int 0, .int 0])))) (q + 1) _ _ _ _ _
  refine g_aload_n hX dX0_init_9 0 rfl ?_
  refine g_iconst (v := 0) hX dX0_init_10 (by decide) ?_
  refine g_putF (fs := [.int n, .int 0, .null, .int 0, .null, .int 0, .int 0, .int 0, .int 0]) (ci := 0) hX rfl fld_X0 (va_up_self _ _ _) 1 (by decide) fl_X0_15 rfl rfl rfl rfl rfl (Nat.le_of_ble_eq_true rfl) dX0_init_11 ?_
  refine g_eqM (va_up2 _ _ _ _) ?_
  show G X 6 (va_up M q (some (.inr (0, [.int n, .int 0, .null, .int 0, .null, .int 0, .int 0, .int 0, .int 0])))) (q + 1) _ _ _ _ _
  refine g_aload_n hX dX0_init_14 0 rfl ?_
  refine g_iconst (v := 0) hX dX0_init_15 (by decide) ?_
  refine g_anew (N := 0) hX cl_X0_10 ao_P rfl (by decide) (by decide) (by decide) dX0_init_16 ?_
  refine g_putF (fs := [.int n, .int 0, .null, .int 0, .null, .int 0, .int 0, .int 0, .int 0]) (ci := 0) hX rfl fld_X0 (by rw [va_up_ne _ _ (by omega)]; exact va_up_self _ _ _) 2 (by decide) fl_X0_18 rfl rfl rfl rfl rfl (Nat.le_of_ble_eq_true rfl) dX0_init_19 ?_
  refine g_eqM ((va_upC _ _ _ (by omega)).trans (congrArg (fun f => va_up f (q + 1) (some (eR (cxT X) 0 (fun _ => none)))) (va_up2 _ _ _ _))) ?_
  show G X 6 (va_up (va_up M q (some (.inr (0, [.int n, .int 0, .ref (q + 1), .int 0, .null, .int 0, .int 0, .int 0, .int 0])))) (q + 1) (some (eR (cxT X) 0 (fun _ => none)))) (q + 1 + 1) _ _ _ _ _
  refine g_aload_n hX dX0_init_22 0 rfl ?_
  refine g_iload_n hX dX0_init_23 2 rfl ?_
  refine g_put (fs := [.int n, .int 0, .ref (q + 1), .int 0, .null, .int 0, .int 0, .int 0, .int 0]) (ci := 0) hX rfl fld_X0 (by rw [va_up_ne _ _ (by omega)]; exact va_up_self _ _ _) 5 (by decide) fl_X0_22 rfl rfl rfl (Nat.le_of_ble_eq_true rfl) dX0_init_24 ?_
  refine g_eqM ((va_upC _ _ _ (by omega)).trans (congrArg (fun f => va_up f (q + 1) (some (eR (cxT X) 0 (fun _ => none)))) (va_up2 _ _ _ _))) ?_
  show G X 6 (va_up (va_up M q (some (.inr (0, [.int n, .int 0, .ref (q + 1), .int 0, .null, .int x1, .int 0, .int 0, .int 0])))) (q + 1) (some (eR (cxT X) 0 (fun _ => none)))) (q + 1 + 1) _ _ _ _ _
  refine g_aload_n hX dX0_init_27 0 rfl ?_
  refine g_iload_n hX dX0_init_28 3 rfl ?_
  refine g_put (fs := [.int n, .int 0, .ref (q + 1), .int 0, .null, .int x1, .int 0, .int 0, .int 0]) (ci := 0) hX rfl fld_X0 (by rw [va_up_ne _ _ (by omega)]; exact va_up_self _ _ _) 6 (by decide) fl_X0_25 rfl rfl rfl (Nat.le_of_ble_eq_true rfl) dX0_init_29 ?_
  refine g_eqM ((va_upC _ _ _ (by omega)).trans (congrArg (fun f => va_up f (q + 1) (some (eR (cxT X) 0 (fun _ => none)))) (va_up2 _ _ _ _))) ?_
  show G X 6 (va_up (va_up M q (some (.inr (0, [.int n, .int 0, .ref (q + 1), .int 0, .null, .int x1, .int y1, .int 0, .int 0])))) (q + 1) (some (eR (cxT X) 0 (fun _ => none)))) (q + 1 + 1) _ _ _ _ _
  refine g_aload_n hX dX0_init_32 0 rfl ?_
  refine g_iload hX dX0_init_33 4 rfl ?_
  refine g_put (fs := [.int n, .int 0, .ref (q + 1), .int 0, .null, .int x1, .int y1, .int 0, .int 0]) (ci := 0) hX rfl fld_X0 (by rw [va_up_ne _ _ (by omega)]; exact va_up_self _ _ _) 7 (by decide) fl_X0_28 rfl rfl rfl (Nat.le_of_ble_eq_true rfl) dX0_init_35 ?_
  refine g_eqM ((va_upC _ _ _ (by omega)).trans (congrArg (fun f => va_up f (q + 1) (some (eR (cxT X) 0 (fun _ => none)))) (va_up2 _ _ _ _))) ?_
  show G X 6 (va_up (va_up M q (some (.inr (0, [.int n, .int 0, .ref (q + 1), .int 0, .null, .int x1, .int y1, .int x2, .int 0])))) (q + 1) (some (eR (cxT X) 0 (fun _ => none)))) (q + 1 + 1) _ _ _ _ _
  refine g_aload_n hX dX0_init_38 0 rfl ?_
  refine g_iload hX dX0_init_39 5 rfl ?_
  refine g_put (fs := [.int n, .int 0, .ref (q + 1), .int 0, .null, .int x1, .int y1, .int x2, .int 0]) (ci := 0) hX rfl fld_X0 (by rw [va_up_ne _ _ (by omega)]; exact va_up_self _ _ _) 8 (by decide) fl_X0_31 rfl rfl rfl (Nat.le_of_ble_eq_true rfl) dX0_init_41 ?_
  refine g_eqM ((va_upC _ _ _ (by omega)).trans (congrArg (fun f => va_up f (q + 1) (some (eR (cxT X) 0 (fun _ => none)))) (va_up2 _ _ _ _))) ?_
  show G X 6 (va_up (va_up M q (some (.inr (0, [.int n, .int 0, .ref (q + 1), .int 0, .null, .int x1, .int y1, .int x2, .int y2])))) (q + 1) (some (eR (cxT X) 0 (fun _ => none)))) (q + 1 + 1) _ _ _ _ _
  exact hF none (va_up (va_up M q (some (.inr (0, [.int n, .int 0, .ref (q + 1), .int 0, .null, .int x1, .int y1, .int x2, .int y2])))) (q + 1) (some (eR (cxT X) 0 (fun _ => none)))) (q + 1 + 1) _ _ _ _ .return_ (⟨rfl, rfl, rfl⟩) (by omega) (by omega) ret_v dX0_init_44

set_option maxHeartbeats 4000000 in
set_option maxRecDepth 100000 in
theorem ct_Pinit_ {l : Launch} (hl : l.stackTraces = false) {T : CT3} {D : va_G} {M : AH} {q : Nat} (hMq : M q = some blkP) (lv : Nat) : Ct l T D yX0_init_ cX0_init_ 2 none 1 21 1 5 [.ref q, .int (nI lv)] M (q + 1) (fun v M' z' => v = none ∧ M' = va_up (va_up M q (some (.inr (0, [.int (-1), .int (nI lv), .ref (q + 1), .int 0, .null, .int 0, .int 0, .int (-1), .int (-1)])))) (q + 1) (some (eR T 5 (fun _ => none))) ∧ q + 1 + 1 = z') := by
  refine Ct.ofX hl (by decide) (Nat.le_of_ble_eq_true rfl) ?_
  intro X hl0 hT0 hD0 hlt hX hF
  subst hl0; subst hT0; subst hD0
  show G X 2 M (q + 1) 0 0 0 [(0, .ref q), (1, .int (nI lv))] []
  refine g_aload_n hX dX0_init__0 0 rfl ?_
  refine g_objInit [] hX lk_X0_3 im_Lib_objectInit cd_Lib_objectInit (by omega) (by omega) (Nat.le_of_ble_eq_true rfl) dX0_init__1 ?_
  refine g_aload_n hX dX0_init__4 0 rfl ?_
  refine g_iconst (v := (-1)) hX dX0_init__5 (by decide) ?_
  refine g_putF (fs := [.int 0, .int 0, .null, .int 0, .null, .int 0, .int 0, .int 0, .int 0]) (ci := 0) hX rfl fld_X0 hMq 0 (by decide) fl_X0_9 rfl rfl rfl rfl rfl (Nat.le_of_ble_eq_true rfl) dX0_init__6 ?_
  show G X 2 (va_up M q (some (.inr (0, [.int (-1), .int 0, .null, .int 0, .null, .int 0, .int 0, .int 0, .int 0])))) (q + 1) _ _ _ _ _
  refine g_aload_n hX dX0_init__9 0 rfl ?_
  refine g_iload_n hX dX0_init__10 1 rfl ?_
  refine g_putF (fs := [.int (-1), .int 0, .null, .int 0, .null, .int 0, .int 0, .int 0, .int 0]) (ci := 0) hX rfl fld_X0 (va_up_self _ _ _) 1 (by decide) fl_X0_15 rfl rfl rfl rfl rfl (Nat.le_of_ble_eq_true rfl) dX0_init__11 ?_
  refine g_eqM (va_up2 _ _ _ _) ?_
  show G X 2 (va_up M q (some (.inr (0, [.int (-1), .int (nI lv), .null, .int 0, .null, .int 0, .int 0, .int 0, .int 0])))) (q + 1) _ _ _ _ _
  refine g_aload_n hX dX0_init__14 0 rfl ?_
  refine g_iconst (v := 5) hX dX0_init__15 (by decide) ?_
  refine g_anew (N := 5) hX cl_X0_10 ao_P rfl (by decide) (by decide) (by decide) dX0_init__16 ?_
  refine g_putF (fs := [.int (-1), .int (nI lv), .null, .int 0, .null, .int 0, .int 0, .int 0, .int 0]) (ci := 0) hX rfl fld_X0 (by rw [va_up_ne _ _ (by omega)]; exact va_up_self _ _ _) 2 (by decide) fl_X0_18 rfl rfl rfl rfl rfl (Nat.le_of_ble_eq_true rfl) dX0_init__19 ?_
  refine g_eqM ((va_upC _ _ _ (by omega)).trans (congrArg (fun f => va_up f (q + 1) (some (eR (cxT X) 5 (fun _ => none)))) (va_up2 _ _ _ _))) ?_
  show G X 2 (va_up (va_up M q (some (.inr (0, [.int (-1), .int (nI lv), .ref (q + 1), .int 0, .null, .int 0, .int 0, .int 0, .int 0])))) (q + 1) (some (eR (cxT X) 5 (fun _ => none)))) (q + 1 + 1) _ _ _ _ _
  refine g_aload_n hX dX0_init__22 0 rfl ?_
  refine g_iconst (v := (-1)) hX dX0_init__23 (by decide) ?_
  refine g_put (fs := [.int (-1), .int (nI lv), .ref (q + 1), .int 0, .null, .int 0, .int 0, .int 0, .int 0]) (ci := 0) hX rfl fld_X0 (by rw [va_up_ne _ _ (by omega)]; exact va_up_self _ _ _) 7 (by decide) fl_X0_28 rfl rfl rfl (Nat.le_of_ble_eq_true rfl) dX0_init__24 ?_
  refine g_eqM ((va_upC _ _ _ (by omega)).trans (congrArg (fun f => va_up f (q + 1) (some (eR (cxT X) 5 (fun _ => none)))) (va_up2 _ _ _ _))) ?_
  show G X 2 (va_up (va_up M q (some (.inr (0, [.int (-1), .int (nI lv), .ref (q + 1), .int 0, .null, .int 0, .int 0, .int (-1), .int 0])))) (q + 1) (some (eR (cxT X) 5 (fun _ => none)))) (q + 1 + 1) _ _ _ _ _
  refine g_aload_n hX dX0_init__27 0 rfl ?_
  refine g_iconst (v := (-1)) hX dX0_init__28 (by decide) ?_
  refine g_put (fs := [.int (-1), .int (nI lv), .ref (q + 1), .int 0, .null, .int 0, .int 0, .int (-1), .int 0]) (ci := 0) hX rfl fld_X0 (by rw [va_up_ne _ _ (by omega)]; exact va_up_self _ _ _) 8 (by decide) fl_X0_31 rfl rfl rfl (Nat.le_of_ble_eq_true rfl) dX0_init__29 ?_
  refine g_eqM ((va_upC _ _ _ (by omega)).trans (congrArg (fun f => va_up f (q + 1) (some (eR (cxT X) 5 (fun _ => none)))) (va_up2 _ _ _ _))) ?_
  show G X 2 (va_up (va_up M q (some (.inr (0, [.int (-1), .int (nI lv), .ref (q + 1), .int 0, .null, .int 0, .int 0, .int (-1), .int (-1)])))) (q + 1) (some (eR (cxT X) 5 (fun _ => none)))) (q + 1 + 1) _ _ _ _ _
  exact hF none (va_up (va_up M q (some (.inr (0, [.int (-1), .int (nI lv), .ref (q + 1), .int 0, .null, .int 0, .int 0, .int (-1), .int (-1)])))) (q + 1) (some (eR (cxT X) 5 (fun _ => none)))) (q + 1 + 1) _ _ _ _ .return_ (⟨rfl, rfl, rfl⟩) (by omega) (by omega) ret_v dX0_init__32
