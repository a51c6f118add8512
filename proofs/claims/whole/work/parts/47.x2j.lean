set_option maxHeartbeats 400000 in
set_option maxRecDepth 100000 in
theorem cr_digest {l : Launch} (hl : l.stackTraces = false) {T : CT3} {D : va_G} {N : AH} {o : Nat} {S : RS} (sz : Nat) {h : Nat} (ht : TrR S h (rC S 4)) (hh : h < 58) (hc : rC S 1 ≤ 60) (hd : ∀ a, a < 60 → rD S a ≤ 1) {fr ps : Nat → Nat → Nat} (hp : ∀ a, a < rC S 1 → rD S a = 1 → Pth S h a (fr a) (ps a) ∧ fr a 0 = rC S 4) : Ct l T D yX2_digest cX2_digest 5 (some .long) (3 * h + 10) (60 * h + 200) 0 0 [.ref o] (ovR T N o S) sz (fun v M' z' => v = some (.long (dgR S h (rC S 4) (iterL (alD S h fr ps) (cnD S h) (rC S 1)))) ∧ (∃ S', M' = ovR T N o S' ∧ SE S S' ∧ rC S' 0 = 0) ∧ sz = z') := by
  refine Ct.ofX hl (by decide) (Nat.le_of_ble_eq_true rfl) ?_
  intro X hl0 hT0 hD0 hlt hX hF
  subst hl0; subst hT0; subst hD0
  have loop2 : ∀ a, a ≤ (rC S 1) → ∀ S1, SE S S1 → rC S1 0 = 0 → G X 5 (ovR (cxT X) N o S1) sz 0 0 38 [(3, .int (nI a)), (1, .long (iterL (alD S h fr ps) (cnD S h) a)), (0, .ref o)] [] := by
    refine loop_up ?_
    intro a ih2 hk S1 hs h0
    refine g_iload_n hX dX2_digest_38 0 rfl ?_
    refine g_aload_n hX dX2_digest_39 2 rfl ?_
    refine g_get (ci := 2) hX rfl fin_X2 (ovR_o (S := S1)) 1 (by decide) fl_X2_41 rfl dX2_digest_40 ?_
    rw [show rC S1 1 = rC S 1 from hs.2.2.2.2.2.1]
    refine g_icmp_ge hX 83 dX2_digest_43 (by decide) (fun c43 => ?_) (fun c43 => ?_)
    · skip
      have hae : a = rC S 1 := by have h9 := (nI_leI (a := rC S 1) (b := a) (by omega) (by omega)).mp c43; omega
      subst hae
      refine g_aload_n hX dX2_digest_83 2 rfl ?_
      refine g_aload_n hX dX2_digest_84 2 rfl ?_
      refine g_get (ci := 2) hX rfl fin_X2 (ovR_o (S := S1)) 6 (by decide) fl_X2_80 rfl dX2_digest_85 ?_
      rw [show rC S1 4 = rC S 4 from hs.2.2.2.2.2.2.2.2]
      refine g_lload_n hX dX2_digest_88 1 rfl ?_
      refine g_callV [] hX (cr_digestFrom hX.st sz (S := S1) h (rC S 4) (iterL (alD S h fr ps) (cnD S h) (rC S 1)) (hs.tr ht) (by omega)) cw_X2_digestFrom cv_X2_digestFrom lk_X2_170 (ci := 2) rfl rfl ovR_o ⟨by omega, by omega⟩ ⟨by omega, by omega⟩ (Nat.le_of_ble_eq_true rfl) rfl dX2_digest_89 rfl (fun v89 M89 z89 hp89 hz89 hd89 => ?_)
      rw [hs.dg] at hp89
      obtain ⟨rfl, rfl, rfl⟩ := hp89
      show G X _ (ovR (cxT X) N o S1) sz (0 + 0) (0 + 0) 92 [(3, .int (nI (rC S 1))), (1, .long (iterL (alD S h fr ps) (cnD S h) (rC S 1))), (0, .ref o)] [.long (dgR S h (rC S 4) (iterL (alD S h fr ps) (cnD S h) (rC S 1)))]
      exact hF (some (.long (dgR S h (rC S 4) (iterL (alD S h fr ps) (cnD S h) (rC S 1))))) (ovR (cxT X) N o S1) sz _ _ _ _ .lreturn (⟨rfl, ⟨S1, rfl, hs, h0⟩, rfl⟩) (by omega) (by omega) ret_l dX2_digest_92
    · skip
      have ha2 : a < rC S 1 := by have h9 := mt (nI_leI (a := rC S 1) (b := a) (by omega) (by omega)).mpr c43; omega
      refine g_iconst (v := 0) hX dX2_digest_46 (by decide) ?_
      refine g_istore (L' := [(4, .int 0), (3, .int (nI a)), (1, .long (iterL (alD S h fr ps) (cnD S h) a)), (0, .ref o)]) hX dX2_digest_47 (by decide) rfl ?_
      have loop3 : ∀ w, w ≤ 9 → ∀ S1, SE S S1 → rC S1 0 = 0 → G X 5 (ovR (cxT X) N o S1) sz 0 0 49 [(4, .int (nI w)), (1, .long (iterL (fun u d => d * 31 + (alR S h (fr a) (ps a) a u).toInt64) (iterL (alD S h fr ps) (cnD S h) a) w)), (3, .int (nI a)), (0, .ref o)] [] := by
        refine loop_up ?_
        intro w ih3 hk3 S1 hs h0
        refine g_iload hX dX2_digest_49 0 rfl ?_
        refine g_bipush (v := 8) hX dX2_digest_51 (by decide) ?_
        refine g_icmp_gt hX 77 dX2_digest_53 (by decide) (fun c53 => ?_) (fun c53 => ?_)
        · skip
          have hwe : w = 9 := by have h9 := mt (nI_leI (a := w) (b := 8) (by omega) (by omega)).mpr (Int32.not_le.mpr c53); omega
          subst hwe
          refine g_iinc (v := nI (a + 1)) (L' := [(3, .int (nI (a + 1))), (4, .int (nI 9)), (1, .long (iterL (fun u d => d * 31 + (alR S h (fr a) (ps a) a u).toInt64) (iterL (alD S h fr ps) (cnD S h) a) 9)), (0, .ref o)]) hX dX2_digest_77 2 rfl (nI_1 _) (by decide) rfl ?_
          refine g_goto hX 38 dX2_digest_80 (by decide) ?_
          refine g_sub [0, 2, 3] rfl ?_
          rw [alD_e, ← iterL_s (alD S h fr ps) (cnD S h) a]
          exact ih2 (a + 1) (by omega) (by omega) S1 hs h0
        · skip
          have hw8 : w ≤ 8 := (nI_leI (a := w) (b := 8) (by omega) (by omega)).mp (Int32.not_lt.mp c53)
          refine g_lload_n hX dX2_digest_56 1 rfl ?_
          refine g_ldc2 hX kl_X2_168 dX2_digest_57 ?_
          refine g_lmul hX dX2_digest_60 ?_
          refine g_aload_n hX dX2_digest_61 3 rfl ?_
          refine g_iload_n hX dX2_digest_62 2 rfl ?_
          refine g_iload hX dX2_digest_63 0 rfl ?_
          refine g_callV [.long ((iterL (fun u d => d * 31 + (alR S h (fr a) (ps a) a u).toInt64) (iterL (alD S h fr ps) (cnD S h) a) w) * 31)] hX (cr_allot hX.st sz (S := S1) (h := h) (hs.tt ht) hh (by rw [hs.2.2.2.2.2.1]; exact hc) (by rw [hs.2.1]; exact hd) (a := a) (by omega) (fr := fr a) (ps := ps a) (fun h1 => by rw [hs.2.1] at h1; have h2 := hp a ha2 h1; exact ⟨hs.pth h2.1, by rw [hs.2.2.2.2.2.2.2.2]; exact h2.2⟩) w hw8) cw_X2_allotmentTold cv_X2_allotmentTold lk_X2_141 (ci := 2) rfl rfl ovR_o ⟨by omega, by omega⟩ ⟨by omega, by omega⟩ (Nat.le_of_ble_eq_true rfl) rfl dX2_digest_65 rfl (fun v65 M65 z65 hp65 hz65 hd65 => ?_)
          rw [hs.al] at hp65
          obtain ⟨rfl, ⟨S2, rfl, hs2, h02⟩, rfl⟩ := hp65
          show G X _ (ovR (cxT X) N o S2) sz (0 + 0) (0 + 0) 68 [(4, .int (nI w)), (1, .long (iterL (fun u d => d * 31 + (alR S h (fr a) (ps a) a u).toInt64) (iterL (alD S h fr ps) (cnD S h) a) w)), (3, .int (nI a)), (0, .ref o)] [.int (alR S h (fr a) (ps a) a w), .long ((iterL (fun u d => d * 31 + (alR S h (fr a) (ps a) a u).toInt64) (iterL (alD S h fr ps) (cnD S h) a) w) * 31)]
          refine g_i2l hX dX2_digest_68 ?_
          refine g_ladd hX dX2_digest_69 ?_
          refine g_lstore_n (L' := [(1, .long (((iterL (fun u d => d * 31 + (alR S h (fr a) (ps a) a u).toInt64) (iterL (alD S h fr ps) (cnD S h) a) w) * 31) + ((alR S h (fr a) (ps a) a w).toInt64))), (4, .int (nI w)), (3, .int (nI a)), (0, .ref o)]) hX dX2_digest_70 (by decide) rfl ?_
          refine g_iinc (v := nI (w + 1)) (L' := [(4, .int (nI (w + 1))), (1, .long (((iterL (fun u d => d * 31 + (alR S h (fr a) (ps a) a u).toInt64) (iterL (alD S h fr ps) (cnD S h) a) w) * 31) + ((alR S h (fr a) (ps a) a w).toInt64))), (3, .int (nI a)), (0, .ref o)]) hX dX2_digest_71 1 rfl (nI_1 _) (by decide) rfl ?_
          refine g_goto hX 49 dX2_digest_74 (by decide) ?_
          refine g_sub [0, 1, 2, 3] rfl ?_
          exact ih3 (w + 1) (by omega) (by omega) S2 (hs.trans hs2) (h02.trans h0)
      refine g_sub [0, 2, 1, 3] rfl ?_
      have h9 := loop3 0 (Nat.zero_le _) S1 hs h0
      rw [iterL_0 _ (iterL (alD S h fr ps) (cnD S h) a)] at h9
      exact h9
  have loop1 : ∀ k, k ≤ 9 → ∀ S1, SE S S1 → rC S1 0 = 0 → G X 5 (ovR (cxT X) N o S1) sz 0 0 11 [(3, .int (nI k)), (1, .long (iterL (fun u d => d * 31 + (cnR S h u).toInt64) 1303 k)), (0, .ref o)] [] := by
    refine loop_up ?_
    intro k ih hk S1 hs h0
    refine g_iload_n hX dX2_digest_11 0 rfl ?_
    refine g_bipush (v := 8) hX dX2_digest_12 (by decide) ?_
    refine g_icmp_gt hX 36 dX2_digest_14 (by decide) (fun c14 => ?_) (fun c14 => ?_)
    · skip
      have hke : k = 9 := by have h9 := mt (nI_leI (a := k) (b := 8) (by omega) (by omega)).mpr (Int32.not_le.mpr c14); omega
      subst hke
      refine g_iconst (v := 0) hX dX2_digest_36 (by decide) ?_
      refine g_istore_n (L' := [(3, .int 0), (1, .long (iterL (fun u d => d * 31 + (cnR S h u).toInt64) 1303 9)), (0, .ref o)]) hX dX2_digest_37 (by decide) rfl ?_
      refine g_sub [0, 1, 2] rfl ?_
      rw [cnD_e]
      have h9 := loop2 0 (Nat.zero_le _) S1 hs h0
      rw [iterL_0 _ (cnD S h)] at h9
      exact h9
    · skip
      have hk8 : k ≤ 8 := (nI_leI (a := k) (b := 8) (by omega) (by omega)).mp (Int32.not_lt.mp c14)
      refine g_lload_n hX dX2_digest_17 1 rfl ?_
      refine g_ldc2 hX kl_X2_168 dX2_digest_18 ?_
      refine g_lmul hX dX2_digest_21 ?_
      refine g_aload_n hX dX2_digest_22 2 rfl ?_
      refine g_iload_n hX dX2_digest_23 0 rfl ?_
      refine g_callV [.long ((iterL (fun u d => d * 31 + (cnR S h u).toInt64) 1303 k) * 31)] hX (cr_counted hX.st sz (S := S1) (h := h) (hs.tt ht) hh (by rw [hs.2.2.2.2.2.1]; exact hc) k hk8) cw_X2_counted cv_X2_counted lk_X2_165 (ci := 2) rfl rfl ovR_o ⟨by omega, by omega⟩ ⟨by omega, by omega⟩ (Nat.le_of_ble_eq_true rfl) rfl dX2_digest_24 rfl (fun v24 M24 z24 hp24 hz24 hd24 => ?_)
      rw [hs.cn] at hp24
      obtain ⟨rfl, ⟨r, rfl⟩, rfl⟩ := hp24
      show G X _ (ovR (cxT X) N o (uRf S1 r)) sz (0 + 0) (0 + 0) 27 [(3, .int (nI k)), (1, .long (iterL (fun u d => d * 31 + (cnR S h u).toInt64) 1303 k)), (0, .ref o)] [.int (cnR S h k), .long ((iterL (fun u d => d * 31 + (cnR S h u).toInt64) 1303 k) * 31)]
      refine g_i2l hX dX2_digest_27 ?_
      refine g_ladd hX dX2_digest_28 ?_
      refine g_lstore_n (L' := [(1, .long (((iterL (fun u d => d * 31 + (cnR S h u).toInt64) 1303 k) * 31) + ((cnR S h k).toInt64))), (3, .int (nI k)), (0, .ref o)]) hX dX2_digest_29 (by decide) rfl ?_
      refine g_iinc (v := nI (k + 1)) (L' := [(3, .int (nI (k + 1))), (1, .long (((iterL (fun u d => d * 31 + (cnR S h u).toInt64) 1303 k) * 31) + ((cnR S h k).toInt64))), (0, .ref o)]) hX dX2_digest_30 1 rfl (nI_1 _) (by decide) rfl ?_
      refine g_goto hX 11 dX2_digest_33 (by decide) ?_
      refine g_sub [0, 1, 2] rfl ?_
      exact ih (k + 1) (by omega) (by omega) (uRf S1 r) (hs.trans ⟨rfl, rfl, rfl, rfl, rfl, rfl, rfl, rfl, rfl⟩) h0
  show G X 5 (ovR (cxT X) N o S) sz 0 0 0 [(0, .ref o)] []
  refine g_aload_n hX dX2_digest_0 0 rfl ?_
  refine g_iconst (v := 0) hX dX2_digest_1 (by decide) ?_
  refine g_put (ci := 2) hX rfl fld_X2 (ovR_o (S := S)) 0 (by decide) fl_X2_38 rfl rfl rfl (Nat.le_of_ble_eq_true rfl) dX2_digest_2 ?_
  refine g_eqM (ovR_uC0 0 rfl) ?_
  refine g_ldc2 hX kl_X2_174 dX2_digest_5 ?_
  refine g_lstore_n (L' := [(1, .long 1303), (0, .ref o)]) hX dX2_digest_8 (by decide) rfl ?_
  refine g_iconst (v := 0) hX dX2_digest_9 (by decide) ?_
  refine g_istore_n (L' := [(3, .int 0), (1, .long 1303), (0, .ref o)]) hX dX2_digest_10 (by decide) rfl ?_
  refine g_sub [0, 1, 2] rfl ?_
  exact loop1 0 (Nat.zero_le _) (uC S 0 0) ⟨rfl, rfl, rfl, rfl, rfl, rfl, rfl, rfl, rfl⟩ rfl
