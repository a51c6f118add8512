set_option maxHeartbeats 4000000 in
set_option maxRecDepth 100000 in
theorem ct_append {l : Launch} (hl : l.stackTraces = false) {T : CT3} {D : va_G} {N : AH} {P : PS} (sz : Nat) (hw : Wf P) {q r : Nat} (hq : pD P q = true) (hr : pD P r = true) (hs : pS P q < pW P q) (hs2 : pW P q < 1000) (hch : ∀ k c, k < pS P q → pA P q k = some c → pD P c = true) : Ct l T D yX0_append cX0_append 2 none 1 23 0 0 [.ref q, .ref r] (ov T N P) sz (fun v M' z' => v = none ∧ M' = ov T N (sS (sH (sA P q (insF (pA P q) (pS P q) (pS P q) r)) r (some q)) q (pS P q + 1)) ∧ sz = z') := by
  refine Ct.ofX hl (by decide) (Nat.le_of_ble_eq_true rfl) ?_
  intro X hl0 hT0 hD0 hlt hX hF
  subst hl0; subst hT0; subst hD0
  show G X 2 (ov (cxT X) N P) sz 0 0 0 [(0, .ref q), (1, .ref r)] []
  refine g_aload_n hX dX0_append_0 0 rfl ?_
  refine g_aload_n hX dX0_append_1 0 rfl ?_
  refine g_get (ci := 0) hX rfl fin_X0 (ov_pc (P := P) hq) 3 (by decide) fl_X0_47 rfl dX0_append_2 ?_
  refine g_aload_n hX dX0_append_5 1 rfl ?_
  refine g_callV [] hX (ct_insert hX.st sz hw hq hr (Nat.le_refl _) hs hs2 hch) cw_X0_insert cv_X0_insert lk_X0_58 (ci := 0) rfl rfl (ov_pc (P := P) hq) ⟨by omega, by omega⟩ ⟨by omega, by omega⟩ (Nat.le_of_ble_eq_true rfl) rfl dX0_append_6 rfl (fun v6 M6 z6 hp6 hz6 hd6 => ?_)
  obtain ⟨rfl, rfl, rfl⟩ := hp6
  show G X _ (ov (cxT X) N (sS (sH (sA P q (insF (pA P q) (pS P q) (pS P q) r)) r (some q)) q (pS P q + 1))) sz (0 + 0) (0 + 0) 9 [(0, .ref q), (1, .ref r)] []
  exact hF none (ov (cxT X) N (sS (sH (sA P q (insF (pA P q) (pS P q) (pS P q) r)) r (some q)) q (pS P q + 1))) sz _ _ _ _ .return_ (⟨rfl, rfl, rfl⟩) (by omega) (by omega) ret_v dX0_append_9

set_option maxHeartbeats 4000000 in
set_option maxRecDepth 100000 in
theorem ct_takeOut {l : Launch} (hl : l.stackTraces = false) {T : CT3} {D : va_G} {N : AH} {P : PS} (sz : Nat) (hw : Wf P) {q r p : Nat} (hq : pD P q = true) (hr : pD P r = true) (hp : p < pS P q) (hpr : pA P q p = some r) (hs : pS P q ≤ pW P q) (hs2 : pW P q < 1000) (hch : ∀ k c, k < pS P q → pA P q k = some c → pD P c = true) : Ct l T D yX0_takeOut cX0_takeOut 4 (some (.object "NestedFrames$Piece")) 1 21 0 0 [.ref q, .int (nI p)] (ov T N P) sz (fun v M' z' => v = some (.ref r) ∧ M' = ov T N (sH (sS (sA P q (remF (pA P q) (pS P q) p)) q (pS P q - 1)) r none) ∧ sz = z') := by
  refine Ct.ofX hl (by decide) (Nat.le_of_ble_eq_true rfl) ?_
  intro X hl0 hT0 hD0 hlt hX hF
  subst hl0; subst hT0; subst hD0
  have loop : ∀ i, i ≤ (pS P q) → p < i → G X 4 (ov (cxT X) N (sA P q (dnF (pA P q) p i))) sz 0 0 16 [(3, .int (nI i)), (0, .ref q), (1, .int (nI p)), (2, .ref r)] [] := by
    refine loop_up ?_
    intro i ih hk h1
    refine g_iload_n hX dX0_takeOut_16 0 rfl ?_
    refine g_aload_n hX dX0_takeOut_17 1 rfl ?_
    refine g_get (ci := 0) hX rfl fin_X0 (ov_pc (P := (sA P q (dnF (pA P q) p i))) hq) 3 (by decide) fl_X0_47 rfl dX0_takeOut_18 ?_
    refine g_icmp_ge hX 53 dX0_takeOut_21 (by decide) (fun c21 => ?_) (fun c21 => ?_)
    · skip
      have his : i = pS P q := Nat.le_antisymm hk ((nI_leI (by omega) (by omega)).mp c21)
      subst his
      refine g_aload_n hX dX0_takeOut_53 1 rfl ?_
      refine g_dup hX dX0_takeOut_54 rfl ?_
      refine g_get (ci := 0) hX rfl fin_X0 (ov_pc (P := (sA P q (dnF (pA P q) p (pS P q)))) hq) 3 (by decide) fl_X0_47 rfl dX0_takeOut_55 ?_
      refine g_iconst (v := 1) hX dX0_takeOut_58 (by decide) ?_
      refine g_isub hX dX0_takeOut_59 ?_
      refine g_put (ci := 0) hX rfl fld_X0 (ov_pc (P := (sA P q (dnF (pA P q) p (pS P q)))) hq) 3 (by decide) fl_X0_47 rfl rfl rfl (Nat.le_of_ble_eq_true rfl) dX0_takeOut_60 ?_
      refine g_eqM (ov_sS (P := (sA P q (dnF (pA P q) p (pS P q)))) hq hw (pS P q - 1) (nI_m1 (show 0 < pS P q by omega))) ?_
      refine g_aload_n hX dX0_takeOut_63 1 rfl ?_
      refine g_get (ci := 0) hX rfl fin_X0 (ov_pc (P := (sS (sA P q (dnF (pA P q) p (pS P q))) q (pS P q - 1))) hq) 3 (by decide) fl_X0_47 rfl dX0_takeOut_64 ?_
      rw [pSq_sS]
      refine g_aload_n hX dX0_takeOut_67 1 rfl ?_
      refine g_get (ci := 0) hX rfl fin_X0 (ov_pc (P := (sS (sA P q (dnF (pA P q) p (pS P q))) q (pS P q - 1))) hq) 2 (by decide) fl_X0_18 rfl dX0_takeOut_68 ?_
      refine g_alen hX (ov_ar (P := (sS (sA P q (dnF (pA P q) p (pS P q))) q (pS P q - 1))) hw hq) dX0_takeOut_71 ?_
      refine g_icmp_ge hX 85 dX0_takeOut_72 (by decide) (fun c72 => absurd c72 (nI_ge (a := pS P q - 1) (b := pW P q) (by omega) (by omega))) (fun _ => ?_)
      refine g_aload_n hX dX0_takeOut_75 1 rfl ?_
      refine g_get (ci := 0) hX rfl fin_X0 (ov_pc (P := (sS (sA P q (dnF (pA P q) p (pS P q))) q (pS P q - 1))) hq) 2 (by decide) fl_X0_18 rfl dX0_takeOut_76 ?_
      refine g_aload_n hX dX0_takeOut_79 1 rfl ?_
      refine g_get (ci := 0) hX rfl fin_X0 (ov_pc (P := (sS (sA P q (dnF (pA P q) p (pS P q))) q (pS P q - 1))) hq) 3 (by decide) fl_X0_47 rfl dX0_takeOut_80 ?_
      rw [pSq_sS]
      refine g_null hX dX0_takeOut_83 ?_
      refine g_aastQ (r := none) hX (ov_ar (P := sS (sA P q (dnF (pA P q) p (pS P q))) q (pS P q - 1)) hw hq) (fun v9 h9 => by cases h9) (pS P q - 1) rfl (show pS P q - 1 < pW P q by omega) (show pW P q < 100000 by omega) dX0_takeOut_84 ?_
      refine g_eqM (ov_sA (P := sS (sA P q (dnF (pA P q) p (pS P q))) q (pS P q - 1)) (q := q) hq hw _) ?_
      rw [sA_sS, sA_sA]
      rw [show pA (sS (sA P q (dnF (pA P q) p (pS P q))) q (pS P q - 1)) q = dnF (pA P q) p (pS P q) from pAq_sA P q _, dnF_end hp]
      refine g_aload_n hX dX0_takeOut_85 3 rfl ?_
      refine g_null hX dX0_takeOut_86 ?_
      refine g_put (ci := 0) hX rfl fld_X0 (ov_pc (P := (sS (sA P q (remF (pA P q) (pS P q) p)) q (pS P q - 1))) hr) 4 (by decide) fl_X0_54 rfl (nar_rf _ none).1 (nar_rf _ none).2 (Nat.le_of_ble_eq_true rfl) dX0_takeOut_87 ?_
      refine g_eqM (ov_sH (P := (sS (sA P q (remF (pA P q) (pS P q) p)) q (pS P q - 1))) hr hw none) ?_
      refine g_aload_n hX dX0_takeOut_90 3 rfl ?_
      exact hF (some (.ref r)) (ov (cxT X) N (sH (sS (sA P q (remF (pA P q) (pS P q) p)) q (pS P q - 1)) r none)) sz _ _ _ _ .areturn (⟨rfl, rfl, rfl⟩) (by omega) (by omega) (ret_a (r := some r)) dX0_takeOut_91
    · skip
      have his : i < pS P q := by have h9 := mt (nI_leI (a := pS P q) (b := i) (by omega) (by omega)).mpr c21; omega
      refine g_iload_n hX dX0_takeOut_24 0 rfl ?_
      refine g_aload_n hX dX0_takeOut_25 1 rfl ?_
      refine g_get (ci := 0) hX rfl fin_X0 (ov_pc (P := (sA P q (dnF (pA P q) p i))) hq) 2 (by decide) fl_X0_18 rfl dX0_takeOut_26 ?_
      refine g_alen hX (ov_ar (P := (sA P q (dnF (pA P q) p i))) hw hq) dX0_takeOut_29 ?_
      refine g_icmp_ge hX 53 dX0_takeOut_30 (by decide) (fun c30 => absurd c30 (nI_ge (a := i) (b := pW P q) (by omega) (by omega))) (fun _ => ?_)
      refine g_aload_n hX dX0_takeOut_33 1 rfl ?_
      refine g_get (ci := 0) hX rfl fin_X0 (ov_pc (P := (sA P q (dnF (pA P q) p i))) hq) 2 (by decide) fl_X0_18 rfl dX0_takeOut_34 ?_
      refine g_iload_n hX dX0_takeOut_37 0 rfl ?_
      refine g_iconst (v := 1) hX dX0_takeOut_38 (by decide) ?_
      refine g_isub hX dX0_takeOut_39 ?_
      refine g_aload_n hX dX0_takeOut_40 1 rfl ?_
      refine g_get (ci := 0) hX rfl fin_X0 (ov_pc (P := (sA P q (dnF (pA P q) p i))) hq) 2 (by decide) fl_X0_18 rfl dX0_takeOut_41 ?_
      refine g_iload_n hX dX0_takeOut_44 0 rfl ?_
      refine g_aald hX (ov_ar (P := (sA P q (dnF (pA P q) p i))) hw hq) i rfl (show i < pW P q by omega) (show pW P q < 100000 by omega) dX0_takeOut_45 ?_
      rw [pAq_sA]
      have hval : dnF (pA P q) p i i = pA P q i := by unfold dnF; rw [if_neg (by omega)]
      refine g_aastQ (r := dnF (pA P q) p i i) hX (ov_ar (P := sA P q (dnF (pA P q) p i)) hw hq) (fun v9 h9 => ⟨_, ov_pc (P := sA P q (dnF (pA P q) p i)) (hch i v9 (by omega) (by rw [← hval]; exact h9))⟩) (i - 1) (nI_m1 (by omega)) (show i - 1 < pW P q by omega) (show pW P q < 100000 by omega) dX0_takeOut_46 ?_
      refine g_eqM (ov_sA (P := sA P q (dnF (pA P q) p i)) (q := q) hq hw _) ?_
      rw [sA_sA, pAq_sA, dnF_st h1]
      refine g_iinc (v := nI (i + 1)) (L' := [(3, .int (nI (i + 1))), (0, .ref q), (1, .int (nI p)), (2, .ref r)]) hX dX0_takeOut_47 0 rfl (nI_1 _) (by decide) rfl ?_
      refine g_goto hX 16 dX0_takeOut_50 (by decide) ?_
      refine g_sub [0, 1, 2, 3] rfl ?_
      exact ih (i + 1) (by omega) (by omega) (by omega)
  show G X 4 (ov (cxT X) N P) sz 0 0 0 [(0, .ref q), (1, .int (nI p))] []
  refine g_aload_n hX dX0_takeOut_0 0 rfl ?_
  refine g_iload_n hX dX0_takeOut_1 1 rfl ?_
  refine g_callV [] hX (ct_at hX.st sz hw (P := P) (q := q) (p := p) hq (by omega) hs hs2) cw_X0_at cv_X0_at lk_X0_50 (ci := 0) rfl rfl (ov_pc (P := P) hq) ⟨by omega, by omega⟩ ⟨by omega, by omega⟩ (Nat.le_of_ble_eq_true rfl) rfl dX0_takeOut_2 rfl (fun v2 M2 z2 hp2 hz2 hd2 => ?_)
  rw [if_pos (hp), hpr] at hp2
  obtain ⟨rfl, rfl, rfl⟩ := hp2
  show G X _ (ov (cxT X) N P) sz (0 + 0) (0 + 0) 5 [(0, .ref q), (1, .int (nI p))] [.ref r]
  refine g_astore_n (L' := [(2, .ref r), (0, .ref q), (1, .int (nI p))]) hX dX0_takeOut_5 (by decide) rfl ?_
  refine g_aload_n hX dX0_takeOut_6 0 rfl ?_
  refine g_ifnonnullR hX 12 dX0_takeOut_7 (by decide) ?_
  refine g_iload_n hX dX0_takeOut_12 2 rfl ?_
  refine g_iconst (v := 1) hX dX0_takeOut_13 (by decide) ?_
  refine g_iadd hX dX0_takeOut_14 ?_
  refine g_istore_n (L' := [(3, .int ((nI p) + 1)), (2, .ref r), (0, .ref q), (1, .int (nI p))]) hX dX0_takeOut_15 (by decide) rfl ?_
  rw [nI_1]
  refine g_sub [0, 2, 3, 1] rfl ?_
  have h0 := loop (p + 1) hp (by omega)
  rw [dnF_0, sA_self] at h0
  exact h0

set_option maxHeartbeats 4000000 in
set_option maxRecDepth 100000 in
theorem ct_widenTo {l : Launch} (hl : l.stackTraces = false) {T : CT3} {D : va_G} {N : AH} {P : PS} (sz : Nat) (hw : Wf P) {q r : Nat} (hq : pD P q = true) (hr : pD P r = true) (hqr : r ≠ q) : Ct l T D yX0_widenTo cX0_widenTo 2 none 1 21 0 0 [.ref q, .ref r] (ov T N P) sz (fun v M' z' => v = none ∧ M' = ov T N (sBx P q (hulB (pB P q) (pB P r))) ∧ sz = z') := by
  refine Ct.ofX hl (by decide) (Nat.le_of_ble_eq_true rfl) ?_
  intro X hl0 hT0 hD0 hlt hX hF
  subst hl0; subst hT0; subst hD0
  show G X 2 (ov (cxT X) N P) sz 0 0 0 [(0, .ref q), (1, .ref r)] []
  refine g_aload_n hX dX0_widenTo_0 0 rfl ?_
  refine g_aload_n hX dX0_widenTo_1 0 rfl ?_
  refine g_get (ci := 0) hX rfl fin_X0 (ov_pc (P := P) hq) 5 (by decide) fl_X0_22 rfl dX0_widenTo_2 ?_
  refine g_aload_n hX dX0_widenTo_5 1 rfl ?_
  refine g_get (ci := 0) hX rfl fin_X0 (ov_pc (P := P) hr) 5 (by decide) fl_X0_22 rfl dX0_widenTo_6 ?_
  refine g_minI [.ref q] hX lk_X0_44 (by omega) (by omega) (Nat.le_of_ble_eq_true rfl) ⟨by omega, by omega⟩ dX0_widenTo_9 ?_
  refine g_put (ci := 0) hX rfl fld_X0 (ov_pc (P := P) hq) 5 (by decide) fl_X0_22 rfl rfl rfl (Nat.le_of_ble_eq_true rfl) dX0_widenTo_12 ?_
  refine g_eqM (ov_sB (P := P) hq hw 0 (by decide) (minI (pB P q 0) (pB P r 0))) ?_
  refine g_aload_n hX dX0_widenTo_15 0 rfl ?_
  refine g_aload_n hX dX0_widenTo_16 0 rfl ?_
  refine g_get (ci := 0) hX rfl fin_X0 (ov_pc (P := (sB P q 0 (minI (pB P q 0) (pB P r 0)))) hq) 6 (by decide) fl_X0_25 rfl dX0_widenTo_17 ?_
  rw [show pB (sB P q 0 (minI (pB P q 0) (pB P r 0))) q 1 = pB P q 1 from by simp [pB_sB, va_up]]
  refine g_aload_n hX dX0_widenTo_20 1 rfl ?_
  refine g_get (ci := 0) hX rfl fin_X0 (ov_pc (P := (sB P q 0 (minI (pB P q 0) (pB P r 0)))) hr) 6 (by decide) fl_X0_25 rfl dX0_widenTo_21 ?_
  rw [show pB (sB P q 0 (minI (pB P q 0) (pB P r 0))) r 1 = pB P r 1 from by simp [pB_sB, va_up, hqr]]
  refine g_minI [.ref q] hX lk_X0_44 (by omega) (by omega) (Nat.le_of_ble_eq_true rfl) ⟨by omega, by omega⟩ dX0_widenTo_24 ?_
  refine g_put (ci := 0) hX rfl fld_X0 (ov_pc (P := (sB P q 0 (minI (pB P q 0) (pB P r 0)))) hq) 6 (by decide) fl_X0_25 rfl rfl rfl (Nat.le_of_ble_eq_true rfl) dX0_widenTo_27 ?_
  refine g_eqM (ov_sB (P := (sB P q 0 (minI (pB P q 0) (pB P r 0)))) hq hw 1 (by decide) (minI (pB P q 1) (pB P r 1))) ?_
  refine g_aload_n hX dX0_widenTo_30 0 rfl ?_
  refine g_aload_n hX dX0_widenTo_31 0 rfl ?_
  refine g_get (ci := 0) hX rfl fin_X0 (ov_pc (P := (sB (sB P q 0 (minI (pB P q 0) (pB P r 0))) q 1 (minI (pB P q 1) (pB P r 1)))) hq) 7 (by decide) fl_X0_28 rfl dX0_widenTo_32 ?_
  rw [show pB (sB (sB P q 0 (minI (pB P q 0) (pB P r 0))) q 1 (minI (pB P q 1) (pB P r 1))) q 2 = pB P q 2 from by simp [pB_sB, va_up]]
  refine g_aload_n hX dX0_widenTo_35 1 rfl ?_
  refine g_get (ci := 0) hX rfl fin_X0 (ov_pc (P := (sB (sB P q 0 (minI (pB P q 0) (pB P r 0))) q 1 (minI (pB P q 1) (pB P r 1)))) hr) 7 (by decide) fl_X0_28 rfl dX0_widenTo_36 ?_
  rw [show pB (sB (sB P q 0 (minI (pB P q 0) (pB P r 0))) q 1 (minI (pB P q 1) (pB P r 1))) r 2 = pB P r 2 from by simp [pB_sB, va_up, hqr]]
  refine g_maxI [.ref q] hX lk_X0_38 (by omega) (by omega) (Nat.le_of_ble_eq_true rfl) ⟨by omega, by omega⟩ dX0_widenTo_39 ?_
  refine g_put (ci := 0) hX rfl fld_X0 (ov_pc (P := (sB (sB P q 0 (minI (pB P q 0) (pB P r 0))) q 1 (minI (pB P q 1) (pB P r 1)))) hq) 7 (by decide) fl_X0_28 rfl rfl rfl (Nat.le_of_ble_eq_true rfl) dX0_widenTo_42 ?_
  refine g_eqM (ov_sB (P := (sB (sB P q 0 (minI (pB P q 0) (pB P r 0))) q 1 (minI (pB P q 1) (pB P r 1)))) hq hw 2 (by decide) (maxI (pB P q 2) (pB P r 2))) ?_
  refine g_aload_n hX dX0_widenTo_45 0 rfl ?_
  refine g_aload_n hX dX0_widenTo_46 0 rfl ?_
  refine g_get (ci := 0) hX rfl fin_X0 (ov_pc (P := (sB (sB (sB P q 0 (minI (pB P q 0) (pB P r 0))) q 1 (minI (pB P q 1) (pB P r 1))) q 2 (maxI (pB P q 2) (pB P r 2)))) hq) 8 (by decide) fl_X0_31 rfl dX0_widenTo_47 ?_
  rw [show pB (sB (sB (sB P q 0 (minI (pB P q 0) (pB P r 0))) q 1 (minI (pB P q 1) (pB P r 1))) q 2 (maxI (pB P q 2) (pB P r 2))) q 3 = pB P q 3 from by simp [pB_sB, va_up]]
  refine g_aload_n hX dX0_widenTo_50 1 rfl ?_
  refine g_get (ci := 0) hX rfl fin_X0 (ov_pc (P := (sB (sB (sB P q 0 (minI (pB P q 0) (pB P r 0))) q 1 (minI (pB P q 1) (pB P r 1))) q 2 (maxI (pB P q 2) (pB P r 2)))) hr) 8 (by decide) fl_X0_31 rfl dX0_widenTo_51 ?_
  rw [show pB (sB (sB (sB P q 0 (minI (pB P q 0) (pB P r 0))) q 1 (minI (pB P q 1) (pB P r 1))) q 2 (maxI (pB P q 2) (pB P r 2))) r 3 = pB P r 3 from by simp [pB_sB, va_up, hqr]]
  refine g_maxI [.ref q] hX lk_X0_38 (by omega) (by omega) (Nat.le_of_ble_eq_true rfl) ⟨by omega, by omega⟩ dX0_widenTo_54 ?_
  refine g_put (ci := 0) hX rfl fld_X0 (ov_pc (P := (sB (sB (sB P q 0 (minI (pB P q 0) (pB P r 0))) q 1 (minI (pB P q 1) (pB P r 1))) q 2 (maxI (pB P q 2) (pB P r 2)))) hq) 8 (by decide) fl_X0_31 rfl rfl rfl (Nat.le_of_ble_eq_true rfl) dX0_widenTo_57 ?_
  refine g_eqM (ov_sB (P := (sB (sB (sB P q 0 (minI (pB P q 0) (pB P r 0))) q 1 (minI (pB P q 1) (pB P r 1))) q 2 (maxI (pB P q 2) (pB P r 2)))) hq hw 3 (by decide) (maxI (pB P q 3) (pB P r 3))) ?_
  refine g_eqM (ov_sBx (bx := hulB (pB P q) (pB P r)) rfl rfl rfl rfl) ?_
  exact hF none (ov (cxT X) N (sBx P q (hulB (pB P q) (pB P r)))) sz _ _ _ _ .return_ (⟨rfl, rfl, rfl⟩) (by omega) (by omega) ret_v dX0_widenTo_60

set_option maxHeartbeats 4000000 in
set_option maxRecDepth 100000 in
theorem ct_lowerEdgeT {l : Launch} (hl : l.stackTraces = false) {T : CT3} {D : va_G} {N : AH} {P : PS} (sz : Nat) (hw : Wf P) {q : Nat} (hq : pD P q = true) : Ct l T D yX0_lowerEdge cX0_lowerEdge 2 (some .int) 0 0 0 0 [.ref q, .int 1] (ov T N P) sz (fun v M' z' => v = some (.int (lowE P q true)) ∧ M' = ov T N P ∧ sz = z') := by
  refine Ct.ofX hl (by decide) (Nat.le_of_ble_eq_true rfl) ?_
  intro X hl0 hT0 hD0 hlt hX hF
  subst hl0; subst hT0; subst hD0
  show G X 2 (ov (cxT X) N P) sz 0 0 0 [(0, .ref q), (1, .int 1)] []
  refine g_iload_n hX dX0_lowerEdge_0 1 rfl ?_
  refine g_if_eq hX 11 dX0_lowerEdge_1 (by decide) (fun c1 => absurd c1 (by decide)) (fun _ => ?_)
  refine g_aload_n hX dX0_lowerEdge_4 0 rfl ?_
  refine g_get (ci := 0) hX rfl fin_X0 (ov_pc (P := P) hq) 5 (by decide) fl_X0_22 rfl dX0_lowerEdge_5 ?_
  refine g_goto hX 15 dX0_lowerEdge_8 (by decide) ?_
  exact hF (some (.int (pB P q 0))) (ov (cxT X) N P) sz _ _ _ _ .ireturn (⟨rfl, rfl, rfl⟩) (by omega) (by omega) ret_i dX0_lowerEdge_15

set_option maxHeartbeats 4000000 in
set_option maxRecDepth 100000 in
theorem ct_lowerEdgeF {l : Launch} (hl : l.stackTraces = false) {T : CT3} {D : va_G} {N : AH} {P : PS} (sz : Nat) (hw : Wf P) {q : Nat} (hq : pD P q = true) : Ct l T D yX0_lowerEdge cX0_lowerEdge 2 (some .int) 0 0 0 0 [.ref q, .int 0] (ov T N P) sz (fun v M' z' => v = some (.int (lowE P q false)) ∧ M' = ov T N P ∧ sz = z') := by
  refine Ct.ofX hl (by decide) (Nat.le_of_ble_eq_true rfl) ?_
  intro X hl0 hT0 hD0 hlt hX hF
  subst hl0; subst hT0; subst hD0
  show G X 2 (ov (cxT X) N P) sz 0 0 0 [(0, .ref q), (1, .int 0)] []
  refine g_iload_n hX dX0_lowerEdge_0 1 rfl ?_
  refine g_if_eq hX 11 dX0_lowerEdge_1 (by decide) (fun _ => ?_) (fun c1 => absurd rfl c1)
  refine g_aload_n hX dX0_lowerEdge_11 0 rfl ?_
  refine g_get (ci := 0) hX rfl fin_X0 (ov_pc (P := P) hq) 6 (by decide) fl_X0_25 rfl dX0_lowerEdge_12 ?_
  exact hF (some (.int (pB P q 1))) (ov (cxT X) N P) sz _ _ _ _ .ireturn (⟨rfl, rfl, rfl⟩) (by omega) (by omega) ret_i dX0_lowerEdge_15
