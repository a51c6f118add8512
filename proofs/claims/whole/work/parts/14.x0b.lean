set_option maxHeartbeats 4000000 in
set_option maxRecDepth 100000 in
theorem ct_placeOf {l : Launch} (hl : l.stackTraces = false) {T : CT3} {D : va_G} {N : AH} {P : PS} (sz : Nat) (hw : Wf P) {q r k0 : Nat} (hq : pD P q = true) (hs : pS P q ≤ pW P q) (hs2 : pW P q < 1000) (hk0 : k0 < pS P q) (hr : pA P q k0 = some r) (hmin : ∀ j, j < k0 → pA P q j ≠ some r) : Ct l T D yX0_placeOf cX0_placeOf 3 (some .int) 1 21 0 0 [.ref q, .ref r] (ov T N P) sz (fun v M' z' => v = some (.int (nI k0)) ∧ M' = ov T N P ∧ sz = z') := by
  refine Ct.ofX hl (by decide) (Nat.le_of_ble_eq_true rfl) ?_
  intro X hl0 hT0 hD0 hlt hX hF
  subst hl0; subst hT0; subst hD0
  have loop : ∀ k, k ≤ k0 → G X 3 (ov (cxT X) N P) sz 0 0 2 [(2, .int (nI k)), (0, .ref q), (1, .ref r)] [] := by
    refine loop_up ?_
    intro k ih hk
    refine g_iload_n hX dX0_placeOf_2 0 rfl ?_
    refine g_aload_n hX dX0_placeOf_3 1 rfl ?_
    refine g_get (ci := 0) hX rfl fin_X0 (ov_pc (P := P) hq) 3 (by decide) fl_X0_47 rfl dX0_placeOf_4 ?_
    refine g_icmp_ge hX 27 dX0_placeOf_7 (by decide) (fun c7 => absurd c7 (nI_ge (by omega) (by omega))) (fun _ => ?_)
    refine g_aload_n hX dX0_placeOf_10 1 rfl ?_
    refine g_iload_n hX dX0_placeOf_11 0 rfl ?_
    refine g_callV [] hX (ct_at hX.st sz hw (P := P) (q := q) (p := k) hq (by omega) hs hs2) cw_X0_at cv_X0_at lk_X0_50 (ci := 0) rfl rfl (ov_pc (P := P) hq) ⟨by omega, by omega⟩ ⟨by omega, by omega⟩ (Nat.le_of_ble_eq_true rfl) rfl dX0_placeOf_12 rfl (fun v12 M12 z12 hp12 hz12 hd12 => ?_)
    rw [if_pos (by omega)] at hp12
    obtain ⟨rfl, rfl, rfl⟩ := hp12
    show G X _ (ov (cxT X) N P) sz (0 + 0) (0 + 0) 15 [(2, .int (nI k)), (0, .ref q), (1, .ref r)] [va_rf (pA P q k)]
    refine g_aload_n hX dX0_placeOf_15 2 rfl ?_
    refine g_acmp_ne (rx := (pA P q k)) (ry := some r) hX 21 dX0_placeOf_16 (by decide) (fun c16 => ?_) (fun c16 => ?_)
    · skip
      have hne : k ≠ k0 := fun e => c16 (by rw [e]; exact hr)
      refine g_iinc (v := nI (k + 1)) (L' := [(2, .int (nI (k + 1))), (0, .ref q), (1, .ref r)]) hX dX0_placeOf_21 0 rfl (nI_1 _) (by decide) rfl ?_
      refine g_goto hX 2 dX0_placeOf_24 (by decide) ?_
      refine g_sub [0, 1, 2] rfl ?_
      exact ih (k + 1) (by omega) (by omega)
    · skip
      refine g_iload_n hX dX0_placeOf_19 0 rfl ?_
      exact hF (some (.int (nI k))) (ov (cxT X) N P) sz _ _ _ _ .ireturn (⟨by rw [show k = k0 from Nat.le_antisymm hk (Nat.not_lt.mp fun h => hmin k h c16)], rfl, rfl⟩) (by omega) (by omega) ret_i dX0_placeOf_20
  show G X 3 (ov (cxT X) N P) sz 0 0 0 [(0, .ref q), (1, .ref r)] []
  refine g_iconst (v := 0) hX dX0_placeOf_0 (by decide) ?_
  refine g_istore_n (L' := [(2, .int 0), (0, .ref q), (1, .ref r)]) hX dX0_placeOf_1 (by decide) rfl ?_
  refine g_sub [0, 1, 2] rfl ?_
  exact loop 0 (Nat.zero_le _)

set_option maxHeartbeats 4000000 in
set_option maxRecDepth 100000 in
theorem ct_insert {l : Launch} (hl : l.stackTraces = false) {T : CT3} {D : va_G} {N : AH} {P : PS} (sz : Nat) (hw : Wf P) {q r p : Nat} (hq : pD P q = true) (hr : pD P r = true) (hp : p ≤ pS P q) (hs : pS P q < pW P q) (hs2 : pW P q < 1000) (hch : ∀ k c, k < pS P q → pA P q k = some c → pD P c = true) : Ct l T D yX0_insert cX0_insert 4 none 0 0 0 0 [.ref q, .int (nI p), .ref r] (ov T N P) sz (fun v M' z' => v = none ∧ M' = ov T N (sS (sH (sA P q (insF (pA P q) (pS P q) p r)) r (some q)) q (pS P q + 1)) ∧ sz = z') := by
  refine Ct.ofX hl (by decide) (Nat.le_of_ble_eq_true rfl) ?_
  intro X hl0 hT0 hD0 hlt hX hF
  subst hl0; subst hT0; subst hD0
  have loop : ∀ i, p ≤ i → i ≤ pS P q → G X 4 (ov (cxT X) N (sA P q (shF (pA P q) (pS P q) i))) sz 0 0 30 [(3, .int (nI i)), (0, .ref q), (1, .int (nI p)), (2, .ref r)] [] := by
    refine loop_down ?_
    intro i ih h1 h2
    refine g_iload_n hX dX0_insert_30 0 rfl ?_
    refine g_iload_n hX dX0_insert_31 2 rfl ?_
    refine g_icmp_le hX 55 dX0_insert_32 (by decide) (fun c32 => ?_) (fun c32 => ?_)
    · skip
      have hip : i = p := Nat.le_antisymm ((nI_leI (by omega) (by omega)).mp c32) h1
      subst hip
      refine g_aload_n hX dX0_insert_55 1 rfl ?_
      refine g_get (ci := 0) hX rfl fin_X0 (ov_pc (P := (sA P q (shF (pA P q) (pS P q) i))) hq) 2 (by decide) fl_X0_18 rfl dX0_insert_56 ?_
      refine g_iload_n hX dX0_insert_59 2 rfl ?_
      refine g_aload_n hX dX0_insert_60 3 rfl ?_
      refine g_aastQ (r := some r) hX (ov_ar (P := sA P q (shF (pA P q) (pS P q) i)) hw hq) (fun v9 h9 => ⟨_, ov_pc (by cases h9; exact hr)⟩) i rfl (show i < pW P q by omega) (show pW P q < 100000 by omega) dX0_insert_61 ?_
      refine g_eqM (ov_sA (P := sA P q (shF (pA P q) (pS P q) i)) (q := q) hq hw _) ?_
      rw [sA_sA, pAq_sA, shF_end h2]
      refine g_aload_n hX dX0_insert_62 3 rfl ?_
      refine g_aload_n hX dX0_insert_63 1 rfl ?_
      refine g_put (ci := 0) hX rfl fld_X0 (ov_pc (P := (sA P q (insF (pA P q) (pS P q) i r))) hr) 4 (by decide) fl_X0_54 rfl (nar_rf _ (some q)).1 (nar_rf _ (some q)).2 (Nat.le_of_ble_eq_true rfl) dX0_insert_64 ?_
      refine g_eqM (ov_sH (P := (sA P q (insF (pA P q) (pS P q) i r))) hr hw (some q)) ?_
      refine g_aload_n hX dX0_insert_67 1 rfl ?_
      refine g_dup hX dX0_insert_68 rfl ?_
      refine g_get (ci := 0) hX rfl fin_X0 (ov_pc (P := (sH (sA P q (insF (pA P q) (pS P q) i r)) r (some q))) hq) 3 (by decide) fl_X0_47 rfl dX0_insert_69 ?_
      refine g_iconst (v := 1) hX dX0_insert_72 (by decide) ?_
      refine g_iadd hX dX0_insert_73 ?_
      refine g_put (ci := 0) hX rfl fld_X0 (ov_pc (P := (sH (sA P q (insF (pA P q) (pS P q) i r)) r (some q))) hq) 3 (by decide) fl_X0_47 rfl rfl rfl (Nat.le_of_ble_eq_true rfl) dX0_insert_74 ?_
      refine g_eqM (ov_sS (P := (sH (sA P q (insF (pA P q) (pS P q) i r)) r (some q))) hq hw (pS P q + 1) (nI_1 _)) ?_
      exact hF none (ov (cxT X) N (sS (sH (sA P q (insF (pA P q) (pS P q) i r)) r (some q)) q (pS P q + 1))) sz _ _ _ _ .return_ (⟨rfl, rfl, rfl⟩) (by omega) (by omega) ret_v dX0_insert_77
    · skip
      have hip : p < i := by have h9 := mt (nI_leI (a := i) (b := p) (by omega) (by omega)).mpr c32; omega
      refine g_aload_n hX dX0_insert_35 1 rfl ?_
      refine g_get (ci := 0) hX rfl fin_X0 (ov_pc (P := (sA P q (shF (pA P q) (pS P q) i))) hq) 2 (by decide) fl_X0_18 rfl dX0_insert_36 ?_
      refine g_iload_n hX dX0_insert_39 0 rfl ?_
      refine g_aload_n hX dX0_insert_40 1 rfl ?_
      refine g_get (ci := 0) hX rfl fin_X0 (ov_pc (P := (sA P q (shF (pA P q) (pS P q) i))) hq) 2 (by decide) fl_X0_18 rfl dX0_insert_41 ?_
      refine g_iload_n hX dX0_insert_44 0 rfl ?_
      refine g_iconst (v := 1) hX dX0_insert_45 (by decide) ?_
      refine g_isub hX dX0_insert_46 ?_
      refine g_aald hX (ov_ar (P := (sA P q (shF (pA P q) (pS P q) i))) hw hq) (i - 1) (nI_m1 (by omega)) (show i - 1 < pW P q by omega) (show pW P q < 100000 by omega) dX0_insert_47 ?_
      rw [pAq_sA]
      have hval : (shF (pA P q) (pS P q) i (i - 1)) = pA P q (i - 1) := by unfold shF; rw [if_neg (by omega)]
      refine g_aastQ (r := (shF (pA P q) (pS P q) i (i - 1))) hX (ov_ar (P := sA P q (shF (pA P q) (pS P q) i)) hw hq) (fun v9 h9 => ⟨_, ov_pc (P := sA P q (shF (pA P q) (pS P q) i)) (hch (i - 1) v9 (by omega) (by rw [← hval]; exact h9))⟩) i rfl (show i < pW P q by omega) (show pW P q < 100000 by omega) dX0_insert_48 ?_
      refine g_eqM (ov_sA (P := sA P q (shF (pA P q) (pS P q) i)) (q := q) hq hw _) ?_
      rw [sA_sA, pAq_sA, shF_st (by omega) h2]
      refine g_iinc (v := nI (i - 1)) (L' := [(3, .int (nI (i - 1))), (0, .ref q), (1, .int (nI p)), (2, .ref r)]) hX dX0_insert_49 0 rfl (nI_p1 (by omega)) (by decide) rfl ?_
      refine g_goto hX 30 dX0_insert_52 (by decide) ?_
      refine g_sub [0, 1, 2, 3] rfl ?_
      exact ih (i - 1) (by omega) (by omega) (by omega)
  show G X 4 (ov (cxT X) N P) sz 0 0 0 [(0, .ref q), (1, .int (nI p)), (2, .ref r)] []
  refine g_iload_n hX dX0_insert_0 1 rfl ?_
  refine g_if_lt hX 24 dX0_insert_1 (by decide) (fun c1 => absurd c1 (nI_pos (by omega))) (fun _ => ?_)
  refine g_iload_n hX dX0_insert_4 1 rfl ?_
  refine g_aload_n hX dX0_insert_5 0 rfl ?_
  refine g_get (ci := 0) hX rfl fin_X0 (ov_pc (P := P) hq) 3 (by decide) fl_X0_47 rfl dX0_insert_6 ?_
  refine g_icmp_gt hX 24 dX0_insert_9 (by decide) (fun c9 => absurd c9 (nI_nlt (by omega) (by omega))) (fun _ => ?_)
  refine g_aload_n hX dX0_insert_12 0 rfl ?_
  refine g_get (ci := 0) hX rfl fin_X0 (ov_pc (P := P) hq) 3 (by decide) fl_X0_47 rfl dX0_insert_13 ?_
  refine g_aload_n hX dX0_insert_16 0 rfl ?_
  refine g_get (ci := 0) hX rfl fin_X0 (ov_pc (P := P) hq) 2 (by decide) fl_X0_18 rfl dX0_insert_17 ?_
  refine g_alen hX (ov_ar (P := P) hw hq) dX0_insert_20 ?_
  refine g_icmp_lt hX 25 dX0_insert_21 (by decide) (fun _ => ?_) (fun c21 => absurd (nI_lt (by omega) (by omega)) c21)
  refine g_aload_n hX dX0_insert_25 0 rfl ?_
  refine g_get (ci := 0) hX rfl fin_X0 (ov_pc (P := P) hq) 3 (by decide) fl_X0_47 rfl dX0_insert_26 ?_
  refine g_istore_n (L' := [(3, .int (nI (pS P q))), (0, .ref q), (1, .int (nI p)), (2, .ref r)]) hX dX0_insert_29 (by decide) rfl ?_
  refine g_sub [0, 1, 2, 3] rfl ?_
  have h0 := loop (pS P q) hp (Nat.le_refl _)
  rw [shF_s, sA_self] at h0
  exact h0
