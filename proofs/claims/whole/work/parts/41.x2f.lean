set_option maxHeartbeats 4000000 in
set_option maxRecDepth 100000 in
theorem cr_splitOff {l : Launch} (hl : l.stackTraces = false) {T : CT3} {D : va_G} {N : AH} {o : Nat} {S : RS} (sz : Nat) {n f : Nat} (ht : TrR S n f) (h5 : rM S f = 5) (hmd : rC S 3 < 400) (hm0 : rM S (rC S 3) = 0) (hne : f ≠ rC S 3) (hn : n < 1000) : Ct l T D yX2_splitOff cX2_splitOff 4 (some .int) (2 * n + 3) (49 * n + 71) 0 0 [.ref o, .int (nI f)] (ovR T N o S) sz (fun v M' z' => v = some (.int (nI (rC S 3))) ∧ M' = ovR T N o (spR S n f) ∧ sz = z') := by
  refine Ct.ofX hl (by decide) (Nat.le_of_ble_eq_true rfl) ?_
  intro X hl0 hT0 hD0 hlt hX hF
  subst hl0; subst hT0; subst hD0
  have hf := ht.f
  show G X 4 (ovR (cxT X) N o S) sz 0 0 0 [(0, .ref o), (1, .int (nI f))] []
  refine g_aload_n hX dX2_splitOff_0 0 rfl ?_
  refine g_iload_n hX dX2_splitOff_1 1 rfl ?_
  refine g_aload_n hX dX2_splitOff_2 0 rfl ?_
  refine g_iload_n hX dX2_splitOff_3 1 rfl ?_
  refine g_iconst (v := 0) hX dX2_splitOff_4 (by decide) ?_
  refine g_callV [.int (nI f), .ref o] hX (cr_spread n ht (s := 0) (by omega) (by decide) hn hX.st sz) cw_X2_spread cv_X2_spread lk_X2_86 (ci := 2) rfl rfl ovR_o ⟨by omega, by omega⟩ ⟨by omega, by omega⟩ (Nat.le_of_ble_eq_true rfl) rfl dX2_splitOff_5 rfl (fun v5 M5 z5 hp5 hz5 hd5 => ?_)
  obtain ⟨rfl, rfl, rfl⟩ := hp5
  show G X _ (ovR (cxT X) N o S) sz (0 + 0) (0 + 0) 8 [(0, .ref o), (1, .int (nI f))] [.int (sprR S n f 0), .int (nI f), .ref o]
  refine g_aload_n hX dX2_splitOff_8 0 rfl ?_
  refine g_iload_n hX dX2_splitOff_9 1 rfl ?_
  refine g_iconst (v := 1) hX dX2_splitOff_10 (by decide) ?_
  refine g_callV [.int (sprR S n f 0), .int (nI f), .ref o] hX (cr_spread n ht (s := 1) (by omega) (by decide) hn hX.st sz) cw_X2_spread cv_X2_spread lk_X2_86 (ci := 2) rfl rfl ovR_o ⟨by omega, by omega⟩ ⟨by omega, by omega⟩ (Nat.le_of_ble_eq_true rfl) rfl dX2_splitOff_11 rfl (fun v11 M11 z11 hp11 hz11 hd11 => ?_)
  obtain ⟨rfl, rfl, rfl⟩ := hp11
  show G X _ (ovR (cxT X) N o S) sz ((0 + 0) + 0) ((0 + 0) + 0) 14 [(0, .ref o), (1, .int (nI f))] [.int (sprR S n f 1), .int (sprR S n f 0), .int (nI f), .ref o]
  refine g_icmp_lt hX 21 dX2_splitOff_14 (by decide) (fun c14 => ?_) (fun c14 => ?_)
  · skip
    have hsd : sdR S n f = 1 := by unfold sdR; rw [if_neg (Int32.not_le.mpr c14)]
    refine g_iconst (v := 1) hX dX2_splitOff_21 (by decide) ?_
    refine g_callV [] hX (cr_sort hX.st sz (s := 1) ht (by omega) (by decide) hn) cw_X2_sort cv_X2_sort lk_X2_89 (ci := 2) rfl rfl ovR_o ⟨by omega, by omega⟩ ⟨by omega, by omega⟩ (Nat.le_of_ble_eq_true rfl) rfl dX2_splitOff_22 rfl (fun v22 M22 z22 hp22 hz22 hd22 => ?_)
    rw [show bsG (fun x => kidE S n x 1) (fun k => rK S (5 * f + k)) (rM S f - 1) = sgR S n f from by unfold sgR; rw [hsd]] at hp22
    obtain ⟨rfl, rfl, rfl⟩ := hp22
    show G X _ (ovR (cxT X) N o (blkR S f (sgR S n f))) sz (((0 + 0) + 0) + 0) (((0 + 0) + 0) + 0) 25 [(0, .ref o), (1, .int (nI f))] []
    refine g_aload_n hX dX2_splitOff_25 0 rfl ?_
    refine g_get (ci := 2) hX rfl fin_X2 (ovR_o (S := (blkR S f (sgR S n f)))) 5 (by decide) fl_X2_16 rfl dX2_splitOff_26 ?_
    refine g_istore_n (L' := [(2, .int (nI (rC S 3))), (0, .ref o), (1, .int (nI f))]) hX dX2_splitOff_29 (by decide) rfl ?_
    refine g_aload_n hX dX2_splitOff_30 1 rfl ?_
    refine g_dup hX dX2_splitOff_31 rfl ?_
    refine g_get (ci := 2) hX rfl fin_X2 (ovR_o (S := (blkR S f (sgR S n f)))) 5 (by decide) fl_X2_16 rfl dX2_splitOff_32 ?_
    refine g_iconst (v := 1) hX dX2_splitOff_35 (by decide) ?_
    refine g_iadd hX dX2_splitOff_36 ?_
    refine g_put (ci := 2) hX rfl fld_X2 (ovR_o (S := (blkR S f (sgR S n f)))) 5 (by decide) fl_X2_16 rfl rfl rfl (Nat.le_of_ble_eq_true rfl) dX2_splitOff_37 ?_
    refine g_eqM (ovR_uC3 (rC S 3 + 1) (nI_1 _)) ?_
    show G X _ (ovR (cxT X) N o (uC (blkR S f (sgR S n f)) 3 (rC S 3 + 1))) sz (((0 + 0) + 0) + 0) (((0 + 0) + 0) + 0) 40 [(2, .int (nI (rC S 3))), (0, .ref o), (1, .int (nI f))] []
    refine g_aload_n hX dX2_splitOff_40 1 rfl ?_
    refine g_get (ci := 2) hX rfl fin_X2 (ovR_o (S := (uC (blkR S f (sgR S n f)) 3 (rC S 3 + 1)))) 9 (by decide) fl_X2_26 rfl dX2_splitOff_41 ?_
    refine g_iload_n hX dX2_splitOff_44 0 rfl ?_
    refine g_aload_n hX dX2_splitOff_45 1 rfl ?_
    refine g_get (ci := 2) hX rfl fin_X2 (ovR_o (S := (uC (blkR S f (sgR S n f)) 3 (rC S 3 + 1)))) 9 (by decide) fl_X2_26 rfl dX2_splitOff_46 ?_
    refine g_iload_n hX dX2_splitOff_49 2 rfl ?_
    refine g_iald hX (ovR_at (S := (uC (blkR S f (sgR S n f)) 3 (rC S 3 + 1))) 5 rfl) f rfl (by omega) (by decide) dX2_splitOff_50 ?_
    refine g_iast hX (ovR_at (S := (uC (blkR S f (sgR S n f)) 3 (rC S 3 + 1))) 5 rfl) (rC S 3) rfl (by omega) (by decide) dX2_splitOff_51 ?_
    refine g_eqM (ovR_uG (rC S 3) (rG S f) rfl) ?_
    show G X _ (ovR (cxT X) N o (sq3 S n f)) sz (((0 + 0) + 0) + 0) (((0 + 0) + 0) + 0) 52 [(2, .int (nI (rC S 3))), (0, .ref o), (1, .int (nI f))] []
    refine g_iconst (v := 3) hX dX2_splitOff_52 (by decide) ?_
    refine g_istore_n (L' := [(3, .int 3), (2, .int (nI (rC S 3))), (0, .ref o), (1, .int (nI f))]) hX dX2_splitOff_53 (by decide) rfl ?_
    refine g_iload_n hX dX2_splitOff_54 0 rfl ?_
    refine g_iconst (v := 5) hX dX2_splitOff_55 (by decide) ?_
    refine g_icmp_ge hX 79 dX2_splitOff_56 (by decide) (fun c56 => absurd c56 (by decide)) (fun _ => ?_)
    refine g_aload_n hX dX2_splitOff_59 2 rfl ?_
    refine g_iload_n hX dX2_splitOff_60 1 rfl ?_
    refine g_iload_n hX dX2_splitOff_61 0 rfl ?_
    refine g_iconst (v := 3) hX dX2_splitOff_62 (by decide) ?_
    refine g_isub hX dX2_splitOff_63 ?_
    rw [show (3 : Int32) - 3 = 0 from by decide]
    show G X _ (ovR (cxT X) N o (sq3 S n f)) sz (((0 + 0) + 0) + 0) (((0 + 0) + 0) + 0) 64 [(3, .int 3), (2, .int (nI (rC S 3))), (0, .ref o), (1, .int (nI f))] [.int 0, .int (nI (rC S 3)), .ref o]
    refine g_aload_n hX dX2_splitOff_64 2 rfl ?_
    refine g_iload_n hX dX2_splitOff_65 3 rfl ?_
    refine g_iload_n hX dX2_splitOff_66 0 rfl ?_
    refine g_callV [.int 0, .int (nI (rC S 3)), .ref o] hX (cr_held hX.st sz (S := sq3 S n f) (f := f) (p := 3) (by omega)) cw_X2_held cv_X2_held lk_X2_44 (ci := 2) rfl rfl ovR_o ⟨by omega, by omega⟩ ⟨by omega, by omega⟩ (Nat.le_of_ble_eq_true rfl) rfl dX2_splitOff_67 rfl (fun v67 M67 z67 hp67 hz67 hd67 => ?_)
    rw [sq3_K (by decide)] at hp67
    obtain ⟨rfl, rfl, rfl⟩ := hp67
    show G X _ (ovR (cxT X) N o (sq3 S n f)) sz ((((0 + 0) + 0) + 0) + 0) ((((0 + 0) + 0) + 0) + 0) 70 [(3, .int 3), (2, .int (nI (rC S 3))), (0, .ref o), (1, .int (nI f))] [.int (nI (sgR S n f 3)), .int 0, .int (nI (rC S 3)), .ref o]
    refine g_callV [] hX (cr_put hX.st sz (S := sq3 S n f) (f := rC S 3) (p := 0) (x := sgR S n f 3) hmd (by rw [sq3_m hm0]; decide) (by rw [sq3_m hm0]; decide)) cw_X2_put cv_X2_put lk_X2_93 (ci := 2) rfl rfl ovR_o ⟨by omega, by omega⟩ ⟨by omega, by omega⟩ (Nat.le_of_ble_eq_true rfl) rfl dX2_splitOff_70 rfl (fun v70 M70 z70 hp70 hz70 hd70 => ?_)
    rw [sq3_m hm0] at hp70
    obtain ⟨rfl, rfl, rfl⟩ := hp70
    show G X _ (ovR (cxT X) N o (sq4 S n f)) sz (((((0 + 0) + 0) + 0) + 0) + 0) (((((0 + 0) + 0) + 0) + 0) + 0) 73 [(3, .int 3), (2, .int (nI (rC S 3))), (0, .ref o), (1, .int (nI f))] []
    refine g_iinc (v := 4) (L' := [(3, .int 4), (2, .int (nI (rC S 3))), (0, .ref o), (1, .int (nI f))]) hX dX2_splitOff_73 0 rfl rfl (by decide) rfl ?_
    refine g_goto hX 54 dX2_splitOff_76 (by decide) ?_
    refine g_iload_n hX dX2_splitOff_54 0 rfl ?_
    refine g_iconst (v := 5) hX dX2_splitOff_55 (by decide) ?_
    refine g_icmp_ge hX 79 dX2_splitOff_56 (by decide) (fun c56 => absurd c56 (by decide)) (fun _ => ?_)
    refine g_aload_n hX dX2_splitOff_59 2 rfl ?_
    refine g_iload_n hX dX2_splitOff_60 1 rfl ?_
    refine g_iload_n hX dX2_splitOff_61 0 rfl ?_
    refine g_iconst (v := 3) hX dX2_splitOff_62 (by decide) ?_
    refine g_isub hX dX2_splitOff_63 ?_
    rw [show (4 : Int32) - 3 = 1 from by decide]
    show G X _ (ovR (cxT X) N o (sq4 S n f)) sz (((((0 + 0) + 0) + 0) + 0) + 0) (((((0 + 0) + 0) + 0) + 0) + 0) 64 [(3, .int 4), (2, .int (nI (rC S 3))), (0, .ref o), (1, .int (nI f))] [.int 1, .int (nI (rC S 3)), .ref o]
    refine g_aload_n hX dX2_splitOff_64 2 rfl ?_
    refine g_iload_n hX dX2_splitOff_65 3 rfl ?_
    refine g_iload_n hX dX2_splitOff_66 0 rfl ?_
    refine g_callV [.int 1, .int (nI (rC S 3)), .ref o] hX (cr_held hX.st sz (S := sq4 S n f) (f := f) (p := 4) (by omega)) cw_X2_held cv_X2_held lk_X2_44 (ci := 2) rfl rfl ovR_o ⟨by omega, by omega⟩ ⟨by omega, by omega⟩ (Nat.le_of_ble_eq_true rfl) rfl dX2_splitOff_67 rfl (fun v67 M67 z67 hp67 hz67 hd67 => ?_)
    rw [sq4_K (by decide) hne] at hp67
    obtain ⟨rfl, rfl, rfl⟩ := hp67
    show G X _ (ovR (cxT X) N o (sq4 S n f)) sz ((((((0 + 0) + 0) + 0) + 0) + 0) + 0) ((((((0 + 0) + 0) + 0) + 0) + 0) + 0) 70 [(3, .int 4), (2, .int (nI (rC S 3))), (0, .ref o), (1, .int (nI f))] [.int (nI (sgR S n f 4)), .int 1, .int (nI (rC S 3)), .ref o]
    refine g_callV [] hX (cr_put hX.st sz (S := sq4 S n f) (f := rC S 3) (p := 1) (x := sgR S n f 4) hmd (by rw [sq4_m]; decide) (by rw [sq4_m]; decide)) cw_X2_put cv_X2_put lk_X2_93 (ci := 2) rfl rfl ovR_o ⟨by omega, by omega⟩ ⟨by omega, by omega⟩ (Nat.le_of_ble_eq_true rfl) rfl dX2_splitOff_70 rfl (fun v70 M70 z70 hp70 hz70 hd70 => ?_)
    rw [sq4_m] at hp70
    obtain ⟨rfl, rfl, rfl⟩ := hp70
    show G X _ (ovR (cxT X) N o (sq5 S n f)) sz (((((((0 + 0) + 0) + 0) + 0) + 0) + 0) + 0) (((((((0 + 0) + 0) + 0) + 0) + 0) + 0) + 0) 73 [(3, .int 4), (2, .int (nI (rC S 3))), (0, .ref o), (1, .int (nI f))] []
    refine g_iinc (v := 5) (L' := [(3, .int 5), (2, .int (nI (rC S 3))), (0, .ref o), (1, .int (nI f))]) hX dX2_splitOff_73 0 rfl rfl (by decide) rfl ?_
    refine g_goto hX 54 dX2_splitOff_76 (by decide) ?_
    refine g_iload_n hX dX2_splitOff_54 0 rfl ?_
    refine g_iconst (v := 5) hX dX2_splitOff_55 (by decide) ?_
    refine g_icmp_ge hX 79 dX2_splitOff_56 (by decide) (fun _ => ?_) (fun c56 => absurd (by decide) c56)
    refine g_aload_n hX dX2_splitOff_79 2 rfl ?_
    refine g_get (ci := 2) hX rfl fin_X2 (ovR_o (S := (sq5 S n f))) 7 (by decide) fl_X2_20 rfl dX2_splitOff_80 ?_
    refine g_iload_n hX dX2_splitOff_83 3 rfl ?_
    refine g_iconst (v := 3) hX dX2_splitOff_84 (by decide) ?_
    refine g_iast hX (ovR_at (S := (sq5 S n f)) 3 rfl) f rfl (by omega) (by decide) dX2_splitOff_85 ?_
    refine g_eqM (ovR_uM f 3 rfl) ?_
    show G X _ (ovR (cxT X) N o (uM (sq5 S n f) f 3)) sz (((((((0 + 0) + 0) + 0) + 0) + 0) + 0) + 0) (((((((0 + 0) + 0) + 0) + 0) + 0) + 0) + 0) 86 [(3, .int 5), (2, .int (nI (rC S 3))), (0, .ref o), (1, .int (nI f))] []
    refine g_aload_n hX dX2_splitOff_86 2 rfl ?_
    refine g_dup hX dX2_splitOff_87 rfl ?_
    refine g_get (ci := 2) hX rfl fin_X2 (ovR_o (S := (uM (sq5 S n f) f 3))) 2 (by decide) fl_X2_97 rfl dX2_splitOff_88 ?_
    refine g_iconst (v := 1) hX dX2_splitOff_91 (by decide) ?_
    refine g_iadd hX dX2_splitOff_92 ?_
    refine g_put (ci := 2) hX rfl fld_X2 (ovR_o (S := (uM (sq5 S n f) f 3))) 2 (by decide) fl_X2_97 rfl rfl rfl (Nat.le_of_ble_eq_true rfl) dX2_splitOff_93 ?_
    refine g_eqM (ovR_uC2 (rC S 2 + 1) (nI_1 _)) ?_
    show G X _ (ovR (cxT X) N o (spR S n f)) sz (((((((0 + 0) + 0) + 0) + 0) + 0) + 0) + 0) (((((((0 + 0) + 0) + 0) + 0) + 0) + 0) + 0) 96 [(3, .int 5), (2, .int (nI (rC S 3))), (0, .ref o), (1, .int (nI f))] []
    refine g_iload_n hX dX2_splitOff_96 1 rfl ?_
    exact hF (some (.int (nI (rC S 3)))) (ovR (cxT X) N o (spR S n f)) sz _ _ _ _ .ireturn (⟨rfl, rfl, rfl⟩) (by omega) (by omega) ret_i dX2_splitOff_97
  · skip
    have hsd : sdR S n f = 0 := by unfold sdR; rw [if_pos (Int32.not_lt.mp c14)]
    refine g_iconst (v := 0) hX dX2_splitOff_17 (by decide) ?_
    refine g_goto hX 22 dX2_splitOff_18 (by decide) ?_
    refine g_callV [] hX (cr_sort hX.st sz (s := 0) ht (by omega) (by decide) hn) cw_X2_sort cv_X2_sort lk_X2_89 (ci := 2) rfl rfl ovR_o ⟨by omega, by omega⟩ ⟨by omega, by omega⟩ (Nat.le_of_ble_eq_true rfl) rfl dX2_splitOff_22 rfl (fun v22 M22 z22 hp22 hz22 hd22 => ?_)
    rw [show bsG (fun x => kidE S n x 0) (fun k => rK S (5 * f + k)) (rM S f - 1) = sgR S n f from by unfold sgR; rw [hsd]] at hp22
    obtain ⟨rfl, rfl, rfl⟩ := hp22
    show G X _ (ovR (cxT X) N o (blkR S f (sgR S n f))) sz (((0 + 0) + 0) + 0) (((0 + 0) + 0) + 0) 25 [(0, .ref o), (1, .int (nI f))] []
    refine g_aload_n hX dX2_splitOff_25 0 rfl ?_
    refine g_get (ci := 2) hX rfl fin_X2 (ovR_o (S := (blkR S f (sgR S n f)))) 5 (by decide) fl_X2_16 rfl dX2_splitOff_26 ?_
    refine g_istore_n (L' := [(2, .int (nI (rC S 3))), (0, .ref o), (1, .int (nI f))]) hX dX2_splitOff_29 (by decide) rfl ?_
    refine g_aload_n hX dX2_splitOff_30 1 rfl ?_
    refine g_dup hX dX2_splitOff_31 rfl ?_
    refine g_get (ci := 2) hX rfl fin_X2 (ovR_o (S := (blkR S f (sgR S n f)))) 5 (by decide) fl_X2_16 rfl dX2_splitOff_32 ?_
    refine g_iconst (v := 1) hX dX2_splitOff_35 (by decide) ?_
    refine g_iadd hX dX2_splitOff_36 ?_
    refine g_put (ci := 2) hX rfl fld_X2 (ovR_o (S := (blkR S f (sgR S n f)))) 5 (by decide) fl_X2_16 rfl rfl rfl (Nat.le_of_ble_eq_true rfl) dX2_splitOff_37 ?_
    refine g_eqM (ovR_uC3 (rC S 3 + 1) (nI_1 _)) ?_
    show G X _ (ovR (cxT X) N o (uC (blkR S f (sgR S n f)) 3 (rC S 3 + 1))) sz (((0 + 0) + 0) + 0) (((0 + 0) + 0) + 0) 40 [(2, .int (nI (rC S 3))), (0, .ref o), (1, .int (nI f))] []
    refine g_aload_n hX dX2_splitOff_40 1 rfl ?_
    refine g_get (ci := 2) hX rfl fin_X2 (ovR_o (S := (uC (blkR S f (sgR S n f)) 3 (rC S 3 + 1)))) 9 (by decide) fl_X2_26 rfl dX2_splitOff_41 ?_
    refine g_iload_n hX dX2_splitOff_44 0 rfl ?_
    refine g_aload_n hX dX2_splitOff_45 1 rfl ?_
    refine g_get (ci := 2) hX rfl fin_X2 (ovR_o (S := (uC (blkR S f (sgR S n f)) 3 (rC S 3 + 1)))) 9 (by decide) fl_X2_26 rfl dX2_splitOff_46 ?_
    refine g_iload_n hX dX2_splitOff_49 2 rfl ?_
    refine g_iald hX (ovR_at (S := (uC (blkR S f (sgR S n f)) 3 (rC S 3 + 1))) 5 rfl) f rfl (by omega) (by decide) dX2_splitOff_50 ?_
    refine g_iast hX (ovR_at (S := (uC (blkR S f (sgR S n f)) 3 (rC S 3 + 1))) 5 rfl) (rC S 3) rfl (by omega) (by decide) dX2_splitOff_51 ?_
    refine g_eqM (ovR_uG (rC S 3) (rG S f) rfl) ?_
    show G X _ (ovR (cxT X) N o (sq3 S n f)) sz (((0 + 0) + 0) + 0) (((0 + 0) + 0) + 0) 52 [(2, .int (nI (rC S 3))), (0, .ref o), (1, .int (nI f))] []
    refine g_iconst (v := 3) hX dX2_splitOff_52 (by decide) ?_
    refine g_istore_n (L' := [(3, .int 3), (2, .int (nI (rC S 3))), (0, .ref o), (1, .int (nI f))]) hX dX2_splitOff_53 (by decide) rfl ?_
    refine g_iload_n hX dX2_splitOff_54 0 rfl ?_
    refine g_iconst (v := 5) hX dX2_splitOff_55 (by decide) ?_
    refine g_icmp_ge hX 79 dX2_splitOff_56 (by decide) (fun c56 => absurd c56 (by decide)) (fun _ => ?_)
    refine g_aload_n hX dX2_splitOff_59 2 rfl ?_
    refine g_iload_n hX dX2_splitOff_60 1 rfl ?_
    refine g_iload_n hX dX2_splitOff_61 0 rfl ?_
    refine g_iconst (v := 3) hX dX2_splitOff_62 (by decide) ?_
    refine g_isub hX dX2_splitOff_63 ?_
    rw [show (3 : Int32) - 3 = 0 from by decide]
    show G X _ (ovR (cxT X) N o (sq3 S n f)) sz (((0 + 0) + 0) + 0) (((0 + 0) + 0) + 0) 64 [(3, .int 3), (2, .int (nI (rC S 3))), (0, .ref o), (1, .int (nI f))] [.int 0, .int (nI (rC S 3)), .ref o]
    refine g_aload_n hX dX2_splitOff_64 2 rfl ?_
    refine g_iload_n hX dX2_splitOff_65 3 rfl ?_
    refine g_iload_n hX dX2_splitOff_66 0 rfl ?_
    refine g_callV [.int 0, .int (nI (rC S 3)), .ref o] hX (cr_held hX.st sz (S := sq3 S n f) (f := f) (p := 3) (by omega)) cw_X2_held cv_X2_held lk_X2_44 (ci := 2) rfl rfl ovR_o ⟨by omega, by omega⟩ ⟨by omega, by omega⟩ (Nat.le_of_ble_eq_true rfl) rfl dX2_splitOff_67 rfl (fun v67 M67 z67 hp67 hz67 hd67 => ?_)
    rw [sq3_K (by decide)] at hp67
    obtain ⟨rfl, rfl, rfl⟩ := hp67
    show G X _ (ovR (cxT X) N o (sq3 S n f)) sz ((((0 + 0) + 0) + 0) + 0) ((((0 + 0) + 0) + 0) + 0) 70 [(3, .int 3), (2, .int (nI (rC S 3))), (0, .ref o), (1, .int (nI f))] [.int (nI (sgR S n f 3)), .int 0, .int (nI (rC S 3)), .ref o]
    refine g_callV [] hX (cr_put hX.st sz (S := sq3 S n f) (f := rC S 3) (p := 0) (x := sgR S n f 3) hmd (by rw [sq3_m hm0]; decide) (by rw [sq3_m hm0]; decide)) cw_X2_put cv_X2_put lk_X2_93 (ci := 2) rfl rfl ovR_o ⟨by omega, by omega⟩ ⟨by omega, by omega⟩ (Nat.le_of_ble_eq_true rfl) rfl dX2_splitOff_70 rfl (fun v70 M70 z70 hp70 hz70 hd70 => ?_)
    rw [sq3_m hm0] at hp70
    obtain ⟨rfl, rfl, rfl⟩ := hp70
    show G X _ (ovR (cxT X) N o (sq4 S n f)) sz (((((0 + 0) + 0) + 0) + 0) + 0) (((((0 + 0) + 0) + 0) + 0) + 0) 73 [(3, .int 3), (2, .int (nI (rC S 3))), (0, .ref o), (1, .int (nI f))] []
    refine g_iinc (v := 4) (L' := [(3, .int 4), (2, .int (nI (rC S 3))), (0, .ref o), (1, .int (nI f))]) hX dX2_splitOff_73 0 rfl rfl (by decide) rfl ?_
    refine g_goto hX 54 dX2_splitOff_76 (by decide) ?_
    refine g_iload_n hX dX2_splitOff_54 0 rfl ?_
    refine g_iconst (v := 5) hX dX2_splitOff_55 (by decide) ?_
    refine g_icmp_ge hX 79 dX2_splitOff_56 (by decide) (fun c56 => absurd c56 (by decide)) (fun _ => ?_)
    refine g_aload_n hX dX2_splitOff_59 2 rfl ?_
    refine g_iload_n hX dX2_splitOff_60 1 rfl ?_
    refine g_iload_n hX dX2_splitOff_61 0 rfl ?_
    refine g_iconst (v := 3) hX dX2_splitOff_62 (by decide) ?_
    refine g_isub hX dX2_splitOff_63 ?_
    rw [show (4 : Int32) - 3 = 1 from by decide]
    show G X _ (ovR (cxT X) N o (sq4 S n f)) sz (((((0 + 0) + 0) + 0) + 0) + 0) (((((0 + 0) + 0) + 0) + 0) + 0) 64 [(3, .int 4), (2, .int (nI (rC S 3))), (0, .ref o), (1, .int (nI f))] [.int 1, .int (nI (rC S 3)), .ref o]
    refine g_aload_n hX dX2_splitOff_64 2 rfl ?_
    refine g_iload_n hX dX2_splitOff_65 3 rfl ?_
    refine g_iload_n hX dX2_splitOff_66 0 rfl ?_
    refine g_callV [.int 1, .int (nI (rC S 3)), .ref o] hX (cr_held hX.st sz (S := sq4 S n f) (f := f) (p := 4) (by omega)) cw_X2_held cv_X2_held lk_X2_44 (ci := 2) rfl rfl ovR_o ⟨by omega, by omega⟩ ⟨by omega, by omega⟩ (Nat.le_of_ble_eq_true rfl) rfl dX2_splitOff_67 rfl (fun v67 M67 z67 hp67 hz67 hd67 => ?_)
    rw [sq4_K (by decide) hne] at hp67
    obtain ⟨rfl, rfl, rfl⟩ := hp67
    show G X _ (ovR (cxT X) N o (sq4 S n f)) sz ((((((0 + 0) + 0) + 0) + 0) + 0) + 0) ((((((0 + 0) + 0) + 0) + 0) + 0) + 0) 70 [(3, .int 4), (2, .int (nI (rC S 3))), (0, .ref o), (1, .int (nI f))] [.int (nI (sgR S n f 4)), .int 1, .int (nI (rC S 3)), .ref o]
    refine g_callV [] hX (cr_put hX.st sz (S := sq4 S n f) (f := rC S 3) (p := 1) (x := sgR S n f 4) hmd (by rw [sq4_m]; decide) (by rw [sq4_m]; decide)) cw_X2_put cv_X2_put lk_X2_93 (ci := 2) rfl rfl ovR_o ⟨by omega, by omega⟩ ⟨by omega, by omega⟩ (Nat.le_of_ble_eq_true rfl) rfl dX2_splitOff_70 rfl (fun v70 M70 z70 hp70 hz70 hd70 => ?_)
    rw [sq4_m] at hp70
    obtain ⟨rfl, rfl, rfl⟩ := hp70
    show G X _ (ovR (cxT X) N o (sq5 S n f)) sz (((((((0 + 0) + 0) + 0) + 0) + 0) + 0) + 0) (((((((0 + 0) + 0) + 0) + 0) + 0) + 0) + 0) 73 [(3, .int 4), (2, .int (nI (rC S 3))), (0, .ref o), (1, .int (nI f))] []
    refine g_iinc (v := 5) (L' := [(3, .int 5), (2, .int (nI (rC S 3))), (0, .ref o), (1, .int (nI f))]) hX dX2_splitOff_73 0 rfl rfl (by decide) rfl ?_
    refine g_goto hX 54 dX2_splitOff_76 (by decide) ?_
    refine g_iload_n hX dX2_splitOff_54 0 rfl ?_
    refine g_iconst (v := 5) hX dX2_splitOff_55 (by decide) ?_
    refine g_icmp_ge hX 79 dX2_splitOff_56 (by decide) (fun _ => ?_) (fun c56 => absurd (by decide) c56)
    refine g_aload_n hX dX2_splitOff_79 2 rfl ?_
    refine g_get (ci := 2) hX rfl fin_X2 (ovR_o (S := (sq5 S n f))) 7 (by decide) fl_X2_20 rfl dX2_splitOff_80 ?_
    refine g_iload_n hX dX2_splitOff_83 3 rfl ?_
    refine g_iconst (v := 3) hX dX2_splitOff_84 (by decide) ?_
    refine g_iast hX (ovR_at (S := (sq5 S n f)) 3 rfl) f rfl (by omega) (by decide) dX2_splitOff_85 ?_
    refine g_eqM (ovR_uM f 3 rfl) ?_
    show G X _ (ovR (cxT X) N o (uM (sq5 S n f) f 3)) sz (((((((0 + 0) + 0) + 0) + 0) + 0) + 0) + 0) (((((((0 + 0) + 0) + 0) + 0) + 0) + 0) + 0) 86 [(3, .int 5), (2, .int (nI (rC S 3))), (0, .ref o), (1, .int (nI f))] []
    refine g_aload_n hX dX2_splitOff_86 2 rfl ?_
    refine g_dup hX dX2_splitOff_87 rfl ?_
    refine g_get (ci := 2) hX rfl fin_X2 (ovR_o (S := (uM (sq5 S n f) f 3))) 2 (by decide) fl_X2_97 rfl dX2_splitOff_88 ?_
    refine g_iconst (v := 1) hX dX2_splitOff_91 (by decide) ?_
    refine g_iadd hX dX2_splitOff_92 ?_
    refine g_put (ci := 2) hX rfl fld_X2 (ovR_o (S := (uM (sq5 S n f) f 3))) 2 (by decide) fl_X2_97 rfl rfl rfl (Nat.le_of_ble_eq_true rfl) dX2_splitOff_93 ?_
    refine g_eqM (ovR_uC2 (rC S 2 + 1) (nI_1 _)) ?_
    show G X _ (ovR (cxT X) N o (spR S n f)) sz (((((((0 + 0) + 0) + 0) + 0) + 0) + 0) + 0) (((((((0 + 0) + 0) + 0) + 0) + 0) + 0) + 0) 96 [(3, .int 5), (2, .int (nI (rC S 3))), (0, .ref o), (1, .int (nI f))] []
    refine g_iload_n hX dX2_splitOff_96 1 rfl ?_
    exact hF (some (.int (nI (rC S 3)))) (ovR (cxT X) N o (spR S n f)) sz _ _ _ _ .ireturn (⟨rfl, rfl, rfl⟩) (by omega) (by omega) ret_i dX2_splitOff_97

set_option maxHeartbeats 4000000 in
set_option maxRecDepth 100000 in
theorem cr_sum2 {l : Launch} (hl : l.stackTraces = false) {T : CT3} {D : va_G} {N : AH} {o : Nat} (sz : Nat) : ∀ (n f : Nat) (S : RS), TrR S n f → n < 1000 → Ct l T D yX2_sum cX2_sum 7 (some .int) (3 * n + 6) (60 * n + 130) 0 0 [.ref o, .int (nI f), .int 2] (ovR T N o S) sz (fun v M' z' => v = some (.int (s2R S n f)) ∧ (∃ r, M' = ovR T N o (uRf S r)) ∧ sz = z') := by
  intro n
  induction n with
  | zero =>
    intro f S ht hn
    have hf := ht.f
    have hg := ht.g
    have hm5 := ht.m
    refine Ct.ofX hl (by decide) (Nat.le_of_ble_eq_true rfl) ?_
    intro X hl0 hT0 hD0 hlt hX hF
    subst hl0; subst hT0; subst hD0
    show G X 7 (ovR (cxT X) N o S) sz 0 0 0 [(0, .ref o), (1, .int (nI f)), (2, .int 2)] []
    refine g_iload_n hX dX2_sum_0 2 rfl ?_
    refine g_if_ne hX 8 dX2_sum_1 (by decide) (fun _ => ?_) (fun c1 => absurd c1 (by decide))
    refine g_iload_n hX dX2_sum_8 2 rfl ?_
    refine g_iconst (v := 1) hX dX2_sum_9 (by decide) ?_
    refine g_icmp_ne hX 21 dX2_sum_10 (by decide) (fun _ => ?_) (fun c10 => absurd c10 (by decide))
    refine g_iconst (v := 0) hX dX2_sum_21 (by decide) ?_
    refine g_istore_n (L' := [(3, .int 0), (0, .ref o), (1, .int (nI f)), (2, .int 2)]) hX dX2_sum_22 (by decide) rfl ?_
    refine g_iconst (v := 0) hX dX2_sum_23 (by decide) ?_
    refine g_istore (L' := [(4, .int 0), (3, .int 0), (0, .ref o), (1, .int (nI f)), (2, .int 2)]) hX dX2_sum_24 (by decide) rfl ?_
    refine g_iload hX dX2_sum_26 0 rfl ?_
    refine g_aload_n hX dX2_sum_28 2 rfl ?_
    refine g_get (ci := 2) hX rfl fin_X2 (ovR_o (S := S)) 7 (by decide) fl_X2_20 rfl dX2_sum_29 ?_
    refine g_iload_n hX dX2_sum_32 3 rfl ?_
    refine g_iald hX (ovR_at (S := S) 3 rfl) f rfl (by omega) (by decide) dX2_sum_33 ?_
    refine g_icmp_ge hX 149 dX2_sum_34 (by decide) (fun c34 => ?_) (fun c34 => ?_)
    · skip
      refine g_iload_n hX dX2_sum_149 1 rfl ?_
      exact hF (some (.int 0)) (ovR (cxT X) N o S) sz _ _ _ _ .ireturn (⟨rfl, ⟨rR S, by rw [uRf_self]⟩, rfl⟩) (by omega) (by omega) ret_i dX2_sum_150
    · skip
      refine g_aload_n hX dX2_sum_37 2 rfl ?_
      refine g_get (ci := 2) hX rfl fin_X2 (ovR_o (S := S)) 9 (by decide) fl_X2_26 rfl dX2_sum_38 ?_
      refine g_iload_n hX dX2_sum_41 3 rfl ?_
      refine g_iald hX (ovR_at (S := S) 5 rfl) f rfl (by omega) (by decide) dX2_sum_42 ?_
      rw [hg]
      refine g_if_le hX 149 dX2_sum_43 (by decide) (fun _ => ?_) (fun c43 => absurd (by decide) c43)
      refine g_iload_n hX dX2_sum_149 1 rfl ?_
      exact hF (some (.int 0)) (ovR (cxT X) N o S) sz _ _ _ _ .ireturn (⟨rfl, ⟨rR S, by rw [uRf_self]⟩, rfl⟩) (by omega) (by omega) ret_i dX2_sum_150
  | succ n ihn =>
    intro f S ht hn
    have hf := ht.f
    have hg := ht.g
    have hm5 := ht.m
    have hm0 := ht.m0
    refine Ct.ofX hl (by decide) (Nat.le_of_ble_eq_true rfl) ?_
    intro X hl0 hT0 hD0 hlt hX hF
    subst hl0; subst hT0; subst hD0
    have loop : ∀ k, k ≤ (rM S f) → ∀ r, G X 7 (ovR (cxT X) N o (uRf S r)) sz 0 0 26 [(4, .int (nI k)), (3, .int (s2A S (fun j => s2R S n (rK S (5 * f + j))) n f k)), (0, .ref o), (1, .int (nI f)), (2, .int 2)] [] := by
      refine loop_up ?_
      intro k ih hk r
      refine g_iload hX dX2_sum_26 0 rfl ?_
      refine g_aload_n hX dX2_sum_28 2 rfl ?_
      refine g_get (ci := 2) hX rfl fin_X2 (ovR_o (S := (uRf S r))) 7 (by decide) fl_X2_20 rfl dX2_sum_29 ?_
      refine g_iload_n hX dX2_sum_32 3 rfl ?_
      refine g_iald hX (ovR_at (S := (uRf S r)) 3 rfl) f rfl (by omega) (by decide) dX2_sum_33 ?_
      refine g_icmp_ge hX 149 dX2_sum_34 (by decide) (fun c34 => ?_) (fun c34 => ?_)
      · skip
        have hke : k = rM S f := by have h9 := (nI_leI (a := rM S f) (b := k) (by omega) (by omega)).mp c34; omega
        subst hke
        refine g_iload_n hX dX2_sum_149 1 rfl ?_
        exact hF (some (.int (s2A S (fun j => s2R S n (rK S (5 * f + j))) n f (rM S f)))) (ovR (cxT X) N o (uRf S r)) sz _ _ _ _ .ireturn (⟨rfl, ⟨r, rfl⟩, rfl⟩) (by omega) (by omega) ret_i dX2_sum_150
      · skip
        have hk2 : k < rM S f := by have h9 := mt (nI_leI (a := rM S f) (b := k) (by omega) (by omega)).mpr c34; omega
        refine g_aload_n hX dX2_sum_37 2 rfl ?_
        refine g_get (ci := 2) hX rfl fin_X2 (ovR_o (S := (uRf S r))) 9 (by decide) fl_X2_26 rfl dX2_sum_38 ?_
        refine g_iload_n hX dX2_sum_41 3 rfl ?_
        refine g_iald hX (ovR_at (S := (uRf S r)) 5 rfl) f rfl (by omega) (by decide) dX2_sum_42 ?_
        rw [show rG (uRf S r) f = n + 1 from hg]
        refine g_if_le hX 149 dX2_sum_43 (by decide) (fun c43 => absurd c43 (nI_nle (by omega) (by omega))) (fun _ => ?_)
        refine g_aload_n hX dX2_sum_46 2 rfl ?_
        refine g_iload_n hX dX2_sum_47 3 rfl ?_
        refine g_iload hX dX2_sum_48 0 rfl ?_
        refine g_callV [] hX (cr_held hX.st sz (S := uRf S r) (f := f) (p := k) (by omega)) cw_X2_held cv_X2_held lk_X2_44 (ci := 2) rfl rfl ovR_o ⟨by omega, by omega⟩ ⟨by omega, by omega⟩ (Nat.le_of_ble_eq_true rfl) rfl dX2_sum_50 rfl (fun v50 M50 z50 hp50 hz50 hd50 => ?_)
        obtain ⟨rfl, rfl, rfl⟩ := hp50
        show G X _ (ovR (cxT X) N o (uRf S r)) sz (0 + 0) (0 + 0) 53 [(4, .int (nI k)), (3, .int (s2A S (fun j => s2R S n (rK S (5 * f + j))) n f k)), (0, .ref o), (1, .int (nI f)), (2, .int 2)] [.int (nI (rK S (5 * f + k)))]
        refine g_istore (L' := [(5, .int (nI (rK S (5 * f + k)))), (4, .int (nI k)), (3, .int (s2A S (fun j => s2R S n (rK S (5 * f + j))) n f k)), (0, .ref o), (1, .int (nI f)), (2, .int 2)]) hX dX2_sum_53 (by decide) rfl ?_
        refine g_iload_n hX dX2_sum_55 2 rfl ?_
        refine g_aload_n hX dX2_sum_56 3 rfl ?_
        refine g_iload hX dX2_sum_57 0 rfl ?_
        refine g_iload_n hX dX2_sum_59 5 rfl ?_
        refine g_callV [.int (s2A S (fun j => s2R S n (rK S (5 * f + j))) n f k)] hX (ihn (rK S (5 * f + k)) (uRf S r) (TrR.cg (S := S) (S' := uRf S r) rfl rfl rfl (ht.k hk2)) (by omega)) cw_X2_sum cv_X2_sum lk_X2_159 (ci := 2) rfl rfl ovR_o ⟨by omega, by omega⟩ ⟨by omega, by omega⟩ (Nat.le_of_ble_eq_true rfl) rfl dX2_sum_60 rfl (fun v60 M60 z60 hp60 hz60 hd60 => ?_)
        rw [s2R_cg (S := S) (S' := uRf S r) rfl rfl rfl] at hp60
        obtain ⟨rfl, ⟨r2, rfl⟩, rfl⟩ := hp60
        show G X _ (ovR (cxT X) N o (uRf S r2)) sz ((0 + 0) + 0) ((0 + 0) + 0) 63 [(5, .int (nI (rK S (5 * f + k)))), (4, .int (nI k)), (3, .int (s2A S (fun j => s2R S n (rK S (5 * f + j))) n f k)), (0, .ref o), (1, .int (nI f)), (2, .int 2)] [.int (s2R S n (rK S (5 * f + k))), .int (s2A S (fun j => s2R S n (rK S (5 * f + j))) n f k)]
        refine g_iadd hX dX2_sum_63 ?_
        refine g_istore_n (L' := [(3, .int ((s2A S (fun j => s2R S n (rK S (5 * f + j))) n f k) + (s2R S n (rK S (5 * f + k))))), (5, .int (nI (rK S (5 * f + k)))), (4, .int (nI k)), (0, .ref o), (1, .int (nI f)), (2, .int 2)]) hX dX2_sum_64 (by decide) rfl ?_
        refine g_iload_n hX dX2_sum_65 5 rfl ?_
        refine g_iconst (v := 2) hX dX2_sum_66 (by decide) ?_
        refine g_icmp_ge hX 73 dX2_sum_67 (by decide) (fun _ => ?_) (fun c67 => absurd (by decide) c67)
        refine g_aload_n hX dX2_sum_73 3 rfl ?_
        refine g_aload_n hX dX2_sum_74 3 rfl ?_
        refine g_iload hX dX2_sum_75 1 rfl ?_
        refine g_iconst (v := 0) hX dX2_sum_77 (by decide) ?_
        refine g_callV [.ref o] hX (cr_edge n (TrR.cg (S := S) (S' := uRf S r2) rfl rfl rfl (ht.k hk2)) (ht.kn hk2) (by decide) (by omega) hX.st sz) cw_X2_edge cv_X2_edge lk_X2_47 (ci := 2) rfl rfl ovR_o ⟨by omega, by omega⟩ ⟨by omega, by omega⟩ (Nat.le_of_ble_eq_true rfl) rfl dX2_sum_78 rfl (fun v78 M78 z78 hp78 hz78 hd78 => ?_)
        rw [edR_cg (S := S) (S' := uRf S r2) rfl rfl rfl] at hp78
        obtain ⟨rfl, rfl, rfl⟩ := hp78
        show G X _ (ovR (cxT X) N o (uRf S r2)) sz (((0 + 0) + 0) + 0) (((0 + 0) + 0) + 0) 81 [(3, .int ((s2A S (fun j => s2R S n (rK S (5 * f + j))) n f k) + (s2R S n (rK S (5 * f + k))))), (5, .int (nI (rK S (5 * f + k)))), (4, .int (nI k)), (0, .ref o), (1, .int (nI f)), (2, .int 2)] [.int (edR S n (rK S (5 * f + k)) 0), .ref o]
        refine g_aload_n hX dX2_sum_81 3 rfl ?_
        refine g_iload hX dX2_sum_82 1 rfl ?_
        refine g_iconst (v := 1) hX dX2_sum_84 (by decide) ?_
        refine g_callV [.int (edR S n (rK S (5 * f + k)) 0), .ref o] hX (cr_edge n (TrR.cg (S := S) (S' := uRf S r2) rfl rfl rfl (ht.k hk2)) (ht.kn hk2) (by decide) (by omega) hX.st sz) cw_X2_edge cv_X2_edge lk_X2_47 (ci := 2) rfl rfl ovR_o ⟨by omega, by omega⟩ ⟨by omega, by omega⟩ (Nat.le_of_ble_eq_true rfl) rfl dX2_sum_85 rfl (fun v85 M85 z85 hp85 hz85 hd85 => ?_)
        rw [edR_cg (S := S) (S' := uRf S r2) rfl rfl rfl] at hp85
        obtain ⟨rfl, rfl, rfl⟩ := hp85
        show G X _ (ovR (cxT X) N o (uRf S r2)) sz ((((0 + 0) + 0) + 0) + 0) ((((0 + 0) + 0) + 0) + 0) 88 [(3, .int ((s2A S (fun j => s2R S n (rK S (5 * f + j))) n f k) + (s2R S n (rK S (5 * f + k))))), (5, .int (nI (rK S (5 * f + k)))), (4, .int (nI k)), (0, .ref o), (1, .int (nI f)), (2, .int 2)] [.int (edR S n (rK S (5 * f + k)) 1), .int (edR S n (rK S (5 * f + k)) 0), .ref o]
        refine g_aload_n hX dX2_sum_88 3 rfl ?_
        refine g_iload hX dX2_sum_89 1 rfl ?_
        refine g_iconst (v := 2) hX dX2_sum_91 (by decide) ?_
        refine g_callV [.int (edR S n (rK S (5 * f + k)) 1), .int (edR S n (rK S (5 * f + k)) 0), .ref o] hX (cr_edge n (TrR.cg (S := S) (S' := uRf S r2) rfl rfl rfl (ht.k hk2)) (ht.kn hk2) (by decide) (by omega) hX.st sz) cw_X2_edge cv_X2_edge lk_X2_47 (ci := 2) rfl rfl ovR_o ⟨by omega, by omega⟩ ⟨by omega, by omega⟩ (Nat.le_of_ble_eq_true rfl) rfl dX2_sum_92 rfl (fun v92 M92 z92 hp92 hz92 hd92 => ?_)
        rw [edR_cg (S := S) (S' := uRf S r2) rfl rfl rfl] at hp92
        obtain ⟨rfl, rfl, rfl⟩ := hp92
        show G X _ (ovR (cxT X) N o (uRf S r2)) sz (((((0 + 0) + 0) + 0) + 0) + 0) (((((0 + 0) + 0) + 0) + 0) + 0) 95 [(3, .int ((s2A S (fun j => s2R S n (rK S (5 * f + j))) n f k) + (s2R S n (rK S (5 * f + k))))), (5, .int (nI (rK S (5 * f + k)))), (4, .int (nI k)), (0, .ref o), (1, .int (nI f)), (2, .int 2)] [.int (edR S n (rK S (5 * f + k)) 2), .int (edR S n (rK S (5 * f + k)) 1), .int (edR S n (rK S (5 * f + k)) 0), .ref o]
        refine g_aload_n hX dX2_sum_95 3 rfl ?_
        refine g_iload hX dX2_sum_96 1 rfl ?_
        refine g_iconst (v := 3) hX dX2_sum_98 (by decide) ?_
        refine g_callV [.int (edR S n (rK S (5 * f + k)) 2), .int (edR S n (rK S (5 * f + k)) 1), .int (edR S n (rK S (5 * f + k)) 0), .ref o] hX (cr_edge n (TrR.cg (S := S) (S' := uRf S r2) rfl rfl rfl (ht.k hk2)) (ht.kn hk2) (by decide) (by omega) hX.st sz) cw_X2_edge cv_X2_edge lk_X2_47 (ci := 2) rfl rfl ovR_o ⟨by omega, by omega⟩ ⟨by omega, by omega⟩ (Nat.le_of_ble_eq_true rfl) rfl dX2_sum_99 rfl (fun v99 M99 z99 hp99 hz99 hd99 => ?_)
        rw [edR_cg (S := S) (S' := uRf S r2) rfl rfl rfl] at hp99
        obtain ⟨rfl, rfl, rfl⟩ := hp99
        show G X _ (ovR (cxT X) N o (uRf S r2)) sz ((((((0 + 0) + 0) + 0) + 0) + 0) + 0) ((((((0 + 0) + 0) + 0) + 0) + 0) + 0) 102 [(3, .int ((s2A S (fun j => s2R S n (rK S (5 * f + j))) n f k) + (s2R S n (rK S (5 * f + k))))), (5, .int (nI (rK S (5 * f + k)))), (4, .int (nI k)), (0, .ref o), (1, .int (nI f)), (2, .int 2)] [.int (edR S n (rK S (5 * f + k)) 3), .int (edR S n (rK S (5 * f + k)) 2), .int (edR S n (rK S (5 * f + k)) 1), .int (edR S n (rK S (5 * f + k)) 0), .ref o]
        refine g_callV [] hX (cr_take hX.st sz (S := uRf S r2) _ _ _ _) cw_X2_take cv_X2_take lk_X2_106 (ci := 2) rfl rfl ovR_o ⟨by omega, by omega⟩ ⟨by omega, by omega⟩ (Nat.le_of_ble_eq_true rfl) rfl dX2_sum_102 rfl (fun v102 M102 z102 hp102 hz102 hd102 => ?_)
        rw [tk_r4] at hp102
        obtain ⟨rfl, rfl, rfl⟩ := hp102
        show G X _ (ovR (cxT X) N o (uRf S (r4R r2 (edR S n (rK S (5 * f + k)))))) sz (((((((0 + 0) + 0) + 0) + 0) + 0) + 0) + 0) (((((((0 + 0) + 0) + 0) + 0) + 0) + 0) + 0) 105 [(3, .int ((s2A S (fun j => s2R S n (rK S (5 * f + j))) n f k) + (s2R S n (rK S (5 * f + k))))), (5, .int (nI (rK S (5 * f + k)))), (4, .int (nI k)), (0, .ref o), (1, .int (nI f)), (2, .int 2)] []
        refine g_iconst (v := 0) hX dX2_sum_105 (by decide) ?_
        refine g_istore (L' := [(6, .int 0), (3, .int ((s2A S (fun j => s2R S n (rK S (5 * f + j))) n f k) + (s2R S n (rK S (5 * f + k))))), (5, .int (nI (rK S (5 * f + k)))), (4, .int (nI k)), (0, .ref o), (1, .int (nI f)), (2, .int 2)]) hX dX2_sum_106 (by decide) rfl ?_
        have behind : G X 7 (ovR (cxT X) N o (uRf S (r4R r2 (edR S n (rK S (5 * f + k)))))) sz 0 0 143 [(3, .int (mbR S n f k (s2A S (fun j => s2R S n (rK S (5 * f + j))) n f k + s2R S n (rK S (5 * f + k))) k)), (0, .ref o), (1, .int (nI f)), (2, .int 2), (4, .int (nI k)), (5, .int (nI (rK S (5 * f + k))))] [] := by
          refine g_iinc (v := nI (k + 1)) (L' := [(4, .int (nI (k + 1))), (3, .int (mbR S n f k (s2A S (fun j => s2R S n (rK S (5 * f + j))) n f k + s2R S n (rK S (5 * f + k))) k)), (0, .ref o), (1, .int (nI f)), (2, .int 2), (5, .int (nI (rK S (5 * f + k))))]) hX dX2_sum_143 4 rfl (nI_1 _) (by decide) rfl ?_
          refine g_goto hX 26 dX2_sum_146 (by decide) ?_
          refine g_sub [0, 1, 2, 3, 4] rfl ?_
          exact ih (k + 1) (by omega) (by omega) (r4R r2 (edR S n (rK S (5 * f + k))))
        have inner : ∀ i, i ≤ k → G X 7 (ovR (cxT X) N o (uRf S (r4R r2 (edR S n (rK S (5 * f + k)))))) sz 0 0 108 [(6, .int (nI i)), (3, .int (mbR S n f k (s2A S (fun j => s2R S n (rK S (5 * f + j))) n f k + s2R S n (rK S (5 * f + k))) i)), (0, .ref o), (1, .int (nI f)), (2, .int 2), (4, .int (nI k)), (5, .int (nI (rK S (5 * f + k))))] [] := by
          refine loop_up ?_
          intro i ih2 hk3
          refine g_iload hX dX2_sum_108 0 rfl ?_
          refine g_iload hX dX2_sum_110 5 rfl ?_
          refine g_icmp_ge hX 143 dX2_sum_112 (by decide) (fun c112 => ?_) (fun c112 => ?_)
          · skip
            have hie : i = k := Nat.le_antisymm hk3 ((nI_leI (by omega) (by omega)).mp c112)
            subst hie
            refine g_sub [1, 2, 3, 4, 5, 6] rfl ?_
            exact behind
          · skip
            have hi2 : i < k := by have h9 := mt (nI_leI (a := k) (b := i) (by omega) (by omega)).mpr c112; omega
            refine g_iload_n hX dX2_sum_115 1 rfl ?_
            refine g_aload_n hX dX2_sum_116 2 rfl ?_
            refine g_aload_n hX dX2_sum_117 2 rfl ?_
            refine g_iload_n hX dX2_sum_118 3 rfl ?_
            refine g_iload hX dX2_sum_119 0 rfl ?_
            refine g_callV [.ref o, .int (mbR S n f k (s2A S (fun j => s2R S n (rK S (5 * f + j))) n f k + s2R S n (rK S (5 * f + k))) i)] hX (cr_held hX.st sz (S := uRf S (r4R r2 (edR S n (rK S (5 * f + k))))) (f := f) (p := i) (by omega)) cw_X2_held cv_X2_held lk_X2_44 (ci := 2) rfl rfl ovR_o ⟨by omega, by omega⟩ ⟨by omega, by omega⟩ (Nat.le_of_ble_eq_true rfl) rfl dX2_sum_121 rfl (fun v121 M121 z121 hp121 hz121 hd121 => ?_)
            obtain ⟨rfl, rfl, rfl⟩ := hp121
            show G X _ (ovR (cxT X) N o (uRf S (r4R r2 (edR S n (rK S (5 * f + k)))))) sz (0 + 0) (0 + 0) 124 [(6, .int (nI i)), (3, .int (mbR S n f k (s2A S (fun j => s2R S n (rK S (5 * f + j))) n f k + s2R S n (rK S (5 * f + k))) i)), (0, .ref o), (1, .int (nI f)), (2, .int 2), (4, .int (nI k)), (5, .int (nI (rK S (5 * f + k))))] [.int (nI (rK S (5 * f + i))), .ref o, .int (mbR S n f k (s2A S (fun j => s2R S n (rK S (5 * f + j))) n f k + s2R S n (rK S (5 * f + k))) i)]
            refine g_callV [.int (mbR S n f k (s2A S (fun j => s2R S n (rK S (5 * f + j))) n f k + s2R S n (rK S (5 * f + k))) i)] hX (cr_meetsHedge hX.st sz (S := uRf S (r4R r2 (edR S n (rK S (5 * f + k))))) (n := n) (f := rK S (5 * f + i)) (TrR.cg (S := S) (S' := uRf S (r4R r2 (edR S n (rK S (5 * f + k))))) rfl rfl rfl (ht.k (by omega))) (by omega) (ht.kn (by omega))) cw_X2_meetsHedge cv_X2_meetsHedge lk_X2_147 (ci := 2) rfl rfl ovR_o ⟨by omega, by omega⟩ ⟨by omega, by omega⟩ (Nat.le_of_ble_eq_true rfl) rfl dX2_sum_124 rfl (fun v124 M124 z124 hp124 hz124 hd124 => ?_)
            rw [edR_cg (S := S) (S' := uRf S (r4R r2 (edR S n (rK S (5 * f + k))))) rfl rfl rfl, mt_r4] at hp124
            obtain ⟨rfl, rfl, rfl⟩ := hp124
            show G X _ (ovR (cxT X) N o (uRf S (r4R r2 (edR S n (rK S (5 * f + k)))))) sz ((0 + 0) + 0) ((0 + 0) + 0) 127 [(6, .int (nI i)), (3, .int (mbR S n f k (s2A S (fun j => s2R S n (rK S (5 * f + j))) n f k + s2R S n (rK S (5 * f + k))) i)), (0, .ref o), (1, .int (nI f)), (2, .int 2), (4, .int (nI k)), (5, .int (nI (rK S (5 * f + k))))] [.int (bI (mt2 (edR S n (rK S (5 * f + i))) (edR S n (rK S (5 * f + k))))), .int (mbR S n f k (s2A S (fun j => s2R S n (rK S (5 * f + j))) n f k + s2R S n (rK S (5 * f + k))) i)]
            refine g_if_eq hX 134 dX2_sum_127 (by decide) (fun c127 => ?_) (fun c127 => ?_)
            · skip
              refine g_iconst (v := 0) hX dX2_sum_134 (by decide) ?_
              refine g_iadd hX dX2_sum_135 ?_
              refine g_istore_n (L' := [(3, .int ((mbR S n f k (s2A S (fun j => s2R S n (rK S (5 * f + j))) n f k + s2R S n (rK S (5 * f + k))) i) + 0)), (6, .int (nI i)), (0, .ref o), (1, .int (nI f)), (2, .int 2), (4, .int (nI k)), (5, .int (nI (rK S (5 * f + k))))]) hX dX2_sum_136 (by decide) rfl ?_
              refine g_iinc (v := nI (i + 1)) (L' := [(6, .int (nI (i + 1))), (3, .int ((mbR S n f k (s2A S (fun j => s2R S n (rK S (5 * f + j))) n f k + s2R S n (rK S (5 * f + k))) i) + 0)), (0, .ref o), (1, .int (nI f)), (2, .int 2), (4, .int (nI k)), (5, .int (nI (rK S (5 * f + k))))]) hX dX2_sum_137 1 rfl (nI_1 _) (by decide) rfl ?_
              refine g_goto hX 108 dX2_sum_140 (by decide) ?_
              rw [show (mbR S n f k (s2A S (fun j => s2R S n (rK S (5 * f + j))) n f k + s2R S n (rK S (5 * f + k))) i) + 0 = (mbR S n f k (s2A S (fun j => s2R S n (rK S (5 * f + j))) n f k + s2R S n (rK S (5 * f + k))) (i + 1)) from by show _ = _ + (bI (mt2 (edR S n (rK S (5 * f + i))) (edR S n (rK S (5 * f + k))))); rw [bI_0 c127]; rfl]
              refine g_sub [0, 1, 2, 3, 4, 5, 6] rfl ?_
              exact ih2 (i + 1) (by omega) (by omega)
            · skip
              refine g_iconst (v := 1) hX dX2_sum_130 (by decide) ?_
              refine g_goto hX 135 dX2_sum_131 (by decide) ?_
              refine g_iadd hX dX2_sum_135 ?_
              refine g_istore_n (L' := [(3, .int ((mbR S n f k (s2A S (fun j => s2R S n (rK S (5 * f + j))) n f k + s2R S n (rK S (5 * f + k))) i) + 1)), (6, .int (nI i)), (0, .ref o), (1, .int (nI f)), (2, .int 2), (4, .int (nI k)), (5, .int (nI (rK S (5 * f + k))))]) hX dX2_sum_136 (by decide) rfl ?_
              refine g_iinc (v := nI (i + 1)) (L' := [(6, .int (nI (i + 1))), (3, .int ((mbR S n f k (s2A S (fun j => s2R S n (rK S (5 * f + j))) n f k + s2R S n (rK S (5 * f + k))) i) + 1)), (0, .ref o), (1, .int (nI f)), (2, .int 2), (4, .int (nI k)), (5, .int (nI (rK S (5 * f + k))))]) hX dX2_sum_137 1 rfl (nI_1 _) (by decide) rfl ?_
              refine g_goto hX 108 dX2_sum_140 (by decide) ?_
              rw [show (mbR S n f k (s2A S (fun j => s2R S n (rK S (5 * f + j))) n f k + s2R S n (rK S (5 * f + k))) i) + 1 = (mbR S n f k (s2A S (fun j => s2R S n (rK S (5 * f + j))) n f k + s2R S n (rK S (5 * f + k))) (i + 1)) from by show _ = _ + (bI (mt2 (edR S n (rK S (5 * f + i))) (edR S n (rK S (5 * f + k))))); rw [bI_1 c127]; rfl]
              refine g_sub [0, 1, 2, 3, 4, 5, 6] rfl ?_
              exact ih2 (i + 1) (by omega) (by omega)
        refine g_sub [0, 1, 4, 5, 6, 3, 2] rfl ?_
        exact inner 0 (Nat.zero_le _)
    show G X 7 (ovR (cxT X) N o S) sz 0 0 0 [(0, .ref o), (1, .int (nI f)), (2, .int 2)] []
    refine g_iload_n hX dX2_sum_0 2 rfl ?_
    refine g_if_ne hX 8 dX2_sum_1 (by decide) (fun _ => ?_) (fun c1 => absurd c1 (by decide))
    refine g_iload_n hX dX2_sum_8 2 rfl ?_
    refine g_iconst (v := 1) hX dX2_sum_9 (by decide) ?_
    refine g_icmp_ne hX 21 dX2_sum_10 (by decide) (fun _ => ?_) (fun c10 => absurd c10 (by decide))
    refine g_iconst (v := 0) hX dX2_sum_21 (by decide) ?_
    refine g_istore_n (L' := [(3, .int 0), (0, .ref o), (1, .int (nI f)), (2, .int 2)]) hX dX2_sum_22 (by decide) rfl ?_
    refine g_iconst (v := 0) hX dX2_sum_23 (by decide) ?_
    refine g_istore (L' := [(4, .int 0), (3, .int 0), (0, .ref o), (1, .int (nI f)), (2, .int 2)]) hX dX2_sum_24 (by decide) rfl ?_
    refine g_sub [0, 1, 2, 3, 4] rfl ?_
    have h9 := loop 0 (Nat.zero_le _) (rR S)
    rw [uRf_self] at h9
    exact h9
