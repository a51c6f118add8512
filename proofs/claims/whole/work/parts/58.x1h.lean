set_option maxHeartbeats 1000000 in
set_option maxRecDepth 100000 in
theorem ct_lower {l : Launch} (hl : l.stackTraces = false) {T : CT3} {D : va_G} {N : AH} {P : PS} {F : FS} (sz : Nat) (hwF : WfF P F) (hi : LwI 40 P F) : Ct l T D yX1_lowerTop cX1_lowerTop 3 none 2 50 0 0 [.ref (fO F)] (ov T (ovF T N F) P) sz (fun v M' z' => v = none ∧ M' = ov T (ovF T N (lwP 40 P F).2) (lwP 40 P F).1 ∧ sz = z') := by
  refine Ct.ofX hl (by decide) (Nat.le_of_ble_eq_true rfl) ?_
  intro X hl0 hT0 hD0 hlt hX hF
  subst hl0; subst hT0; subst hD0
  have chain : ∀ n i P F o, i + n = 40 → WfF P F → fO F = o → LwI n P F → G X 3 (ov (cxT X) (ovF (cxT X) N (lwP n P F).2) (lwP n P F).1) sz 0 0 55 [] [] → G X 3 (ov (cxT X) (ovF (cxT X) N F) P) sz 0 0 2 [(1, .int (nI i)), (0, .ref o)] [] := by
    intro n
    induction n with
    | zero =>
      intro i P F o hin hwF ho hi hG
      subst ho
      refine g_iload_n hX dX1_lowerTop_2 0 rfl ?_
      refine g_bipush (v := 40) hX dX1_lowerTop_3 (by decide) ?_
      refine g_icmp_ge hX 55 dX1_lowerTop_5 (by decide) (fun _ => ?_) (fun c5 => absurd ((nI_leI (a := 40) (b := i) (by omega) (by omega)).mpr (by omega)) c5)
      refine g_sub [] rfl ?_
      exact hG
    | succ n ihn =>
      intro i P F o hin hwF ho hi hG
      subst ho
      obtain ⟨hc, hk⟩ := hi
      have hc2 := hc.2.1
      have hc3 := hc.2.2.1
      have hc4 := hc.2.2.2
      refine g_iload_n hX dX1_lowerTop_2 0 rfl ?_
      refine g_bipush (v := 40) hX dX1_lowerTop_3 (by decide) ?_
      refine g_icmp_ge hX 55 dX1_lowerTop_5 (by decide) (fun c5 => absurd c5 (mt (nI_leI (a := 40) (b := i) (by omega) (by omega)).mp (by omega))) (fun _ => ?_)
      refine g_aload_n hX dX1_lowerTop_8 1 rfl ?_
      refine g_get (ci := 1) hX rfl fin_X1 (ovF_o hwF) 3 (by decide) fl_X1_18 rfl dX1_lowerTop_9 ?_
      refine g_getN (ci := 0) hX rfl fin_X0 (ov_pc (P := P) hc.1) 1 (by decide) fn_X1_102 rfl dX1_lowerTop_12 ?_
      refine g_iconst (v := 1) hX dX1_lowerTop_15 (by decide) ?_
      refine g_icmp_le hX 55 dX1_lowerTop_16 (by decide) (fun c16 => ?_) (fun c16 => ?_)
      · skip
        have hl1 : ¬ 1 < pL P (fT F) := by have h9 := (nI_leI (a := pL P (fT F)) (b := 1) (by omega) (by omega)).mp c16; omega
        refine g_sub [] rfl ?_
        rw [lw_f (fun h9 => hl1 h9.1)] at hG
        exact hG
      · skip
        have hl1 : 1 < pL P (fT F) := by have h9 := mt (nI_leI (a := pL P (fT F)) (b := 1) (by omega) (by omega)).mpr c16; omega
        refine g_aload_n hX dX1_lowerTop_19 1 rfl ?_
        refine g_get (ci := 1) hX rfl fin_X1 (ovF_o hwF) 3 (by decide) fl_X1_18 rfl dX1_lowerTop_20 ?_
        refine g_getN (ci := 0) hX rfl fin_X0 (ov_pc (P := P) hc.1) 3 (by decide) fn_X1_133 rfl dX1_lowerTop_23 ?_
        refine g_iconst (v := 1) hX dX1_lowerTop_26 (by decide) ?_
        refine g_icmp_ne hX 55 dX1_lowerTop_27 (by decide) (fun c27 => ?_) (fun c27 => ?_)
        · skip
          have hs1 : ¬ pS P (fT F) = 1 := fun e => c27 (by rw [e]; rfl)
          refine g_sub [] rfl ?_
          rw [lw_f (fun h9 => hs1 h9.2)] at hG
          exact hG
        · skip
          have hs1 : pS P (fT F) = 1 := (nI_eq (a := pS P (fT F)) (b := 1) (by omega) (by omega)).mp c27
          obtain ⟨hk1, hi2⟩ := hk hl1 hs1
          refine g_aload_n hX dX1_lowerTop_30 1 rfl ?_
          refine g_get (ci := 1) hX rfl fin_X1 (ovF_o hwF) 3 (by decide) fl_X1_18 rfl dX1_lowerTop_31 ?_
          refine g_iconst (v := 0) hX dX1_lowerTop_34 (by decide) ?_
          refine g_callVN [] hX (ct_takeOut hX.st sz hwF.1 (P := P) (q := fT F) (r := kd P (fT F) 0) (p := 0) hc.1 hk1.2.1 (by omega) hk1.1 hc3 hc4 hk1.2.2) cw_X0_takeOut cv_X0_takeOut ln_X1_77 (ci := 0) rfl rfl (ov_pc (P := P) hc.1) ⟨by omega, by omega⟩ ⟨by omega, by omega⟩ (Nat.le_of_ble_eq_true rfl) rfl dX1_lowerTop_35 rfl (fun v35 M35 z35 hp35 hz35 hd35 => ?_)
          obtain ⟨rfl, rfl, rfl⟩ := hp35
          show G X _ (ov (cxT X) (ovF (cxT X) N F) (tkP P (fT F) (kd P (fT F) 0) 0)) sz (0 + 0) (0 + 0) 38 [(1, .int (nI i)), (0, .ref (fO F))] [.ref (kd P (fT F) 0)]
          refine g_astore_n (L' := [(2, .ref (kd P (fT F) 0)), (1, .int (nI i)), (0, .ref (fO F))]) hX dX1_lowerTop_38 (by decide) rfl ?_
          refine g_aload_n hX dX1_lowerTop_39 0 rfl ?_
          refine g_ifnonnullR hX 44 dX1_lowerTop_40 (by decide) ?_
          refine g_aload_n hX dX1_lowerTop_44 2 rfl ?_
          refine g_aload_n hX dX1_lowerTop_45 0 rfl ?_
          refine g_put (ci := 1) hX rfl fld_X1 (ovF_o (P := (tkP P (fT F) (kd P (fT F) 0) 0)) hwF) 3 (by decide) fl_X1_18 rfl rfl rfl (Nat.le_of_ble_eq_true rfl) dX1_lowerTop_46 ?_
          refine g_eqM (ovF_sT (P := (tkP P (fT F) (kd P (fT F) 0) 0)) hwF (kd P (fT F) 0)) ?_
          refine g_iinc (v := nI (i + 1)) (L' := [(1, .int (nI (i + 1))), (2, .ref (kd P (fT F) 0)), (0, .ref (fO F))]) hX dX1_lowerTop_49 1 rfl (nI_1 _) (by decide) rfl ?_
          refine g_goto hX 2 dX1_lowerTop_52 (by decide) ?_
          refine g_sub [0, 2] rfl ?_
          rw [lw_t hl1 hs1] at hG
          exact ihn (i + 1) (tkP P (fT F) (kd P (fT F) 0) 0) (sT F (kd P (fT F) 0)) (fO F) (by omega) hwF rfl hi2 hG
  show G X 3 (ov (cxT X) (ovF (cxT X) N F) P) sz 0 0 0 [(0, .ref (fO F))] []
  refine g_iconst (v := 0) hX dX1_lowerTop_0 (by decide) ?_
  refine g_istore_n (L' := [(1, .int 0), (0, .ref (fO F))]) hX dX1_lowerTop_1 (by decide) rfl ?_
  refine g_sub [0, 1] rfl ?_
  refine chain 40 0 P F (fO F) rfl hwF rfl hi ?_
  exact hF none _ _ _ _ _ _ .return_ (⟨rfl, rfl, rfl⟩) (by omega) (by omega) ret_v dX1_lowerTop_55
