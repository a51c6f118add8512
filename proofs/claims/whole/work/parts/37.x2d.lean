set_option maxHeartbeats 4000000 in
set_option maxRecDepth 100000 in
theorem cr_put {l : Launch} (hl : l.stackTraces = false) {T : CT3} {D : va_G} {N : AH} {o : Nat} {S : RS} (sz : Nat) {f p x : Nat} (hf : f < 400) (hm : rM S f ≤ 4) (hp : p ≤ rM S f) : Ct l T D yX2_put cX2_put 5 none 0 0 0 0 [.ref o, .int (nI f), .int (nI p), .int (nI x)] (ovR T N o S) sz (fun v M' z' => v = none ∧ M' = ovR T N o (uM (blkR S f (insG (fun k => rK S (5 * f + k)) (rM S f) p x)) f (rM S f + 1)) ∧ sz = z') := by
  refine Ct.ofX hl (by decide) (Nat.le_of_ble_eq_true rfl) ?_
  intro X hl0 hT0 hD0 hlt hX hF
  subst hl0; subst hT0; subst hD0
  have loop : ∀ i, p ≤ i → i ≤ rM S f → G X 5 (ovR (cxT X) N o (blkR S f (shG (fun k => rK S (5 * f + k)) (rM S f) i))) sz 0 0 8 [(4, .int (nI i)), (0, .ref o), (1, .int (nI f)), (2, .int (nI p)), (3, .int (nI x))] [] := by
    refine loop_down ?_
    intro i ih h1 h2
    refine g_iload hX dX2_put_8 0 rfl ?_
    refine g_iload_n hX dX2_put_10 3 rfl ?_
    refine g_icmp_le hX 44 dX2_put_11 (by decide) (fun c11 => ?_) (fun c11 => ?_)
    · skip
      have hip : i = p := Nat.le_antisymm ((nI_leI (by omega) (by omega)).mp c11) h1
      subst hip
      refine g_aload_n hX dX2_put_44 1 rfl ?_
      refine g_get (ci := 2) hX rfl fin_X2 (ovR_o (S := (blkR S f (shG (fun k => rK S (5 * f + k)) (rM S f) i)))) 8 (by decide) fl_X2_23 rfl dX2_put_45 ?_
      refine g_iconst (v := 5) hX dX2_put_48 (by decide) ?_
      refine g_iload_n hX dX2_put_49 2 rfl ?_
      refine g_imul hX dX2_put_50 ?_
      refine g_iload_n hX dX2_put_51 3 rfl ?_
      refine g_iadd hX dX2_put_52 ?_
      refine g_iload_n hX dX2_put_53 4 rfl ?_
      refine g_iast hX (ovR_at (S := (blkR S f (shG (fun k => rK S (5 * f + k)) (rM S f) i))) 4 rfl) (5 * f + i) (ix5 _ _) (by omega) (by decide) dX2_put_54 ?_
      refine g_eqM (ovR_uK (5 * f + i) x rfl) ?_
      rw [blk_st (by omega), shG_end h2]
      refine g_aload_n hX dX2_put_55 1 rfl ?_
      refine g_get (ci := 2) hX rfl fin_X2 (ovR_o (S := (blkR S f (insG (fun k => rK S (5 * f + k)) (rM S f) i x)))) 7 (by decide) fl_X2_20 rfl dX2_put_56 ?_
      refine g_iload_n hX dX2_put_59 2 rfl ?_
      refine g_dup2 hX dX2_put_60 rfl rfl ?_
      refine g_iald hX (ovR_at (S := (blkR S f (insG (fun k => rK S (5 * f + k)) (rM S f) i x))) 3 rfl) f rfl (by omega) (by decide) dX2_put_61 ?_
      refine g_iconst (v := 1) hX dX2_put_62 (by decide) ?_
      refine g_iadd hX dX2_put_63 ?_
      refine g_iast hX (ovR_at (S := (blkR S f (insG (fun k => rK S (5 * f + k)) (rM S f) i x))) 3 rfl) f rfl (by omega) (by decide) dX2_put_64 ?_
      refine g_eqM (ovR_uM f (rM S f + 1) (nI_1 _)) ?_
      show G X _ (ovR (cxT X) N o (uM (blkR S f (insG (fun k => rK S (5 * f + k)) (rM S f) i x)) f (rM S f + 1))) sz 0 0 65 [(4, .int (nI i)), (0, .ref o), (1, .int (nI f)), (2, .int (nI i)), (3, .int (nI x))] []
      exact hF none (ovR (cxT X) N o (uM (blkR S f (insG (fun k => rK S (5 * f + k)) (rM S f) i x)) f (rM S f + 1))) sz _ _ _ _ .return_ (⟨rfl, rfl, rfl⟩) (by omega) (by omega) ret_v dX2_put_65
    · skip
      have hip : p < i := by have h9 := mt (nI_leI (a := i) (b := p) (by omega) (by omega)).mpr c11; omega
      refine g_aload_n hX dX2_put_14 1 rfl ?_
      refine g_get (ci := 2) hX rfl fin_X2 (ovR_o (S := (blkR S f (shG (fun k => rK S (5 * f + k)) (rM S f) i)))) 8 (by decide) fl_X2_23 rfl dX2_put_15 ?_
      refine g_iconst (v := 5) hX dX2_put_18 (by decide) ?_
      refine g_iload_n hX dX2_put_19 2 rfl ?_
      refine g_imul hX dX2_put_20 ?_
      refine g_iload hX dX2_put_21 0 rfl ?_
      refine g_iadd hX dX2_put_23 ?_
      refine g_aload_n hX dX2_put_24 1 rfl ?_
      refine g_get (ci := 2) hX rfl fin_X2 (ovR_o (S := (blkR S f (shG (fun k => rK S (5 * f + k)) (rM S f) i)))) 8 (by decide) fl_X2_23 rfl dX2_put_25 ?_
      refine g_iconst (v := 5) hX dX2_put_28 (by decide) ?_
      refine g_iload_n hX dX2_put_29 2 rfl ?_
      refine g_imul hX dX2_put_30 ?_
      refine g_iload hX dX2_put_31 0 rfl ?_
      refine g_iadd hX dX2_put_33 ?_
      refine g_iconst (v := 1) hX dX2_put_34 (by decide) ?_
      refine g_isub hX dX2_put_35 ?_
      refine g_iald hX (ovR_at (S := (blkR S f (shG (fun k => rK S (5 * f + k)) (rM S f) i))) 4 rfl) (5 * f + (i - 1)) (ix5m _ _ (by omega)) (by omega) (by decide) dX2_put_36 ?_
      rw [blk_in (by omega)]
      refine g_iast hX (ovR_at (S := (blkR S f (shG (fun k => rK S (5 * f + k)) (rM S f) i))) 4 rfl) (5 * f + i) (ix5 _ _) (by omega) (by decide) dX2_put_37 ?_
      refine g_eqM (ovR_uK (5 * f + i) (shG (fun k => rK S (5 * f + k)) (rM S f) i (i - 1)) rfl) ?_
      rw [blk_st (by omega), shG_st (by omega) h2]
      refine g_iinc (v := nI (i - 1)) (L' := [(4, .int (nI (i - 1))), (0, .ref o), (1, .int (nI f)), (2, .int (nI p)), (3, .int (nI x))]) hX dX2_put_38 0 rfl (nI_p1 (by omega)) (by decide) rfl ?_
      refine g_goto hX 8 dX2_put_41 (by decide) ?_
      refine g_sub [0, 1, 2, 3, 4] rfl ?_
      exact ih (i - 1) (by omega) (by omega) (by omega)
  show G X 5 (ovR (cxT X) N o S) sz 0 0 0 [(0, .ref o), (1, .int (nI f)), (2, .int (nI p)), (3, .int (nI x))] []
  refine g_aload_n hX dX2_put_0 0 rfl ?_
  refine g_get (ci := 2) hX rfl fin_X2 (ovR_o (S := S)) 7 (by decide) fl_X2_20 rfl dX2_put_1 ?_
  refine g_iload_n hX dX2_put_4 1 rfl ?_
  refine g_iald hX (ovR_at (S := S) 3 rfl) f rfl (by omega) (by decide) dX2_put_5 ?_
  refine g_istore (L' := [(4, .int (nI (rM S f))), (0, .ref o), (1, .int (nI f)), (2, .int (nI p)), (3, .int (nI x))]) hX dX2_put_6 (by decide) rfl ?_
  refine g_sub [0, 1, 2, 3, 4] rfl ?_
  have h0 := loop (rM S f) hp (Nat.le_refl _)
  rw [shG_s, blk_self] at h0
  exact h0

set_option maxHeartbeats 4000000 in
set_option maxRecDepth 100000 in
theorem cr_remove {l : Launch} (hl : l.stackTraces = false) {T : CT3} {D : va_G} {N : AH} {o : Nat} {S : RS} (sz : Nat) {f p : Nat} (hf : f < 400) (hm : rM S f ≤ 5) (hp : p < rM S f) : Ct l T D yX2_remove cX2_remove 4 none 0 0 0 0 [.ref o, .int (nI f), .int (nI p)] (ovR T N o S) sz (fun v M' z' => v = none ∧ M' = ovR T N o (blkR (uM S f (rM S f - 1)) f (remG (fun k => rK S (5 * f + k)) (rM S f) p)) ∧ sz = z') := by
  refine Ct.ofX hl (by decide) (Nat.le_of_ble_eq_true rfl) ?_
  intro X hl0 hT0 hD0 hlt hX hF
  subst hl0; subst hT0; subst hD0
  have loop : ∀ i, i ≤ (rM S f - 1) → p ≤ i → G X 4 (ovR (cxT X) N o (blkR (uM S f (rM S f - 1)) f (dnG (fun k => rK S (5 * f + k)) p i))) sz 0 0 12 [(3, .int (nI i)), (0, .ref o), (1, .int (nI f)), (2, .int (nI p))] [] := by
    refine loop_up ?_
    intro i ih hk h1
    refine g_iload_n hX dX2_remove_12 0 rfl ?_
    refine g_aload_n hX dX2_remove_13 1 rfl ?_
    refine g_get (ci := 2) hX rfl fin_X2 (ovR_o (S := (blkR (uM S f (rM S f - 1)) f (dnG (fun k => rK S (5 * f + k)) p i)))) 7 (by decide) fl_X2_20 rfl dX2_remove_14 ?_
    refine g_iload_n hX dX2_remove_17 2 rfl ?_
    refine g_iald hX (ovR_at (S := (blkR (uM S f (rM S f - 1)) f (dnG (fun k => rK S (5 * f + k)) p i))) 3 rfl) f rfl (by omega) (by decide) dX2_remove_18 ?_
    rw [show rM (blkR (uM S f (rM S f - 1)) f (dnG (fun k => rK S (5 * f + k)) p i)) f = rM S f - 1 from va_up_self _ _ _]
    refine g_icmp_ge hX 50 dX2_remove_19 (by decide) (fun c19 => ?_) (fun c19 => ?_)
    · skip
      have hie : i = rM S f - 1 := Nat.le_antisymm hk ((nI_leI (by omega) (by omega)).mp c19)
      subst hie
      rw [dnG_end]
      exact hF none (ovR (cxT X) N o (blkR (uM S f (rM S f - 1)) f (remG (fun k => rK S (5 * f + k)) (rM S f) p))) sz _ _ _ _ .return_ (⟨rfl, rfl, rfl⟩) (by omega) (by omega) ret_v dX2_remove_50
    · skip
      have hie : i < rM S f - 1 := by have h9 := mt (nI_leI (a := rM S f - 1) (b := i) (by omega) (by omega)).mpr c19; omega
      refine g_aload_n hX dX2_remove_22 1 rfl ?_
      refine g_get (ci := 2) hX rfl fin_X2 (ovR_o (S := (blkR (uM S f (rM S f - 1)) f (dnG (fun k => rK S (5 * f + k)) p i)))) 8 (by decide) fl_X2_23 rfl dX2_remove_23 ?_
      refine g_iconst (v := 5) hX dX2_remove_26 (by decide) ?_
      refine g_iload_n hX dX2_remove_27 2 rfl ?_
      refine g_imul hX dX2_remove_28 ?_
      refine g_iload_n hX dX2_remove_29 0 rfl ?_
      refine g_iadd hX dX2_remove_30 ?_
      refine g_aload_n hX dX2_remove_31 1 rfl ?_
      refine g_get (ci := 2) hX rfl fin_X2 (ovR_o (S := (blkR (uM S f (rM S f - 1)) f (dnG (fun k => rK S (5 * f + k)) p i)))) 8 (by decide) fl_X2_23 rfl dX2_remove_32 ?_
      refine g_iconst (v := 5) hX dX2_remove_35 (by decide) ?_
      refine g_iload_n hX dX2_remove_36 2 rfl ?_
      refine g_imul hX dX2_remove_37 ?_
      refine g_iload_n hX dX2_remove_38 0 rfl ?_
      refine g_iadd hX dX2_remove_39 ?_
      refine g_iconst (v := 1) hX dX2_remove_40 (by decide) ?_
      refine g_iadd hX dX2_remove_41 ?_
      refine g_iald hX (ovR_at (S := (blkR (uM S f (rM S f - 1)) f (dnG (fun k => rK S (5 * f + k)) p i))) 4 rfl) (5 * f + (i + 1)) (ix5p _ _) (by omega) (by decide) dX2_remove_42 ?_
      rw [blk_in (by omega)]
      refine g_iast hX (ovR_at (S := (blkR (uM S f (rM S f - 1)) f (dnG (fun k => rK S (5 * f + k)) p i))) 4 rfl) (5 * f + i) (ix5 _ _) (by omega) (by decide) dX2_remove_43 ?_
      refine g_eqM (ovR_uK (5 * f + i) (dnG (fun k => rK S (5 * f + k)) p i (i + 1)) rfl) ?_
      rw [blk_st (by omega), dnG_st h1]
      refine g_iinc (v := nI (i + 1)) (L' := [(3, .int (nI (i + 1))), (0, .ref o), (1, .int (nI f)), (2, .int (nI p))]) hX dX2_remove_44 0 rfl (nI_1 _) (by decide) rfl ?_
      refine g_goto hX 12 dX2_remove_47 (by decide) ?_
      refine g_sub [0, 1, 2, 3] rfl ?_
      exact ih (i + 1) (by omega) (by omega) (by omega)
  show G X 4 (ovR (cxT X) N o S) sz 0 0 0 [(0, .ref o), (1, .int (nI f)), (2, .int (nI p))] []
  refine g_aload_n hX dX2_remove_0 0 rfl ?_
  refine g_get (ci := 2) hX rfl fin_X2 (ovR_o (S := S)) 7 (by decide) fl_X2_20 rfl dX2_remove_1 ?_
  refine g_iload_n hX dX2_remove_4 1 rfl ?_
  refine g_dup2 hX dX2_remove_5 rfl rfl ?_
  refine g_iald hX (ovR_at (S := S) 3 rfl) f rfl (by omega) (by decide) dX2_remove_6 ?_
  refine g_iconst (v := 1) hX dX2_remove_7 (by decide) ?_
  refine g_isub hX dX2_remove_8 ?_
  refine g_iast hX (ovR_at (S := S) 3 rfl) f rfl (by omega) (by decide) dX2_remove_9 ?_
  refine g_eqM (ovR_uM f ((rM S f) - 1) (nI_m1 (by omega))) ?_
  refine g_iload_n hX dX2_remove_10 2 rfl ?_
  refine g_istore_n (L' := [(3, .int (nI p)), (0, .ref o), (1, .int (nI f)), (2, .int (nI p))]) hX dX2_remove_11 (by decide) rfl ?_
  refine g_sub [0, 1, 2, 3] rfl ?_
  have h0 := loop p (by omega) (Nat.le_refl _)
  rw [dnG_0, show blkR (uM S f (rM S f - 1)) f (fun k => rK S (5 * f + k)) = (uM S f (rM S f - 1)) from blk_self (uM S f (rM S f - 1)) f] at h0
  exact h0

set_option maxHeartbeats 4000000 in
set_option maxRecDepth 100000 in
theorem cr_growTop {l : Launch} (hl : l.stackTraces = false) {T : CT3} {D : va_G} {N : AH} {o : Nat} {S : RS} (sz : Nat) (hmd : rC S 3 < 400) (htp : rC S 4 < 400) (hm0 : rM S (rC S 3) = 0) (hg : rG S (rC S 4) < 1000) : Ct l T D yX2_growTop cX2_growTop 2 none 1 26 0 0 [.ref o] (ovR T N o S) sz (fun v M' z' => v = none ∧ M' = ovR T N o (gtR S) ∧ sz = z') := by
  refine Ct.ofX hl (by decide) (Nat.le_of_ble_eq_true rfl) ?_
  intro X hl0 hT0 hD0 hlt hX hF
  subst hl0; subst hT0; subst hD0
  show G X 2 (ovR (cxT X) N o S) sz 0 0 0 [(0, .ref o)] []
  refine g_aload_n hX dX2_growTop_0 0 rfl ?_
  refine g_get (ci := 2) hX rfl fin_X2 (ovR_o (S := S)) 5 (by decide) fl_X2_16 rfl dX2_growTop_1 ?_
  refine g_istore_n (L' := [(1, .int (nI (rC S 3))), (0, .ref o)]) hX dX2_growTop_4 (by decide) rfl ?_
  refine g_aload_n hX dX2_growTop_5 1 rfl ?_
  refine g_dup hX dX2_growTop_6 rfl ?_
  refine g_get (ci := 2) hX rfl fin_X2 (ovR_o (S := S)) 5 (by decide) fl_X2_16 rfl dX2_growTop_7 ?_
  refine g_iconst (v := 1) hX dX2_growTop_10 (by decide) ?_
  refine g_iadd hX dX2_growTop_11 ?_
  refine g_put (ci := 2) hX rfl fld_X2 (ovR_o (S := S)) 5 (by decide) fl_X2_16 rfl rfl rfl (Nat.le_of_ble_eq_true rfl) dX2_growTop_12 ?_
  refine g_eqM (ovR_uC3 (rC S 3 + 1) (nI_1 _)) ?_
  refine g_aload_n hX dX2_growTop_15 1 rfl ?_
  refine g_get (ci := 2) hX rfl fin_X2 (ovR_o (S := (uC S 3 (rC S 3 + 1)))) 9 (by decide) fl_X2_26 rfl dX2_growTop_16 ?_
  refine g_iload_n hX dX2_growTop_19 0 rfl ?_
  refine g_aload_n hX dX2_growTop_20 1 rfl ?_
  refine g_get (ci := 2) hX rfl fin_X2 (ovR_o (S := (uC S 3 (rC S 3 + 1)))) 9 (by decide) fl_X2_26 rfl dX2_growTop_21 ?_
  refine g_aload_n hX dX2_growTop_24 1 rfl ?_
  refine g_get (ci := 2) hX rfl fin_X2 (ovR_o (S := (uC S 3 (rC S 3 + 1)))) 6 (by decide) fl_X2_80 rfl dX2_growTop_25 ?_
  refine g_iald hX (ovR_at (S := (uC S 3 (rC S 3 + 1))) 5 rfl) (rC S 4) rfl (by omega) (by decide) dX2_growTop_28 ?_
  refine g_iconst (v := 1) hX dX2_growTop_29 (by decide) ?_
  refine g_iadd hX dX2_growTop_30 ?_
  refine g_iast hX (ovR_at (S := (uC S 3 (rC S 3 + 1))) 5 rfl) (rC S 3) rfl (by omega) (by decide) dX2_growTop_31 ?_
  refine g_eqM (ovR_uG (rC S 3) (rG S (rC S 4) + 1) (nI_1 _)) ?_
  show G X _ (ovR (cxT X) N o (uG (uC S 3 (rC S 3 + 1)) (rC S 3) (rG S (rC S 4) + 1))) sz 0 0 32 [(1, .int (nI (rC S 3))), (0, .ref o)] []
  refine g_aload_n hX dX2_growTop_32 1 rfl ?_
  refine g_iload_n hX dX2_growTop_33 0 rfl ?_
  refine g_iconst (v := 0) hX dX2_growTop_34 (by decide) ?_
  refine g_aload_n hX dX2_growTop_35 1 rfl ?_
  refine g_get (ci := 2) hX rfl fin_X2 (ovR_o (S := (uG (uC S 3 (rC S 3 + 1)) (rC S 3) (rG S (rC S 4) + 1)))) 6 (by decide) fl_X2_80 rfl dX2_growTop_36 ?_
  refine g_callV [] hX (cr_put hX.st sz (S := uG (uC S 3 (rC S 3 + 1)) (rC S 3) (rG S (rC S 4) + 1)) (f := rC S 3) (p := 0) (x := rC S 4) hmd (by show rM S (rC S 3) ≤ 4; omega) (Nat.zero_le _)) cw_X2_put cv_X2_put lk_X2_93 (ci := 2) rfl rfl ovR_o ⟨by omega, by omega⟩ ⟨by omega, by omega⟩ (Nat.le_of_ble_eq_true rfl) rfl dX2_growTop_39 rfl (fun v39 M39 z39 hp39 hz39 hd39 => ?_)
  rw [show rM (uG (uC S 3 (rC S 3 + 1)) (rC S 3) (rG S (rC S 4) + 1)) (rC S 3) = 0 from hm0] at hp39
  obtain ⟨rfl, rfl, rfl⟩ := hp39
  show G X _ (ovR (cxT X) N o (uM (blkR (uG (uC S 3 (rC S 3 + 1)) (rC S 3) (rG S (rC S 4) + 1)) (rC S 3) (insG (fun k => rK S (5 * rC S 3 + k)) 0 0 (rC S 4))) (rC S 3) (0 + 1))) sz (0 + 0) (0 + 0) 42 [(1, .int (nI (rC S 3))), (0, .ref o)] []
  refine g_aload_n hX dX2_growTop_42 1 rfl ?_
  refine g_iload_n hX dX2_growTop_43 0 rfl ?_
  refine g_put (ci := 2) hX rfl fld_X2 (ovR_o (S := (uM (blkR (uG (uC S 3 (rC S 3 + 1)) (rC S 3) (rG S (rC S 4) + 1)) (rC S 3) (insG (fun k => rK S (5 * rC S 3 + k)) 0 0 (rC S 4))) (rC S 3) (0 + 1)))) 6 (by decide) fl_X2_80 rfl rfl rfl (Nat.le_of_ble_eq_true rfl) dX2_growTop_44 ?_
  refine g_eqM (ovR_uC4 (rC S 3) rfl) ?_
  show G X _ (ovR (cxT X) N o (gtR S)) sz (0 + 0) (0 + 0) 47 [(1, .int (nI (rC S 3))), (0, .ref o)] []
  exact hF none (ovR (cxT X) N o (gtR S)) sz _ _ _ _ .return_ (⟨rfl, rfl, rfl⟩) (by omega) (by omega) ret_v dX2_growTop_47

set_option maxHeartbeats 4000000 in
set_option maxRecDepth 100000 in
theorem cr_spread_of {l : Launch} (hl : l.stackTraces = false) {T : CT3} {D : va_G} {N : AH} {o : Nat} {S : RS} (sz : Nat) {n f s fr lo : Nat} (hf : f < 400) (hm : rM S f ≤ 5) (h0 : 0 < rM S f) (hs : s < 4) (hO : ∀ k, k < rM S f → ∀ {l : Launch} (_ : l.stackTraces = false) {T : CT3} {D : va_G} {N : AH} {o : Nat} (sz : Nat), Ct l T D yX2_edgeOf cX2_edgeOf 5 (some .int) fr lo 0 0 [.ref o, .int (nI f), .int (nI k), .int (nI s)] (ovR T N o S) sz (fun v M' z' => v = some (.int (kidE S n (rK S (5 * f + k)) s)) ∧ M' = ovR T N o S ∧ sz = z')) : Ct l T D yX2_spread cX2_spread 6 (some .int) (fr + 1) (lo + 24) 0 0 [.ref o, .int (nI f), .int (nI s)] (ovR T N o S) sz (fun v M' z' => v = some (.int (maxG (fun x => kidE S n x s) (fun k => rK S (5 * f + k)) (rM S f - 1) - minG (fun x => kidE S n x s) (fun k => rK S (5 * f + k)) (rM S f - 1))) ∧ M' = ovR T N o S ∧ sz = z') := by
  refine Ct.ofX hl (by decide) (Nat.le_of_ble_eq_true rfl) ?_
  intro X hl0 hT0 hD0 hlt hX hF
  subst hl0; subst hT0; subst hD0
  have loop : ∀ k, k ≤ (rM S f - 1) → G X 6 (ovR (cxT X) N o S) sz 0 0 14 [(5, .int (nI (k + 1))), (3, .int (minG (fun x => kidE S n x s) (fun j => rK S (5 * f + j)) k)), (4, .int (maxG (fun x => kidE S n x s) (fun j => rK S (5 * f + j)) k)), (0, .ref o), (1, .int (nI f)), (2, .int (nI s))] [] := by
    refine loop_up ?_
    intro k ih hk
    refine g_iload hX dX2_spread_14 0 rfl ?_
    refine g_aload_n hX dX2_spread_16 3 rfl ?_
    refine g_get (ci := 2) hX rfl fin_X2 (ovR_o (S := S)) 7 (by decide) fl_X2_20 rfl dX2_spread_17 ?_
    refine g_iload_n hX dX2_spread_20 4 rfl ?_
    refine g_iald hX (ovR_at (S := S) 3 rfl) f rfl (by omega) (by decide) dX2_spread_21 ?_
    refine g_icmp_ge hX 59 dX2_spread_22 (by decide) (fun c22 => ?_) (fun c22 => ?_)
    · skip
      have hke : k = rM S f - 1 := by have h9 := (nI_leI (a := rM S f) (b := k + 1) (by omega) (by omega)).mp c22; omega
      subst hke
      refine g_iload hX dX2_spread_59 2 rfl ?_
      refine g_iload_n hX dX2_spread_61 1 rfl ?_
      refine g_isub hX dX2_spread_62 ?_
      exact hF (some (.int ((maxG (fun x => kidE S n x s) (fun j => rK S (5 * f + j)) (rM S f - 1)) - (minG (fun x => kidE S n x s) (fun j => rK S (5 * f + j)) (rM S f - 1))))) (ovR (cxT X) N o S) sz _ _ _ _ .ireturn (⟨rfl, rfl, rfl⟩) (by omega) (by omega) ret_i dX2_spread_63
    · skip
      have hk2 : k + 1 < rM S f := by have h9 := mt (nI_leI (a := rM S f) (b := k + 1) (by omega) (by omega)).mpr c22; omega
      refine g_iload_n hX dX2_spread_25 1 rfl ?_
      refine g_aload_n hX dX2_spread_26 3 rfl ?_
      refine g_iload_n hX dX2_spread_27 4 rfl ?_
      refine g_iload hX dX2_spread_28 0 rfl ?_
      refine g_iload_n hX dX2_spread_30 5 rfl ?_
      refine g_callV [.int (minG (fun x => kidE S n x s) (fun j => rK S (5 * f + j)) k)] hX (hO (k + 1) (hk2) hX.st sz) cw_X2_edgeOf cv_X2_edgeOf lk_X2_50 (ci := 2) rfl rfl ovR_o ⟨by omega, by omega⟩ ⟨by omega, by omega⟩ (Nat.le_of_ble_eq_true rfl) rfl dX2_spread_31 rfl (fun v31 M31 z31 hp31 hz31 hd31 => ?_)
      obtain ⟨rfl, rfl, rfl⟩ := hp31
      show G X _ (ovR (cxT X) N o S) sz (0 + 0) (0 + 0) 34 [(5, .int (nI (k + 1))), (3, .int (minG (fun x => kidE S n x s) (fun j => rK S (5 * f + j)) k)), (4, .int (maxG (fun x => kidE S n x s) (fun j => rK S (5 * f + j)) k)), (0, .ref o), (1, .int (nI f)), (2, .int (nI s))] [.int (kidE S n (rK S (5 * f + (k + 1))) s), .int (minG (fun x => kidE S n x s) (fun j => rK S (5 * f + j)) k)]
      refine g_minI [] hX lk_X2_54 (by omega) (by omega) (Nat.le_of_ble_eq_true rfl) ⟨by omega, by omega⟩ dX2_spread_34 ?_
      refine g_istore_n (L' := [(3, .int (minI (minG (fun x => kidE S n x s) (fun j => rK S (5 * f + j)) k) (kidE S n (rK S (5 * f + (k + 1))) s))), (5, .int (nI (k + 1))), (4, .int (maxG (fun x => kidE S n x s) (fun j => rK S (5 * f + j)) k)), (0, .ref o), (1, .int (nI f)), (2, .int (nI s))]) hX dX2_spread_37 (by decide) rfl ?_
      refine g_iload hX dX2_spread_38 2 rfl ?_
      refine g_aload_n hX dX2_spread_40 3 rfl ?_
      refine g_iload_n hX dX2_spread_41 4 rfl ?_
      refine g_iload hX dX2_spread_42 1 rfl ?_
      refine g_iload_n hX dX2_spread_44 5 rfl ?_
      refine g_callV [.int (maxG (fun x => kidE S n x s) (fun j => rK S (5 * f + j)) k)] hX (hO (k + 1) (hk2) hX.st sz) cw_X2_edgeOf cv_X2_edgeOf lk_X2_50 (ci := 2) rfl rfl ovR_o ⟨by omega, by omega⟩ ⟨by omega, by omega⟩ (Nat.le_of_ble_eq_true rfl) rfl dX2_spread_45 rfl (fun v45 M45 z45 hp45 hz45 hd45 => ?_)
      obtain ⟨rfl, rfl, rfl⟩ := hp45
      show G X _ (ovR (cxT X) N o S) sz ((0 + 0) + 0) ((0 + 0) + 0) 48 [(3, .int (minI (minG (fun x => kidE S n x s) (fun j => rK S (5 * f + j)) k) (kidE S n (rK S (5 * f + (k + 1))) s))), (5, .int (nI (k + 1))), (4, .int (maxG (fun x => kidE S n x s) (fun j => rK S (5 * f + j)) k)), (0, .ref o), (1, .int (nI f)), (2, .int (nI s))] [.int (kidE S n (rK S (5 * f + (k + 1))) s), .int (maxG (fun x => kidE S n x s) (fun j => rK S (5 * f + j)) k)]
      refine g_maxI [] hX lk_X2_59 (by omega) (by omega) (Nat.le_of_ble_eq_true rfl) ⟨by omega, by omega⟩ dX2_spread_48 ?_
      refine g_istore (L' := [(4, .int (maxI (maxG (fun x => kidE S n x s) (fun j => rK S (5 * f + j)) k) (kidE S n (rK S (5 * f + (k + 1))) s))), (3, .int (minI (minG (fun x => kidE S n x s) (fun j => rK S (5 * f + j)) k) (kidE S n (rK S (5 * f + (k + 1))) s))), (5, .int (nI (k + 1))), (0, .ref o), (1, .int (nI f)), (2, .int (nI s))]) hX dX2_spread_51 (by decide) rfl ?_
      refine g_iinc (v := nI (k + 1 + 1)) (L' := [(5, .int (nI (k + 1 + 1))), (4, .int (maxI (maxG (fun x => kidE S n x s) (fun j => rK S (5 * f + j)) k) (kidE S n (rK S (5 * f + (k + 1))) s))), (3, .int (minI (minG (fun x => kidE S n x s) (fun j => rK S (5 * f + j)) k) (kidE S n (rK S (5 * f + (k + 1))) s))), (0, .ref o), (1, .int (nI f)), (2, .int (nI s))]) hX dX2_spread_53 2 rfl (nI_1 _) (by decide) rfl ?_
      refine g_goto hX 14 dX2_spread_56 (by decide) ?_
      refine g_sub [0, 2, 1, 3, 4, 5] rfl ?_
      exact ih (k + 1) (by omega) (by omega)
  show G X 6 (ovR (cxT X) N o S) sz 0 0 0 [(0, .ref o), (1, .int (nI f)), (2, .int (nI s))] []
  refine g_aload_n hX dX2_spread_0 0 rfl ?_
  refine g_iload_n hX dX2_spread_1 1 rfl ?_
  refine g_iconst (v := 0) hX dX2_spread_2 (by decide) ?_
  refine g_iload_n hX dX2_spread_3 2 rfl ?_
  refine g_callV [] hX (hO 0 (h0) hX.st sz) cw_X2_edgeOf cv_X2_edgeOf lk_X2_50 (ci := 2) rfl rfl ovR_o ⟨by omega, by omega⟩ ⟨by omega, by omega⟩ (Nat.le_of_ble_eq_true rfl) rfl dX2_spread_4 rfl (fun v4 M4 z4 hp4 hz4 hd4 => ?_)
  obtain ⟨rfl, rfl, rfl⟩ := hp4
  show G X _ (ovR (cxT X) N o S) sz (0 + 0) (0 + 0) 7 [(0, .ref o), (1, .int (nI f)), (2, .int (nI s))] [.int (kidE S n (rK S (5 * f + 0)) s)]
  refine g_istore_n (L' := [(3, .int (kidE S n (rK S (5 * f + 0)) s)), (0, .ref o), (1, .int (nI f)), (2, .int (nI s))]) hX dX2_spread_7 (by decide) rfl ?_
  refine g_iload_n hX dX2_spread_8 0 rfl ?_
  refine g_istore (L' := [(4, .int (kidE S n (rK S (5 * f + 0)) s)), (3, .int (kidE S n (rK S (5 * f + 0)) s)), (0, .ref o), (1, .int (nI f)), (2, .int (nI s))]) hX dX2_spread_9 (by decide) rfl ?_
  refine g_iconst (v := 1) hX dX2_spread_11 (by decide) ?_
  refine g_istore (L' := [(5, .int 1), (4, .int (kidE S n (rK S (5 * f + 0)) s)), (3, .int (kidE S n (rK S (5 * f + 0)) s)), (0, .ref o), (1, .int (nI f)), (2, .int (nI s))]) hX dX2_spread_12 (by decide) rfl ?_
  refine g_sub [0, 2, 1, 3, 4, 5] rfl ?_
  exact loop 0 (Nat.zero_le _)
