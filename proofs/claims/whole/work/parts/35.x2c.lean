set_option maxHeartbeats 4000000 in
set_option maxRecDepth 100000 in
theorem cr_looksFrom {l : Launch} (hl : l.stackTraces = false) {T : CT3} {D : va_G} {N : AH} {o : Nat} {S : RS} (sz : Nat)  : ∀ (n f : Nat), TrR S n f → n < 1000 → Ct l T D yX2_looksFrom cX2_looksFrom 4 (some .int) (3 * n + 6) (60 * n + 130) 0 0 [.ref o, .int (nI f)] (ovR T N o S) sz (fun v M' z' => v = some (.int (lkR S n f)) ∧ M' = ovR T N o S ∧ sz = z') := by
  intro n
  induction n with
  | zero =>
    intro f  ht hn
    have hf := ht.f
    have hg := ht.g
    have hm5 := ht.m
    refine Ct.ofX hl (by decide) (Nat.le_of_ble_eq_true rfl) ?_
    intro X hl0 hT0 hD0 hlt hX hF
    subst hl0; subst hT0; subst hD0
    show G X 4 (ovR (cxT X) N o S) sz 0 0 0 [(0, .ref o), (1, .int (nI f))] []
    refine g_iconst (v := 1) hX dX2_looksFrom_0 (by decide) ?_
    refine g_istore_n (L' := [(2, .int 1), (0, .ref o), (1, .int (nI f))]) hX dX2_looksFrom_1 (by decide) rfl ?_
    refine g_iconst (v := 0) hX dX2_looksFrom_2 (by decide) ?_
    refine g_istore_n (L' := [(3, .int 0), (2, .int 1), (0, .ref o), (1, .int (nI f))]) hX dX2_looksFrom_3 (by decide) rfl ?_
    refine g_iload_n hX dX2_looksFrom_4 0 rfl ?_
    refine g_aload_n hX dX2_looksFrom_5 2 rfl ?_
    refine g_get (ci := 2) hX rfl fin_X2 (ovR_o (S := S)) 7 (by decide) fl_X2_20 rfl dX2_looksFrom_6 ?_
    refine g_iload_n hX dX2_looksFrom_9 3 rfl ?_
    refine g_iald hX (ovR_at (S := S) 3 rfl) f rfl (by omega) (by decide) dX2_looksFrom_10 ?_
    refine g_icmp_ge hX 55 dX2_looksFrom_11 (by decide) (fun c11 => ?_) (fun c11 => ?_)
    · skip
      refine g_iload_n hX dX2_looksFrom_55 1 rfl ?_
      exact hF (some (.int 1)) (ovR (cxT X) N o S) sz _ _ _ _ .ireturn (⟨rfl, rfl, rfl⟩) (by omega) (by omega) ret_i dX2_looksFrom_56
    · skip
      refine g_aload_n hX dX2_looksFrom_14 2 rfl ?_
      refine g_get (ci := 2) hX rfl fin_X2 (ovR_o (S := S)) 9 (by decide) fl_X2_26 rfl dX2_looksFrom_15 ?_
      refine g_iload_n hX dX2_looksFrom_18 3 rfl ?_
      refine g_iald hX (ovR_at (S := S) 5 rfl) f rfl (by omega) (by decide) dX2_looksFrom_19 ?_
      rw [hg]
      refine g_if_le hX 55 dX2_looksFrom_20 (by decide) (fun _ => ?_) (fun c20 => absurd (by decide) c20)
      refine g_iload_n hX dX2_looksFrom_55 1 rfl ?_
      exact hF (some (.int 1)) (ovR (cxT X) N o S) sz _ _ _ _ .ireturn (⟨rfl, rfl, rfl⟩) (by omega) (by omega) ret_i dX2_looksFrom_56
  | succ n ihn =>
    intro f  ht hn
    have hf := ht.f
    have hg := ht.g
    have hm5 := ht.m
    have hm0 := ht.m0
    refine Ct.ofX hl (by decide) (Nat.le_of_ble_eq_true rfl) ?_
    intro X hl0 hT0 hD0 hlt hX hF
    subst hl0; subst hT0; subst hD0
    have loop : ∀ k, k ≤ (rM S f) → G X 4 (ovR (cxT X) N o S) sz 0 0 4 [(3, .int (nI k)), (2, .int (sumA 1 (fun j => if mtR S (edR S n (rK S (5 * f + j))) then lkR S n (rK S (5 * f + j)) else 0) k)), (0, .ref o), (1, .int (nI f))] [] := by
      refine loop_up ?_
      intro k ih hk
      refine g_iload_n hX dX2_looksFrom_4 0 rfl ?_
      refine g_aload_n hX dX2_looksFrom_5 2 rfl ?_
      refine g_get (ci := 2) hX rfl fin_X2 (ovR_o (S := S)) 7 (by decide) fl_X2_20 rfl dX2_looksFrom_6 ?_
      refine g_iload_n hX dX2_looksFrom_9 3 rfl ?_
      refine g_iald hX (ovR_at (S := S) 3 rfl) f rfl (by omega) (by decide) dX2_looksFrom_10 ?_
      refine g_icmp_ge hX 55 dX2_looksFrom_11 (by decide) (fun c11 => ?_) (fun c11 => ?_)
      · skip
        have hke : k = rM S f := by have h9 := (nI_leI (a := rM S f) (b := k) (by omega) (by omega)).mp c11; omega
        subst hke
        refine g_iload_n hX dX2_looksFrom_55 1 rfl ?_
        exact hF (some (.int (sumA 1 (fun j => if mtR S (edR S n (rK S (5 * f + j))) then lkR S n (rK S (5 * f + j)) else 0) (rM S f)))) (ovR (cxT X) N o S) sz _ _ _ _ .ireturn (⟨rfl, rfl, rfl⟩) (by omega) (by omega) ret_i dX2_looksFrom_56
      · skip
        have hk2 : k < rM S f := by have h9 := mt (nI_leI (a := rM S f) (b := k) (by omega) (by omega)).mpr c11; omega
        refine g_aload_n hX dX2_looksFrom_14 2 rfl ?_
        refine g_get (ci := 2) hX rfl fin_X2 (ovR_o (S := S)) 9 (by decide) fl_X2_26 rfl dX2_looksFrom_15 ?_
        refine g_iload_n hX dX2_looksFrom_18 3 rfl ?_
        refine g_iald hX (ovR_at (S := S) 5 rfl) f rfl (by omega) (by decide) dX2_looksFrom_19 ?_
        rw [hg]
        refine g_if_le hX 55 dX2_looksFrom_20 (by decide) (fun c20 => absurd c20 (nI_nle (by omega) (by omega))) (fun _ => ?_)
        refine g_aload_n hX dX2_looksFrom_23 2 rfl ?_
        refine g_aload_n hX dX2_looksFrom_24 2 rfl ?_
        refine g_iload_n hX dX2_looksFrom_25 3 rfl ?_
        refine g_iload_n hX dX2_looksFrom_26 0 rfl ?_
        refine g_callV [.ref o] hX (cr_held hX.st sz (f := f) (p := k) (by omega)) cw_X2_held cv_X2_held lk_X2_44 (ci := 2) rfl rfl ovR_o ⟨by omega, by omega⟩ ⟨by omega, by omega⟩ (Nat.le_of_ble_eq_true rfl) rfl dX2_looksFrom_27 rfl (fun v27 M27 z27 hp27 hz27 hd27 => ?_)
        obtain ⟨rfl, rfl, rfl⟩ := hp27
        show G X _ (ovR (cxT X) N o S) sz (0 + 0) (0 + 0) 30 [(3, .int (nI k)), (2, .int (sumA 1 (fun j => if mtR S (edR S n (rK S (5 * f + j))) then lkR S n (rK S (5 * f + j)) else 0) k)), (0, .ref o), (1, .int (nI f))] [.int (nI (rK S (5 * f + k))), .ref o]
        refine g_callV [] hX (cr_meetsHedge hX.st sz (ht.k hk2) (by omega) (ht.kn hk2)) cw_X2_meetsHedge cv_X2_meetsHedge lk_X2_147 (ci := 2) rfl rfl ovR_o ⟨by omega, by omega⟩ ⟨by omega, by omega⟩ (Nat.le_of_ble_eq_true rfl) rfl dX2_looksFrom_30 rfl (fun v30 M30 z30 hp30 hz30 hd30 => ?_)
        obtain ⟨rfl, rfl, rfl⟩ := hp30
        show G X _ (ovR (cxT X) N o S) sz ((0 + 0) + 0) ((0 + 0) + 0) 33 [(3, .int (nI k)), (2, .int (sumA 1 (fun j => if mtR S (edR S n (rK S (5 * f + j))) then lkR S n (rK S (5 * f + j)) else 0) k)), (0, .ref o), (1, .int (nI f))] [.int (bI (mtR S (edR S n (rK S (5 * f + k)))))]
        refine g_if_eq hX 49 dX2_looksFrom_33 (by decide) (fun c33 => ?_) (fun c33 => ?_)
        · skip
          refine g_iinc (v := nI (k + 1)) (L' := [(3, .int (nI (k + 1))), (2, .int (sumA 1 (fun j => if mtR S (edR S n (rK S (5 * f + j))) then lkR S n (rK S (5 * f + j)) else 0) k)), (0, .ref o), (1, .int (nI f))]) hX dX2_looksFrom_49 0 rfl (nI_1 _) (by decide) rfl ?_
          refine g_goto hX 4 dX2_looksFrom_52 (by decide) ?_
          rw [show sumA 1 (fun j => if mtR S (edR S n (rK S (5 * f + j))) then lkR S n (rK S (5 * f + j)) else 0) k = sumA 1 (fun j => if mtR S (edR S n (rK S (5 * f + j))) then lkR S n (rK S (5 * f + j)) else 0) (k + 1) from by show _ = _ + (if mtR S (edR S n (rK S (5 * f + k))) = true then _ else _); rw [if_neg (by rw [bI_0 c33]; decide)]; exact (add0I _).symm]
          refine g_sub [0, 1, 2, 3] rfl ?_
          exact ih (k + 1) (by omega) (by omega)
        · skip
          refine g_iload_n hX dX2_looksFrom_36 1 rfl ?_
          refine g_aload_n hX dX2_looksFrom_37 2 rfl ?_
          refine g_aload_n hX dX2_looksFrom_38 2 rfl ?_
          refine g_iload_n hX dX2_looksFrom_39 3 rfl ?_
          refine g_iload_n hX dX2_looksFrom_40 0 rfl ?_
          refine g_callV [.ref o, .int (sumA 1 (fun j => if mtR S (edR S n (rK S (5 * f + j))) then lkR S n (rK S (5 * f + j)) else 0) k)] hX (cr_held hX.st sz (f := f) (p := k) (by omega)) cw_X2_held cv_X2_held lk_X2_44 (ci := 2) rfl rfl ovR_o ⟨by omega, by omega⟩ ⟨by omega, by omega⟩ (Nat.le_of_ble_eq_true rfl) rfl dX2_looksFrom_41 rfl (fun v41 M41 z41 hp41 hz41 hd41 => ?_)
          obtain ⟨rfl, rfl, rfl⟩ := hp41
          show G X _ (ovR (cxT X) N o S) sz (((0 + 0) + 0) + 0) (((0 + 0) + 0) + 0) 44 [(3, .int (nI k)), (2, .int (sumA 1 (fun j => if mtR S (edR S n (rK S (5 * f + j))) then lkR S n (rK S (5 * f + j)) else 0) k)), (0, .ref o), (1, .int (nI f))] [.int (nI (rK S (5 * f + k))), .ref o, .int (sumA 1 (fun j => if mtR S (edR S n (rK S (5 * f + j))) then lkR S n (rK S (5 * f + j)) else 0) k)]
          refine g_callV [.int (sumA 1 (fun j => if mtR S (edR S n (rK S (5 * f + j))) then lkR S n (rK S (5 * f + j)) else 0) k)] hX (ihn (rK S (5 * f + k)) (ht.k hk2) (by omega)) cw_X2_looksFrom cv_X2_looksFrom lk_X2_150 (ci := 2) rfl rfl ovR_o ⟨by omega, by omega⟩ ⟨by omega, by omega⟩ (Nat.le_of_ble_eq_true rfl) rfl dX2_looksFrom_44 rfl (fun v44 M44 z44 hp44 hz44 hd44 => ?_)
          obtain ⟨rfl, rfl, rfl⟩ := hp44
          show G X _ (ovR (cxT X) N o S) sz ((((0 + 0) + 0) + 0) + 0) ((((0 + 0) + 0) + 0) + 0) 47 [(3, .int (nI k)), (2, .int (sumA 1 (fun j => if mtR S (edR S n (rK S (5 * f + j))) then lkR S n (rK S (5 * f + j)) else 0) k)), (0, .ref o), (1, .int (nI f))] [.int (lkR S n (rK S (5 * f + k))), .int (sumA 1 (fun j => if mtR S (edR S n (rK S (5 * f + j))) then lkR S n (rK S (5 * f + j)) else 0) k)]
          refine g_iadd hX dX2_looksFrom_47 ?_
          refine g_istore_n (L' := [(2, .int ((sumA 1 (fun j => if mtR S (edR S n (rK S (5 * f + j))) then lkR S n (rK S (5 * f + j)) else 0) k) + (lkR S n (rK S (5 * f + k))))), (3, .int (nI k)), (0, .ref o), (1, .int (nI f))]) hX dX2_looksFrom_48 (by decide) rfl ?_
          refine g_iinc (v := nI (k + 1)) (L' := [(3, .int (nI (k + 1))), (2, .int ((sumA 1 (fun j => if mtR S (edR S n (rK S (5 * f + j))) then lkR S n (rK S (5 * f + j)) else 0) k) + (lkR S n (rK S (5 * f + k))))), (0, .ref o), (1, .int (nI f))]) hX dX2_looksFrom_49 1 rfl (nI_1 _) (by decide) rfl ?_
          refine g_goto hX 4 dX2_looksFrom_52 (by decide) ?_
          rw [show sumA 1 (fun j => if mtR S (edR S n (rK S (5 * f + j))) then lkR S n (rK S (5 * f + j)) else 0) k + lkR S n (rK S (5 * f + k)) = sumA 1 (fun j => if mtR S (edR S n (rK S (5 * f + j))) then lkR S n (rK S (5 * f + j)) else 0) (k + 1) from by show _ = _ + (if mtR S (edR S n (rK S (5 * f + k))) = true then _ else _); rw [if_pos (bI_1 c33)]]
          refine g_sub [0, 1, 2, 3] rfl ?_
          exact ih (k + 1) (by omega) (by omega)
    show G X 4 (ovR (cxT X) N o S) sz 0 0 0 [(0, .ref o), (1, .int (nI f))] []
    refine g_iconst (v := 1) hX dX2_looksFrom_0 (by decide) ?_
    refine g_istore_n (L' := [(2, .int 1), (0, .ref o), (1, .int (nI f))]) hX dX2_looksFrom_1 (by decide) rfl ?_
    refine g_iconst (v := 0) hX dX2_looksFrom_2 (by decide) ?_
    refine g_istore_n (L' := [(3, .int 0), (2, .int 1), (0, .ref o), (1, .int (nI f))]) hX dX2_looksFrom_3 (by decide) rfl ?_
    refine g_sub [0, 1, 2, 3] rfl ?_
    exact loop 0 (Nat.zero_le _)

set_option maxHeartbeats 4000000 in
set_option maxRecDepth 100000 in
theorem cr_sum0 {l : Launch} (hl : l.stackTraces = false) {T : CT3} {D : va_G} {N : AH} {o : Nat} {S : RS} (sz : Nat)  : ∀ (n f : Nat), TrR S n f → n < 1000 → Ct l T D yX2_sum cX2_sum 7 (some .int) (3 * n + 6) (60 * n + 130) 0 0 [.ref o, .int (nI f), .int 0] (ovR T N o S) sz (fun v M' z' => v = some (.int (s0R S n f)) ∧ M' = ovR T N o S ∧ sz = z') := by
  intro n
  induction n with
  | zero =>
    intro f  ht hn
    have hf := ht.f
    have hg := ht.g
    have hm5 := ht.m
    refine Ct.ofX hl (by decide) (Nat.le_of_ble_eq_true rfl) ?_
    intro X hl0 hT0 hD0 hlt hX hF
    subst hl0; subst hT0; subst hD0
    show G X 7 (ovR (cxT X) N o S) sz 0 0 0 [(0, .ref o), (1, .int (nI f)), (2, .int 0)] []
    refine g_iload_n hX dX2_sum_0 2 rfl ?_
    refine g_if_ne hX 8 dX2_sum_1 (by decide) (fun c1 => absurd (by decide) c1) (fun _ => ?_)
    refine g_iconst (v := 1) hX dX2_sum_4 (by decide) ?_
    refine g_goto hX 22 dX2_sum_5 (by decide) ?_
    refine g_istore_n (L' := [(3, .int 1), (0, .ref o), (1, .int (nI f)), (2, .int 0)]) hX dX2_sum_22 (by decide) rfl ?_
    refine g_iconst (v := 0) hX dX2_sum_23 (by decide) ?_
    refine g_istore (L' := [(4, .int 0), (3, .int 1), (0, .ref o), (1, .int (nI f)), (2, .int 0)]) hX dX2_sum_24 (by decide) rfl ?_
    refine g_iload hX dX2_sum_26 0 rfl ?_
    refine g_aload_n hX dX2_sum_28 2 rfl ?_
    refine g_get (ci := 2) hX rfl fin_X2 (ovR_o (S := S)) 7 (by decide) fl_X2_20 rfl dX2_sum_29 ?_
    refine g_iload_n hX dX2_sum_32 3 rfl ?_
    refine g_iald hX (ovR_at (S := S) 3 rfl) f rfl (by omega) (by decide) dX2_sum_33 ?_
    refine g_icmp_ge hX 149 dX2_sum_34 (by decide) (fun c34 => ?_) (fun c34 => ?_)
    · skip
      refine g_iload_n hX dX2_sum_149 1 rfl ?_
      exact hF (some (.int 1)) (ovR (cxT X) N o S) sz _ _ _ _ .ireturn (⟨rfl, rfl, rfl⟩) (by omega) (by omega) ret_i dX2_sum_150
    · skip
      refine g_aload_n hX dX2_sum_37 2 rfl ?_
      refine g_get (ci := 2) hX rfl fin_X2 (ovR_o (S := S)) 9 (by decide) fl_X2_26 rfl dX2_sum_38 ?_
      refine g_iload_n hX dX2_sum_41 3 rfl ?_
      refine g_iald hX (ovR_at (S := S) 5 rfl) f rfl (by omega) (by decide) dX2_sum_42 ?_
      rw [hg]
      refine g_if_le hX 149 dX2_sum_43 (by decide) (fun _ => ?_) (fun c43 => absurd (by decide) c43)
      refine g_iload_n hX dX2_sum_149 1 rfl ?_
      exact hF (some (.int 1)) (ovR (cxT X) N o S) sz _ _ _ _ .ireturn (⟨rfl, rfl, rfl⟩) (by omega) (by omega) ret_i dX2_sum_150
  | succ n ihn =>
    intro f  ht hn
    have hf := ht.f
    have hg := ht.g
    have hm5 := ht.m
    have hm0 := ht.m0
    refine Ct.ofX hl (by decide) (Nat.le_of_ble_eq_true rfl) ?_
    intro X hl0 hT0 hD0 hlt hX hF
    subst hl0; subst hT0; subst hD0
    have loop : ∀ k, k ≤ (rM S f) → G X 7 (ovR (cxT X) N o S) sz 0 0 26 [(4, .int (nI k)), (3, .int (sumA 1 (fun j => s0R S n (rK S (5 * f + j))) k)), (0, .ref o), (1, .int (nI f)), (2, .int 0)] [] := by
      refine loop_up ?_
      intro k ih hk
      refine g_iload hX dX2_sum_26 0 rfl ?_
      refine g_aload_n hX dX2_sum_28 2 rfl ?_
      refine g_get (ci := 2) hX rfl fin_X2 (ovR_o (S := S)) 7 (by decide) fl_X2_20 rfl dX2_sum_29 ?_
      refine g_iload_n hX dX2_sum_32 3 rfl ?_
      refine g_iald hX (ovR_at (S := S) 3 rfl) f rfl (by omega) (by decide) dX2_sum_33 ?_
      refine g_icmp_ge hX 149 dX2_sum_34 (by decide) (fun c34 => ?_) (fun c34 => ?_)
      · skip
        have hke : k = rM S f := by have h9 := (nI_leI (a := rM S f) (b := k) (by omega) (by omega)).mp c34; omega
        subst hke
        refine g_iload_n hX dX2_sum_149 1 rfl ?_
        exact hF (some (.int (sumA 1 (fun j => s0R S n (rK S (5 * f + j))) (rM S f)))) (ovR (cxT X) N o S) sz _ _ _ _ .ireturn (⟨rfl, rfl, rfl⟩) (by omega) (by omega) ret_i dX2_sum_150
      · skip
        have hk2 : k < rM S f := by have h9 := mt (nI_leI (a := rM S f) (b := k) (by omega) (by omega)).mpr c34; omega
        refine g_aload_n hX dX2_sum_37 2 rfl ?_
        refine g_get (ci := 2) hX rfl fin_X2 (ovR_o (S := S)) 9 (by decide) fl_X2_26 rfl dX2_sum_38 ?_
        refine g_iload_n hX dX2_sum_41 3 rfl ?_
        refine g_iald hX (ovR_at (S := S) 5 rfl) f rfl (by omega) (by decide) dX2_sum_42 ?_
        rw [hg]
        refine g_if_le hX 149 dX2_sum_43 (by decide) (fun c43 => absurd c43 (nI_nle (by omega) (by omega))) (fun _ => ?_)
        refine g_aload_n hX dX2_sum_46 2 rfl ?_
        refine g_iload_n hX dX2_sum_47 3 rfl ?_
        refine g_iload hX dX2_sum_48 0 rfl ?_
        refine g_callV [] hX (cr_held hX.st sz (f := f) (p := k) (by omega)) cw_X2_held cv_X2_held lk_X2_44 (ci := 2) rfl rfl ovR_o ⟨by omega, by omega⟩ ⟨by omega, by omega⟩ (Nat.le_of_ble_eq_true rfl) rfl dX2_sum_50 rfl (fun v50 M50 z50 hp50 hz50 hd50 => ?_)
        obtain ⟨rfl, rfl, rfl⟩ := hp50
        show G X _ (ovR (cxT X) N o S) sz (0 + 0) (0 + 0) 53 [(4, .int (nI k)), (3, .int (sumA 1 (fun j => s0R S n (rK S (5 * f + j))) k)), (0, .ref o), (1, .int (nI f)), (2, .int 0)] [.int (nI (rK S (5 * f + k)))]
        refine g_istore (L' := [(5, .int (nI (rK S (5 * f + k)))), (4, .int (nI k)), (3, .int (sumA 1 (fun j => s0R S n (rK S (5 * f + j))) k)), (0, .ref o), (1, .int (nI f)), (2, .int 0)]) hX dX2_sum_53 (by decide) rfl ?_
        refine g_iload_n hX dX2_sum_55 2 rfl ?_
        refine g_aload_n hX dX2_sum_56 3 rfl ?_
        refine g_iload hX dX2_sum_57 0 rfl ?_
        refine g_iload_n hX dX2_sum_59 5 rfl ?_
        refine g_callV [.int (sumA 1 (fun j => s0R S n (rK S (5 * f + j))) k)] hX (ihn (rK S (5 * f + k)) (ht.k hk2) (by omega)) cw_X2_sum cv_X2_sum lk_X2_159 (ci := 2) rfl rfl ovR_o ⟨by omega, by omega⟩ ⟨by omega, by omega⟩ (Nat.le_of_ble_eq_true rfl) rfl dX2_sum_60 rfl (fun v60 M60 z60 hp60 hz60 hd60 => ?_)
        obtain ⟨rfl, rfl, rfl⟩ := hp60
        show G X _ (ovR (cxT X) N o S) sz ((0 + 0) + 0) ((0 + 0) + 0) 63 [(5, .int (nI (rK S (5 * f + k)))), (4, .int (nI k)), (3, .int (sumA 1 (fun j => s0R S n (rK S (5 * f + j))) k)), (0, .ref o), (1, .int (nI f)), (2, .int 0)] [.int (s0R S n (rK S (5 * f + k))), .int (sumA 1 (fun j => s0R S n (rK S (5 * f + j))) k)]
        refine g_iadd hX dX2_sum_63 ?_
        refine g_istore_n (L' := [(3, .int ((sumA 1 (fun j => s0R S n (rK S (5 * f + j))) k) + (s0R S n (rK S (5 * f + k))))), (5, .int (nI (rK S (5 * f + k)))), (4, .int (nI k)), (0, .ref o), (1, .int (nI f)), (2, .int 0)]) hX dX2_sum_64 (by decide) rfl ?_
        refine g_iload_n hX dX2_sum_65 5 rfl ?_
        refine g_iconst (v := 2) hX dX2_sum_66 (by decide) ?_
        refine g_icmp_ge hX 73 dX2_sum_67 (by decide) (fun c67 => absurd c67 (by decide)) (fun _ => ?_)
        refine g_goto hX 143 dX2_sum_70 (by decide) ?_
        refine g_iinc (v := nI (k + 1)) (L' := [(4, .int (nI (k + 1))), (3, .int ((sumA 1 (fun j => s0R S n (rK S (5 * f + j))) k) + (s0R S n (rK S (5 * f + k))))), (5, .int (nI (rK S (5 * f + k)))), (0, .ref o), (1, .int (nI f)), (2, .int 0)]) hX dX2_sum_143 2 rfl (nI_1 _) (by decide) rfl ?_
        refine g_goto hX 26 dX2_sum_146 (by decide) ?_
        refine g_sub [0, 1, 3, 4, 5] rfl ?_
        exact ih (k + 1) (by omega) (by omega)
    show G X 7 (ovR (cxT X) N o S) sz 0 0 0 [(0, .ref o), (1, .int (nI f)), (2, .int 0)] []
    refine g_iload_n hX dX2_sum_0 2 rfl ?_
    refine g_if_ne hX 8 dX2_sum_1 (by decide) (fun c1 => absurd (by decide) c1) (fun _ => ?_)
    refine g_iconst (v := 1) hX dX2_sum_4 (by decide) ?_
    refine g_goto hX 22 dX2_sum_5 (by decide) ?_
    refine g_istore_n (L' := [(3, .int 1), (0, .ref o), (1, .int (nI f)), (2, .int 0)]) hX dX2_sum_22 (by decide) rfl ?_
    refine g_iconst (v := 0) hX dX2_sum_23 (by decide) ?_
    refine g_istore (L' := [(4, .int 0), (3, .int 1), (0, .ref o), (1, .int (nI f)), (2, .int 0)]) hX dX2_sum_24 (by decide) rfl ?_
    refine g_sub [0, 1, 2, 3, 4] rfl ?_
    exact loop 0 (Nat.zero_le _)

set_option maxHeartbeats 4000000 in
set_option maxRecDepth 100000 in
theorem cr_sum1 {l : Launch} (hl : l.stackTraces = false) {T : CT3} {D : va_G} {N : AH} {o : Nat} {S : RS} (sz : Nat)  : ∀ (n f : Nat), TrR S n f → n < 1000 → Ct l T D yX2_sum cX2_sum 7 (some .int) (3 * n + 6) (60 * n + 130) 0 0 [.ref o, .int (nI f), .int 1] (ovR T N o S) sz (fun v M' z' => v = some (.int (s1R S n f)) ∧ M' = ovR T N o S ∧ sz = z') := by
  intro n
  induction n with
  | zero =>
    intro f  ht hn
    have hf := ht.f
    have hg := ht.g
    have hm5 := ht.m
    refine Ct.ofX hl (by decide) (Nat.le_of_ble_eq_true rfl) ?_
    intro X hl0 hT0 hD0 hlt hX hF
    subst hl0; subst hT0; subst hD0
    show G X 7 (ovR (cxT X) N o S) sz 0 0 0 [(0, .ref o), (1, .int (nI f)), (2, .int 1)] []
    refine g_iload_n hX dX2_sum_0 2 rfl ?_
    refine g_if_ne hX 8 dX2_sum_1 (by decide) (fun _ => ?_) (fun c1 => absurd c1 (by decide))
    refine g_iload_n hX dX2_sum_8 2 rfl ?_
    refine g_iconst (v := 1) hX dX2_sum_9 (by decide) ?_
    refine g_icmp_ne hX 21 dX2_sum_10 (by decide) (fun c10 => absurd (by decide) c10) (fun _ => ?_)
    refine g_aload_n hX dX2_sum_13 0 rfl ?_
    refine g_iload_n hX dX2_sum_14 1 rfl ?_
    refine g_callV [] hX (cr_areaF hX.st sz ht (by omega)) cw_X2_area_ cv_X2_area_ lk_X2_70 (ci := 2) rfl rfl ovR_o ⟨by omega, by omega⟩ ⟨by omega, by omega⟩ (Nat.le_of_ble_eq_true rfl) rfl dX2_sum_15 rfl (fun v15 M15 z15 hp15 hz15 hd15 => ?_)
    obtain ⟨rfl, rfl, rfl⟩ := hp15
    show G X _ (ovR (cxT X) N o S) sz (0 + 0) (0 + 0) 18 [(0, .ref o), (1, .int (nI f)), (2, .int 1)] [.int (arR S 0 f)]
    refine g_goto hX 22 dX2_sum_18 (by decide) ?_
    refine g_istore_n (L' := [(3, .int (arR S 0 f)), (0, .ref o), (1, .int (nI f)), (2, .int 1)]) hX dX2_sum_22 (by decide) rfl ?_
    refine g_iconst (v := 0) hX dX2_sum_23 (by decide) ?_
    refine g_istore (L' := [(4, .int 0), (3, .int (arR S 0 f)), (0, .ref o), (1, .int (nI f)), (2, .int 1)]) hX dX2_sum_24 (by decide) rfl ?_
    refine g_iload hX dX2_sum_26 0 rfl ?_
    refine g_aload_n hX dX2_sum_28 2 rfl ?_
    refine g_get (ci := 2) hX rfl fin_X2 (ovR_o (S := S)) 7 (by decide) fl_X2_20 rfl dX2_sum_29 ?_
    refine g_iload_n hX dX2_sum_32 3 rfl ?_
    refine g_iald hX (ovR_at (S := S) 3 rfl) f rfl (by omega) (by decide) dX2_sum_33 ?_
    refine g_icmp_ge hX 149 dX2_sum_34 (by decide) (fun c34 => ?_) (fun c34 => ?_)
    · skip
      refine g_iload_n hX dX2_sum_149 1 rfl ?_
      exact hF (some (.int (arR S 0 f))) (ovR (cxT X) N o S) sz _ _ _ _ .ireturn (⟨rfl, rfl, rfl⟩) (by omega) (by omega) ret_i dX2_sum_150
    · skip
      refine g_aload_n hX dX2_sum_37 2 rfl ?_
      refine g_get (ci := 2) hX rfl fin_X2 (ovR_o (S := S)) 9 (by decide) fl_X2_26 rfl dX2_sum_38 ?_
      refine g_iload_n hX dX2_sum_41 3 rfl ?_
      refine g_iald hX (ovR_at (S := S) 5 rfl) f rfl (by omega) (by decide) dX2_sum_42 ?_
      rw [hg]
      refine g_if_le hX 149 dX2_sum_43 (by decide) (fun _ => ?_) (fun c43 => absurd (by decide) c43)
      refine g_iload_n hX dX2_sum_149 1 rfl ?_
      exact hF (some (.int (arR S 0 f))) (ovR (cxT X) N o S) sz _ _ _ _ .ireturn (⟨rfl, rfl, rfl⟩) (by omega) (by omega) ret_i dX2_sum_150
  | succ n ihn =>
    intro f  ht hn
    have hf := ht.f
    have hg := ht.g
    have hm5 := ht.m
    have hm0 := ht.m0
    refine Ct.ofX hl (by decide) (Nat.le_of_ble_eq_true rfl) ?_
    intro X hl0 hT0 hD0 hlt hX hF
    subst hl0; subst hT0; subst hD0
    have loop : ∀ k, k ≤ (rM S f) → G X 7 (ovR (cxT X) N o S) sz 0 0 26 [(4, .int (nI k)), (3, .int (sumA (arR S (n + 1) f) (fun j => s1R S n (rK S (5 * f + j))) k)), (0, .ref o), (1, .int (nI f)), (2, .int 1)] [] := by
      refine loop_up ?_
      intro k ih hk
      refine g_iload hX dX2_sum_26 0 rfl ?_
      refine g_aload_n hX dX2_sum_28 2 rfl ?_
      refine g_get (ci := 2) hX rfl fin_X2 (ovR_o (S := S)) 7 (by decide) fl_X2_20 rfl dX2_sum_29 ?_
      refine g_iload_n hX dX2_sum_32 3 rfl ?_
      refine g_iald hX (ovR_at (S := S) 3 rfl) f rfl (by omega) (by decide) dX2_sum_33 ?_
      refine g_icmp_ge hX 149 dX2_sum_34 (by decide) (fun c34 => ?_) (fun c34 => ?_)
      · skip
        have hke : k = rM S f := by have h9 := (nI_leI (a := rM S f) (b := k) (by omega) (by omega)).mp c34; omega
        subst hke
        refine g_iload_n hX dX2_sum_149 1 rfl ?_
        exact hF (some (.int (sumA (arR S (n + 1) f) (fun j => s1R S n (rK S (5 * f + j))) (rM S f)))) (ovR (cxT X) N o S) sz _ _ _ _ .ireturn (⟨rfl, rfl, rfl⟩) (by omega) (by omega) ret_i dX2_sum_150
      · skip
        have hk2 : k < rM S f := by have h9 := mt (nI_leI (a := rM S f) (b := k) (by omega) (by omega)).mpr c34; omega
        refine g_aload_n hX dX2_sum_37 2 rfl ?_
        refine g_get (ci := 2) hX rfl fin_X2 (ovR_o (S := S)) 9 (by decide) fl_X2_26 rfl dX2_sum_38 ?_
        refine g_iload_n hX dX2_sum_41 3 rfl ?_
        refine g_iald hX (ovR_at (S := S) 5 rfl) f rfl (by omega) (by decide) dX2_sum_42 ?_
        rw [hg]
        refine g_if_le hX 149 dX2_sum_43 (by decide) (fun c43 => absurd c43 (nI_nle (by omega) (by omega))) (fun _ => ?_)
        refine g_aload_n hX dX2_sum_46 2 rfl ?_
        refine g_iload_n hX dX2_sum_47 3 rfl ?_
        refine g_iload hX dX2_sum_48 0 rfl ?_
        refine g_callV [] hX (cr_held hX.st sz (f := f) (p := k) (by omega)) cw_X2_held cv_X2_held lk_X2_44 (ci := 2) rfl rfl ovR_o ⟨by omega, by omega⟩ ⟨by omega, by omega⟩ (Nat.le_of_ble_eq_true rfl) rfl dX2_sum_50 rfl (fun v50 M50 z50 hp50 hz50 hd50 => ?_)
        obtain ⟨rfl, rfl, rfl⟩ := hp50
        show G X _ (ovR (cxT X) N o S) sz (0 + 0) (0 + 0) 53 [(4, .int (nI k)), (3, .int (sumA (arR S (n + 1) f) (fun j => s1R S n (rK S (5 * f + j))) k)), (0, .ref o), (1, .int (nI f)), (2, .int 1)] [.int (nI (rK S (5 * f + k)))]
        refine g_istore (L' := [(5, .int (nI (rK S (5 * f + k)))), (4, .int (nI k)), (3, .int (sumA (arR S (n + 1) f) (fun j => s1R S n (rK S (5 * f + j))) k)), (0, .ref o), (1, .int (nI f)), (2, .int 1)]) hX dX2_sum_53 (by decide) rfl ?_
        refine g_iload_n hX dX2_sum_55 2 rfl ?_
        refine g_aload_n hX dX2_sum_56 3 rfl ?_
        refine g_iload hX dX2_sum_57 0 rfl ?_
        refine g_iload_n hX dX2_sum_59 5 rfl ?_
        refine g_callV [.int (sumA (arR S (n + 1) f) (fun j => s1R S n (rK S (5 * f + j))) k)] hX (ihn (rK S (5 * f + k)) (ht.k hk2) (by omega)) cw_X2_sum cv_X2_sum lk_X2_159 (ci := 2) rfl rfl ovR_o ⟨by omega, by omega⟩ ⟨by omega, by omega⟩ (Nat.le_of_ble_eq_true rfl) rfl dX2_sum_60 rfl (fun v60 M60 z60 hp60 hz60 hd60 => ?_)
        obtain ⟨rfl, rfl, rfl⟩ := hp60
        show G X _ (ovR (cxT X) N o S) sz ((0 + 0) + 0) ((0 + 0) + 0) 63 [(5, .int (nI (rK S (5 * f + k)))), (4, .int (nI k)), (3, .int (sumA (arR S (n + 1) f) (fun j => s1R S n (rK S (5 * f + j))) k)), (0, .ref o), (1, .int (nI f)), (2, .int 1)] [.int (s1R S n (rK S (5 * f + k))), .int (sumA (arR S (n + 1) f) (fun j => s1R S n (rK S (5 * f + j))) k)]
        refine g_iadd hX dX2_sum_63 ?_
        refine g_istore_n (L' := [(3, .int ((sumA (arR S (n + 1) f) (fun j => s1R S n (rK S (5 * f + j))) k) + (s1R S n (rK S (5 * f + k))))), (5, .int (nI (rK S (5 * f + k)))), (4, .int (nI k)), (0, .ref o), (1, .int (nI f)), (2, .int 1)]) hX dX2_sum_64 (by decide) rfl ?_
        refine g_iload_n hX dX2_sum_65 5 rfl ?_
        refine g_iconst (v := 2) hX dX2_sum_66 (by decide) ?_
        refine g_icmp_ge hX 73 dX2_sum_67 (by decide) (fun c67 => absurd c67 (by decide)) (fun _ => ?_)
        refine g_goto hX 143 dX2_sum_70 (by decide) ?_
        refine g_iinc (v := nI (k + 1)) (L' := [(4, .int (nI (k + 1))), (3, .int ((sumA (arR S (n + 1) f) (fun j => s1R S n (rK S (5 * f + j))) k) + (s1R S n (rK S (5 * f + k))))), (5, .int (nI (rK S (5 * f + k)))), (0, .ref o), (1, .int (nI f)), (2, .int 1)]) hX dX2_sum_143 2 rfl (nI_1 _) (by decide) rfl ?_
        refine g_goto hX 26 dX2_sum_146 (by decide) ?_
        refine g_sub [0, 1, 3, 4, 5] rfl ?_
        exact ih (k + 1) (by omega) (by omega)
    show G X 7 (ovR (cxT X) N o S) sz 0 0 0 [(0, .ref o), (1, .int (nI f)), (2, .int 1)] []
    refine g_iload_n hX dX2_sum_0 2 rfl ?_
    refine g_if_ne hX 8 dX2_sum_1 (by decide) (fun _ => ?_) (fun c1 => absurd c1 (by decide))
    refine g_iload_n hX dX2_sum_8 2 rfl ?_
    refine g_iconst (v := 1) hX dX2_sum_9 (by decide) ?_
    refine g_icmp_ne hX 21 dX2_sum_10 (by decide) (fun c10 => absurd (by decide) c10) (fun _ => ?_)
    refine g_aload_n hX dX2_sum_13 0 rfl ?_
    refine g_iload_n hX dX2_sum_14 1 rfl ?_
    refine g_callV [] hX (cr_areaF hX.st sz ht (by omega)) cw_X2_area_ cv_X2_area_ lk_X2_70 (ci := 2) rfl rfl ovR_o ⟨by omega, by omega⟩ ⟨by omega, by omega⟩ (Nat.le_of_ble_eq_true rfl) rfl dX2_sum_15 rfl (fun v15 M15 z15 hp15 hz15 hd15 => ?_)
    obtain ⟨rfl, rfl, rfl⟩ := hp15
    show G X _ (ovR (cxT X) N o S) sz (0 + 0) (0 + 0) 18 [(0, .ref o), (1, .int (nI f)), (2, .int 1)] [.int (arR S (n + 1) f)]
    refine g_goto hX 22 dX2_sum_18 (by decide) ?_
    refine g_istore_n (L' := [(3, .int (arR S (n + 1) f)), (0, .ref o), (1, .int (nI f)), (2, .int 1)]) hX dX2_sum_22 (by decide) rfl ?_
    refine g_iconst (v := 0) hX dX2_sum_23 (by decide) ?_
    refine g_istore (L' := [(4, .int 0), (3, .int (arR S (n + 1) f)), (0, .ref o), (1, .int (nI f)), (2, .int 1)]) hX dX2_sum_24 (by decide) rfl ?_
    refine g_sub [0, 1, 2, 3, 4] rfl ?_
    exact loop 0 (Nat.zero_le _)

set_option maxHeartbeats 4000000 in
set_option maxRecDepth 100000 in
theorem cr_digestFrom {l : Launch} (hl : l.stackTraces = false) {T : CT3} {D : va_G} {N : AH} {o : Nat} {S : RS} (sz : Nat)  : ∀ (n f : Nat) (d : Int64), TrR S n f → n < 1000 → Ct l T D yX2_digestFrom cX2_digestFrom 7 (some .long) (3 * n + 6) (60 * n + 130) 0 0 [.ref o, .int (nI f), .long d] (ovR T N o S) sz (fun v M' z' => v = some (.long (dgR S n f d)) ∧ M' = ovR T N o S ∧ sz = z') := by
  intro n
  induction n with
  | zero =>
    intro f d ht hn
    have hf := ht.f
    have hg := ht.g
    have hm5 := ht.m
    refine Ct.ofX hl (by decide) (Nat.le_of_ble_eq_true rfl) ?_
    intro X hl0 hT0 hD0 hlt hX hF
    subst hl0; subst hT0; subst hD0
    have loop2 : ∀ k, k ≤ (rM S f) → G X 7 (ovR (cxT X) N o S) sz 0 0 63 [(6, .int (nI k)), (4, .long (iterL (fun i d => d * 31 + (nI (rK S (5 * f + i))).toInt64) (dg4R S 0 f d 4) k)), (0, .ref o), (1, .int (nI f)), (2, .long d)] [] := by
      refine loop_up ?_
      intro k ih hk
      refine g_iload hX dX2_digestFrom_63 0 rfl ?_
      refine g_aload_n hX dX2_digestFrom_65 2 rfl ?_
      refine g_get (ci := 2) hX rfl fin_X2 (ovR_o (S := S)) 7 (by decide) fl_X2_20 rfl dX2_digestFrom_66 ?_
      refine g_iload_n hX dX2_digestFrom_69 3 rfl ?_
      refine g_iald hX (ovR_at (S := S) 3 rfl) f rfl (by omega) (by decide) dX2_digestFrom_70 ?_
      refine g_icmp_ge hX 122 dX2_digestFrom_71 (by decide) (fun c71 => ?_) (fun c71 => ?_)
      · skip
        have hke : k = rM S f := by have h9 := (nI_leI (a := rM S f) (b := k) (by omega) (by omega)).mp c71; omega
        subst hke
        refine g_lload hX dX2_digestFrom_122 1 rfl ?_
        exact hF (some (.long (iterL (fun i d => d * 31 + (nI (rK S (5 * f + i))).toInt64) (dg4R S 0 f d 4) (rM S f)))) (ovR (cxT X) N o S) sz _ _ _ _ .lreturn (⟨rfl, rfl, rfl⟩) (by omega) (by omega) ret_l dX2_digestFrom_124
      · skip
        have hk2 : k < rM S f := by have h9 := mt (nI_leI (a := rM S f) (b := k) (by omega) (by omega)).mpr c71; omega
        refine g_aload_n hX dX2_digestFrom_74 2 rfl ?_
        refine g_get (ci := 2) hX rfl fin_X2 (ovR_o (S := S)) 9 (by decide) fl_X2_26 rfl dX2_digestFrom_75 ?_
        refine g_iload_n hX dX2_digestFrom_78 3 rfl ?_
        refine g_iald hX (ovR_at (S := S) 5 rfl) f rfl (by omega) (by decide) dX2_digestFrom_79 ?_
        rw [hg]
        refine g_if_ne hX 101 dX2_digestFrom_80 (by decide) (fun c80 => absurd (by decide) c80) (fun _ => ?_)
        refine g_lload hX dX2_digestFrom_83 1 rfl ?_
        refine g_ldc2 hX kl_X2_168 dX2_digestFrom_85 ?_
        refine g_lmul hX dX2_digestFrom_88 ?_
        refine g_aload_n hX dX2_digestFrom_89 2 rfl ?_
        refine g_iload_n hX dX2_digestFrom_90 3 rfl ?_
        refine g_iload hX dX2_digestFrom_91 0 rfl ?_
        refine g_callV [.long ((iterL (fun i d => d * 31 + (nI (rK S (5 * f + i))).toInt64) (dg4R S 0 f d 4) k) * 31)] hX (cr_held hX.st sz (f := f) (p := k) (by omega)) cw_X2_held cv_X2_held lk_X2_44 (ci := 2) rfl rfl ovR_o ⟨by omega, by omega⟩ ⟨by omega, by omega⟩ (Nat.le_of_ble_eq_true rfl) rfl dX2_digestFrom_93 rfl (fun v93 M93 z93 hp93 hz93 hd93 => ?_)
        obtain ⟨rfl, rfl, rfl⟩ := hp93
        show G X _ (ovR (cxT X) N o S) sz (0 + 0) (0 + 0) 96 [(6, .int (nI k)), (4, .long (iterL (fun i d => d * 31 + (nI (rK S (5 * f + i))).toInt64) (dg4R S 0 f d 4) k)), (0, .ref o), (1, .int (nI f)), (2, .long d)] [.int (nI (rK S (5 * f + k))), .long ((iterL (fun i d => d * 31 + (nI (rK S (5 * f + i))).toInt64) (dg4R S 0 f d 4) k) * 31)]
        refine g_i2l hX dX2_digestFrom_96 ?_
        refine g_ladd hX dX2_digestFrom_97 ?_
        refine g_goto hX 114 dX2_digestFrom_98 (by decide) ?_
        refine g_lstore (L' := [(4, .long (((iterL (fun i d => d * 31 + (nI (rK S (5 * f + i))).toInt64) (dg4R S 0 f d 4) k) * 31) + ((nI (rK S (5 * f + k))).toInt64))), (6, .int (nI k)), (0, .ref o), (1, .int (nI f)), (2, .long d)]) hX dX2_digestFrom_114 (by decide) rfl ?_
        refine g_iinc (v := nI (k + 1)) (L' := [(6, .int (nI (k + 1))), (4, .long (((iterL (fun i d => d * 31 + (nI (rK S (5 * f + i))).toInt64) (dg4R S 0 f d 4) k) * 31) + ((nI (rK S (5 * f + k))).toInt64))), (0, .ref o), (1, .int (nI f)), (2, .long d)]) hX dX2_digestFrom_116 1 rfl (nI_1 _) (by decide) rfl ?_
        refine g_goto hX 63 dX2_digestFrom_119 (by decide) ?_
        refine g_sub [0, 1, 2, 3, 4] rfl ?_
        exact ih (k + 1) (by omega) (by omega)
    have behind : G X 7 (ovR (cxT X) N o S) sz 0 0 60 [(6, .int (nI 4)), (4, .long (dg4R S 0 f d 4)), (0, .ref o), (1, .int (nI f)), (2, .long d)] [] := by
      refine g_iconst (v := 0) hX dX2_digestFrom_60 (by decide) ?_
      refine g_istore (L' := [(6, .int 0), (4, .long (dg4R S 0 f d 4)), (0, .ref o), (1, .int (nI f)), (2, .long d)]) hX dX2_digestFrom_61 (by decide) rfl ?_
      refine g_sub [0, 1, 2, 3, 4] rfl ?_
      exact loop2 0 (Nat.zero_le _)
    have loop1 : ∀ j, j ≤ 4 → G X 7 (ovR (cxT X) N o S) sz 0 0 18 [(6, .int (nI j)), (4, .long (dg4R S 0 f d j)), (0, .ref o), (1, .int (nI f)), (2, .long d)] [] := by
      refine loop_up ?_
      intro j ih hk
      refine g_iload hX dX2_digestFrom_18 0 rfl ?_
      refine g_iconst (v := 4) hX dX2_digestFrom_20 (by decide) ?_
      refine g_icmp_ge hX 60 dX2_digestFrom_21 (by decide) (fun c21 => ?_) (fun c21 => ?_)
      · skip
        have hje : j = 4 := by have h9 := (nI_leI (a := 4) (b := j) (by omega) (by omega)).mp c21; omega
        subst hje
        exact behind
      · skip
        have hj4 : j < 4 := by have h9 := mt (nI_leI (a := 4) (b := j) (by omega) (by omega)).mpr c21; omega
        refine g_lload hX dX2_digestFrom_24 1 rfl ?_
        refine g_ldc2 hX kl_X2_168 dX2_digestFrom_26 ?_
        refine g_lmul hX dX2_digestFrom_29 ?_
        refine g_aload_n hX dX2_digestFrom_30 2 rfl ?_
        refine g_get (ci := 2) hX rfl fin_X2 (ovR_o (S := S)) 7 (by decide) fl_X2_20 rfl dX2_digestFrom_31 ?_
        refine g_iload_n hX dX2_digestFrom_34 3 rfl ?_
        refine g_iald hX (ovR_at (S := S) 3 rfl) f rfl (by omega) (by decide) dX2_digestFrom_35 ?_
        refine g_if_ne hX 43 dX2_digestFrom_36 (by decide) (fun c36 => ?_) (fun c36 => ?_)
        · skip
          have h0 : 0 < rM S f := by have h9 : ¬ rM S f = 0 := fun e => c36 (by rw [e]; rfl); omega
          refine g_aload_n hX dX2_digestFrom_43 2 rfl ?_
          refine g_iload_n hX dX2_digestFrom_44 3 rfl ?_
          refine g_iload hX dX2_digestFrom_45 0 rfl ?_
          refine g_callV [.long ((dg4R S 0 f d j) * 31)] hX (cr_edge 0 ht h0 (by omega) (by omega) hX.st sz) cw_X2_edge cv_X2_edge lk_X2_47 (ci := 2) rfl rfl ovR_o ⟨by omega, by omega⟩ ⟨by omega, by omega⟩ (Nat.le_of_ble_eq_true rfl) rfl dX2_digestFrom_47 rfl (fun v47 M47 z47 hp47 hz47 hd47 => ?_)
          obtain ⟨rfl, rfl, rfl⟩ := hp47
          show G X _ (ovR (cxT X) N o S) sz (0 + 0) (0 + 0) 50 [(6, .int (nI j)), (4, .long (dg4R S 0 f d j)), (0, .ref o), (1, .int (nI f)), (2, .long d)] [.int (edR S 0 f j), .long ((dg4R S 0 f d j) * 31)]
          refine g_i2l hX dX2_digestFrom_50 ?_
          refine g_ladd hX dX2_digestFrom_51 ?_
          refine g_lstore (L' := [(4, .long (((dg4R S 0 f d j) * 31) + ((edR S 0 f j).toInt64))), (6, .int (nI j)), (0, .ref o), (1, .int (nI f)), (2, .long d)]) hX dX2_digestFrom_52 (by decide) rfl ?_
          refine g_iinc (v := nI (j + 1)) (L' := [(6, .int (nI (j + 1))), (4, .long (((dg4R S 0 f d j) * 31) + ((edR S 0 f j).toInt64))), (0, .ref o), (1, .int (nI f)), (2, .long d)]) hX dX2_digestFrom_54 1 rfl (nI_1 _) (by decide) rfl ?_
          refine g_goto hX 18 dX2_digestFrom_57 (by decide) ?_
          have hst : dg4R S 0 f d (j + 1) = dg4R S 0 f d j * 31 + (if rM S f = 0 then (0 : Int32) else edR S 0 f j).toInt64 := rfl
          rw [if_neg (by omega)] at hst
          rw [← hst]
          refine g_sub [0, 1, 2, 3, 4] rfl ?_
          exact ih (j + 1) (by omega) (by omega)
        · skip
          have h0 : rM S f = 0 := (nI_eq (a := rM S f) (b := 0) (by omega) (by omega)).mp c36
          refine g_iconst (v := 0) hX dX2_digestFrom_39 (by decide) ?_
          refine g_goto hX 50 dX2_digestFrom_40 (by decide) ?_
          refine g_i2l hX dX2_digestFrom_50 ?_
          refine g_ladd hX dX2_digestFrom_51 ?_
          refine g_lstore (L' := [(4, .long (((dg4R S 0 f d j) * 31) + ((0 : Int32).toInt64))), (6, .int (nI j)), (0, .ref o), (1, .int (nI f)), (2, .long d)]) hX dX2_digestFrom_52 (by decide) rfl ?_
          refine g_iinc (v := nI (j + 1)) (L' := [(6, .int (nI (j + 1))), (4, .long (((dg4R S 0 f d j) * 31) + ((0 : Int32).toInt64))), (0, .ref o), (1, .int (nI f)), (2, .long d)]) hX dX2_digestFrom_54 1 rfl (nI_1 _) (by decide) rfl ?_
          refine g_goto hX 18 dX2_digestFrom_57 (by decide) ?_
          have hst : dg4R S 0 f d (j + 1) = dg4R S 0 f d j * 31 + (if rM S f = 0 then (0 : Int32) else edR S 0 f j).toInt64 := rfl
          rw [if_pos h0] at hst
          rw [← hst]
          refine g_sub [0, 1, 2, 3, 4] rfl ?_
          exact ih (j + 1) (by omega) (by omega)
    show G X 7 (ovR (cxT X) N o S) sz 0 0 0 [(0, .ref o), (1, .int (nI f)), (2, .long d)] []
    refine g_lload_n hX dX2_digestFrom_0 2 rfl ?_
    refine g_ldc2 hX kl_X2_168 dX2_digestFrom_1 ?_
    refine g_lmul hX dX2_digestFrom_4 ?_
    refine g_aload_n hX dX2_digestFrom_5 0 rfl ?_
    refine g_get (ci := 2) hX rfl fin_X2 (ovR_o (S := S)) 7 (by decide) fl_X2_20 rfl dX2_digestFrom_6 ?_
    refine g_iload_n hX dX2_digestFrom_9 1 rfl ?_
    refine g_iald hX (ovR_at (S := S) 3 rfl) f rfl (by omega) (by decide) dX2_digestFrom_10 ?_
    refine g_i2l hX dX2_digestFrom_11 ?_
    refine g_ladd hX dX2_digestFrom_12 ?_
    refine g_lstore (L' := [(4, .long ((d * 31) + ((nI (rM S f)).toInt64))), (0, .ref o), (1, .int (nI f)), (2, .long d)]) hX dX2_digestFrom_13 (by decide) rfl ?_
    refine g_iconst (v := 0) hX dX2_digestFrom_15 (by decide) ?_
    refine g_istore (L' := [(6, .int 0), (4, .long ((d * 31) + ((nI (rM S f)).toInt64))), (0, .ref o), (1, .int (nI f)), (2, .long d)]) hX dX2_digestFrom_16 (by decide) rfl ?_
    refine g_sub [0, 1, 2, 3, 4] rfl ?_
    exact loop1 0 (Nat.zero_le _)
  | succ n ihn =>
    intro f d ht hn
    have hf := ht.f
    have hg := ht.g
    have hm5 := ht.m
    have hm0 := ht.m0
    refine Ct.ofX hl (by decide) (Nat.le_of_ble_eq_true rfl) ?_
    intro X hl0 hT0 hD0 hlt hX hF
    subst hl0; subst hT0; subst hD0
    have loop2 : ∀ k, k ≤ (rM S f) → G X 7 (ovR (cxT X) N o S) sz 0 0 63 [(6, .int (nI k)), (4, .long (iterL (fun i d => dgR S n (rK S (5 * f + i)) d) (dg4R S (n + 1) f d 4) k)), (0, .ref o), (1, .int (nI f)), (2, .long d)] [] := by
      refine loop_up ?_
      intro k ih hk
      refine g_iload hX dX2_digestFrom_63 0 rfl ?_
      refine g_aload_n hX dX2_digestFrom_65 2 rfl ?_
      refine g_get (ci := 2) hX rfl fin_X2 (ovR_o (S := S)) 7 (by decide) fl_X2_20 rfl dX2_digestFrom_66 ?_
      refine g_iload_n hX dX2_digestFrom_69 3 rfl ?_
      refine g_iald hX (ovR_at (S := S) 3 rfl) f rfl (by omega) (by decide) dX2_digestFrom_70 ?_
      refine g_icmp_ge hX 122 dX2_digestFrom_71 (by decide) (fun c71 => ?_) (fun c71 => ?_)
      · skip
        have hke : k = rM S f := by have h9 := (nI_leI (a := rM S f) (b := k) (by omega) (by omega)).mp c71; omega
        subst hke
        refine g_lload hX dX2_digestFrom_122 1 rfl ?_
        exact hF (some (.long (iterL (fun i d => dgR S n (rK S (5 * f + i)) d) (dg4R S (n + 1) f d 4) (rM S f)))) (ovR (cxT X) N o S) sz _ _ _ _ .lreturn (⟨rfl, rfl, rfl⟩) (by omega) (by omega) ret_l dX2_digestFrom_124
      · skip
        have hk2 : k < rM S f := by have h9 := mt (nI_leI (a := rM S f) (b := k) (by omega) (by omega)).mpr c71; omega
        refine g_aload_n hX dX2_digestFrom_74 2 rfl ?_
        refine g_get (ci := 2) hX rfl fin_X2 (ovR_o (S := S)) 9 (by decide) fl_X2_26 rfl dX2_digestFrom_75 ?_
        refine g_iload_n hX dX2_digestFrom_78 3 rfl ?_
        refine g_iald hX (ovR_at (S := S) 5 rfl) f rfl (by omega) (by decide) dX2_digestFrom_79 ?_
        rw [hg]
        refine g_if_ne hX 101 dX2_digestFrom_80 (by decide) (fun _ => ?_) (fun c80 => absurd c80 (nI_ne0 (by omega) (by omega)))
        refine g_aload_n hX dX2_digestFrom_101 2 rfl ?_
        refine g_aload_n hX dX2_digestFrom_102 2 rfl ?_
        refine g_iload_n hX dX2_digestFrom_103 3 rfl ?_
        refine g_iload hX dX2_digestFrom_104 0 rfl ?_
        refine g_callV [.ref o] hX (cr_held hX.st sz (f := f) (p := k) (by omega)) cw_X2_held cv_X2_held lk_X2_44 (ci := 2) rfl rfl ovR_o ⟨by omega, by omega⟩ ⟨by omega, by omega⟩ (Nat.le_of_ble_eq_true rfl) rfl dX2_digestFrom_106 rfl (fun v106 M106 z106 hp106 hz106 hd106 => ?_)
        obtain ⟨rfl, rfl, rfl⟩ := hp106
        show G X _ (ovR (cxT X) N o S) sz (0 + 0) (0 + 0) 109 [(6, .int (nI k)), (4, .long (iterL (fun i d => dgR S n (rK S (5 * f + i)) d) (dg4R S (n + 1) f d 4) k)), (0, .ref o), (1, .int (nI f)), (2, .long d)] [.int (nI (rK S (5 * f + k))), .ref o]
        refine g_lload hX dX2_digestFrom_109 1 rfl ?_
        refine g_callV [] hX (ihn (rK S (5 * f + k)) (iterL (fun i d => dgR S n (rK S (5 * f + i)) d) (dg4R S (n + 1) f d 4) k) (ht.k hk2) (by omega)) cw_X2_digestFrom cv_X2_digestFrom lk_X2_170 (ci := 2) rfl rfl ovR_o ⟨by omega, by omega⟩ ⟨by omega, by omega⟩ (Nat.le_of_ble_eq_true rfl) rfl dX2_digestFrom_111 rfl (fun v111 M111 z111 hp111 hz111 hd111 => ?_)
        obtain ⟨rfl, rfl, rfl⟩ := hp111
        show G X _ (ovR (cxT X) N o S) sz ((0 + 0) + 0) ((0 + 0) + 0) 114 [(6, .int (nI k)), (4, .long (iterL (fun i d => dgR S n (rK S (5 * f + i)) d) (dg4R S (n + 1) f d 4) k)), (0, .ref o), (1, .int (nI f)), (2, .long d)] [.long (dgR S n (rK S (5 * f + k)) (iterL (fun i d => dgR S n (rK S (5 * f + i)) d) (dg4R S (n + 1) f d 4) k))]
        refine g_lstore (L' := [(4, .long (dgR S n (rK S (5 * f + k)) (iterL (fun i d => dgR S n (rK S (5 * f + i)) d) (dg4R S (n + 1) f d 4) k))), (6, .int (nI k)), (0, .ref o), (1, .int (nI f)), (2, .long d)]) hX dX2_digestFrom_114 (by decide) rfl ?_
        refine g_iinc (v := nI (k + 1)) (L' := [(6, .int (nI (k + 1))), (4, .long (dgR S n (rK S (5 * f + k)) (iterL (fun i d => dgR S n (rK S (5 * f + i)) d) (dg4R S (n + 1) f d 4) k))), (0, .ref o), (1, .int (nI f)), (2, .long d)]) hX dX2_digestFrom_116 1 rfl (nI_1 _) (by decide) rfl ?_
        refine g_goto hX 63 dX2_digestFrom_119 (by decide) ?_
        refine g_sub [0, 1, 2, 3, 4] rfl ?_
        exact ih (k + 1) (by omega) (by omega)
    have behind : G X 7 (ovR (cxT X) N o S) sz 0 0 60 [(6, .int (nI 4)), (4, .long (dg4R S (n + 1) f d 4)), (0, .ref o), (1, .int (nI f)), (2, .long d)] [] := by
      refine g_iconst (v := 0) hX dX2_digestFrom_60 (by decide) ?_
      refine g_istore (L' := [(6, .int 0), (4, .long (dg4R S (n + 1) f d 4)), (0, .ref o), (1, .int (nI f)), (2, .long d)]) hX dX2_digestFrom_61 (by decide) rfl ?_
      refine g_sub [0, 1, 2, 3, 4] rfl ?_
      exact loop2 0 (Nat.zero_le _)
    have loop1 : ∀ j, j ≤ 4 → G X 7 (ovR (cxT X) N o S) sz 0 0 18 [(6, .int (nI j)), (4, .long (dg4R S (n + 1) f d j)), (0, .ref o), (1, .int (nI f)), (2, .long d)] [] := by
      refine loop_up ?_
      intro j ih hk
      refine g_iload hX dX2_digestFrom_18 0 rfl ?_
      refine g_iconst (v := 4) hX dX2_digestFrom_20 (by decide) ?_
      refine g_icmp_ge hX 60 dX2_digestFrom_21 (by decide) (fun c21 => ?_) (fun c21 => ?_)
      · skip
        have hje : j = 4 := by have h9 := (nI_leI (a := 4) (b := j) (by omega) (by omega)).mp c21; omega
        subst hje
        exact behind
      · skip
        have hj4 : j < 4 := by have h9 := mt (nI_leI (a := 4) (b := j) (by omega) (by omega)).mpr c21; omega
        refine g_lload hX dX2_digestFrom_24 1 rfl ?_
        refine g_ldc2 hX kl_X2_168 dX2_digestFrom_26 ?_
        refine g_lmul hX dX2_digestFrom_29 ?_
        refine g_aload_n hX dX2_digestFrom_30 2 rfl ?_
        refine g_get (ci := 2) hX rfl fin_X2 (ovR_o (S := S)) 7 (by decide) fl_X2_20 rfl dX2_digestFrom_31 ?_
        refine g_iload_n hX dX2_digestFrom_34 3 rfl ?_
        refine g_iald hX (ovR_at (S := S) 3 rfl) f rfl (by omega) (by decide) dX2_digestFrom_35 ?_
        refine g_if_ne hX 43 dX2_digestFrom_36 (by decide) (fun c36 => ?_) (fun c36 => ?_)
        · skip
          have h0 : 0 < rM S f := by have h9 : ¬ rM S f = 0 := fun e => c36 (by rw [e]; rfl); omega
          refine g_aload_n hX dX2_digestFrom_43 2 rfl ?_
          refine g_iload_n hX dX2_digestFrom_44 3 rfl ?_
          refine g_iload hX dX2_digestFrom_45 0 rfl ?_
          refine g_callV [.long ((dg4R S (n + 1) f d j) * 31)] hX (cr_edge (n + 1) ht h0 (by omega) (by omega) hX.st sz) cw_X2_edge cv_X2_edge lk_X2_47 (ci := 2) rfl rfl ovR_o ⟨by omega, by omega⟩ ⟨by omega, by omega⟩ (Nat.le_of_ble_eq_true rfl) rfl dX2_digestFrom_47 rfl (fun v47 M47 z47 hp47 hz47 hd47 => ?_)
          obtain ⟨rfl, rfl, rfl⟩ := hp47
          show G X _ (ovR (cxT X) N o S) sz (0 + 0) (0 + 0) 50 [(6, .int (nI j)), (4, .long (dg4R S (n + 1) f d j)), (0, .ref o), (1, .int (nI f)), (2, .long d)] [.int (edR S (n + 1) f j), .long ((dg4R S (n + 1) f d j) * 31)]
          refine g_i2l hX dX2_digestFrom_50 ?_
          refine g_ladd hX dX2_digestFrom_51 ?_
          refine g_lstore (L' := [(4, .long (((dg4R S (n + 1) f d j) * 31) + ((edR S (n + 1) f j).toInt64))), (6, .int (nI j)), (0, .ref o), (1, .int (nI f)), (2, .long d)]) hX dX2_digestFrom_52 (by decide) rfl ?_
          refine g_iinc (v := nI (j + 1)) (L' := [(6, .int (nI (j + 1))), (4, .long (((dg4R S (n + 1) f d j) * 31) + ((edR S (n + 1) f j).toInt64))), (0, .ref o), (1, .int (nI f)), (2, .long d)]) hX dX2_digestFrom_54 1 rfl (nI_1 _) (by decide) rfl ?_
          refine g_goto hX 18 dX2_digestFrom_57 (by decide) ?_
          have hst : dg4R S (n + 1) f d (j + 1) = dg4R S (n + 1) f d j * 31 + (if rM S f = 0 then (0 : Int32) else edR S (n + 1) f j).toInt64 := rfl
          rw [if_neg (by omega)] at hst
          rw [← hst]
          refine g_sub [0, 1, 2, 3, 4] rfl ?_
          exact ih (j + 1) (by omega) (by omega)
        · skip
          have h0 : rM S f = 0 := (nI_eq (a := rM S f) (b := 0) (by omega) (by omega)).mp c36
          refine g_iconst (v := 0) hX dX2_digestFrom_39 (by decide) ?_
          refine g_goto hX 50 dX2_digestFrom_40 (by decide) ?_
          refine g_i2l hX dX2_digestFrom_50 ?_
          refine g_ladd hX dX2_digestFrom_51 ?_
          refine g_lstore (L' := [(4, .long (((dg4R S (n + 1) f d j) * 31) + ((0 : Int32).toInt64))), (6, .int (nI j)), (0, .ref o), (1, .int (nI f)), (2, .long d)]) hX dX2_digestFrom_52 (by decide) rfl ?_
          refine g_iinc (v := nI (j + 1)) (L' := [(6, .int (nI (j + 1))), (4, .long (((dg4R S (n + 1) f d j) * 31) + ((0 : Int32).toInt64))), (0, .ref o), (1, .int (nI f)), (2, .long d)]) hX dX2_digestFrom_54 1 rfl (nI_1 _) (by decide) rfl ?_
          refine g_goto hX 18 dX2_digestFrom_57 (by decide) ?_
          have hst : dg4R S (n + 1) f d (j + 1) = dg4R S (n + 1) f d j * 31 + (if rM S f = 0 then (0 : Int32) else edR S (n + 1) f j).toInt64 := rfl
          rw [if_pos h0] at hst
          rw [← hst]
          refine g_sub [0, 1, 2, 3, 4] rfl ?_
          exact ih (j + 1) (by omega) (by omega)
    show G X 7 (ovR (cxT X) N o S) sz 0 0 0 [(0, .ref o), (1, .int (nI f)), (2, .long d)] []
    refine g_lload_n hX dX2_digestFrom_0 2 rfl ?_
    refine g_ldc2 hX kl_X2_168 dX2_digestFrom_1 ?_
    refine g_lmul hX dX2_digestFrom_4 ?_
    refine g_aload_n hX dX2_digestFrom_5 0 rfl ?_
    refine g_get (ci := 2) hX rfl fin_X2 (ovR_o (S := S)) 7 (by decide) fl_X2_20 rfl dX2_digestFrom_6 ?_
    refine g_iload_n hX dX2_digestFrom_9 1 rfl ?_
    refine g_iald hX (ovR_at (S := S) 3 rfl) f rfl (by omega) (by decide) dX2_digestFrom_10 ?_
    refine g_i2l hX dX2_digestFrom_11 ?_
    refine g_ladd hX dX2_digestFrom_12 ?_
    refine g_lstore (L' := [(4, .long ((d * 31) + ((nI (rM S f)).toInt64))), (0, .ref o), (1, .int (nI f)), (2, .long d)]) hX dX2_digestFrom_13 (by decide) rfl ?_
    refine g_iconst (v := 0) hX dX2_digestFrom_15 (by decide) ?_
    refine g_istore (L' := [(6, .int 0), (4, .long ((d * 31) + ((nI (rM S f)).toInt64))), (0, .ref o), (1, .int (nI f)), (2, .long d)]) hX dX2_digestFrom_16 (by decide) rfl ?_
    refine g_sub [0, 1, 2, 3, 4] rfl ?_
    exact loop1 0 (Nat.zero_le _)
