set_option maxHeartbeats 4000000 in
set_option maxRecDepth 100000 in
theorem cr_goDown {l : Launch} (hl : l.stackTraces = false) {T : CT3} {D : va_G} {N : AH} {o : Nat} {S : RS} (sz : Nat) {h : Nat} (ht : TrR S h (rC S 4)) (hh : h < 58) : Ct l T D yX2_goDown cX2_goDown 5 none (2 * h + 5) (49 * h + 113) 0 0 [.ref o] (ovR T N o S) sz (fun v M' z' => v = none ∧ (∃ w p, M' = ovR T N o (uWP S (va_up (rC S) 5 h) w p) ∧ (∀ j, j ≤ h → w j = pthR S h (rC S 4) j) ∧ ∀ j, j < h → p j = plcR S h (rC S 4) j) ∧ sz = z') := by
  refine Ct.ofX hl (by decide) (Nat.le_of_ble_eq_true rfl) ?_
  intro X hl0 hT0 hD0 hlt hX hF
  subst hl0; subst hT0; subst hD0
  have outer : ∀ i, i ≤ h → ∀ w p, (∀ j, j ≤ i → w j = pthR S h (rC S 4) j) → (∀ j, j < i → p j = plcR S h (rC S 4) j) → G X 5 (ovR (cxT X) N o (uWP S (va_up (rC S) 5 i) w p)) sz 0 0 15 [(0, .ref o)] [] := by
    refine loop_up ?_
    intro i ih hk w p hw hpp
    obtain ⟨x, hx⟩ : ∃ x, x = pthR S h (rC S 4) i := ⟨_, rfl⟩
    have htx : TrR S (h - i) x := by rw [hx]; exact pthR_tr ht i hk
    have hwi : w i = x := by rw [hw i (Nat.le_refl _)]; exact hx.symm
    have hxf := htx.f
    refine g_aload_n hX dX2_goDown_15 0 rfl ?_
    refine g_get (ci := 2) hX rfl fin_X2 (ovR_o (S := (uWP S (va_up (rC S) 5 i) w p))) 9 (by decide) fl_X2_26 rfl dX2_goDown_16 ?_
    refine g_aload_n hX dX2_goDown_19 0 rfl ?_
    refine g_get (ci := 2) hX rfl fin_X2 (ovR_o (S := (uWP S (va_up (rC S) 5 i) w p))) 10 (by decide) fl_X2_29 rfl dX2_goDown_20 ?_
    refine g_aload_n hX dX2_goDown_23 0 rfl ?_
    refine g_get (ci := 2) hX rfl fin_X2 (ovR_o (S := (uWP S (va_up (rC S) 5 i) w p))) 12 (by decide) fl_X2_77 rfl dX2_goDown_24 ?_
    rw [show rC (uWP S (va_up (rC S) 5 i) w p) 5 = i from va_up_self (rC S) 5 i]
    refine g_iald hX (ovR_at (S := (uWP S (va_up (rC S) 5 i) w p)) 6 rfl) i rfl (by omega) (by decide) dX2_goDown_27 ?_
    rw [show rW (uWP S (va_up (rC S) 5 i) w p) i = x from hwi]
    refine g_iald hX (ovR_at (S := (uWP S (va_up (rC S) 5 i) w p)) 5 rfl) x rfl (by omega) (by decide) dX2_goDown_28 ?_
    rw [show rG (uWP S (va_up (rC S) 5 i) w p) x = h - i from htx.g]
    refine g_if_le hX 158 dX2_goDown_29 (by decide) (fun c29 => ?_) (fun c29 => ?_)
    · skip
      have hih : i = h := by have h9 := (nI_leI (a := h - i) (b := 0) (by omega) (by omega)).mp c29; omega
      subst hih
      exact hF none (ovR (cxT X) N o (uWP S (va_up (rC S) 5 i) w p)) sz _ _ _ _ .return_ (⟨rfl, ⟨w, p, rfl, hw, hpp⟩, rfl⟩) (by omega) (by omega) ret_v dX2_goDown_158
    · skip
      have hih : 0 < h - i := by have h9 := mt (nI_leI (a := h - i) (b := 0) (by omega) (by omega)).mpr c29; omega
      obtain ⟨m, hm⟩ : ∃ m, h - i = m + 1 := ⟨h - i - 1, by omega⟩
      rw [hm] at htx
      have h0 := htx.m0
      have hm5 := htx.m
      refine g_aload_n hX dX2_goDown_32 0 rfl ?_
      refine g_get (ci := 2) hX rfl fin_X2 (ovR_o (S := (uWP S (va_up (rC S) 5 i) w p))) 10 (by decide) fl_X2_29 rfl dX2_goDown_33 ?_
      refine g_aload_n hX dX2_goDown_36 0 rfl ?_
      refine g_get (ci := 2) hX rfl fin_X2 (ovR_o (S := (uWP S (va_up (rC S) 5 i) w p))) 12 (by decide) fl_X2_77 rfl dX2_goDown_37 ?_
      rw [show rC (uWP S (va_up (rC S) 5 i) w p) 5 = i from va_up_self (rC S) 5 i]
      refine g_iald hX (ovR_at (S := (uWP S (va_up (rC S) 5 i) w p)) 6 rfl) i rfl (by omega) (by decide) dX2_goDown_40 ?_
      rw [show rW (uWP S (va_up (rC S) 5 i) w p) i = x from hwi]
      refine g_istore_n (L' := [(1, .int (nI x)), (0, .ref o)]) hX dX2_goDown_41 (by decide) rfl ?_
      refine g_iconst (v := 0) hX dX2_goDown_42 (by decide) ?_
      refine g_istore_n (L' := [(2, .int 0), (1, .int (nI x)), (0, .ref o)]) hX dX2_goDown_43 (by decide) rfl ?_
      refine g_iconst (v := 1) hX dX2_goDown_44 (by decide) ?_
      refine g_istore_n (L' := [(3, .int 1), (2, .int 0), (1, .int (nI x)), (0, .ref o)]) hX dX2_goDown_45 (by decide) rfl ?_
      have hbl := bstR_le S m x (rM S x - 1)
      have behind : G X 5 (ovR (cxT X) N o (uWP S (va_up (rC S) 5 i) w p)) sz 0 0 120 [(2, .int (nI (bstR S m x (rM S x - 1)))), (0, .ref o), (1, .int (nI x))] [] := by
        refine g_aload_n hX dX2_goDown_120 1 rfl ?_
        refine g_get (ci := 2) hX rfl fin_X2 (ovR_o (S := (uWP S (va_up (rC S) 5 i) w p))) 11 (by decide) fl_X2_32 rfl dX2_goDown_121 ?_
        refine g_aload_n hX dX2_goDown_124 1 rfl ?_
        refine g_get (ci := 2) hX rfl fin_X2 (ovR_o (S := (uWP S (va_up (rC S) 5 i) w p))) 12 (by decide) fl_X2_77 rfl dX2_goDown_125 ?_
        rw [show rC (uWP S (va_up (rC S) 5 i) w p) 5 = i from va_up_self (rC S) 5 i]
        refine g_iload_n hX dX2_goDown_128 0 rfl ?_
        refine g_iast hX (ovR_at (S := (uWP S (va_up (rC S) 5 i) w p)) 7 rfl) i rfl (by omega) (by decide) dX2_goDown_129 ?_
        refine g_eqM (ovR_uP i (bstR S m x (rM S x - 1)) rfl) ?_
        show G X _ (ovR (cxT X) N o (uWP S (va_up (rC S) 5 i) w (va_up p i (bstR S m x (rM S x - 1))))) sz 0 0 130 [(2, .int (nI (bstR S m x (rM S x - 1)))), (0, .ref o), (1, .int (nI x))] []
        refine g_aload_n hX dX2_goDown_130 1 rfl ?_
        refine g_dup hX dX2_goDown_131 rfl ?_
        refine g_get (ci := 2) hX rfl fin_X2 (ovR_o (S := (uWP S (va_up (rC S) 5 i) w (va_up p i (bstR S m x (rM S x - 1)))))) 12 (by decide) fl_X2_77 rfl dX2_goDown_132 ?_
        rw [show rC (uWP S (va_up (rC S) 5 i) w (va_up p i (bstR S m x (rM S x - 1)))) 5 = i from va_up_self (rC S) 5 i]
        refine g_iconst (v := 1) hX dX2_goDown_135 (by decide) ?_
        refine g_iadd hX dX2_goDown_136 ?_
        refine g_put (ci := 2) hX rfl fld_X2 (ovR_o (S := (uWP S (va_up (rC S) 5 i) w (va_up p i (bstR S m x (rM S x - 1)))))) 12 (by decide) fl_X2_77 rfl rfl rfl (Nat.le_of_ble_eq_true rfl) dX2_goDown_137 ?_
        refine g_eqM (ovR_uC5 (i + 1) (nI_1 _)) ?_
        rw [uWP_c5]
        refine g_aload_n hX dX2_goDown_140 1 rfl ?_
        refine g_get (ci := 2) hX rfl fin_X2 (ovR_o (S := (uWP S (va_up (rC S) 5 (i + 1)) w (va_up p i (bstR S m x (rM S x - 1)))))) 10 (by decide) fl_X2_29 rfl dX2_goDown_141 ?_
        refine g_aload_n hX dX2_goDown_144 1 rfl ?_
        refine g_get (ci := 2) hX rfl fin_X2 (ovR_o (S := (uWP S (va_up (rC S) 5 (i + 1)) w (va_up p i (bstR S m x (rM S x - 1)))))) 12 (by decide) fl_X2_77 rfl dX2_goDown_145 ?_
        rw [show rC (uWP S (va_up (rC S) 5 (i + 1)) w (va_up p i (bstR S m x (rM S x - 1)))) 5 = i + 1 from va_up_self (rC S) 5 (i + 1)]
        refine g_aload_n hX dX2_goDown_148 1 rfl ?_
        refine g_iload_n hX dX2_goDown_149 2 rfl ?_
        refine g_iload_n hX dX2_goDown_150 0 rfl ?_
        refine g_callV [.int (nI (i + 1)), .ref (o + 6)] hX (cr_held hX.st sz (S := uWP S (va_up (rC S) 5 (i + 1)) w (va_up p i (bstR S m x (rM S x - 1)))) (f := x) (p := bstR S m x (rM S x - 1)) (by omega)) cw_X2_held cv_X2_held lk_X2_44 (ci := 2) rfl rfl ovR_o ⟨by omega, by omega⟩ ⟨by omega, by omega⟩ (Nat.le_of_ble_eq_true rfl) rfl dX2_goDown_151 rfl (fun v151 M151 z151 hp151 hz151 hd151 => ?_)
        obtain ⟨rfl, rfl, rfl⟩ := hp151
        show G X _ (ovR (cxT X) N o (uWP S (va_up (rC S) 5 (i + 1)) w (va_up p i (bstR S m x (rM S x - 1))))) sz (0 + 0) (0 + 0) 154 [(2, .int (nI (bstR S m x (rM S x - 1)))), (0, .ref o), (1, .int (nI x))] [.int (nI (rK S (5 * x + bstR S m x (rM S x - 1)))), .int (nI (i + 1)), .ref (o + 6)]
        refine g_iast hX (ovR_at (S := (uWP S (va_up (rC S) 5 (i + 1)) w (va_up p i (bstR S m x (rM S x - 1))))) 6 rfl) (i + 1) rfl (by omega) (by decide) dX2_goDown_154 ?_
        refine g_eqM (ovR_uW (i + 1) (rK S (5 * x + bstR S m x (rM S x - 1))) rfl) ?_
        show G X _ (ovR (cxT X) N o (uWP S (va_up (rC S) 5 (i + 1)) (va_up w (i + 1) (rK S (5 * x + bstR S m x (rM S x - 1)))) (va_up p i (bstR S m x (rM S x - 1))))) sz (0 + 0) (0 + 0) 155 [(2, .int (nI (bstR S m x (rM S x - 1)))), (0, .ref o), (1, .int (nI x))] []
        refine g_goto hX 15 dX2_goDown_155 (by decide) ?_
        refine g_sub [1] rfl ?_
        refine ih (i + 1) (by omega) (by omega) _ _ (fun j hj => ?_) (fun j hj => ?_)
        · by_cases hji : j = i + 1
          · subst hji
            rw [va_up_self]
            show _ = rK S (5 * pthR S h (rC S 4) i + bstR S (h - (i + 1)) (pthR S h (rC S 4) i) (rM S (pthR S h (rC S 4) i) - 1))
            rw [← hx, show h - (i + 1) = m by omega]
          · rw [va_up_ne _ _ hji]; exact hw j (by omega)
        · by_cases hji : j = i
          · subst hji
            rw [va_up_self]
            unfold plcR
            rw [← hx, show h - (j + 1) = m by omega]
          · rw [va_up_ne _ _ hji]; exact hpp j (by omega)
      have inner : ∀ j, j ≤ (rM S x - 1) → G X 5 (ovR (cxT X) N o (uWP S (va_up (rC S) 5 i) w p)) sz 0 0 46 [(3, .int (nI (j + 1))), (2, .int (nI (bstR S m x j))), (0, .ref o), (1, .int (nI x))] [] := by
        refine loop_up ?_
        intro j ih2 hj
        refine g_iload_n hX dX2_goDown_46 0 rfl ?_
        refine g_aload_n hX dX2_goDown_47 2 rfl ?_
        refine g_get (ci := 2) hX rfl fin_X2 (ovR_o (S := (uWP S (va_up (rC S) 5 i) w p))) 7 (by decide) fl_X2_20 rfl dX2_goDown_48 ?_
        refine g_iload_n hX dX2_goDown_51 3 rfl ?_
        refine g_iald hX (ovR_at (S := (uWP S (va_up (rC S) 5 i) w p)) 3 rfl) x rfl (by omega) (by decide) dX2_goDown_52 ?_
        refine g_icmp_ge hX 120 dX2_goDown_53 (by decide) (fun c53 => ?_) (fun c53 => ?_)
        · skip
          have hje : j = rM S x - 1 := by have h9 := (nI_leI (a := rM S x) (b := j + 1) (by omega) (by omega)).mp c53; omega
          subst hje
          refine g_sub [1, 2, 3] rfl ?_
          exact behind
        · skip
          have hj2 : j + 1 < rM S x := by have h9 := mt (nI_leI (a := rM S x) (b := j + 1) (by omega) (by omega)).mpr c53; omega
          have hbj := bstR_le S m x j
          have hk1 := htx.k (k := j + 1) hj2
          have hkb := htx.k (k := (bstR S m x j)) (by omega)
          refine g_aload_n hX dX2_goDown_56 2 rfl ?_
          refine g_aload_n hX dX2_goDown_57 2 rfl ?_
          refine g_iload_n hX dX2_goDown_58 3 rfl ?_
          refine g_iload_n hX dX2_goDown_59 0 rfl ?_
          refine g_callV [.ref o] hX (cr_held hX.st sz (S := uWP S (va_up (rC S) 5 i) w p) (f := x) (p := (j + 1)) (by omega)) cw_X2_held cv_X2_held lk_X2_44 (ci := 2) rfl rfl ovR_o ⟨by omega, by omega⟩ ⟨by omega, by omega⟩ (Nat.le_of_ble_eq_true rfl) rfl dX2_goDown_60 rfl (fun v60 M60 z60 hp60 hz60 hd60 => ?_)
          obtain ⟨rfl, rfl, rfl⟩ := hp60
          show G X _ (ovR (cxT X) N o (uWP S (va_up (rC S) 5 i) w p)) sz (0 + 0) (0 + 0) 63 [(3, .int (nI (j + 1))), (2, .int (nI (bstR S m x j))), (0, .ref o), (1, .int (nI x))] [.int (nI (rK S (5 * x + (j + 1)))), .ref o]
          refine g_callV [] hX (cr_growth hX.st sz (S := uWP S (va_up (rC S) 5 i) w p) (n := m) (f := (rK S (5 * x + (j + 1)))) (TrR.cg (S := S) (S' := uWP S (va_up (rC S) 5 i) w p) rfl rfl rfl hk1) (by omega)) cw_X2_growth cv_X2_growth lk_X2_83 (ci := 2) rfl rfl ovR_o ⟨by omega, by omega⟩ ⟨by omega, by omega⟩ (Nat.le_of_ble_eq_true rfl) rfl dX2_goDown_63 rfl (fun v63 M63 z63 hp63 hz63 hd63 => ?_)
          rw [gwR_cg (S := S) (S' := uWP S (va_up (rC S) 5 i) w p) rfl rfl rfl rfl] at hp63
          obtain ⟨rfl, rfl, rfl⟩ := hp63
          show G X _ (ovR (cxT X) N o (uWP S (va_up (rC S) 5 i) w p)) sz ((0 + 0) + 0) ((0 + 0) + 0) 66 [(3, .int (nI (j + 1))), (2, .int (nI (bstR S m x j))), (0, .ref o), (1, .int (nI x))] [.int (gwR S m (rK S (5 * x + (j + 1))))]
          refine g_aload_n hX dX2_goDown_66 2 rfl ?_
          refine g_aload_n hX dX2_goDown_67 2 rfl ?_
          refine g_iload_n hX dX2_goDown_68 3 rfl ?_
          refine g_iload_n hX dX2_goDown_69 1 rfl ?_
          refine g_callV [.ref o, .int (gwR S m (rK S (5 * x + (j + 1))))] hX (cr_held hX.st sz (S := uWP S (va_up (rC S) 5 i) w p) (f := x) (p := (bstR S m x j)) (by omega)) cw_X2_held cv_X2_held lk_X2_44 (ci := 2) rfl rfl ovR_o ⟨by omega, by omega⟩ ⟨by omega, by omega⟩ (Nat.le_of_ble_eq_true rfl) rfl dX2_goDown_70 rfl (fun v70 M70 z70 hp70 hz70 hd70 => ?_)
          obtain ⟨rfl, rfl, rfl⟩ := hp70
          show G X _ (ovR (cxT X) N o (uWP S (va_up (rC S) 5 i) w p)) sz (((0 + 0) + 0) + 0) (((0 + 0) + 0) + 0) 73 [(3, .int (nI (j + 1))), (2, .int (nI (bstR S m x j))), (0, .ref o), (1, .int (nI x))] [.int (nI (rK S (5 * x + (bstR S m x j)))), .ref o, .int (gwR S m (rK S (5 * x + (j + 1))))]
          refine g_callV [.int (gwR S m (rK S (5 * x + (j + 1))))] hX (cr_growth hX.st sz (S := uWP S (va_up (rC S) 5 i) w p) (n := m) (f := (rK S (5 * x + (bstR S m x j)))) (TrR.cg (S := S) (S' := uWP S (va_up (rC S) 5 i) w p) rfl rfl rfl hkb) (by omega)) cw_X2_growth cv_X2_growth lk_X2_83 (ci := 2) rfl rfl ovR_o ⟨by omega, by omega⟩ ⟨by omega, by omega⟩ (Nat.le_of_ble_eq_true rfl) rfl dX2_goDown_73 rfl (fun v73 M73 z73 hp73 hz73 hd73 => ?_)
          rw [gwR_cg (S := S) (S' := uWP S (va_up (rC S) 5 i) w p) rfl rfl rfl rfl] at hp73
          obtain ⟨rfl, rfl, rfl⟩ := hp73
          show G X _ (ovR (cxT X) N o (uWP S (va_up (rC S) 5 i) w p)) sz ((((0 + 0) + 0) + 0) + 0) ((((0 + 0) + 0) + 0) + 0) 76 [(3, .int (nI (j + 1))), (2, .int (nI (bstR S m x j))), (0, .ref o), (1, .int (nI x))] [.int (gwR S m (rK S (5 * x + (bstR S m x j)))), .int (gwR S m (rK S (5 * x + (j + 1))))]
          refine g_isub hX dX2_goDown_76 ?_
          refine g_istore (L' := [(4, .int ((gwR S m (rK S (5 * x + (j + 1)))) - (gwR S m (rK S (5 * x + (bstR S m x j)))))), (3, .int (nI (j + 1))), (2, .int (nI (bstR S m x j))), (0, .ref o), (1, .int (nI x))]) hX dX2_goDown_77 (by decide) rfl ?_
          refine g_iload hX dX2_goDown_79 0 rfl ?_
          refine g_if_lt hX 112 dX2_goDown_81 (by decide) (fun c81 => ?_) (fun c81 => ?_)
          · skip
            refine g_iload_n hX dX2_goDown_112 1 rfl ?_
            refine g_istore_n (L' := [(2, .int (nI (j + 1))), (4, .int ((gwR S m (rK S (5 * x + (j + 1)))) - (gwR S m (rK S (5 * x + (bstR S m x j)))))), (3, .int (nI (j + 1))), (0, .ref o), (1, .int (nI x))]) hX dX2_goDown_113 (by decide) rfl ?_
            refine g_iinc (v := nI (j + 1 + 1)) (L' := [(3, .int (nI (j + 1 + 1))), (2, .int (nI (j + 1))), (4, .int ((gwR S m (rK S (5 * x + (j + 1)))) - (gwR S m (rK S (5 * x + (bstR S m x j)))))), (0, .ref o), (1, .int (nI x))]) hX dX2_goDown_114 2 rfl (nI_1 _) (by decide) rfl ?_
            refine g_goto hX 46 dX2_goDown_117 (by decide) ?_
            have hbt := bst_y (S := S) (n := m) (f := x) (k := j) (btR_1 c81)
            refine g_sub [0, 1, 3, 4] rfl ?_
            have h9 := ih2 (j + 1) (by omega) (by omega)
            rw [hbt] at h9
            exact h9
          · skip
            refine g_iload hX dX2_goDown_84 0 rfl ?_
            refine g_if_ne hX 114 dX2_goDown_86 (by decide) (fun c86 => ?_) (fun c86 => ?_)
            · skip
              refine g_iinc (v := nI (j + 1 + 1)) (L' := [(3, .int (nI (j + 1 + 1))), (4, .int ((gwR S m (rK S (5 * x + (j + 1)))) - (gwR S m (rK S (5 * x + (bstR S m x j)))))), (2, .int (nI (bstR S m x j))), (0, .ref o), (1, .int (nI x))]) hX dX2_goDown_114 1 rfl (nI_1 _) (by decide) rfl ?_
              refine g_goto hX 46 dX2_goDown_117 (by decide) ?_
              have hbt := bst_n (S := S) (n := m) (f := x) (k := j) (btR_2 c81 c86)
              refine g_sub [0, 2, 3, 4] rfl ?_
              have h9 := ih2 (j + 1) (by omega) (by omega)
              rw [hbt] at h9
              exact h9
            · skip
              refine g_aload_n hX dX2_goDown_89 3 rfl ?_
              refine g_aload_n hX dX2_goDown_90 3 rfl ?_
              refine g_iload_n hX dX2_goDown_91 4 rfl ?_
              refine g_iload_n hX dX2_goDown_92 1 rfl ?_
              refine g_callV [.ref o] hX (cr_held hX.st sz (S := uWP S (va_up (rC S) 5 i) w p) (f := x) (p := (j + 1)) (by omega)) cw_X2_held cv_X2_held lk_X2_44 (ci := 2) rfl rfl ovR_o ⟨by omega, by omega⟩ ⟨by omega, by omega⟩ (Nat.le_of_ble_eq_true rfl) rfl dX2_goDown_93 rfl (fun v93 M93 z93 hp93 hz93 hd93 => ?_)
              obtain ⟨rfl, rfl, rfl⟩ := hp93
              show G X _ (ovR (cxT X) N o (uWP S (va_up (rC S) 5 i) w p)) sz (((((0 + 0) + 0) + 0) + 0) + 0) (((((0 + 0) + 0) + 0) + 0) + 0) 96 [(4, .int ((gwR S m (rK S (5 * x + (j + 1)))) - (gwR S m (rK S (5 * x + (bstR S m x j)))))), (3, .int (nI (j + 1))), (2, .int (nI (bstR S m x j))), (0, .ref o), (1, .int (nI x))] [.int (nI (rK S (5 * x + (j + 1)))), .ref o]
              refine g_callV [] hX (cr_areaF hX.st sz (S := uWP S (va_up (rC S) 5 i) w p) (n := m) (f := (rK S (5 * x + (j + 1)))) (TrR.cg (S := S) (S' := uWP S (va_up (rC S) 5 i) w p) rfl rfl rfl hk1) (by omega)) cw_X2_area_ cv_X2_area_ lk_X2_70 (ci := 2) rfl rfl ovR_o ⟨by omega, by omega⟩ ⟨by omega, by omega⟩ (Nat.le_of_ble_eq_true rfl) rfl dX2_goDown_96 rfl (fun v96 M96 z96 hp96 hz96 hd96 => ?_)
              rw [arR_cg (S := S) (S' := uWP S (va_up (rC S) 5 i) w p) rfl rfl rfl] at hp96
              obtain ⟨rfl, rfl, rfl⟩ := hp96
              show G X _ (ovR (cxT X) N o (uWP S (va_up (rC S) 5 i) w p)) sz ((((((0 + 0) + 0) + 0) + 0) + 0) + 0) ((((((0 + 0) + 0) + 0) + 0) + 0) + 0) 99 [(4, .int ((gwR S m (rK S (5 * x + (j + 1)))) - (gwR S m (rK S (5 * x + (bstR S m x j)))))), (3, .int (nI (j + 1))), (2, .int (nI (bstR S m x j))), (0, .ref o), (1, .int (nI x))] [.int (arR S m (rK S (5 * x + (j + 1))))]
              refine g_aload_n hX dX2_goDown_99 3 rfl ?_
              refine g_aload_n hX dX2_goDown_100 3 rfl ?_
              refine g_iload_n hX dX2_goDown_101 4 rfl ?_
              refine g_iload_n hX dX2_goDown_102 2 rfl ?_
              refine g_callV [.ref o, .int (arR S m (rK S (5 * x + (j + 1))))] hX (cr_held hX.st sz (S := uWP S (va_up (rC S) 5 i) w p) (f := x) (p := (bstR S m x j)) (by omega)) cw_X2_held cv_X2_held lk_X2_44 (ci := 2) rfl rfl ovR_o ⟨by omega, by omega⟩ ⟨by omega, by omega⟩ (Nat.le_of_ble_eq_true rfl) rfl dX2_goDown_103 rfl (fun v103 M103 z103 hp103 hz103 hd103 => ?_)
              obtain ⟨rfl, rfl, rfl⟩ := hp103
              show G X _ (ovR (cxT X) N o (uWP S (va_up (rC S) 5 i) w p)) sz (((((((0 + 0) + 0) + 0) + 0) + 0) + 0) + 0) (((((((0 + 0) + 0) + 0) + 0) + 0) + 0) + 0) 106 [(4, .int ((gwR S m (rK S (5 * x + (j + 1)))) - (gwR S m (rK S (5 * x + (bstR S m x j)))))), (3, .int (nI (j + 1))), (2, .int (nI (bstR S m x j))), (0, .ref o), (1, .int (nI x))] [.int (nI (rK S (5 * x + (bstR S m x j)))), .ref o, .int (arR S m (rK S (5 * x + (j + 1))))]
              refine g_callV [.int (arR S m (rK S (5 * x + (j + 1))))] hX (cr_areaF hX.st sz (S := uWP S (va_up (rC S) 5 i) w p) (n := m) (f := (rK S (5 * x + (bstR S m x j)))) (TrR.cg (S := S) (S' := uWP S (va_up (rC S) 5 i) w p) rfl rfl rfl hkb) (by omega)) cw_X2_area_ cv_X2_area_ lk_X2_70 (ci := 2) rfl rfl ovR_o ⟨by omega, by omega⟩ ⟨by omega, by omega⟩ (Nat.le_of_ble_eq_true rfl) rfl dX2_goDown_106 rfl (fun v106 M106 z106 hp106 hz106 hd106 => ?_)
              rw [arR_cg (S := S) (S' := uWP S (va_up (rC S) 5 i) w p) rfl rfl rfl] at hp106
              obtain ⟨rfl, rfl, rfl⟩ := hp106
              show G X _ (ovR (cxT X) N o (uWP S (va_up (rC S) 5 i) w p)) sz ((((((((0 + 0) + 0) + 0) + 0) + 0) + 0) + 0) + 0) ((((((((0 + 0) + 0) + 0) + 0) + 0) + 0) + 0) + 0) 109 [(4, .int ((gwR S m (rK S (5 * x + (j + 1)))) - (gwR S m (rK S (5 * x + (bstR S m x j)))))), (3, .int (nI (j + 1))), (2, .int (nI (bstR S m x j))), (0, .ref o), (1, .int (nI x))] [.int (arR S m (rK S (5 * x + (bstR S m x j)))), .int (arR S m (rK S (5 * x + (j + 1))))]
              refine g_icmp_ge hX 114 dX2_goDown_109 (by decide) (fun c109 => ?_) (fun c109 => ?_)
              · skip
                refine g_iinc (v := nI (j + 1 + 1)) (L' := [(3, .int (nI (j + 1 + 1))), (4, .int ((gwR S m (rK S (5 * x + (j + 1)))) - (gwR S m (rK S (5 * x + (bstR S m x j)))))), (2, .int (nI (bstR S m x j))), (0, .ref o), (1, .int (nI x))]) hX dX2_goDown_114 1 rfl (nI_1 _) (by decide) rfl ?_
                refine g_goto hX 46 dX2_goDown_117 (by decide) ?_
                have hbt := bst_n (S := S) (n := m) (f := x) (k := j) (btR_4 c81 (Int32.not_lt.mpr c109))
                refine g_sub [0, 2, 3, 4] rfl ?_
                have h9 := ih2 (j + 1) (by omega) (by omega)
                rw [hbt] at h9
                exact h9
              · skip
                refine g_iload_n hX dX2_goDown_112 1 rfl ?_
                refine g_istore_n (L' := [(2, .int (nI (j + 1))), (4, .int ((gwR S m (rK S (5 * x + (j + 1)))) - (gwR S m (rK S (5 * x + (bstR S m x j)))))), (3, .int (nI (j + 1))), (0, .ref o), (1, .int (nI x))]) hX dX2_goDown_113 (by decide) rfl ?_
                refine g_iinc (v := nI (j + 1 + 1)) (L' := [(3, .int (nI (j + 1 + 1))), (2, .int (nI (j + 1))), (4, .int ((gwR S m (rK S (5 * x + (j + 1)))) - (gwR S m (rK S (5 * x + (bstR S m x j)))))), (0, .ref o), (1, .int (nI x))]) hX dX2_goDown_114 2 rfl (nI_1 _) (by decide) rfl ?_
                refine g_goto hX 46 dX2_goDown_117 (by decide) ?_
                have hbt := bst_y (S := S) (n := m) (f := x) (k := j) (btR_3 c81 c86 (Int32.not_le.mp c109))
                refine g_sub [0, 1, 3, 4] rfl ?_
                have h9 := ih2 (j + 1) (by omega) (by omega)
                rw [hbt] at h9
                exact h9
      refine g_sub [0, 1, 3, 2] rfl ?_
      exact inner 0 (Nat.zero_le _)
  show G X 5 (ovR (cxT X) N o S) sz 0 0 0 [(0, .ref o)] []
  refine g_aload_n hX dX2_goDown_0 0 rfl ?_
  refine g_iconst (v := 0) hX dX2_goDown_1 (by decide) ?_
  refine g_put (ci := 2) hX rfl fld_X2 (ovR_o (S := S)) 12 (by decide) fl_X2_77 rfl rfl rfl (Nat.le_of_ble_eq_true rfl) dX2_goDown_2 ?_
  refine g_eqM (ovR_uC5 0 rfl) ?_
  show G X _ (ovR (cxT X) N o (uWP S (va_up (rC S) 5 0) (rW S) (rP S))) sz 0 0 5 [(0, .ref o)] []
  refine g_aload_n hX dX2_goDown_5 0 rfl ?_
  refine g_get (ci := 2) hX rfl fin_X2 (ovR_o (S := (uWP S (va_up (rC S) 5 0) (rW S) (rP S)))) 10 (by decide) fl_X2_29 rfl dX2_goDown_6 ?_
  refine g_iconst (v := 0) hX dX2_goDown_9 (by decide) ?_
  refine g_aload_n hX dX2_goDown_10 0 rfl ?_
  refine g_get (ci := 2) hX rfl fin_X2 (ovR_o (S := (uWP S (va_up (rC S) 5 0) (rW S) (rP S)))) 6 (by decide) fl_X2_80 rfl dX2_goDown_11 ?_
  refine g_iast hX (ovR_at (S := (uWP S (va_up (rC S) 5 0) (rW S) (rP S))) 6 rfl) 0 rfl (by omega) (by decide) dX2_goDown_14 ?_
  refine g_eqM (ovR_uW 0 (rC S 4) rfl) ?_
  show G X _ (ovR (cxT X) N o (uWP S (va_up (rC S) 5 0) (va_up (rW S) 0 (rC S 4)) (rP S))) sz 0 0 15 [(0, .ref o)] []
  refine outer 0 (Nat.zero_le _) _ _ (fun j hj => ?_) (fun j hj => absurd hj (Nat.not_lt_zero j))
  rw [show j = 0 by omega]
  exact va_up_self _ _ _

set_option maxHeartbeats 4000000 in
set_option maxRecDepth 100000 in
theorem cr_findN {l : Launch} (hl : l.stackTraces = false) {T : CT3} {D : va_G} {N : AH} {o : Nat} (sz : Nat) : ∀ (n : Nat) (f a st : Nat) (S : RS), TrR S n f → ¬ hasP S a n f → st + n < 60 → a < 60 → Ct l T D yX2_find cX2_find 6 (some .int) (n + 2) (27 * n + 30) 0 0 [.ref o, .int (nI f), .int (nI a), .int (nI st)] (ovR T N o S) sz (fun v M' z' => v = some (.int (-1)) ∧ (∃ w p, M' = ovR T N o (uWP S (rC S) w p) ∧ (∀ j, j < st → w j = rW S j) ∧ ∀ j, j < st → p j = rP S j) ∧ sz = z') := by
  intro n
  induction n with
  | zero =>
    intro f a st S ht hno hst ha
    have hf := ht.f
    have hg := ht.g
    have hm5 := ht.m
    refine Ct.ofX hl (by decide) (Nat.le_of_ble_eq_true rfl) ?_
    intro X hl0 hT0 hD0 hlt hX hF
    subst hl0; subst hT0; subst hD0
    have loop : ∀ k, k ≤ (rM S f) → ∀ w p, (∀ j, j < st → w j = rW S j) → (∀ j, j < st → p j = rP S j) → G X 6 (ovR (cxT X) N o (uWP S (rC S) w p)) sz 0 0 10 [(4, .int (nI k)), (0, .ref o), (1, .int (nI f)), (2, .int (nI a)), (3, .int (nI st))] [] := by
      refine loop_up ?_
      intro k ih hk w p hw hpp
      refine g_iload hX dX2_find_10 0 rfl ?_
      refine g_aload_n hX dX2_find_12 1 rfl ?_
      refine g_get (ci := 2) hX rfl fin_X2 (ovR_o (S := (uWP S (rC S) w p))) 7 (by decide) fl_X2_20 rfl dX2_find_13 ?_
      refine g_iload_n hX dX2_find_16 2 rfl ?_
      refine g_iald hX (ovR_at (S := (uWP S (rC S) w p)) 3 rfl) f rfl (by omega) (by decide) dX2_find_17 ?_
      refine g_icmp_ge hX 99 dX2_find_18 (by decide) (fun c18 => ?_) (fun c18 => ?_)
      · skip
        have hke : k = rM S f := by have h9 := (nI_leI (a := rM S f) (b := k) (by omega) (by omega)).mp c18; omega
        refine g_iconst (v := (-1)) hX dX2_find_99 (by decide) ?_
        exact hF (some (.int (-1))) (ovR (cxT X) N o (uWP S (rC S) w p)) sz _ _ _ _ .ireturn (⟨rfl, ⟨w, p, rfl, hw, hpp⟩, rfl⟩) (by omega) (by omega) ret_i dX2_find_100
      · skip
        have hk2 : k < rM S f := by have h9 := mt (nI_leI (a := rM S f) (b := k) (by omega) (by omega)).mpr c18; omega
        refine g_aload_n hX dX2_find_21 1 rfl ?_
        refine g_get (ci := 2) hX rfl fin_X2 (ovR_o (S := (uWP S (rC S) w p))) 9 (by decide) fl_X2_26 rfl dX2_find_22 ?_
        refine g_iload_n hX dX2_find_25 2 rfl ?_
        refine g_iald hX (ovR_at (S := (uWP S (rC S) w p)) 5 rfl) f rfl (by omega) (by decide) dX2_find_26 ?_
        rw [show rG (uWP S (rC S) w p) f = 0 from hg]
        refine g_if_ne hX 52 dX2_find_27 (by decide) (fun c27 => absurd (by decide) c27) (fun _ => ?_)
        refine g_aload_n hX dX2_find_30 1 rfl ?_
        refine g_iload_n hX dX2_find_31 2 rfl ?_
        refine g_iload hX dX2_find_32 0 rfl ?_
        refine g_callV [] hX (cr_held hX.st sz (S := uWP S (rC S) w p) (f := f) (p := k) (by omega)) cw_X2_held cv_X2_held lk_X2_44 (ci := 2) rfl rfl ovR_o ⟨by omega, by omega⟩ ⟨by omega, by omega⟩ (Nat.le_of_ble_eq_true rfl) rfl dX2_find_34 rfl (fun v34 M34 z34 hp34 hz34 hd34 => ?_)
        obtain ⟨rfl, rfl, rfl⟩ := hp34
        show G X _ (ovR (cxT X) N o (uWP S (rC S) w p)) sz (0 + 0) (0 + 0) 37 [(4, .int (nI k)), (0, .ref o), (1, .int (nI f)), (2, .int (nI a)), (3, .int (nI st))] [.int (nI (rK S (5 * f + k)))]
        refine g_iload_n hX dX2_find_37 3 rfl ?_
        refine g_icmp_eq hX 44 dX2_find_38 (by decide) (fun c38 => absurd c38 (fun e => hno ⟨k, hk2, (nI_eq (by have := ht.2.2.2 k hk2; omega) (by omega)).mp e⟩)) (fun _ => ?_)
        refine g_goto hX 93 dX2_find_41 (by decide) ?_
        refine g_iinc (v := nI (k + 1)) (L' := [(4, .int (nI (k + 1))), (0, .ref o), (1, .int (nI f)), (2, .int (nI a)), (3, .int (nI st))]) hX dX2_find_93 0 rfl (nI_1 _) (by decide) rfl ?_
        refine g_goto hX 10 dX2_find_96 (by decide) ?_
        refine g_sub [0, 1, 2, 3, 4] rfl ?_
        exact ih (k + 1) (by omega) (by omega) w p hw hpp
    show G X 6 (ovR (cxT X) N o S) sz 0 0 0 [(0, .ref o), (1, .int (nI f)), (2, .int (nI a)), (3, .int (nI st))] []
    refine g_aload_n hX dX2_find_0 0 rfl ?_
    refine g_get (ci := 2) hX rfl fin_X2 (ovR_o (S := S)) 10 (by decide) fl_X2_29 rfl dX2_find_1 ?_
    refine g_iload_n hX dX2_find_4 3 rfl ?_
    refine g_iload_n hX dX2_find_5 1 rfl ?_
    refine g_iast hX (ovR_at (S := S) 6 rfl) st rfl (by omega) (by decide) dX2_find_6 ?_
    refine g_eqM (ovR_uW st f rfl) ?_
    show G X _ (ovR (cxT X) N o (uWP S (rC S) (va_up (rW S) st f) (rP S))) sz 0 0 7 [(0, .ref o), (1, .int (nI f)), (2, .int (nI a)), (3, .int (nI st))] []
    refine g_iconst (v := 0) hX dX2_find_7 (by decide) ?_
    refine g_istore (L' := [(4, .int 0), (0, .ref o), (1, .int (nI f)), (2, .int (nI a)), (3, .int (nI st))]) hX dX2_find_8 (by decide) rfl ?_
    refine g_sub [0, 1, 2, 3, 4] rfl ?_
    exact loop 0 (Nat.zero_le _) _ _ (fun j hj => va_up_ne _ _ (by omega)) (fun j hj => rfl)
  | succ n ihn =>
    intro f a st S ht hno hst ha
    have hf := ht.f
    have hg := ht.g
    have hm5 := ht.m
    have hm0 := ht.m0
    refine Ct.ofX hl (by decide) (Nat.le_of_ble_eq_true rfl) ?_
    intro X hl0 hT0 hD0 hlt hX hF
    subst hl0; subst hT0; subst hD0
    have loop : ∀ k, k ≤ (rM S f) → ∀ w p, (∀ j, j < st → w j = rW S j) → (∀ j, j < st → p j = rP S j) → G X 6 (ovR (cxT X) N o (uWP S (rC S) w p)) sz 0 0 10 [(4, .int (nI k)), (0, .ref o), (1, .int (nI f)), (2, .int (nI a)), (3, .int (nI st))] [] := by
      refine loop_up ?_
      intro k ih hk w p hw hpp
      refine g_iload hX dX2_find_10 0 rfl ?_
      refine g_aload_n hX dX2_find_12 1 rfl ?_
      refine g_get (ci := 2) hX rfl fin_X2 (ovR_o (S := (uWP S (rC S) w p))) 7 (by decide) fl_X2_20 rfl dX2_find_13 ?_
      refine g_iload_n hX dX2_find_16 2 rfl ?_
      refine g_iald hX (ovR_at (S := (uWP S (rC S) w p)) 3 rfl) f rfl (by omega) (by decide) dX2_find_17 ?_
      refine g_icmp_ge hX 99 dX2_find_18 (by decide) (fun c18 => ?_) (fun c18 => ?_)
      · skip
        have hke : k = rM S f := by have h9 := (nI_leI (a := rM S f) (b := k) (by omega) (by omega)).mp c18; omega
        refine g_iconst (v := (-1)) hX dX2_find_99 (by decide) ?_
        exact hF (some (.int (-1))) (ovR (cxT X) N o (uWP S (rC S) w p)) sz _ _ _ _ .ireturn (⟨rfl, ⟨w, p, rfl, hw, hpp⟩, rfl⟩) (by omega) (by omega) ret_i dX2_find_100
      · skip
        have hk2 : k < rM S f := by have h9 := mt (nI_leI (a := rM S f) (b := k) (by omega) (by omega)).mpr c18; omega
        refine g_aload_n hX dX2_find_21 1 rfl ?_
        refine g_get (ci := 2) hX rfl fin_X2 (ovR_o (S := (uWP S (rC S) w p))) 9 (by decide) fl_X2_26 rfl dX2_find_22 ?_
        refine g_iload_n hX dX2_find_25 2 rfl ?_
        refine g_iald hX (ovR_at (S := (uWP S (rC S) w p)) 5 rfl) f rfl (by omega) (by decide) dX2_find_26 ?_
        rw [show rG (uWP S (rC S) w p) f = n + 1 from hg]
        refine g_if_ne hX 52 dX2_find_27 (by decide) (fun _ => ?_) (fun c27 => absurd c27 (nI_ne0 (by omega) (by omega)))
        refine g_aload_n hX dX2_find_52 1 rfl ?_
        refine g_get (ci := 2) hX rfl fin_X2 (ovR_o (S := (uWP S (rC S) w p))) 11 (by decide) fl_X2_32 rfl dX2_find_53 ?_
        refine g_iload_n hX dX2_find_56 4 rfl ?_
        refine g_iload hX dX2_find_57 0 rfl ?_
        refine g_iast hX (ovR_at (S := (uWP S (rC S) w p)) 7 rfl) st rfl (by omega) (by decide) dX2_find_59 ?_
        refine g_eqM (ovR_uP st k rfl) ?_
        show G X _ (ovR (cxT X) N o (uWP S (rC S) w (va_up p st k))) sz 0 0 60 [(4, .int (nI k)), (0, .ref o), (1, .int (nI f)), (2, .int (nI a)), (3, .int (nI st))] []
        refine g_aload_n hX dX2_find_60 1 rfl ?_
        refine g_aload_n hX dX2_find_61 1 rfl ?_
        refine g_iload_n hX dX2_find_62 2 rfl ?_
        refine g_iload hX dX2_find_63 0 rfl ?_
        refine g_callV [.ref o] hX (cr_held hX.st sz (S := uWP S (rC S) w (va_up p st k)) (f := f) (p := k) (by omega)) cw_X2_held cv_X2_held lk_X2_44 (ci := 2) rfl rfl ovR_o ⟨by omega, by omega⟩ ⟨by omega, by omega⟩ (Nat.le_of_ble_eq_true rfl) rfl dX2_find_65 rfl (fun v65 M65 z65 hp65 hz65 hd65 => ?_)
        obtain ⟨rfl, rfl, rfl⟩ := hp65
        show G X _ (ovR (cxT X) N o (uWP S (rC S) w (va_up p st k))) sz (0 + 0) (0 + 0) 68 [(4, .int (nI k)), (0, .ref o), (1, .int (nI f)), (2, .int (nI a)), (3, .int (nI st))] [.int (nI (rK S (5 * f + k))), .ref o]
        refine g_iload_n hX dX2_find_68 3 rfl ?_
        refine g_iload_n hX dX2_find_69 4 rfl ?_
        refine g_iconst (v := 1) hX dX2_find_70 (by decide) ?_
        refine g_iadd hX dX2_find_71 ?_
        rw [nI_1]
        show G X _ (ovR (cxT X) N o (uWP S (rC S) w (va_up p st k))) sz (0 + 0) (0 + 0) 72 [(4, .int (nI k)), (0, .ref o), (1, .int (nI f)), (2, .int (nI a)), (3, .int (nI st))] [.int (nI (st + 1)), .int (nI a), .int (nI (rK S (5 * f + k))), .ref o]
        refine g_callV [] hX (ihn (rK S (5 * f + k)) a (st + 1) (uWP S (rC S) w (va_up p st k)) (TrR.cg (S := S) (S' := uWP S (rC S) w (va_up p st k)) rfl rfl rfl (ht.k (by omega))) (fun hh => (fun h => hno ⟨k, hk2, h⟩) ((hasP_cg (S := S) (S' := uWP S (rC S) w (va_up p st k)) rfl rfl a n _).mp hh)) (by omega) ha) cw_X2_find cv_X2_find lk_X2_125 (ci := 2) rfl rfl ovR_o ⟨by omega, by omega⟩ ⟨by omega, by omega⟩ (Nat.le_of_ble_eq_true rfl) rfl dX2_find_72 rfl (fun v72 M72 z72 hp72 hz72 hd72 => ?_)
        obtain ⟨rfl, ⟨w2, p2, rfl, hw2, hp2⟩, rfl⟩ := hp72
        show G X _ (ovR (cxT X) N o (uWP S (rC S) w2 p2)) sz ((0 + 0) + 0) ((0 + 0) + 0) 75 [(4, .int (nI k)), (0, .ref o), (1, .int (nI f)), (2, .int (nI a)), (3, .int (nI st))] [.int (-1)]
        refine g_istore (L' := [(5, .int (-1)), (4, .int (nI k)), (0, .ref o), (1, .int (nI f)), (2, .int (nI a)), (3, .int (nI st))]) hX dX2_find_75 (by decide) rfl ?_
        refine g_iload hX dX2_find_77 0 rfl ?_
        refine g_iconst (v := (-1)) hX dX2_find_79 (by decide) ?_
        refine g_icmp_eq hX 86 dX2_find_80 (by decide) (fun _ => ?_) (fun c80 => absurd (by decide) c80)
        refine g_aload_n hX dX2_find_86 2 rfl ?_
        refine g_get (ci := 2) hX rfl fin_X2 (ovR_o (S := (uWP S (rC S) w2 p2))) 10 (by decide) fl_X2_29 rfl dX2_find_87 ?_
        refine g_iload_n hX dX2_find_90 5 rfl ?_
        refine g_iload_n hX dX2_find_91 3 rfl ?_
        refine g_iast hX (ovR_at (S := (uWP S (rC S) w2 p2)) 6 rfl) st rfl (by omega) (by decide) dX2_find_92 ?_
        refine g_eqM (ovR_uW st f rfl) ?_
        show G X _ (ovR (cxT X) N o (uWP S (rC S) (va_up w2 st f) p2)) sz ((0 + 0) + 0) ((0 + 0) + 0) 93 [(5, .int (-1)), (4, .int (nI k)), (0, .ref o), (1, .int (nI f)), (2, .int (nI a)), (3, .int (nI st))] []
        refine g_iinc (v := nI (k + 1)) (L' := [(4, .int (nI (k + 1))), (5, .int (-1)), (0, .ref o), (1, .int (nI f)), (2, .int (nI a)), (3, .int (nI st))]) hX dX2_find_93 1 rfl (nI_1 _) (by decide) rfl ?_
        refine g_goto hX 10 dX2_find_96 (by decide) ?_
        refine g_sub [0, 2, 3, 4, 5] rfl ?_
        exact ih (k + 1) (by omega) (by omega) _ _ (fun j hj => (va_up_ne _ _ (by omega)).trans ((hw2 j (by omega)).trans (hw j hj))) (fun j hj => (hp2 j (by omega)).trans ((va_up_ne _ _ (by omega)).trans (hpp j hj)))
    show G X 6 (ovR (cxT X) N o S) sz 0 0 0 [(0, .ref o), (1, .int (nI f)), (2, .int (nI a)), (3, .int (nI st))] []
    refine g_aload_n hX dX2_find_0 0 rfl ?_
    refine g_get (ci := 2) hX rfl fin_X2 (ovR_o (S := S)) 10 (by decide) fl_X2_29 rfl dX2_find_1 ?_
    refine g_iload_n hX dX2_find_4 3 rfl ?_
    refine g_iload_n hX dX2_find_5 1 rfl ?_
    refine g_iast hX (ovR_at (S := S) 6 rfl) st rfl (by omega) (by decide) dX2_find_6 ?_
    refine g_eqM (ovR_uW st f rfl) ?_
    show G X _ (ovR (cxT X) N o (uWP S (rC S) (va_up (rW S) st f) (rP S))) sz 0 0 7 [(0, .ref o), (1, .int (nI f)), (2, .int (nI a)), (3, .int (nI st))] []
    refine g_iconst (v := 0) hX dX2_find_7 (by decide) ?_
    refine g_istore (L' := [(4, .int 0), (0, .ref o), (1, .int (nI f)), (2, .int (nI a)), (3, .int (nI st))]) hX dX2_find_8 (by decide) rfl ?_
    refine g_sub [0, 1, 2, 3, 4] rfl ?_
    exact loop 0 (Nat.zero_le _) _ _ (fun j hj => va_up_ne _ _ (by omega)) (fun j hj => rfl)

set_option maxHeartbeats 4000000 in
set_option maxRecDepth 100000 in
theorem cr_find {l : Launch} (hl : l.stackTraces = false) {T : CT3} {D : va_G} {N : AH} {o : Nat} (sz : Nat) : ∀ (n : Nat) (f a st : Nat) (fr ps : Nat → Nat) (S : RS), TrR S n f → Pth S n a fr ps → fr 0 = f → st + n < 60 → a < 60 → Ct l T D yX2_find cX2_find 6 (some .int) (n + 2) (27 * n + 30) 0 0 [.ref o, .int (nI f), .int (nI a), .int (nI st)] (ovR T N o S) sz (fun v M' z' => v = some (.int (nI (ps n))) ∧ (∃ w p, M' = ovR T N o (uWP S (va_up (rC S) 5 (st + n)) w p) ∧ (∀ j, j < st → w j = rW S j) ∧ (∀ j, j < st → p j = rP S j) ∧ (∀ i, i ≤ n → w (st + i) = fr i) ∧ ∀ i, i < n → p (st + i) = ps i) ∧ sz = z') := by
  intro n
  induction n with
  | zero =>
    intro f a st fr ps S ht hp hfr hst ha
    have hf := ht.f
    have hg := ht.g
    have hm5 := ht.m
    subst hfr
    have hps : ps 0 < rM S (fr 0) := hp.2.1
    refine Ct.ofX hl (by decide) (Nat.le_of_ble_eq_true rfl) ?_
    intro X hl0 hT0 hD0 hlt hX hF
    subst hl0; subst hT0; subst hD0
    have loop : ∀ k, k ≤ (ps 0) → ∀ w p, (∀ j, j < st → w j = rW S j) → (∀ j, j < st → p j = rP S j) → w st = fr 0 → G X 6 (ovR (cxT X) N o (uWP S (rC S) w p)) sz 0 0 10 [(4, .int (nI k)), (0, .ref o), (1, .int (nI (fr 0))), (2, .int (nI a)), (3, .int (nI st))] [] := by
      refine loop_up ?_
      intro k ih hk w p hw hpp hws
      refine g_iload hX dX2_find_10 0 rfl ?_
      refine g_aload_n hX dX2_find_12 1 rfl ?_
      refine g_get (ci := 2) hX rfl fin_X2 (ovR_o (S := (uWP S (rC S) w p))) 7 (by decide) fl_X2_20 rfl dX2_find_13 ?_
      refine g_iload_n hX dX2_find_16 2 rfl ?_
      refine g_iald hX (ovR_at (S := (uWP S (rC S) w p)) 3 rfl) (fr 0) rfl (by omega) (by decide) dX2_find_17 ?_
      refine g_icmp_ge hX 99 dX2_find_18 (by decide) (fun c18 => absurd c18 (nI_ge (a := k) (b := rM S (fr 0)) (by omega) (by omega))) (fun _ => ?_)
      refine g_aload_n hX dX2_find_21 1 rfl ?_
      refine g_get (ci := 2) hX rfl fin_X2 (ovR_o (S := (uWP S (rC S) w p))) 9 (by decide) fl_X2_26 rfl dX2_find_22 ?_
      refine g_iload_n hX dX2_find_25 2 rfl ?_
      refine g_iald hX (ovR_at (S := (uWP S (rC S) w p)) 5 rfl) (fr 0) rfl (by omega) (by decide) dX2_find_26 ?_
      rw [show rG (uWP S (rC S) w p) (fr 0) = 0 from hg]
      refine g_if_ne hX 52 dX2_find_27 (by decide) (fun c27 => absurd (by decide) c27) (fun _ => ?_)
      refine g_aload_n hX dX2_find_30 1 rfl ?_
      refine g_iload_n hX dX2_find_31 2 rfl ?_
      refine g_iload hX dX2_find_32 0 rfl ?_
      refine g_callV [] hX (cr_held hX.st sz (S := uWP S (rC S) w p) (f := (fr 0)) (p := k) (by omega)) cw_X2_held cv_X2_held lk_X2_44 (ci := 2) rfl rfl ovR_o ⟨by omega, by omega⟩ ⟨by omega, by omega⟩ (Nat.le_of_ble_eq_true rfl) rfl dX2_find_34 rfl (fun v34 M34 z34 hp34 hz34 hd34 => ?_)
      obtain ⟨rfl, rfl, rfl⟩ := hp34
      show G X _ (ovR (cxT X) N o (uWP S (rC S) w p)) sz (0 + 0) (0 + 0) 37 [(4, .int (nI k)), (0, .ref o), (1, .int (nI (fr 0))), (2, .int (nI a)), (3, .int (nI st))] [.int (nI (rK S (5 * (fr 0) + k)))]
      refine g_iload_n hX dX2_find_37 3 rfl ?_
      refine g_icmp_eq hX 44 dX2_find_38 (by decide) (fun c38 => ?_) (fun c38 => ?_)
      · skip
        have hka : (rK S (5 * (fr 0) + k)) = a := (nI_eq (by have := ht.2.2.2 k (by omega); omega) (by omega)).mp c38
        have hkp : k = ps 0 := Nat.le_antisymm hk (Nat.not_lt.mp fun h => hp.2.2.2 k h hka)
        subst hkp
        refine g_aload_n hX dX2_find_44 1 rfl ?_
        refine g_iload_n hX dX2_find_45 4 rfl ?_
        refine g_put (ci := 2) hX rfl fld_X2 (ovR_o (S := (uWP S (rC S) w p))) 12 (by decide) fl_X2_77 rfl rfl rfl (Nat.le_of_ble_eq_true rfl) dX2_find_46 ?_
        refine g_eqM (ovR_uC5 st rfl) ?_
        rw [uWP_c5'] 
        refine g_iload hX dX2_find_49 0 rfl ?_
        exact hF (some (.int (nI (ps 0)))) (ovR (cxT X) N o (uWP S (va_up (rC S) 5 (st + 0)) w p)) sz _ _ _ _ .ireturn (⟨rfl, ⟨w, p, rfl, hw, hpp, fun i hi => by rw [show i = 0 by omega]; exact hws, fun i hi => absurd hi (Nat.not_lt_zero i)⟩, rfl⟩) (by omega) (by omega) ret_i dX2_find_51
      · skip
        have hkp : k < ps 0 := by
          have h9 : k ≠ ps 0 := fun e => c38 (by rw [e, hp.2.2.1])
          omega
        refine g_goto hX 93 dX2_find_41 (by decide) ?_
        refine g_iinc (v := nI (k + 1)) (L' := [(4, .int (nI (k + 1))), (0, .ref o), (1, .int (nI (fr 0))), (2, .int (nI a)), (3, .int (nI st))]) hX dX2_find_93 0 rfl (nI_1 _) (by decide) rfl ?_
        refine g_goto hX 10 dX2_find_96 (by decide) ?_
        refine g_sub [0, 1, 2, 3, 4] rfl ?_
        exact ih (k + 1) (by omega) (by omega) w p hw hpp hws
    show G X 6 (ovR (cxT X) N o S) sz 0 0 0 [(0, .ref o), (1, .int (nI (fr 0))), (2, .int (nI a)), (3, .int (nI st))] []
    refine g_aload_n hX dX2_find_0 0 rfl ?_
    refine g_get (ci := 2) hX rfl fin_X2 (ovR_o (S := S)) 10 (by decide) fl_X2_29 rfl dX2_find_1 ?_
    refine g_iload_n hX dX2_find_4 3 rfl ?_
    refine g_iload_n hX dX2_find_5 1 rfl ?_
    refine g_iast hX (ovR_at (S := S) 6 rfl) st rfl (by omega) (by decide) dX2_find_6 ?_
    refine g_eqM (ovR_uW st (fr 0) rfl) ?_
    show G X _ (ovR (cxT X) N o (uWP S (rC S) (va_up (rW S) st (fr 0)) (rP S))) sz 0 0 7 [(0, .ref o), (1, .int (nI (fr 0))), (2, .int (nI a)), (3, .int (nI st))] []
    refine g_iconst (v := 0) hX dX2_find_7 (by decide) ?_
    refine g_istore (L' := [(4, .int 0), (0, .ref o), (1, .int (nI (fr 0))), (2, .int (nI a)), (3, .int (nI st))]) hX dX2_find_8 (by decide) rfl ?_
    refine g_sub [0, 1, 2, 3, 4] rfl ?_
    exact loop 0 (Nat.zero_le _) _ _ (fun j hj => va_up_ne _ _ (by omega)) (fun j hj => rfl) (va_up_self _ _ _)
  | succ n ihn =>
    intro f a st fr ps S ht hp hfr hst ha
    have hf := ht.f
    have hg := ht.g
    have hm5 := ht.m
    subst hfr
    have hm0 := ht.m0
    obtain ⟨hps, hf1, hno⟩ := hp.1 0 (by omega)
    rw [show n + 1 - (0 + 1) = n by omega] at hno
    refine Ct.ofX hl (by decide) (Nat.le_of_ble_eq_true rfl) ?_
    intro X hl0 hT0 hD0 hlt hX hF
    subst hl0; subst hT0; subst hD0
    have loop : ∀ k, k ≤ (ps 0) → ∀ w p, (∀ j, j < st → w j = rW S j) → (∀ j, j < st → p j = rP S j) → w st = fr 0 → G X 6 (ovR (cxT X) N o (uWP S (rC S) w p)) sz 0 0 10 [(4, .int (nI k)), (0, .ref o), (1, .int (nI (fr 0))), (2, .int (nI a)), (3, .int (nI st))] [] := by
      refine loop_up ?_
      intro k ih hk w p hw hpp hws
      refine g_iload hX dX2_find_10 0 rfl ?_
      refine g_aload_n hX dX2_find_12 1 rfl ?_
      refine g_get (ci := 2) hX rfl fin_X2 (ovR_o (S := (uWP S (rC S) w p))) 7 (by decide) fl_X2_20 rfl dX2_find_13 ?_
      refine g_iload_n hX dX2_find_16 2 rfl ?_
      refine g_iald hX (ovR_at (S := (uWP S (rC S) w p)) 3 rfl) (fr 0) rfl (by omega) (by decide) dX2_find_17 ?_
      refine g_icmp_ge hX 99 dX2_find_18 (by decide) (fun c18 => absurd c18 (nI_ge (a := k) (b := rM S (fr 0)) (by omega) (by omega))) (fun _ => ?_)
      refine g_aload_n hX dX2_find_21 1 rfl ?_
      refine g_get (ci := 2) hX rfl fin_X2 (ovR_o (S := (uWP S (rC S) w p))) 9 (by decide) fl_X2_26 rfl dX2_find_22 ?_
      refine g_iload_n hX dX2_find_25 2 rfl ?_
      refine g_iald hX (ovR_at (S := (uWP S (rC S) w p)) 5 rfl) (fr 0) rfl (by omega) (by decide) dX2_find_26 ?_
      rw [show rG (uWP S (rC S) w p) (fr 0) = n + 1 from hg]
      refine g_if_ne hX 52 dX2_find_27 (by decide) (fun _ => ?_) (fun c27 => absurd c27 (nI_ne0 (by omega) (by omega)))
      refine g_aload_n hX dX2_find_52 1 rfl ?_
      refine g_get (ci := 2) hX rfl fin_X2 (ovR_o (S := (uWP S (rC S) w p))) 11 (by decide) fl_X2_32 rfl dX2_find_53 ?_
      refine g_iload_n hX dX2_find_56 4 rfl ?_
      refine g_iload hX dX2_find_57 0 rfl ?_
      refine g_iast hX (ovR_at (S := (uWP S (rC S) w p)) 7 rfl) st rfl (by omega) (by decide) dX2_find_59 ?_
      refine g_eqM (ovR_uP st k rfl) ?_
      show G X _ (ovR (cxT X) N o (uWP S (rC S) w (va_up p st k))) sz 0 0 60 [(4, .int (nI k)), (0, .ref o), (1, .int (nI (fr 0))), (2, .int (nI a)), (3, .int (nI st))] []
      refine g_aload_n hX dX2_find_60 1 rfl ?_
      refine g_aload_n hX dX2_find_61 1 rfl ?_
      refine g_iload_n hX dX2_find_62 2 rfl ?_
      refine g_iload hX dX2_find_63 0 rfl ?_
      refine g_callV [.ref o] hX (cr_held hX.st sz (S := uWP S (rC S) w (va_up p st k)) (f := (fr 0)) (p := k) (by omega)) cw_X2_held cv_X2_held lk_X2_44 (ci := 2) rfl rfl ovR_o ⟨by omega, by omega⟩ ⟨by omega, by omega⟩ (Nat.le_of_ble_eq_true rfl) rfl dX2_find_65 rfl (fun v65 M65 z65 hp65 hz65 hd65 => ?_)
      obtain ⟨rfl, rfl, rfl⟩ := hp65
      show G X _ (ovR (cxT X) N o (uWP S (rC S) w (va_up p st k))) sz (0 + 0) (0 + 0) 68 [(4, .int (nI k)), (0, .ref o), (1, .int (nI (fr 0))), (2, .int (nI a)), (3, .int (nI st))] [.int (nI (rK S (5 * (fr 0) + k))), .ref o]
      refine g_iload_n hX dX2_find_68 3 rfl ?_
      refine g_iload_n hX dX2_find_69 4 rfl ?_
      refine g_iconst (v := 1) hX dX2_find_70 (by decide) ?_
      refine g_iadd hX dX2_find_71 ?_
      rw [nI_1]
      show G X _ (ovR (cxT X) N o (uWP S (rC S) w (va_up p st k))) sz (0 + 0) (0 + 0) 72 [(4, .int (nI k)), (0, .ref o), (1, .int (nI (fr 0))), (2, .int (nI a)), (3, .int (nI st))] [.int (nI (st + 1)), .int (nI a), .int (nI (rK S (5 * (fr 0) + k))), .ref o]
      by_cases hkp : k = ps 0
      · subst hkp
        rw [← hf1]
        show G X _ (ovR (cxT X) N o (uWP S (rC S) w (va_up p st (ps 0)))) sz (0 + 0) (0 + 0) 72 [(4, .int (nI (ps 0))), (0, .ref o), (1, .int (nI (fr 0))), (2, .int (nI a)), (3, .int (nI st))] [.int (nI (st + 1)), .int (nI a), .int (nI (fr 1)), .ref o]
        refine g_callV [] hX (ihn (fr 1) a (st + 1) (fun i => fr (i + 1)) (fun i => ps (i + 1)) (uWP S (rC S) w (va_up p st (ps 0))) (TrR.cg (S := S) (S' := uWP S (rC S) w (va_up p st (ps 0))) rfl rfl rfl (by rw [hf1]; exact ht.k hps)) (Pth.cg (S := S) (S' := uWP S (rC S) w (va_up p st (ps 0))) rfl rfl hp.down) rfl (by omega) ha) cw_X2_find cv_X2_find lk_X2_125 (ci := 2) rfl rfl ovR_o ⟨by omega, by omega⟩ ⟨by omega, by omega⟩ (Nat.le_of_ble_eq_true rfl) rfl dX2_find_72 rfl (fun v72 M72 z72 hp72 hz72 hd72 => ?_)
        obtain ⟨rfl, ⟨w2, p2, rfl, hw2, hp2, hw3, hp3⟩, rfl⟩ := hp72
        show G X _ (ovR (cxT X) N o (uWP S (va_up (rC S) 5 (st + 1 + n)) w2 p2)) sz ((0 + 0) + 0) ((0 + 0) + 0) 75 [(4, .int (nI (ps 0))), (0, .ref o), (1, .int (nI (fr 0))), (2, .int (nI a)), (3, .int (nI st))] [.int (nI (ps (n + 1)))]
        refine g_istore (L' := [(5, .int (nI (ps (n + 1)))), (4, .int (nI (ps 0))), (0, .ref o), (1, .int (nI (fr 0))), (2, .int (nI a)), (3, .int (nI st))]) hX dX2_find_75 (by decide) rfl ?_
        refine g_iload hX dX2_find_77 0 rfl ?_
        refine g_iconst (v := (-1)) hX dX2_find_79 (by decide) ?_
        refine g_icmp_eq hX 86 dX2_find_80 (by decide) (fun c80 => absurd c80 (show ¬ nI (ps (n + 1)) = -1 from fun e => nI_pos (n := ps (n + 1)) (by have h5 := hp.2.1; have h6 : TrR S 0 (fr (n + 1)) := Pth_tr hp ht; have h7 := h6.m; omega) (by rw [e]; decide))) (fun _ => ?_)
        refine g_iload hX dX2_find_83 0 rfl ?_
        exact hF (some (.int (nI (ps (n + 1))))) (ovR (cxT X) N o (uWP S (va_up (rC S) 5 (st + 1 + n)) w2 p2)) sz _ _ _ _ .ireturn (⟨rfl, ⟨w2, p2, by rw [show st + (n + 1) = st + 1 + n by omega], fun j hj => (hw2 j (by omega)).trans (hw j hj), fun j hj => (hp2 j (by omega)).trans ((va_up_ne _ _ (by omega)).trans (hpp j hj)), fun i hi => by
              cases i with
              | zero => exact (hw2 st (by omega)).trans hws
              | succ i => rw [show st + (i + 1) = st + 1 + i by omega]; exact hw3 i (by omega), fun i hi => by
              cases i with
              | zero => exact (hp2 st (by omega)).trans (va_up_self _ _ _)
              | succ i => rw [show st + (i + 1) = st + 1 + i by omega]; exact hp3 i (by omega)⟩, rfl⟩) (by omega) (by omega) ret_i dX2_find_85
      · skip
        have hkl : k < ps 0 := by omega
        refine g_callV [] hX (cr_findN hX.st sz n (rK S (5 * (fr 0) + k)) a (st + 1) (uWP S (rC S) w (va_up p st k)) (TrR.cg (S := S) (S' := uWP S (rC S) w (va_up p st k)) rfl rfl rfl (ht.k (by omega))) (fun hh => (hno k hkl) ((hasP_cg (S := S) (S' := uWP S (rC S) w (va_up p st k)) rfl rfl a n _).mp hh)) (by omega) ha) cw_X2_find cv_X2_find lk_X2_125 (ci := 2) rfl rfl ovR_o ⟨by omega, by omega⟩ ⟨by omega, by omega⟩ (Nat.le_of_ble_eq_true rfl) rfl dX2_find_72 rfl (fun v72 M72 z72 hp72 hz72 hd72 => ?_)
        obtain ⟨rfl, ⟨w2, p2, rfl, hw2, hp2⟩, rfl⟩ := hp72
        show G X _ (ovR (cxT X) N o (uWP S (rC S) w2 p2)) sz ((0 + 0) + 0) ((0 + 0) + 0) 75 [(4, .int (nI k)), (0, .ref o), (1, .int (nI (fr 0))), (2, .int (nI a)), (3, .int (nI st))] [.int (-1)]
        refine g_istore (L' := [(5, .int (-1)), (4, .int (nI k)), (0, .ref o), (1, .int (nI (fr 0))), (2, .int (nI a)), (3, .int (nI st))]) hX dX2_find_75 (by decide) rfl ?_
        refine g_iload hX dX2_find_77 0 rfl ?_
        refine g_iconst (v := (-1)) hX dX2_find_79 (by decide) ?_
        refine g_icmp_eq hX 86 dX2_find_80 (by decide) (fun _ => ?_) (fun c80 => absurd (by decide) c80)
        refine g_aload_n hX dX2_find_86 2 rfl ?_
        refine g_get (ci := 2) hX rfl fin_X2 (ovR_o (S := (uWP S (rC S) w2 p2))) 10 (by decide) fl_X2_29 rfl dX2_find_87 ?_
        refine g_iload_n hX dX2_find_90 5 rfl ?_
        refine g_iload_n hX dX2_find_91 3 rfl ?_
        refine g_iast hX (ovR_at (S := (uWP S (rC S) w2 p2)) 6 rfl) st rfl (by omega) (by decide) dX2_find_92 ?_
        refine g_eqM (ovR_uW st (fr 0) rfl) ?_
        show G X _ (ovR (cxT X) N o (uWP S (rC S) (va_up w2 st (fr 0)) p2)) sz ((0 + 0) + 0) ((0 + 0) + 0) 93 [(5, .int (-1)), (4, .int (nI k)), (0, .ref o), (1, .int (nI (fr 0))), (2, .int (nI a)), (3, .int (nI st))] []
        refine g_iinc (v := nI (k + 1)) (L' := [(4, .int (nI (k + 1))), (5, .int (-1)), (0, .ref o), (1, .int (nI (fr 0))), (2, .int (nI a)), (3, .int (nI st))]) hX dX2_find_93 1 rfl (nI_1 _) (by decide) rfl ?_
        refine g_goto hX 10 dX2_find_96 (by decide) ?_
        refine g_sub [0, 2, 3, 4, 5] rfl ?_
        exact ih (k + 1) (by omega) (by omega) _ _ (fun j hj => (va_up_ne _ _ (by omega)).trans ((hw2 j (by omega)).trans (hw j hj))) (fun j hj => (hp2 j (by omega)).trans ((va_up_ne _ _ (by omega)).trans (hpp j hj))) (va_up_self _ _ _)
    show G X 6 (ovR (cxT X) N o S) sz 0 0 0 [(0, .ref o), (1, .int (nI (fr 0))), (2, .int (nI a)), (3, .int (nI st))] []
    refine g_aload_n hX dX2_find_0 0 rfl ?_
    refine g_get (ci := 2) hX rfl fin_X2 (ovR_o (S := S)) 10 (by decide) fl_X2_29 rfl dX2_find_1 ?_
    refine g_iload_n hX dX2_find_4 3 rfl ?_
    refine g_iload_n hX dX2_find_5 1 rfl ?_
    refine g_iast hX (ovR_at (S := S) 6 rfl) st rfl (by omega) (by decide) dX2_find_6 ?_
    refine g_eqM (ovR_uW st (fr 0) rfl) ?_
    show G X _ (ovR (cxT X) N o (uWP S (rC S) (va_up (rW S) st (fr 0)) (rP S))) sz 0 0 7 [(0, .ref o), (1, .int (nI (fr 0))), (2, .int (nI a)), (3, .int (nI st))] []
    refine g_iconst (v := 0) hX dX2_find_7 (by decide) ?_
    refine g_istore (L' := [(4, .int 0), (0, .ref o), (1, .int (nI (fr 0))), (2, .int (nI a)), (3, .int (nI st))]) hX dX2_find_8 (by decide) rfl ?_
    refine g_sub [0, 1, 2, 3, 4] rfl ?_
    exact loop 0 (Nat.zero_le _) _ _ (fun j hj => va_up_ne _ _ (by omega)) (fun j hj => rfl) (va_up_self _ _ _)
