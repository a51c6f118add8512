set_option maxHeartbeats 4000000 in
set_option maxRecDepth 100000 in
theorem cr_splits {l : Launch} (hl : l.stackTraces = false) {T : CT3} {D : va_G} {N : AH} {o : Nat} {S : RS} (sz : Nat) {h : Nat} (ht : TrR S h (rC S 4)) (hh : h < 58) (x1 y1 x2 y2 : Int32) (hr : isR x1 y1 x2 y2 = true) : Ct l T D yX2_splits cX2_splits 7 (some .int) (2 * h + 6) (49 * h + 150) 0 0 [.ref o, .int x1, .int y1, .int x2, .int y2] (ovR T N o S) sz (fun v M' z' => (∃ j, v = some (.int (nI j)) ∧ j ≤ h + 1 ∧ (∀ i, i < j → rM S ((pthR (tkR (uC S 0 0) x1 y1 x2 y2) h (rC S 4)) (h - i)) = 4) ∧ (j = h + 1 ∨ rM S ((pthR (tkR (uC S 0 0) x1 y1 x2 y2) h (rC S 4)) (h - j)) ≠ 4)) ∧ (∃ S', M' = ovR T N o S' ∧ SE S S' ∧ rC S' 0 = 0) ∧ sz = z') := by
  refine Ct.ofX hl (by decide) (Nat.le_of_ble_eq_true rfl) ?_
  intro X hl0 hT0 hD0 hlt hX hF
  subst hl0; subst hT0; subst hD0
  show G X 7 (ovR (cxT X) N o S) sz 0 0 0 [(0, .ref o), (1, .int x1), (2, .int y1), (3, .int x2), (4, .int y2)] []
  refine g_aload_n hX dX2_splits_0 0 rfl ?_
  refine g_iconst (v := 0) hX dX2_splits_1 (by decide) ?_
  refine g_put (ci := 2) hX rfl fld_X2 (ovR_o (S := S)) 0 (by decide) fl_X2_38 rfl rfl rfl (Nat.le_of_ble_eq_true rfl) dX2_splits_2 ?_
  refine g_eqM (ovR_uC0 0 rfl) ?_
  refine g_iload_n hX dX2_splits_5 1 rfl ?_
  refine g_iload_n hX dX2_splits_6 2 rfl ?_
  refine g_iload_n hX dX2_splits_7 3 rfl ?_
  refine g_iload hX dX2_splits_8 4 rfl ?_
  refine g_callS [] hX (cr_isRect hX.st sz _ _ _ _) cw_X2_isRect stt_X2_isRect lk_X2_100 ⟨by omega, by omega⟩ ⟨by omega, by omega⟩ (Nat.le_of_ble_eq_true rfl) rfl dX2_splits_10 rfl (fun v10 M10 z10 hp10 hz10 hd10 => ?_)
  rw [show isR x1 y1 x2 y2 = true from hr] at hp10
  obtain ⟨rfl, rfl, rfl⟩ := hp10
  show G X _ (ovR (cxT X) N o (uC S 0 0)) sz (0 + 0) (0 + 0) 13 [(0, .ref o), (1, .int x1), (2, .int y1), (3, .int x2), (4, .int y2)] [.int 1]
  refine g_if_ne hX 22 dX2_splits_13 (by decide) (fun _ => ?_) (fun c13 => absurd c13 (by decide))
  refine g_aload_n hX dX2_splits_22 0 rfl ?_
  refine g_iload_n hX dX2_splits_23 1 rfl ?_
  refine g_iload_n hX dX2_splits_24 2 rfl ?_
  refine g_iload_n hX dX2_splits_25 3 rfl ?_
  refine g_iload hX dX2_splits_26 4 rfl ?_
  refine g_callV [] hX (cr_take hX.st sz (S := uC S 0 0) _ _ _ _) cw_X2_take cv_X2_take lk_X2_106 (ci := 2) rfl rfl ovR_o ⟨by omega, by omega⟩ ⟨by omega, by omega⟩ (Nat.le_of_ble_eq_true rfl) rfl dX2_splits_28 rfl (fun v28 M28 z28 hp28 hz28 hd28 => ?_)
  obtain ⟨rfl, rfl, rfl⟩ := hp28
  show G X _ (ovR (cxT X) N o (tkR (uC S 0 0) x1 y1 x2 y2)) sz ((0 + 0) + 0) ((0 + 0) + 0) 31 [(0, .ref o), (1, .int x1), (2, .int y1), (3, .int x2), (4, .int y2)] []
  refine g_aload_n hX dX2_splits_31 0 rfl ?_
  refine g_callV [] hX (cr_goDown hX.st sz (S := tkR (uC S 0 0) x1 y1 x2 y2) (h := h) (SE.tt (S' := tkR (uC S 0 0) x1 y1 x2 y2) (SE.rfl' S) ht) hh) cw_X2_goDown cv_X2_goDown lk_X2_110 (ci := 2) rfl rfl ovR_o ⟨by omega, by omega⟩ ⟨by omega, by omega⟩ (Nat.le_of_ble_eq_true rfl) rfl dX2_splits_32 rfl (fun v32 M32 z32 hp32 hz32 hd32 => ?_)
  obtain ⟨rfl, ⟨w, p, rfl, hw3, hp3⟩, rfl⟩ := hp32
  show G X _ (ovR (cxT X) N o (uWP (tkR (uC S 0 0) x1 y1 x2 y2) (va_up (rC (tkR (uC S 0 0) x1 y1 x2 y2)) 5 h) w p)) sz (((0 + 0) + 0) + 0) (((0 + 0) + 0) + 0) 35 [(0, .ref o), (1, .int x1), (2, .int y1), (3, .int x2), (4, .int y2)] []
  refine g_iconst (v := 0) hX dX2_splits_35 (by decide) ?_
  refine g_istore (L' := [(5, .int 0), (0, .ref o), (1, .int x1), (2, .int y1), (3, .int x2), (4, .int y2)]) hX dX2_splits_36 (by decide) rfl ?_
  obtain ⟨S1, hS1⟩ : ∃ S1, S1 = uWP (tkR (uC S 0 0) x1 y1 x2 y2) (va_up (rC (tkR (uC S 0 0) x1 y1 x2 y2)) 5 h) w p := ⟨_, rfl⟩
  have hs1 : SE S (tkR (uC S 0 0) x1 y1 x2 y2) := SE.tk0 S x1 y1 x2 y2
  have hs2 : SE (tkR (uC S 0 0) x1 y1 x2 y2) S1 := by rw [hS1]; exact SE.wp _ _ _ _
  have hs : SE S S1 := hs1.trans hs2
  have h0 : rC S1 0 = 0 := by rw [hS1, wp_0]; exact tk0_0 S x1 y1 x2 y2
  have h5 : rC S1 5 = h := by rw [hS1, rC_wp]; exact va_up_self _ _ _
  have ht1 : TrR (tkR (uC S 0 0) x1 y1 x2 y2) h (rC S 4) := hs1.tr ht
  have h4c : rC (tkR (uC S 0 0) x1 y1 x2 y2) 4 = rC S 4 := hs1.2.2.2.2.2.2.2.2
  rw [h4c] at hw3
  obtain ⟨Pt, hPt⟩ : ∃ Pt, Pt = (pthR (tkR (uC S 0 0) x1 y1 x2 y2) h (rC S 4)) := ⟨_, rfl⟩
  have hwk : ∀ j, j ≤ h → rW S1 j = Pt j := by rw [hS1, hPt, rW_wp]; exact hw3
  have htr : ∀ j, j ≤ h → TrR S1 (h - j) (Pt j) := fun j hj => by rw [hPt]; exact hs2.tr (pthR_tr ht1 j hj)
  have hgw : ∀ n f, gwR S1 n f = gwR (tkR (uC S 0 0) x1 y1 x2 y2) n f := fun n f => by rw [hS1]; exact gw_wp _ _ _ _ _ _
  rw [← hS1]
  clear hp3 hS1
  have hrm : rM S1 = rM S := hs.2.2.1
  refine g_aload_n hX dX2_splits_38 1 rfl ?_
  refine g_get (ci := 2) hX rfl fin_X2 (ovR_o (S := S1)) 12 (by decide) fl_X2_77 rfl dX2_splits_39 ?_
  rw [h5]
  refine g_istore (L' := [(6, .int (nI h)), (5, .int 0), (0, .ref o), (1, .int x1), (2, .int y1), (3, .int x2), (4, .int y2)]) hX dX2_splits_42 (by decide) rfl ?_
  have loop : ∀ j, j ≤ h → (∀ i, i < j → rM S (Pt (h - i)) = 4) → G X 7 (ovR (cxT X) N o S1) sz 0 0 44 [(6, .int (nI (h - j))), (5, .int (nI j)), (0, .ref o), (1, .int x1), (2, .int y1), (3, .int x2), (4, .int y2)] [] := by
    refine loop_up ?_
    intro j ih hk hfu
    refine g_iload hX dX2_splits_44 0 rfl ?_
    refine g_if_lt hX 74 dX2_splits_46 (by decide) (fun c46 => absurd c46 (mt (nI_ltI (a := h - j) (b := 0) (by omega) (by omega)).mp (by omega))) (fun _ => ?_)
    refine g_aload_n hX dX2_splits_49 2 rfl ?_
    refine g_get (ci := 2) hX rfl fin_X2 (ovR_o (S := S1)) 7 (by decide) fl_X2_20 rfl dX2_splits_50 ?_
    refine g_aload_n hX dX2_splits_53 2 rfl ?_
    refine g_get (ci := 2) hX rfl fin_X2 (ovR_o (S := S1)) 10 (by decide) fl_X2_29 rfl dX2_splits_54 ?_
    refine g_iload hX dX2_splits_57 0 rfl ?_
    refine g_iald hX (ovR_at (S := S1) 6 rfl) (h - j) rfl (by omega) (by decide) dX2_splits_59 ?_
    rw [hwk (h - j) (by omega)]
    have htk := htr (h - j) (by omega)
    have htkf := htk.f
    have htkm := htk.m
    rw [hrm] at htkm
    refine g_iald hX (ovR_at (S := S1) 3 rfl) (Pt (h - j)) rfl (by omega) (by decide) dX2_splits_60 ?_
    rw [hrm]
    refine g_iconst (v := 4) hX dX2_splits_61 (by decide) ?_
    refine g_icmp_ne hX 74 dX2_splits_62 (by decide) (fun c62 => ?_) (fun c62 => ?_)
    · skip
      have hn4 : rM S (Pt (h - j)) ≠ 4 := fun e => c62 (by rw [e]; rfl)
      refine g_iload hX dX2_splits_74 1 rfl ?_
      exact hF (some (.int (nI j))) (ovR (cxT X) N o S1) sz _ _ _ _ .ireturn (⟨⟨j, rfl, by omega, (by rw [← hPt]; exact hfu), Or.inr (by rw [← hPt]; exact hn4)⟩, ⟨S1, rfl, hs, h0⟩, rfl⟩) (by omega) (by omega) ret_i dX2_splits_76
    · skip
      have h4 : rM S (Pt (h - j)) = 4 := (nI_eq (a := rM S (Pt (h - j))) (b := 4) (by omega) (by omega)).mp c62
      have hfu2 : ∀ i, i < j + 1 → rM S (Pt (h - i)) = 4 := fun i hi => by
        by_cases hij : i = j
        · rw [hij]; exact h4
        · exact hfu i (by omega)
      refine g_iinc (v := nI (j + 1)) (L' := [(5, .int (nI (j + 1))), (6, .int (nI (h - j))), (0, .ref o), (1, .int x1), (2, .int y1), (3, .int x2), (4, .int y2)]) hX dX2_splits_65 1 rfl (nI_1 _) (by decide) rfl ?_
      by_cases hjh : j = h
      · skip
        refine g_iinc (v := -1) (L' := [(6, .int (-1)), (5, .int (nI (j + 1))), (0, .ref o), (1, .int x1), (2, .int y1), (3, .int x2), (4, .int y2)]) hX dX2_splits_68 1 rfl (by rw [hjh, Nat.sub_self]; decide) (by decide) rfl ?_
        rw [hjh] at hfu2 ⊢
        show G X _ (ovR (cxT X) N o S1) sz 0 0 71 [(6, .int (-1)), (5, .int (nI (h + 1))), (0, .ref o), (1, .int x1), (2, .int y1), (3, .int x2), (4, .int y2)] []
        refine g_goto hX 44 dX2_splits_71 (by decide) ?_
        refine g_iload hX dX2_splits_44 0 rfl ?_
        refine g_if_lt hX 74 dX2_splits_46 (by decide) (fun _ => ?_) (fun c46 => absurd (by decide) c46)
        refine g_iload hX dX2_splits_74 1 rfl ?_
        exact hF (some (.int (nI (h + 1)))) (ovR (cxT X) N o S1) sz _ _ _ _ .ireturn (⟨⟨h + 1, rfl, Nat.le_refl _, (by rw [← hPt]; exact hfu2), Or.inl rfl⟩, ⟨S1, rfl, hs, h0⟩, rfl⟩) (by omega) (by omega) ret_i dX2_splits_76
      · skip
        refine g_iinc (v := nI (h - (j + 1))) (L' := [(6, .int (nI (h - (j + 1)))), (5, .int (nI (j + 1))), (0, .ref o), (1, .int x1), (2, .int y1), (3, .int x2), (4, .int y2)]) hX dX2_splits_68 1 rfl (by rw [show h - (j + 1) = h - j - 1 by omega]; exact nI_p1 (by omega)) (by decide) rfl ?_
        refine g_goto hX 44 dX2_splits_71 (by decide) ?_
        refine g_sub [0, 1, 2, 3, 4, 5, 6] rfl ?_
        exact ih (j + 1) (by omega) (by omega) hfu2
  refine g_sub [0, 1, 2, 3, 4, 5, 6] rfl ?_
  exact loop 0 (Nat.zero_le _) (fun i hi => absurd hi (Nat.not_lt_zero i))
