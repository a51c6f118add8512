set_option maxHeartbeats 4000000 in
set_option maxRecDepth 100000 in
theorem cr_grows {l : Launch} (hl : l.stackTraces = false) {T : CT3} {D : va_G} {N : AH} {o : Nat} {S : RS} (sz : Nat) {h : Nat} (ht : TrR S h (rC S 4)) (hh : h < 58) (x1 y1 x2 y2 : Int32) (hr : isR x1 y1 x2 y2 = true) : Ct l T D yX2_grows cX2_grows 7 (some .int) (2 * h + 6) (49 * h + 150) 0 0 [.ref o, .int x1, .int y1, .int x2, .int y2] (ovR T N o S) sz (fun v M' z' => v = some (.int (sumA 0 (fun i => gwR (tkR (uC S 0 0) x1 y1 x2 y2) (h - i) ((pthR (tkR (uC S 0 0) x1 y1 x2 y2) h (rC S 4)) i)) (h + 1))) ∧ (∃ S', M' = ovR T N o S' ∧ SE S S' ∧ rC S' 0 = 0) ∧ sz = z') := by
  refine Ct.ofX hl (by decide) (Nat.le_of_ble_eq_true rfl) ?_
  intro X hl0 hT0 hD0 hlt hX hF
  subst hl0; subst hT0; subst hD0
  show G X 7 (ovR (cxT X) N o S) sz 0 0 0 [(0, .ref o), (1, .int x1), (2, .int y1), (3, .int x2), (4, .int y2)] []
  refine g_aload_n hX dX2_grows_0 0 rfl ?_
  refine g_iconst (v := 0) hX dX2_grows_1 (by decide) ?_
  refine g_put (ci := 2) hX rfl fld_X2 (ovR_o (S := S)) 0 (by decide) fl_X2_38 rfl rfl rfl (Nat.le_of_ble_eq_true rfl) dX2_grows_2 ?_
  refine g_eqM (ovR_uC0 0 rfl) ?_
  refine g_iload_n hX dX2_grows_5 1 rfl ?_
  refine g_iload_n hX dX2_grows_6 2 rfl ?_
  refine g_iload_n hX dX2_grows_7 3 rfl ?_
  refine g_iload hX dX2_grows_8 4 rfl ?_
  refine g_callS [] hX (cr_isRect hX.st sz _ _ _ _) cw_X2_isRect stt_X2_isRect lk_X2_100 ⟨by omega, by omega⟩ ⟨by omega, by omega⟩ (Nat.le_of_ble_eq_true rfl) rfl dX2_grows_10 rfl (fun v10 M10 z10 hp10 hz10 hd10 => ?_)
  rw [show isR x1 y1 x2 y2 = true from hr] at hp10
  obtain ⟨rfl, rfl, rfl⟩ := hp10
  show G X _ (ovR (cxT X) N o (uC S 0 0)) sz (0 + 0) (0 + 0) 13 [(0, .ref o), (1, .int x1), (2, .int y1), (3, .int x2), (4, .int y2)] [.int 1]
  refine g_if_ne hX 22 dX2_grows_13 (by decide) (fun _ => ?_) (fun c13 => absurd c13 (by decide))
  refine g_aload_n hX dX2_grows_22 0 rfl ?_
  refine g_iload_n hX dX2_grows_23 1 rfl ?_
  refine g_iload_n hX dX2_grows_24 2 rfl ?_
  refine g_iload_n hX dX2_grows_25 3 rfl ?_
  refine g_iload hX dX2_grows_26 4 rfl ?_
  refine g_callV [] hX (cr_take hX.st sz (S := uC S 0 0) _ _ _ _) cw_X2_take cv_X2_take lk_X2_106 (ci := 2) rfl rfl ovR_o ⟨by omega, by omega⟩ ⟨by omega, by omega⟩ (Nat.le_of_ble_eq_true rfl) rfl dX2_grows_28 rfl (fun v28 M28 z28 hp28 hz28 hd28 => ?_)
  obtain ⟨rfl, rfl, rfl⟩ := hp28
  show G X _ (ovR (cxT X) N o (tkR (uC S 0 0) x1 y1 x2 y2)) sz ((0 + 0) + 0) ((0 + 0) + 0) 31 [(0, .ref o), (1, .int x1), (2, .int y1), (3, .int x2), (4, .int y2)] []
  refine g_aload_n hX dX2_grows_31 0 rfl ?_
  refine g_callV [] hX (cr_goDown hX.st sz (S := tkR (uC S 0 0) x1 y1 x2 y2) (h := h) (SE.tt (S' := tkR (uC S 0 0) x1 y1 x2 y2) (SE.rfl' S) ht) hh) cw_X2_goDown cv_X2_goDown lk_X2_110 (ci := 2) rfl rfl ovR_o ⟨by omega, by omega⟩ ⟨by omega, by omega⟩ (Nat.le_of_ble_eq_true rfl) rfl dX2_grows_32 rfl (fun v32 M32 z32 hp32 hz32 hd32 => ?_)
  obtain ⟨rfl, ⟨w, p, rfl, hw3, hp3⟩, rfl⟩ := hp32
  show G X _ (ovR (cxT X) N o (uWP (tkR (uC S 0 0) x1 y1 x2 y2) (va_up (rC (tkR (uC S 0 0) x1 y1 x2 y2)) 5 h) w p)) sz (((0 + 0) + 0) + 0) (((0 + 0) + 0) + 0) 35 [(0, .ref o), (1, .int x1), (2, .int y1), (3, .int x2), (4, .int y2)] []
  refine g_iconst (v := 0) hX dX2_grows_35 (by decide) ?_
  refine g_istore (L' := [(5, .int 0), (0, .ref o), (1, .int x1), (2, .int y1), (3, .int x2), (4, .int y2)]) hX dX2_grows_36 (by decide) rfl ?_
  refine g_iconst (v := 0) hX dX2_grows_38 (by decide) ?_
  refine g_istore (L' := [(6, .int 0), (5, .int 0), (0, .ref o), (1, .int x1), (2, .int y1), (3, .int x2), (4, .int y2)]) hX dX2_grows_39 (by decide) rfl ?_
  obtain ⟨S1, hS1⟩ : ∃ S1, S1 = uWP (tkR (uC S 0 0) x1 y1 x2 y2) (va_up (rC (tkR (uC S 0 0) x1 y1 x2 y2)) 5 h) w p := ⟨_, rfl⟩
  have hs1 : SE S (tkR (uC S 0 0) x1 y1 x2 y2) := SE.tk0 S x1 y1 x2 y2
  have hs2 : SE (tkR (uC S 0 0) x1 y1 x2 y2) S1 := by rw [hS1]; exact SE.wp _ _ _ _
  have hs : SE S S1 := hs1.trans hs2
  have h0 : rC S1 0 = 0 := by rw [hS1, wp_0]; exact tk0_0 S x1 y1 x2 y2
  have h5 : rC S1 5 = h := by rw [hS1, rC_wp]; exact va_up_self _ _ _
  have ht1 : TrR (tkR (uC S 0 0) x1 y1 x2 y2) h (rC S 4) := hs1.tr ht
  have h4c : rC (tkR (uC S 0 0) x1 y1 x2 y2) 4 = rC S 4 := hs1.2.2.2.2.2.2.2.2
  rw [h4c] at hw3
  obtain ⟨Pt, hPt⟩ : ∃ Pt, Pt = (pthR (tkR (uC S 0 0) x1 y1 x2 y2) h (rC S 4)) := ⟨_, rfl⟩
  have hwk : ∀ j, j ≤ h → rW S1 j = Pt j := by rw [hS1, hPt, rW_wp]; exact hw3
  have htr : ∀ j, j ≤ h → TrR S1 (h - j) (Pt j) := fun j hj => by rw [hPt]; exact hs2.tr (pthR_tr ht1 j hj)
  have hgw : ∀ n f, gwR S1 n f = gwR (tkR (uC S 0 0) x1 y1 x2 y2) n f := fun n f => by rw [hS1]; exact gw_wp _ _ _ _ _ _
  rw [← hS1]
  clear hp3 hS1
  obtain ⟨g, hg⟩ : ∃ g : Nat → Int32, g = (fun i => gwR (tkR (uC S 0 0) x1 y1 x2 y2) (h - i) ((pthR (tkR (uC S 0 0) x1 y1 x2 y2) h (rC S 4)) i)) := ⟨_, rfl⟩
  have hgk : ∀ k, gwR S1 (h - k) (Pt k) = g k := fun k => by rw [hgw, hPt, hg]
  clear hgw
  have loop : ∀ k, k ≤ (h + 1) → G X 7 (ovR (cxT X) N o S1) sz 0 0 41 [(6, .int (nI k)), (5, .int (sumA 0 g k)), (0, .ref o), (1, .int x1), (2, .int y1), (3, .int x2), (4, .int y2)] [] := by
    refine loop_up ?_
    intro k ih hk
    refine g_iload hX dX2_grows_41 0 rfl ?_
    refine g_aload_n hX dX2_grows_43 2 rfl ?_
    refine g_get (ci := 2) hX rfl fin_X2 (ovR_o (S := S1)) 12 (by decide) fl_X2_77 rfl dX2_grows_44 ?_
    rw [h5]
    refine g_icmp_gt hX 72 dX2_grows_47 (by decide) (fun c47 => ?_) (fun c47 => ?_)
    · skip
      have hke : k = h + 1 := by have h9 := mt (nI_leI (a := k) (b := h) (by omega) (by omega)).mpr (Int32.not_le.mpr c47); omega
      subst hke
      refine g_iload hX dX2_grows_72 1 rfl ?_
      exact hF (some (.int (sumA 0 g (h + 1)))) (ovR (cxT X) N o S1) sz _ _ _ _ .ireturn (⟨by rw [hg], ⟨S1, rfl, hs, h0⟩, rfl⟩) (by omega) (by omega) ret_i dX2_grows_74
    · skip
      have hk2 : k ≤ h := (nI_leI (a := k) (b := h) (by omega) (by omega)).mp (Int32.not_lt.mp c47)
      have htk := htr k hk2
      refine g_iload hX dX2_grows_50 1 rfl ?_
      refine g_aload_n hX dX2_grows_52 2 rfl ?_
      refine g_aload_n hX dX2_grows_53 2 rfl ?_
      refine g_get (ci := 2) hX rfl fin_X2 (ovR_o (S := S1)) 10 (by decide) fl_X2_29 rfl dX2_grows_54 ?_
      refine g_iload hX dX2_grows_57 0 rfl ?_
      refine g_iald hX (ovR_at (S := S1) 6 rfl) k rfl (by omega) (by decide) dX2_grows_59 ?_
      rw [hwk k hk2]
      refine g_callV [.int (sumA 0 g k)] hX (cr_growth hX.st sz (S := S1) (n := h - k) (f := Pt k) htk (by omega)) cw_X2_growth cv_X2_growth lk_X2_83 (ci := 2) rfl rfl ovR_o ⟨by omega, by omega⟩ ⟨by omega, by omega⟩ (Nat.le_of_ble_eq_true rfl) rfl dX2_grows_60 rfl (fun v60 M60 z60 hp60 hz60 hd60 => ?_)
      rw [hgk] at hp60
      obtain ⟨rfl, rfl, rfl⟩ := hp60
      show G X _ (ovR (cxT X) N o S1) sz (0 + 0) (0 + 0) 63 [(6, .int (nI k)), (5, .int (sumA 0 g k)), (0, .ref o), (1, .int x1), (2, .int y1), (3, .int x2), (4, .int y2)] [.int (g k), .int (sumA 0 g k)]
      refine g_iadd hX dX2_grows_63 ?_
      refine g_istore (L' := [(5, .int ((sumA 0 g k) + (g k))), (6, .int (nI k)), (0, .ref o), (1, .int x1), (2, .int y1), (3, .int x2), (4, .int y2)]) hX dX2_grows_64 (by decide) rfl ?_
      refine g_iinc (v := nI (k + 1)) (L' := [(6, .int (nI (k + 1))), (5, .int ((sumA 0 g k) + (g k))), (0, .ref o), (1, .int x1), (2, .int y1), (3, .int x2), (4, .int y2)]) hX dX2_grows_66 1 rfl (nI_1 _) (by decide) rfl ?_
      refine g_goto hX 41 dX2_grows_69 (by decide) ?_
      refine g_sub [0, 1, 2, 3, 4, 5, 6] rfl ?_
      exact ih (k + 1) (by omega) (by omega)
  refine g_sub [0, 1, 2, 3, 4, 5, 6] rfl ?_
  exact loop 0 (Nat.zero_le _)
