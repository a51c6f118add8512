set_option maxHeartbeats 1000000 in
set_option maxRecDepth 100000 in
theorem ct_drop {l : Launch} (hl : l.stackTraces = false) {T : CT3} {D : va_G} {N : AH} {P : PS} (sz : Nat) (hw : Wf P) {q n : Nat} (pl : Nat → Nat) (hi : DrI pl n P (some q)) : Ct l T D yX1_dropEmptyAndTighten cX1_dropEmptyAndTighten 3 none 3 66 0 0 [.ref q] (ov T N P) sz (fun v M' z' => v = none ∧ M' = ov T N (drpP pl n P (some q)) ∧ sz = z') := by
  refine Ct.ofX hl (by decide) (Nat.le_of_ble_eq_true rfl) ?_
  intro X hl0 hT0 hD0 hlt hX hF
  subst hl0; subst hT0; subst hD0
  have chain : ∀ n P r, Wf P → DrI pl n P r → G X 3 (ov (cxT X) N (drpP pl n P r)) sz 0 0 44 [] [] → G X 3 (ov (cxT X) N P) sz 0 0 2 [(1, va_rf r)] [] := by
    intro n
    induction n with
    | zero =>
      intro P r hw hi hG
      obtain rfl : r = none := hi
      show G X _ (ov (cxT X) N P) sz 0 0 2 [(1, .null)] []
      refine g_aload_nN hX dX1_dropEmptyAndTighten_2 0 rfl ?_
      refine g_ifnullN hX 44 dX1_dropEmptyAndTighten_3 (by decide) ?_
      refine g_sub [] rfl ?_
      exact hG
    | succ n ihn =>
      intro P r hw hi hG
      rcases r with _ | f
      · skip
        show G X _ (ov (cxT X) N P) sz 0 0 2 [(1, .null)] []
        refine g_aload_nN hX dX1_dropEmptyAndTighten_2 0 rfl ?_
        refine g_ifnullN hX 44 dX1_dropEmptyAndTighten_3 (by decide) ?_
        refine g_sub [] rfl ?_
        rw [drp_n] at hG
        exact hG
      · obtain ⟨hti, hi2⟩ := hi f rfl
        have hti2 := hti
        obtain ⟨hq, hs, hs2, hc⟩ := hti2
        show G X _ (ov (cxT X) N P) sz 0 0 2 [(1, .ref f)] []
        refine g_aload_n hX dX1_dropEmptyAndTighten_2 0 rfl ?_
        refine g_ifnullR hX dX1_dropEmptyAndTighten_3 ?_
        refine g_aload_n hX dX1_dropEmptyAndTighten_6 0 rfl ?_
        refine g_getN (ci := 0) hX rfl fin_X0 (ov_pc (P := P) hq) 4 (by decide) fn_X1_68 rfl dX1_dropEmptyAndTighten_7 ?_
        rcases hab : pH P f with _ | ab
        · skip
          show G X _ (ov (cxT X) N P) sz 0 0 10 [(1, .ref f)] [.null]
          refine g_astore_nN (L' := [(2, .null), (1, .ref f)]) hX dX1_dropEmptyAndTighten_10 (by decide) rfl ?_
          refine g_aload_n hX dX1_dropEmptyAndTighten_11 1 rfl ?_
          refine g_getN (ci := 0) hX rfl fin_X0 (ov_pc (P := P) hq) 3 (by decide) fn_X1_133 rfl dX1_dropEmptyAndTighten_12 ?_
          refine g_if_ne hX 35 dX1_dropEmptyAndTighten_15 (by decide) (fun c15 => ?_) (fun c15 => ?_)
          · skip
            have h0 : ¬ pS P f = 0 := fun e => c15 (by rw [e]; rfl)
            refine g_aload_n hX dX1_dropEmptyAndTighten_35 1 rfl ?_
            refine g_callVN [] hX (ct_tig hX.st sz hw (P := P) (q := f) hti) cw_X0_tighten cv_X0_tighten ln_X1_158 (ci := 0) rfl rfl (ov_pc (P := P) hq) ⟨by omega, by omega⟩ ⟨by omega, by omega⟩ (Nat.le_of_ble_eq_true rfl) rfl dX1_dropEmptyAndTighten_36 rfl (fun v36 M36 z36 hp36 hz36 hd36 => ?_)
            obtain ⟨rfl, rfl, rfl⟩ := hp36
            show G X _ (ov (cxT X) N (tigP P f)) sz (0 + 0) (0 + 0) 39 [(2, .null), (1, .ref f)] []
            refine g_aload_nN hX dX1_dropEmptyAndTighten_39 0 rfl ?_
            refine g_astore_nN (L' := [(1, .null), (2, .null)]) hX dX1_dropEmptyAndTighten_40 (by decide) rfl ?_
            refine g_goto hX 2 dX1_dropEmptyAndTighten_41 (by decide) ?_
            refine g_sub [0] rfl ?_
            rw [drp_h hab] at hG
            refine g_aload_nN hX dX1_dropEmptyAndTighten_2 0 rfl ?_
            refine g_ifnullN hX 44 dX1_dropEmptyAndTighten_3 (by decide) ?_
            refine g_sub [] rfl ?_
            exact hG
          · skip
            have h0 : pS P f = 0 := (nI_eq (a := pS P f) (b := 0) (pS_n32 hs hs2) (by omega)).mp c15
            refine g_aload_nN hX dX1_dropEmptyAndTighten_18 0 rfl ?_
            refine g_ifnullN hX 35 dX1_dropEmptyAndTighten_19 (by decide) ?_
            refine g_aload_n hX dX1_dropEmptyAndTighten_35 1 rfl ?_
            refine g_callVN [] hX (ct_tig hX.st sz hw (P := P) (q := f) hti) cw_X0_tighten cv_X0_tighten ln_X1_158 (ci := 0) rfl rfl (ov_pc (P := P) hq) ⟨by omega, by omega⟩ ⟨by omega, by omega⟩ (Nat.le_of_ble_eq_true rfl) rfl dX1_dropEmptyAndTighten_36 rfl (fun v36 M36 z36 hp36 hz36 hd36 => ?_)
            obtain ⟨rfl, rfl, rfl⟩ := hp36
            show G X _ (ov (cxT X) N (tigP P f)) sz (0 + 0) (0 + 0) 39 [(2, .null), (1, .ref f)] []
            refine g_aload_nN hX dX1_dropEmptyAndTighten_39 0 rfl ?_
            refine g_astore_nN (L' := [(1, .null), (2, .null)]) hX dX1_dropEmptyAndTighten_40 (by decide) rfl ?_
            refine g_goto hX 2 dX1_dropEmptyAndTighten_41 (by decide) ?_
            refine g_sub [0] rfl ?_
            rw [drp_h hab] at hG
            refine g_aload_nN hX dX1_dropEmptyAndTighten_2 0 rfl ?_
            refine g_ifnullN hX 44 dX1_dropEmptyAndTighten_3 (by decide) ?_
            refine g_sub [] rfl ?_
            exact hG
        · skip
          obtain ⟨hi3, hi4⟩ := hi2 ab hab
          show G X _ (ov (cxT X) N P) sz 0 0 10 [(1, .ref f)] [.ref ab]
          refine g_astore_n (L' := [(2, .ref ab), (1, .ref f)]) hX dX1_dropEmptyAndTighten_10 (by decide) rfl ?_
          refine g_aload_n hX dX1_dropEmptyAndTighten_11 1 rfl ?_
          refine g_getN (ci := 0) hX rfl fin_X0 (ov_pc (P := P) hq) 3 (by decide) fn_X1_133 rfl dX1_dropEmptyAndTighten_12 ?_
          refine g_if_ne hX 35 dX1_dropEmptyAndTighten_15 (by decide) (fun c15 => ?_) (fun c15 => ?_)
          · skip
            have h0 : ¬ pS P f = 0 := fun e => c15 (by rw [e]; rfl)
            refine g_aload_n hX dX1_dropEmptyAndTighten_35 1 rfl ?_
            refine g_callVN [] hX (ct_tig hX.st sz hw (P := P) (q := f) hti) cw_X0_tighten cv_X0_tighten ln_X1_158 (ci := 0) rfl rfl (ov_pc (P := P) hq) ⟨by omega, by omega⟩ ⟨by omega, by omega⟩ (Nat.le_of_ble_eq_true rfl) rfl dX1_dropEmptyAndTighten_36 rfl (fun v36 M36 z36 hp36 hz36 hd36 => ?_)
            obtain ⟨rfl, rfl, rfl⟩ := hp36
            show G X _ (ov (cxT X) N (tigP P f)) sz (0 + 0) (0 + 0) 39 [(2, .ref ab), (1, .ref f)] []
            refine g_aload_n hX dX1_dropEmptyAndTighten_39 0 rfl ?_
            refine g_astore_n (L' := [(1, .ref ab), (2, .ref ab)]) hX dX1_dropEmptyAndTighten_40 (by decide) rfl ?_
            refine g_goto hX 2 dX1_dropEmptyAndTighten_41 (by decide) ?_
            refine g_sub [0] rfl ?_
            rw [drp_f hab h0] at hG
            exact ihn _ (some ab) (Wf_tig hw f) (hi4 h0) hG
          · skip
            have h0 : pS P f = 0 := (nI_eq (a := pS P f) (b := 0) (pS_n32 hs hs2) (by omega)).mp c15
            obtain ⟨htk, hi5⟩ := hi3 h0
            refine g_aload_n hX dX1_dropEmptyAndTighten_18 0 rfl ?_
            refine g_ifnullR hX dX1_dropEmptyAndTighten_19 ?_
            refine g_aload_n hX dX1_dropEmptyAndTighten_22 0 rfl ?_
            refine g_aload_n hX dX1_dropEmptyAndTighten_23 0 rfl ?_
            refine g_aload_n hX dX1_dropEmptyAndTighten_24 1 rfl ?_
            refine g_callVN [.ref ab] hX (ct_placeOf hX.st sz hw (P := P) (q := ab) (r := f) (k0 := pl f) htk.1 htk.2.1 htk.2.2.1 htk.2.2.2.1 htk.2.2.2.2.1 htk.2.2.2.2.2.1) cw_X0_placeOf cv_X0_placeOf ln_X1_73 (ci := 0) rfl rfl (ov_pc (P := P) htk.1) ⟨by omega, by omega⟩ ⟨by omega, by omega⟩ (Nat.le_of_ble_eq_true rfl) rfl dX1_dropEmptyAndTighten_25 rfl (fun v25 M25 z25 hp25 hz25 hd25 => ?_)
            obtain ⟨rfl, rfl, rfl⟩ := hp25
            show G X _ (ov (cxT X) N P) sz (0 + 0) (0 + 0) 28 [(2, .ref ab), (1, .ref f)] [.int (nI (pl f)), .ref ab]
            refine g_callVN [] hX (ct_takeOut hX.st sz hw (P := P) (q := ab) (r := f) (p := pl f) htk.1 hq htk.2.2.2.1 htk.2.2.2.2.1 htk.2.1 htk.2.2.1 htk.2.2.2.2.2.2) cw_X0_takeOut cv_X0_takeOut ln_X1_77 (ci := 0) rfl rfl (ov_pc (P := P) htk.1) ⟨by omega, by omega⟩ ⟨by omega, by omega⟩ (Nat.le_of_ble_eq_true rfl) rfl dX1_dropEmptyAndTighten_28 rfl (fun v28 M28 z28 hp28 hz28 hd28 => ?_)
            obtain ⟨rfl, rfl, rfl⟩ := hp28
            show G X _ (ov (cxT X) N (tkP P ab f (pl f))) sz ((0 + 0) + 0) ((0 + 0) + 0) 31 [(2, .ref ab), (1, .ref f)] [.ref f]
            refine g_pop hX dX1_dropEmptyAndTighten_31 rfl ?_
            refine g_goto hX 39 dX1_dropEmptyAndTighten_32 (by decide) ?_
            refine g_aload_n hX dX1_dropEmptyAndTighten_39 0 rfl ?_
            refine g_astore_n (L' := [(1, .ref ab), (2, .ref ab)]) hX dX1_dropEmptyAndTighten_40 (by decide) rfl ?_
            refine g_goto hX 2 dX1_dropEmptyAndTighten_41 (by decide) ?_
            refine g_sub [0] rfl ?_
            rw [drp_t hab h0] at hG
            exact ihn _ (some ab) (Wf_tk hw ab f (pl f)) hi5 hG
  show G X 3 (ov (cxT X) N P) sz 0 0 0 [(0, .ref q)] []
  refine g_aload_n hX dX1_dropEmptyAndTighten_0 0 rfl ?_
  refine g_astore_n (L' := [(1, .ref q), (0, .ref q)]) hX dX1_dropEmptyAndTighten_1 (by decide) rfl ?_
  refine g_sub [0] rfl ?_
  refine chain n P (some q) hw hi ?_
  exact hF none (ov (cxT X) N (drpP pl n P (some q))) sz _ _ _ _ .return_ (⟨rfl, rfl, rfl⟩) (by omega) (by omega) ret_v dX1_dropEmptyAndTighten_44
