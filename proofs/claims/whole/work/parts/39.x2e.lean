theorem cr_spread (n : Nat) {S : RS} {f s : Nat} (ht : TrR S n f) (h0 : 0 < rM S f) (hs : s < 4) (hn : n < 1000) {l : Launch} (hl : l.stackTraces = false) {T : CT3} {D : va_G} {N : AH} {o : Nat} (sz : Nat) : Ct l T D yX2_spread cX2_spread 6 (some .int) (2 * n + 2) (49 * n + 46) 0 0 [.ref o, .int (nI f), .int (nI s)] (ovR T N o S) sz (fun v M' z' => v = some (.int (maxG (fun x => kidE S n x s) (fun k => rK S (5 * f + k)) (rM S f - 1) - minG (fun x => kidE S n x s) (fun k => rK S (5 * f + k)) (rM S f - 1))) ∧ M' = ovR T N o S ∧ sz = z') :=
  cr_spread_of hl sz ht.f ht.m h0 hs (cr_edgeOf n ht hs hn)

set_option maxHeartbeats 4000000 in
set_option maxRecDepth 100000 in
theorem cr_sort {l : Launch} (hl : l.stackTraces = false) {T : CT3} {D : va_G} {N : AH} {o : Nat} {S : RS} (sz : Nat) {n f s : Nat} (ht : TrR S n f) (h0 : 0 < rM S f) (hs : s < 4) (hn : n < 1000) : Ct l T D yX2_sort cX2_sort 6 none (2 * n + 2) (49 * n + 46) 0 0 [.ref o, .int (nI f), .int (nI s)] (ovR T N o S) sz (fun v M' z' => v = none ∧ M' = ovR T N o (blkR S f (bsG (fun x => kidE S n x s) (fun k => rK S (5 * f + k)) (rM S f - 1))) ∧ sz = z') := by
  refine Ct.ofX hl (by decide) (Nat.le_of_ble_eq_true rfl) ?_
  intro X hl0 hT0 hD0 hlt hX hF
  subst hl0; subst hT0; subst hD0
  have hf := ht.f
  have hm5 := ht.m
  have outer : ∀ k, k ≤ (rM S f - 1) → ∀ g, g = bsG (fun x => kidE S n x s) (fun k => rK S (5 * f + k)) k → Kgo S f g → G X 6 (ovR (cxT X) N o (blkR S f g)) sz 0 0 2 [(3, .int (nI (k + 1))), (0, .ref o), (1, .int (nI f)), (2, .int (nI s))] [] := by
    refine loop_up ?_
    intro k ih hk g hg hkg
    refine g_iload_n hX dX2_sort_2 0 rfl ?_
    refine g_aload_n hX dX2_sort_3 1 rfl ?_
    refine g_get (ci := 2) hX rfl fin_X2 (ovR_o (S := (blkR S f g))) 7 (by decide) fl_X2_20 rfl dX2_sort_4 ?_
    refine g_iload_n hX dX2_sort_7 2 rfl ?_
    refine g_iald hX (ovR_at (S := (blkR S f g)) 3 rfl) f rfl (by omega) (by decide) dX2_sort_8 ?_
    refine g_icmp_ge hX 97 dX2_sort_9 (by decide) (fun c9 => ?_) (fun c9 => ?_)
    · skip
      have hke : k = rM S f - 1 := by have h9 := (nI_leI (a := rM S f) (b := k + 1) (by omega) (by omega)).mp c9; omega
      subst hke
      subst hg
      exact hF none (ovR (cxT X) N o (blkR S f (bsG (fun x => kidE S n x s) (fun k => rK S (5 * f + k)) (rM S f - 1)))) sz _ _ _ _ .return_ (⟨rfl, rfl, rfl⟩) (by omega) (by omega) ret_v dX2_sort_97
    · skip
      have hk2 : k + 1 < rM S f := by have h9 := mt (nI_leI (a := rM S f) (b := k + 1) (by omega) (by omega)).mpr c9; omega
      refine g_iload_n hX dX2_sort_12 0 rfl ?_
      refine g_istore (L' := [(4, .int (nI (k + 1))), (3, .int (nI (k + 1))), (0, .ref o), (1, .int (nI f)), (2, .int (nI s))]) hX dX2_sort_13 (by decide) rfl ?_
      have behind : G X 6 (ovR (cxT X) N o (blkR S f (bubG (fun x => kidE S n x s) (k + 1) g))) sz 0 0 91 [(3, .int (nI (k + 1))), (0, .ref o), (1, .int (nI f)), (2, .int (nI s))] [] := by
        refine g_iinc (v := nI (k + 1 + 1)) (L' := [(3, .int (nI (k + 1 + 1))), (0, .ref o), (1, .int (nI f)), (2, .int (nI s))]) hX dX2_sort_91 0 rfl (nI_1 _) (by decide) rfl ?_
        refine g_goto hX 2 dX2_sort_94 (by decide) ?_
        refine g_sub [0, 1, 2, 3] rfl ?_
        exact ih (k + 1) (by omega) (by omega) _ (by subst hg; rfl) (hkg.bub hk2)
      have inner : ∀ i, i ≤ k + 1 → ∀ h, Kgo S f h → bubG (fun x => kidE S n x s) i h = (bubG (fun x => kidE S n x s) (k + 1) g) → G X 6 (ovR (cxT X) N o (blkR S f h)) sz 0 0 15 [(4, .int (nI i)), (3, .int (nI (k + 1))), (0, .ref o), (1, .int (nI f)), (2, .int (nI s))] [] := by
        refine loop_down ?_
        intro i ih hik h hkh hbb
        refine g_iload hX dX2_sort_15 0 rfl ?_
        refine g_if_le hX 91 dX2_sort_17 (by decide) (fun c17 => ?_) (fun c17 => ?_)
        · skip
          have hi0 : i = 0 := by have h9 := (nI_leI (a := i) (b := 0) (by omega) (by omega)).mp c17; omega
          subst hi0
          have hh : h = (bubG (fun x => kidE S n x s) (k + 1) g) := hbb
          rw [hh]
          refine g_sub [1, 2, 3, 4] rfl ?_
          exact behind
        · skip
          have hi0 : 0 < i := by have h9 := mt (nI_leI (a := i) (b := 0) (by omega) (by omega)).mpr c17; omega
          obtain ⟨j, rfl⟩ : ∃ j, i = j + 1 := ⟨i - 1, by omega⟩
          have hbt := blk_tr ht hkh
          refine g_aload_n hX dX2_sort_20 2 rfl ?_
          refine g_iload_n hX dX2_sort_21 3 rfl ?_
          refine g_iload hX dX2_sort_22 0 rfl ?_
          refine g_iconst (v := 1) hX dX2_sort_24 (by decide) ?_
          refine g_isub hX dX2_sort_25 ?_
          rw [nI_m1 (show 0 < j + 1 by omega), show j + 1 - 1 = j from rfl]
          show G X _ (ovR (cxT X) N o (blkR S f h)) sz 0 0 26 [(4, .int (nI (j + 1))), (3, .int (nI (k + 1))), (0, .ref o), (1, .int (nI f)), (2, .int (nI s))] [.int (nI j), .int (nI f), .ref o]
          refine g_iload_n hX dX2_sort_26 4 rfl ?_
          refine g_callV [] hX (cr_edgeOf n hbt.1 hs hn j (show j < rM S f by omega) hX.st sz) cw_X2_edgeOf cv_X2_edgeOf lk_X2_50 (ci := 2) rfl rfl ovR_o ⟨by omega, by omega⟩ ⟨by omega, by omega⟩ (Nat.le_of_ble_eq_true rfl) rfl dX2_sort_27 rfl (fun v27 M27 z27 hp27 hz27 hd27 => ?_)
          rw [blk_in (show j < 5 by omega), hbt.2 j (by omega)] at hp27
          obtain ⟨rfl, rfl, rfl⟩ := hp27
          show G X _ (ovR (cxT X) N o (blkR S f h)) sz (0 + 0) (0 + 0) 30 [(4, .int (nI (j + 1))), (3, .int (nI (k + 1))), (0, .ref o), (1, .int (nI f)), (2, .int (nI s))] [.int (kidE S n (h j) s)]
          refine g_aload_n hX dX2_sort_30 2 rfl ?_
          refine g_iload_n hX dX2_sort_31 3 rfl ?_
          refine g_iload hX dX2_sort_32 0 rfl ?_
          refine g_iload_n hX dX2_sort_34 4 rfl ?_
          refine g_callV [.int (kidE S n (h j) s)] hX (cr_edgeOf n hbt.1 hs hn (j + 1) (show j + 1 < rM S f by omega) hX.st sz) cw_X2_edgeOf cv_X2_edgeOf lk_X2_50 (ci := 2) rfl rfl ovR_o ⟨by omega, by omega⟩ ⟨by omega, by omega⟩ (Nat.le_of_ble_eq_true rfl) rfl dX2_sort_35 rfl (fun v35 M35 z35 hp35 hz35 hd35 => ?_)
          rw [blk_in (show j + 1 < 5 by omega), hbt.2 (j + 1) (by omega)] at hp35
          obtain ⟨rfl, rfl, rfl⟩ := hp35
          show G X _ (ovR (cxT X) N o (blkR S f h)) sz ((0 + 0) + 0) ((0 + 0) + 0) 38 [(4, .int (nI (j + 1))), (3, .int (nI (k + 1))), (0, .ref o), (1, .int (nI f)), (2, .int (nI s))] [.int (kidE S n (h (j + 1)) s), .int (kidE S n (h j) s)]
          refine g_icmp_le hX 91 dX2_sort_38 (by decide) (fun c38 => ?_) (fun c38 => ?_)
          · skip
            rw [bub_n (key := (fun x => kidE S n x s)) (Int32.not_lt.mpr c38)] at hbb
            rw [hbb]
            refine g_sub [1, 2, 3, 4] rfl ?_
            exact behind
          · skip
            refine g_aload_n hX dX2_sort_41 2 rfl ?_
            refine g_iload_n hX dX2_sort_42 3 rfl ?_
            refine g_iload hX dX2_sort_43 0 rfl ?_
            refine g_callV [] hX (cr_held hX.st sz (S := blkR S f h) (f := f) (p := j + 1) (by omega)) cw_X2_held cv_X2_held lk_X2_44 (ci := 2) rfl rfl ovR_o ⟨by omega, by omega⟩ ⟨by omega, by omega⟩ (Nat.le_of_ble_eq_true rfl) rfl dX2_sort_45 rfl (fun v45 M45 z45 hp45 hz45 hd45 => ?_)
            rw [blk_in (show j + 1 < 5 by omega)] at hp45
            obtain ⟨rfl, rfl, rfl⟩ := hp45
            show G X _ (ovR (cxT X) N o (blkR S f h)) sz (((0 + 0) + 0) + 0) (((0 + 0) + 0) + 0) 48 [(4, .int (nI (j + 1))), (3, .int (nI (k + 1))), (0, .ref o), (1, .int (nI f)), (2, .int (nI s))] [.int (nI (h (j + 1)))]
            refine g_istore (L' := [(5, .int (nI (h (j + 1)))), (4, .int (nI (j + 1))), (3, .int (nI (k + 1))), (0, .ref o), (1, .int (nI f)), (2, .int (nI s))]) hX dX2_sort_48 (by decide) rfl ?_
            refine g_aload_n hX dX2_sort_50 3 rfl ?_
            refine g_get (ci := 2) hX rfl fin_X2 (ovR_o (S := (blkR S f h))) 8 (by decide) fl_X2_23 rfl dX2_sort_51 ?_
            refine g_iconst (v := 5) hX dX2_sort_54 (by decide) ?_
            refine g_iload_n hX dX2_sort_55 4 rfl ?_
            refine g_imul hX dX2_sort_56 ?_
            refine g_iload hX dX2_sort_57 1 rfl ?_
            refine g_iadd hX dX2_sort_59 ?_
            refine g_aload_n hX dX2_sort_60 3 rfl ?_
            refine g_iload_n hX dX2_sort_61 4 rfl ?_
            refine g_iload hX dX2_sort_62 1 rfl ?_
            refine g_iconst (v := 1) hX dX2_sort_64 (by decide) ?_
            refine g_isub hX dX2_sort_65 ?_
            rw [nI_m1 (show 0 < j + 1 by omega), show j + 1 - 1 = j from rfl]
            show G X _ (ovR (cxT X) N o (blkR S f h)) sz (((0 + 0) + 0) + 0) (((0 + 0) + 0) + 0) 66 [(5, .int (nI (h (j + 1)))), (4, .int (nI (j + 1))), (3, .int (nI (k + 1))), (0, .ref o), (1, .int (nI f)), (2, .int (nI s))] [.int (nI j), .int (nI f), .ref o, .int ((5 * (nI f)) + (nI (j + 1))), .ref (o + 4)]
            refine g_callV [.int ((5 * (nI f)) + (nI (j + 1))), .ref (o + 4)] hX (cr_held hX.st sz (S := blkR S f h) (f := f) (p := j) (by omega)) cw_X2_held cv_X2_held lk_X2_44 (ci := 2) rfl rfl ovR_o ⟨by omega, by omega⟩ ⟨by omega, by omega⟩ (Nat.le_of_ble_eq_true rfl) rfl dX2_sort_66 rfl (fun v66 M66 z66 hp66 hz66 hd66 => ?_)
            rw [blk_in (show j < 5 by omega)] at hp66
            obtain ⟨rfl, rfl, rfl⟩ := hp66
            show G X _ (ovR (cxT X) N o (blkR S f h)) sz ((((0 + 0) + 0) + 0) + 0) ((((0 + 0) + 0) + 0) + 0) 69 [(5, .int (nI (h (j + 1)))), (4, .int (nI (j + 1))), (3, .int (nI (k + 1))), (0, .ref o), (1, .int (nI f)), (2, .int (nI s))] [.int (nI (h j)), .int ((5 * (nI f)) + (nI (j + 1))), .ref (o + 4)]
            refine g_iast hX (ovR_at (S := (blkR S f h)) 4 rfl) (5 * f + (j + 1)) (ix5 _ _) (by omega) (by decide) dX2_sort_69 ?_
            refine g_eqM (ovR_uK (5 * f + (j + 1)) (h j) rfl) ?_
            rw [blk_st (show j + 1 < 5 by omega)]
            refine g_aload_n hX dX2_sort_70 3 rfl ?_
            refine g_get (ci := 2) hX rfl fin_X2 (ovR_o (S := (blkR S f (va_up h (j + 1) (h j))))) 8 (by decide) fl_X2_23 rfl dX2_sort_71 ?_
            refine g_iconst (v := 5) hX dX2_sort_74 (by decide) ?_
            refine g_iload_n hX dX2_sort_75 4 rfl ?_
            refine g_imul hX dX2_sort_76 ?_
            refine g_iload hX dX2_sort_77 1 rfl ?_
            refine g_iadd hX dX2_sort_79 ?_
            refine g_iconst (v := 1) hX dX2_sort_80 (by decide) ?_
            refine g_isub hX dX2_sort_81 ?_
            refine g_iload hX dX2_sort_82 0 rfl ?_
            rw [ix5m f (j + 1) (by omega), show j + 1 - 1 = j from rfl]
            show G X _ (ovR (cxT X) N o (blkR S f (va_up h (j + 1) (h j)))) sz ((((0 + 0) + 0) + 0) + 0) ((((0 + 0) + 0) + 0) + 0) 84 [(5, .int (nI (h (j + 1)))), (4, .int (nI (j + 1))), (3, .int (nI (k + 1))), (0, .ref o), (1, .int (nI f)), (2, .int (nI s))] [.int (nI (h (j + 1))), .int (nI (5 * f + j)), .ref (o + 4)]
            refine g_iast hX (ovR_at (S := (blkR S f (va_up h (j + 1) (h j)))) 4 rfl) (5 * f + j) rfl (by omega) (by decide) dX2_sort_84 ?_
            refine g_eqM (ovR_uK (5 * f + j) (h (j + 1)) rfl) ?_
            rw [blk_st (show j < 5 by omega)]
            show G X _ (ovR (cxT X) N o (blkR S f (swG h j))) sz ((((0 + 0) + 0) + 0) + 0) ((((0 + 0) + 0) + 0) + 0) 85 [(5, .int (nI (h (j + 1)))), (4, .int (nI (j + 1))), (3, .int (nI (k + 1))), (0, .ref o), (1, .int (nI f)), (2, .int (nI s))] []
            refine g_iinc (v := nI j) (L' := [(4, .int (nI j)), (5, .int (nI (h (j + 1)))), (3, .int (nI (k + 1))), (0, .ref o), (1, .int (nI f)), (2, .int (nI s))]) hX dX2_sort_85 1 rfl (nI_p1 (show 0 < j + 1 by omega)) (by decide) rfl ?_
            refine g_goto hX 15 dX2_sort_88 (by decide) ?_
            refine g_sub [0, 2, 3, 4, 5] rfl ?_
            exact ih j (by omega) (by omega) (swG h j) (hkh.sw (by omega)) (by rw [← bub_y (key := (fun x => kidE S n x s)) (Int32.not_le.mp c38)]; exact hbb)
      refine g_sub [0, 1, 2, 3, 4] rfl ?_
      exact inner (k + 1) (Nat.le_refl _) g hkg rfl
  show G X 6 (ovR (cxT X) N o S) sz 0 0 0 [(0, .ref o), (1, .int (nI f)), (2, .int (nI s))] []
  refine g_iconst (v := 1) hX dX2_sort_0 (by decide) ?_
  refine g_istore_n (L' := [(3, .int 1), (0, .ref o), (1, .int (nI f)), (2, .int (nI s))]) hX dX2_sort_1 (by decide) rfl ?_
  refine g_sub [0, 1, 2, 3] rfl ?_
  have h9 := outer 0 (Nat.zero_le _) (fun k => rK S (5 * f + k)) rfl Kgo.st
  rw [blk_self] at h9
  exact h9
