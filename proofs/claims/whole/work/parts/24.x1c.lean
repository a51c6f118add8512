set_option maxHeartbeats 4000000 in
set_option maxRecDepth 100000 in
theorem ct_meetingsBehind {l : Launch} (hl : l.stackTraces = false) {T : CT3} {D : va_G} {N : AH} {P : PS} (sz : Nat) (hw : Wf P) {q p : Nat} {R : Nat → Prop} (hq : pD P q = true) (hp : p < pS P q) (hs : pS P q ≤ pW P q) (hs2 : pW P q < 1000) (hkc : Kids P (pA P q) (pS P q) R) : Ct l T D yX1_meetingsBehind cX1_meetingsBehind 6 (some .int) 1 21 0 0 [.ref q, .int (nI p), .ref (kd P q p)] (ov T N P) sz (fun v M' z' => v = some (.int (mbP P q p (pS P q - (p + 1)))) ∧ M' = ov T N P ∧ sz = z') := by
  refine Ct.ofX hl (by decide) (Nat.le_of_ble_eq_true rfl) ?_
  intro X hl0 hT0 hD0 hlt hX hF
  subst hl0; subst hT0; subst hD0
  have loop : ∀ k, k ≤ (pS P q - (p + 1)) → G X 6 (ov (cxT X) N P) sz 0 0 7 [(4, .int (nI (p + 1 + k))), (3, .int (sumA 0 (fun i => bI (mtB P (kd P q (p + 1 + i)) (kd P q p))) k)), (0, .ref q), (1, .int (nI p)), (2, .ref (kd P q p))] [] := by
    refine loop_up ?_
    intro k ih hk
    refine g_iload hX dX1_meetingsBehind_7 0 rfl ?_
    refine g_aload_n hX dX1_meetingsBehind_9 2 rfl ?_
    refine g_getN (ci := 0) hX rfl fin_X0 (ov_pc (P := P) hq) 3 (by decide) fn_X1_133 rfl dX1_meetingsBehind_10 ?_
    refine g_icmp_ge hX 47 dX1_meetingsBehind_13 (by decide) (fun c13 => ?_) (fun c13 => ?_)
    · skip
      have hke : k = pS P q - (p + 1) := by have h9 := (nI_leI (a := pS P q) (b := p + 1 + k) (by omega) (by omega)).mp c13; omega
      subst hke
      refine g_iload_n hX dX1_meetingsBehind_47 1 rfl ?_
      exact hF (some (.int (sumA 0 (fun i => bI (mtB P (kd P q (p + 1 + i)) (kd P q p))) (pS P q - (p + 1))))) (ov (cxT X) N P) sz _ _ _ _ .ireturn (⟨rfl, rfl, rfl⟩) (by omega) (by omega) ret_i dX1_meetingsBehind_48
    · skip
      have hk2 : p + 1 + k < pS P q := by have h9 := mt (nI_leI (a := pS P q) (b := p + 1 + k) (by omega) (by omega)).mpr c13; omega
      refine g_aload_n hX dX1_meetingsBehind_16 2 rfl ?_
      refine g_iload hX dX1_meetingsBehind_17 0 rfl ?_
      refine g_callVN [] hX (ct_at hX.st sz hw (P := P) (q := q) (p := p + 1 + k) hq (by omega) hs hs2) cw_X0_at cv_X0_at ln_X1_148 (ci := 0) rfl rfl (ov_pc (P := P) hq) ⟨by omega, by omega⟩ ⟨by omega, by omega⟩ (Nat.le_of_ble_eq_true rfl) rfl dX1_meetingsBehind_19 rfl (fun v19 M19 z19 hp19 hz19 hd19 => ?_)
      rw [if_pos hk2, (hkc (p + 1 + k) hk2).1] at hp19
      obtain ⟨rfl, rfl, rfl⟩ := hp19
      show G X _ (ov (cxT X) N P) sz (0 + 0) (0 + 0) 22 [(4, .int (nI (p + 1 + k))), (3, .int (sumA 0 (fun i => bI (mtB P (kd P q (p + 1 + i)) (kd P q p))) k)), (0, .ref q), (1, .int (nI p)), (2, .ref (kd P q p))] [.ref (kd P q (p + 1 + k))]
      refine g_astore (L' := [(5, .ref (kd P q (p + 1 + k))), (4, .int (nI (p + 1 + k))), (3, .int (sumA 0 (fun i => bI (mtB P (kd P q (p + 1 + i)) (kd P q p))) k)), (0, .ref q), (1, .int (nI p)), (2, .ref (kd P q p))]) hX dX1_meetingsBehind_22 (by decide) rfl ?_
      refine g_aload hX dX1_meetingsBehind_24 0 rfl ?_
      refine g_ifnullR hX dX1_meetingsBehind_26 ?_
      refine g_aload hX dX1_meetingsBehind_29 0 rfl ?_
      refine g_aload_n hX dX1_meetingsBehind_31 5 rfl ?_
      refine g_callVN [] hX (ct_meets hX.st sz hw (hkc (p + 1 + k) hk2).2.1 (hkc p hp).2.1) cw_X0_meets cv_X0_meets ln_X1_194 (ci := 0) rfl rfl (ov_pc (P := P) ((hkc (p + 1 + k) hk2).2.1)) ⟨by omega, by omega⟩ ⟨by omega, by omega⟩ (Nat.le_of_ble_eq_true rfl) rfl dX1_meetingsBehind_32 rfl (fun v32 M32 z32 hp32 hz32 hd32 => ?_)
      obtain ⟨rfl, rfl, rfl⟩ := hp32
      show G X _ (ov (cxT X) N P) sz ((0 + 0) + 0) ((0 + 0) + 0) 35 [(5, .ref (kd P q (p + 1 + k))), (4, .int (nI (p + 1 + k))), (3, .int (sumA 0 (fun i => bI (mtB P (kd P q (p + 1 + i)) (kd P q p))) k)), (0, .ref q), (1, .int (nI p)), (2, .ref (kd P q p))] [.int (bI (mtB P (kd P q (p + 1 + k)) (kd P q p)))]
      refine g_if_eq hX 41 dX1_meetingsBehind_35 (by decide) (fun c35 => ?_) (fun c35 => ?_)
      · skip
        refine g_iinc (v := nI (p + 1 + k + 1)) (L' := [(4, .int (nI (p + 1 + k + 1))), (5, .ref (kd P q (p + 1 + k))), (3, .int (sumA 0 (fun i => bI (mtB P (kd P q (p + 1 + i)) (kd P q p))) k)), (0, .ref q), (1, .int (nI p)), (2, .ref (kd P q p))]) hX dX1_meetingsBehind_41 1 rfl (nI_1 _) (by decide) rfl ?_
        refine g_goto hX 7 dX1_meetingsBehind_44 (by decide) ?_
        rw [show sumA 0 (fun i => bI (mtB P (kd P q (p + 1 + i)) (kd P q p))) k = sumA 0 (fun i => bI (mtB P (kd P q (p + 1 + i)) (kd P q p))) (k + 1) from by show _ = _ + bI (mtB P (kd P q (p + 1 + k)) (kd P q p)); rw [bI_0 c35]; exact (add0I _).symm]
        refine g_sub [0, 2, 3, 4, 5] rfl ?_
        exact ih (k + 1) (by omega) (by omega)
      · skip
        refine g_iinc (v := (sumA 0 (fun i => bI (mtB P (kd P q (p + 1 + i)) (kd P q p))) k) + 1) (L' := [(3, .int ((sumA 0 (fun i => bI (mtB P (kd P q (p + 1 + i)) (kd P q p))) k) + 1)), (5, .ref (kd P q (p + 1 + k))), (4, .int (nI (p + 1 + k))), (0, .ref q), (1, .int (nI p)), (2, .ref (kd P q p))]) hX dX1_meetingsBehind_38 2 rfl rfl (by decide) rfl ?_
        refine g_iinc (v := nI (p + 1 + k + 1)) (L' := [(4, .int (nI (p + 1 + k + 1))), (3, .int ((sumA 0 (fun i => bI (mtB P (kd P q (p + 1 + i)) (kd P q p))) k) + 1)), (5, .ref (kd P q (p + 1 + k))), (0, .ref q), (1, .int (nI p)), (2, .ref (kd P q p))]) hX dX1_meetingsBehind_41 2 rfl (nI_1 _) (by decide) rfl ?_
        refine g_goto hX 7 dX1_meetingsBehind_44 (by decide) ?_
        rw [show sumA 0 (fun i => bI (mtB P (kd P q (p + 1 + i)) (kd P q p))) k + 1 = sumA 0 (fun i => bI (mtB P (kd P q (p + 1 + i)) (kd P q p))) (k + 1) from by show _ = _ + bI (mtB P (kd P q (p + 1 + k)) (kd P q p)); rw [bI_1 c35]; rfl]
        refine g_sub [0, 1, 3, 4, 5] rfl ?_
        exact ih (k + 1) (by omega) (by omega)
  show G X 6 (ov (cxT X) N P) sz 0 0 0 [(0, .ref q), (1, .int (nI p)), (2, .ref (kd P q p))] []
  refine g_iconst (v := 0) hX dX1_meetingsBehind_0 (by decide) ?_
  refine g_istore_n (L' := [(3, .int 0), (0, .ref q), (1, .int (nI p)), (2, .ref (kd P q p))]) hX dX1_meetingsBehind_1 (by decide) rfl ?_
  refine g_iload_n hX dX1_meetingsBehind_2 2 rfl ?_
  refine g_iconst (v := 1) hX dX1_meetingsBehind_3 (by decide) ?_
  refine g_iadd hX dX1_meetingsBehind_4 ?_
  refine g_istore (L' := [(4, .int ((nI p) + 1)), (3, .int 0), (0, .ref q), (1, .int (nI p)), (2, .ref (kd P q p))]) hX dX1_meetingsBehind_5 (by decide) rfl ?_
  rw [nI_1]
  refine g_sub [0, 1, 2, 3, 4] rfl ?_
  exact loop 0 (Nat.zero_le _)

set_option maxHeartbeats 4000000 in
set_option maxRecDepth 100000 in
theorem ct_meetingPairsIn {l : Launch} (hl : l.stackTraces = false) {T : CT3} {D : va_G} {N : AH} {P : PS} (sz : Nat) (hw : Wf P)  : ∀ (n : Nat) (q d : Nat), TrP P n q → d + n < 40 → Ct l T D yX1_meetingPairsIn cX1_meetingPairsIn 5 (some .int) (n + 4) (80 + 60 * n) 0 0 [.ref q, .int (nI d)] (ov T N P) sz (fun v M' z' => v = some (.int (mpP P n q)) ∧ M' = ov T N P ∧ sz = z') := by
  intro n
  induction n with
  | zero =>
    intro q d  ht hdn
    have hq := ht.d
    have hl1 := ht.l
    have hw5 := ht.w
    have hs4 := ht.s
    have hkc := ht.k
    refine Ct.ofX hl (by decide) (Nat.le_of_ble_eq_true rfl) ?_
    intro X hl0 hT0 hD0 hlt hX hF
    subst hl0; subst hT0; subst hD0
    show G X 5 (ov (cxT X) N P) sz 0 0 0 [(0, .ref q), (1, .int (nI d))] []
    refine g_iconst (v := 0) hX dX1_meetingPairsIn_0 (by decide) ?_
    refine g_istore_n (L' := [(2, .int 0), (0, .ref q), (1, .int (nI d))]) hX dX1_meetingPairsIn_1 (by decide) rfl ?_
    refine g_aload_n hX dX1_meetingPairsIn_2 1 rfl ?_
    refine g_iload_n hX dX1_meetingPairsIn_3 2 rfl ?_
    refine g_callS [] hX (ct_isBottom hX.st sz hw hq (by omega) (by omega)) cw_X1_isBottom stt_X1_isBottom lk_X1_210 ⟨by omega, by omega⟩ ⟨by omega, by omega⟩ (Nat.le_of_ble_eq_true rfl) rfl dX1_meetingPairsIn_4 rfl (fun v4 M4 z4 hp4 hz4 hd4 => ?_)
    rw [decide_eq_true (Or.inl (by rw [hl1]; exact Nat.le_refl 1))] at hp4
    obtain ⟨rfl, rfl, rfl⟩ := hp4
    show G X _ (ov (cxT X) N P) sz (0 + 0) (0 + 0) 7 [(2, .int 0), (0, .ref q), (1, .int (nI d))] [.int 1]
    refine g_if_eq hX 12 dX1_meetingPairsIn_7 (by decide) (fun c7 => absurd c7 (by decide)) (fun _ => ?_)
    refine g_iload_n hX dX1_meetingPairsIn_10 0 rfl ?_
    exact hF (some (.int 0)) (ov (cxT X) N P) sz _ _ _ _ .ireturn (⟨rfl, rfl, rfl⟩) (by omega) (by omega) ret_i dX1_meetingPairsIn_11
  | succ n ihn =>
    intro q d  ht hdn
    have hq := ht.d
    have hl1 := ht.l
    have hw5 := ht.w
    have hs4 := ht.s
    have hkc := ht.k
    have hkt : Kids P (pA P q) (pS P q) (fun c => TrP P n c) := ht.2.2.2.2
    refine Ct.ofX hl (by decide) (Nat.le_of_ble_eq_true rfl) ?_
    intro X hl0 hT0 hD0 hlt hX hF
    subst hl0; subst hT0; subst hD0
    have loop : ∀ k, k ≤ (pS P q) → G X 5 (ov (cxT X) N P) sz 0 0 14 [(3, .int (nI k)), (2, .int (sumA 0 (fun j => mbP P q j (pS P q - (j + 1)) + mpP P n (kd P q j)) k)), (0, .ref q), (1, .int (nI d))] [] := by
      refine loop_up ?_
      intro k ih hk
      refine g_iload_n hX dX1_meetingPairsIn_14 0 rfl ?_
      refine g_aload_n hX dX1_meetingPairsIn_15 2 rfl ?_
      refine g_getN (ci := 0) hX rfl fin_X0 (ov_pc (P := P) hq) 3 (by decide) fn_X1_133 rfl dX1_meetingPairsIn_16 ?_
      refine g_icmp_ge hX 59 dX1_meetingPairsIn_19 (by decide) (fun c19 => ?_) (fun c19 => ?_)
      · skip
        have hke : k = pS P q := by have h9 := (nI_leI (a := pS P q) (b := k) (by omega) (by omega)).mp c19; omega
        subst hke
        refine g_iload_n hX dX1_meetingPairsIn_59 1 rfl ?_
        exact hF (some (.int (sumA 0 (fun j => mbP P q j (pS P q - (j + 1)) + mpP P n (kd P q j)) (pS P q)))) (ov (cxT X) N P) sz _ _ _ _ .ireturn (⟨rfl, rfl, rfl⟩) (by omega) (by omega) ret_i dX1_meetingPairsIn_60
      · skip
        have hk2 : k < pS P q := by have h9 := mt (nI_leI (a := pS P q) (b := k) (by omega) (by omega)).mpr c19; omega
        refine g_aload_n hX dX1_meetingPairsIn_22 2 rfl ?_
        refine g_iload_n hX dX1_meetingPairsIn_23 0 rfl ?_
        refine g_callVN [] hX (ct_at hX.st sz hw (P := P) (q := q) (p := k) hq (by omega) (by omega) (by omega)) cw_X0_at cv_X0_at ln_X1_148 (ci := 0) rfl rfl (ov_pc (P := P) hq) ⟨by omega, by omega⟩ ⟨by omega, by omega⟩ (Nat.le_of_ble_eq_true rfl) rfl dX1_meetingPairsIn_24 rfl (fun v24 M24 z24 hp24 hz24 hd24 => ?_)
        rw [if_pos hk2, (hkc k hk2).1] at hp24
        obtain ⟨rfl, rfl, rfl⟩ := hp24
        show G X _ (ov (cxT X) N P) sz (0 + 0) (0 + 0) 27 [(3, .int (nI k)), (2, .int (sumA 0 (fun j => mbP P q j (pS P q - (j + 1)) + mpP P n (kd P q j)) k)), (0, .ref q), (1, .int (nI d))] [.ref (kd P q k)]
        refine g_astore (L' := [(4, .ref (kd P q k)), (3, .int (nI k)), (2, .int (sumA 0 (fun j => mbP P q j (pS P q - (j + 1)) + mpP P n (kd P q j)) k)), (0, .ref q), (1, .int (nI d))]) hX dX1_meetingPairsIn_27 (by decide) rfl ?_
        refine g_aload hX dX1_meetingPairsIn_29 0 rfl ?_
        refine g_ifnullR hX dX1_meetingPairsIn_31 ?_
        refine g_iload_n hX dX1_meetingPairsIn_34 2 rfl ?_
        refine g_aload_n hX dX1_meetingPairsIn_35 3 rfl ?_
        refine g_iload_n hX dX1_meetingPairsIn_36 1 rfl ?_
        refine g_aload hX dX1_meetingPairsIn_37 0 rfl ?_
        refine g_callS [.int (sumA 0 (fun j => mbP P q j (pS P q - (j + 1)) + mpP P n (kd P q j)) k)] hX (ct_meetingsBehind hX.st sz hw hq hk2 (by omega) (by omega) hkc) cw_X1_meetingsBehind stt_X1_meetingsBehind lk_X1_214 ⟨by omega, by omega⟩ ⟨by omega, by omega⟩ (Nat.le_of_ble_eq_true rfl) rfl dX1_meetingPairsIn_39 rfl (fun v39 M39 z39 hp39 hz39 hd39 => ?_)
        obtain ⟨rfl, rfl, rfl⟩ := hp39
        show G X _ (ov (cxT X) N P) sz ((0 + 0) + 0) ((0 + 0) + 0) 42 [(4, .ref (kd P q k)), (3, .int (nI k)), (2, .int (sumA 0 (fun j => mbP P q j (pS P q - (j + 1)) + mpP P n (kd P q j)) k)), (0, .ref q), (1, .int (nI d))] [.int (mbP P q k (pS P q - (k + 1))), .int (sumA 0 (fun j => mbP P q j (pS P q - (j + 1)) + mpP P n (kd P q j)) k)]
        refine g_aload hX dX1_meetingPairsIn_42 0 rfl ?_
        refine g_iload_n hX dX1_meetingPairsIn_44 4 rfl ?_
        refine g_iconst (v := 1) hX dX1_meetingPairsIn_45 (by decide) ?_
        refine g_iadd hX dX1_meetingPairsIn_46 ?_
        rw [nI_1]
        refine g_callS [.int (mbP P q k (pS P q - (k + 1))), .int (sumA 0 (fun j => mbP P q j (pS P q - (j + 1)) + mpP P n (kd P q j)) k)] hX (ihn (kd P q k) (d + 1) (hkt k hk2).2.2 (by omega)) cw_X1_meetingPairsIn stt_X1_meetingPairsIn lk_X1_207 ⟨by omega, by omega⟩ ⟨by omega, by omega⟩ (Nat.le_of_ble_eq_true rfl) rfl dX1_meetingPairsIn_47 rfl (fun v47 M47 z47 hp47 hz47 hd47 => ?_)
        obtain ⟨rfl, rfl, rfl⟩ := hp47
        show G X _ (ov (cxT X) N P) sz (((0 + 0) + 0) + 0) (((0 + 0) + 0) + 0) 50 [(4, .ref (kd P q k)), (3, .int (nI k)), (2, .int (sumA 0 (fun j => mbP P q j (pS P q - (j + 1)) + mpP P n (kd P q j)) k)), (0, .ref q), (1, .int (nI d))] [.int (mpP P n (kd P q k)), .int (mbP P q k (pS P q - (k + 1))), .int (sumA 0 (fun j => mbP P q j (pS P q - (j + 1)) + mpP P n (kd P q j)) k)]
        refine g_iadd hX dX1_meetingPairsIn_50 ?_
        refine g_iadd hX dX1_meetingPairsIn_51 ?_
        refine g_istore_n (L' := [(2, .int ((sumA 0 (fun j => mbP P q j (pS P q - (j + 1)) + mpP P n (kd P q j)) k) + ((mbP P q k (pS P q - (k + 1))) + (mpP P n (kd P q k))))), (4, .ref (kd P q k)), (3, .int (nI k)), (0, .ref q), (1, .int (nI d))]) hX dX1_meetingPairsIn_52 (by decide) rfl ?_
        refine g_iinc (v := nI (k + 1)) (L' := [(3, .int (nI (k + 1))), (2, .int ((sumA 0 (fun j => mbP P q j (pS P q - (j + 1)) + mpP P n (kd P q j)) k) + ((mbP P q k (pS P q - (k + 1))) + (mpP P n (kd P q k))))), (4, .ref (kd P q k)), (0, .ref q), (1, .int (nI d))]) hX dX1_meetingPairsIn_53 2 rfl (nI_1 _) (by decide) rfl ?_
        refine g_goto hX 14 dX1_meetingPairsIn_56 (by decide) ?_
        refine g_sub [0, 1, 3, 4] rfl ?_
        exact ih (k + 1) (by omega) (by omega)
    show G X 5 (ov (cxT X) N P) sz 0 0 0 [(0, .ref q), (1, .int (nI d))] []
    refine g_iconst (v := 0) hX dX1_meetingPairsIn_0 (by decide) ?_
    refine g_istore_n (L' := [(2, .int 0), (0, .ref q), (1, .int (nI d))]) hX dX1_meetingPairsIn_1 (by decide) rfl ?_
    refine g_aload_n hX dX1_meetingPairsIn_2 1 rfl ?_
    refine g_iload_n hX dX1_meetingPairsIn_3 2 rfl ?_
    refine g_callS [] hX (ct_isBottom hX.st sz hw hq (by omega) (by omega)) cw_X1_isBottom stt_X1_isBottom lk_X1_210 ⟨by omega, by omega⟩ ⟨by omega, by omega⟩ (Nat.le_of_ble_eq_true rfl) rfl dX1_meetingPairsIn_4 rfl (fun v4 M4 z4 hp4 hz4 hd4 => ?_)
    rw [decide_eq_false (by rw [hl1]; omega)] at hp4
    obtain ⟨rfl, rfl, rfl⟩ := hp4
    show G X _ (ov (cxT X) N P) sz (0 + 0) (0 + 0) 7 [(2, .int 0), (0, .ref q), (1, .int (nI d))] [.int 0]
    refine g_if_eq hX 12 dX1_meetingPairsIn_7 (by decide) (fun _ => ?_) (fun c7 => absurd (by decide) c7)
    refine g_iconst (v := 0) hX dX1_meetingPairsIn_12 (by decide) ?_
    refine g_istore_n (L' := [(3, .int 0), (2, .int 0), (0, .ref q), (1, .int (nI d))]) hX dX1_meetingPairsIn_13 (by decide) rfl ?_
    refine g_sub [0, 1, 2, 3] rfl ?_
    exact loop 0 (Nat.zero_le _)

set_option maxHeartbeats 4000000 in
set_option maxRecDepth 100000 in
theorem ct_framesLookedAt {l : Launch} (hl : l.stackTraces = false) {T : CT3} {D : va_G} {N : AH} {P : PS} (sz : Nat) (hw : Wf P) {r : Nat} (hr : pD P r = true) : ∀ (n : Nat) (q d : Nat), TrP P n q → d + n < 40 → Ct l T D yX1_framesLookedAt cX1_framesLookedAt 6 (some .int) (n + 4) (80 + 60 * n) 0 0 [.ref q, .ref r, .int (nI d)] (ov T N P) sz (fun v M' z' => v = some (.int (lkP P r n q)) ∧ M' = ov T N P ∧ sz = z') := by
  intro n
  induction n with
  | zero =>
    intro q d  ht hdn
    have hq := ht.d
    have hl1 := ht.l
    have hw5 := ht.w
    have hs4 := ht.s
    have hkc := ht.k
    refine Ct.ofX hl (by decide) (Nat.le_of_ble_eq_true rfl) ?_
    intro X hl0 hT0 hD0 hlt hX hF
    subst hl0; subst hT0; subst hD0
    show G X 6 (ov (cxT X) N P) sz 0 0 0 [(0, .ref q), (1, .ref r), (2, .int (nI d))] []
    refine g_iconst (v := 1) hX dX1_framesLookedAt_0 (by decide) ?_
    refine g_istore_n (L' := [(3, .int 1), (0, .ref q), (1, .ref r), (2, .int (nI d))]) hX dX1_framesLookedAt_1 (by decide) rfl ?_
    refine g_aload_n hX dX1_framesLookedAt_2 1 rfl ?_
    refine g_iload_n hX dX1_framesLookedAt_3 3 rfl ?_
    refine g_callS [] hX (ct_isBottom hX.st sz hw hq (by omega) (by omega)) cw_X1_isBottom stt_X1_isBottom lk_X1_210 ⟨by omega, by omega⟩ ⟨by omega, by omega⟩ (Nat.le_of_ble_eq_true rfl) rfl dX1_framesLookedAt_4 rfl (fun v4 M4 z4 hp4 hz4 hd4 => ?_)
    rw [decide_eq_true (Or.inl (by rw [hl1]; exact Nat.le_refl 1))] at hp4
    obtain ⟨rfl, rfl, rfl⟩ := hp4
    show G X _ (ov (cxT X) N P) sz (0 + 0) (0 + 0) 7 [(3, .int 1), (0, .ref q), (1, .ref r), (2, .int (nI d))] [.int 1]
    refine g_if_eq hX 12 dX1_framesLookedAt_7 (by decide) (fun c7 => absurd c7 (by decide)) (fun _ => ?_)
    refine g_iload_n hX dX1_framesLookedAt_10 0 rfl ?_
    exact hF (some (.int 1)) (ov (cxT X) N P) sz _ _ _ _ .ireturn (⟨rfl, rfl, rfl⟩) (by omega) (by omega) ret_i dX1_framesLookedAt_11
  | succ n ihn =>
    intro q d  ht hdn
    have hq := ht.d
    have hl1 := ht.l
    have hw5 := ht.w
    have hs4 := ht.s
    have hkc := ht.k
    have hkt : Kids P (pA P q) (pS P q) (fun c => TrP P n c) := ht.2.2.2.2
    refine Ct.ofX hl (by decide) (Nat.le_of_ble_eq_true rfl) ?_
    intro X hl0 hT0 hD0 hlt hX hF
    subst hl0; subst hT0; subst hD0
    have loop : ∀ k, k ≤ (pS P q) → G X 6 (ov (cxT X) N P) sz 0 0 15 [(4, .int (nI k)), (3, .int (sumA 1 (fun j => if mtB P (kd P q j) r then lkP P r n (kd P q j) else 0) k)), (0, .ref q), (1, .ref r), (2, .int (nI d))] [] := by
      refine loop_up ?_
      intro k ih hk
      refine g_iload hX dX1_framesLookedAt_15 0 rfl ?_
      refine g_aload_n hX dX1_framesLookedAt_17 2 rfl ?_
      refine g_getN (ci := 0) hX rfl fin_X0 (ov_pc (P := P) hq) 3 (by decide) fn_X1_133 rfl dX1_framesLookedAt_18 ?_
      refine g_icmp_ge hX 64 dX1_framesLookedAt_21 (by decide) (fun c21 => ?_) (fun c21 => ?_)
      · skip
        have hke : k = pS P q := by have h9 := (nI_leI (a := pS P q) (b := k) (by omega) (by omega)).mp c21; omega
        subst hke
        refine g_iload_n hX dX1_framesLookedAt_64 1 rfl ?_
        exact hF (some (.int (sumA 1 (fun j => if mtB P (kd P q j) r then lkP P r n (kd P q j) else 0) (pS P q)))) (ov (cxT X) N P) sz _ _ _ _ .ireturn (⟨rfl, rfl, rfl⟩) (by omega) (by omega) ret_i dX1_framesLookedAt_65
      · skip
        have hk2 : k < pS P q := by have h9 := mt (nI_leI (a := pS P q) (b := k) (by omega) (by omega)).mpr c21; omega
        refine g_aload_n hX dX1_framesLookedAt_24 2 rfl ?_
        refine g_iload hX dX1_framesLookedAt_25 0 rfl ?_
        refine g_callVN [] hX (ct_at hX.st sz hw (P := P) (q := q) (p := k) hq (by omega) (by omega) (by omega)) cw_X0_at cv_X0_at ln_X1_148 (ci := 0) rfl rfl (ov_pc (P := P) hq) ⟨by omega, by omega⟩ ⟨by omega, by omega⟩ (Nat.le_of_ble_eq_true rfl) rfl dX1_framesLookedAt_27 rfl (fun v27 M27 z27 hp27 hz27 hd27 => ?_)
        rw [if_pos hk2, (hkc k hk2).1] at hp27
        obtain ⟨rfl, rfl, rfl⟩ := hp27
        show G X _ (ov (cxT X) N P) sz (0 + 0) (0 + 0) 30 [(4, .int (nI k)), (3, .int (sumA 1 (fun j => if mtB P (kd P q j) r then lkP P r n (kd P q j) else 0) k)), (0, .ref q), (1, .ref r), (2, .int (nI d))] [.ref (kd P q k)]
        refine g_astore (L' := [(5, .ref (kd P q k)), (4, .int (nI k)), (3, .int (sumA 1 (fun j => if mtB P (kd P q j) r then lkP P r n (kd P q j) else 0) k)), (0, .ref q), (1, .ref r), (2, .int (nI d))]) hX dX1_framesLookedAt_30 (by decide) rfl ?_
        refine g_aload hX dX1_framesLookedAt_32 0 rfl ?_
        refine g_ifnullR hX dX1_framesLookedAt_34 ?_
        refine g_aload hX dX1_framesLookedAt_37 0 rfl ?_
        refine g_aload_n hX dX1_framesLookedAt_39 4 rfl ?_
        refine g_callVN [] hX (ct_meets hX.st sz hw (hkc k hk2).2.1 hr) cw_X0_meets cv_X0_meets ln_X1_194 (ci := 0) rfl rfl (ov_pc (P := P) ((hkc k hk2).2.1)) ⟨by omega, by omega⟩ ⟨by omega, by omega⟩ (Nat.le_of_ble_eq_true rfl) rfl dX1_framesLookedAt_40 rfl (fun v40 M40 z40 hp40 hz40 hd40 => ?_)
        obtain ⟨rfl, rfl, rfl⟩ := hp40
        show G X _ (ov (cxT X) N P) sz ((0 + 0) + 0) ((0 + 0) + 0) 43 [(5, .ref (kd P q k)), (4, .int (nI k)), (3, .int (sumA 1 (fun j => if mtB P (kd P q j) r then lkP P r n (kd P q j) else 0) k)), (0, .ref q), (1, .ref r), (2, .int (nI d))] [.int (bI (mtB P (kd P q k) r))]
        refine g_if_eq hX 58 dX1_framesLookedAt_43 (by decide) (fun c43 => ?_) (fun c43 => ?_)
        · skip
          refine g_iinc (v := nI (k + 1)) (L' := [(4, .int (nI (k + 1))), (5, .ref (kd P q k)), (3, .int (sumA 1 (fun j => if mtB P (kd P q j) r then lkP P r n (kd P q j) else 0) k)), (0, .ref q), (1, .ref r), (2, .int (nI d))]) hX dX1_framesLookedAt_58 1 rfl (nI_1 _) (by decide) rfl ?_
          refine g_goto hX 15 dX1_framesLookedAt_61 (by decide) ?_
          rw [show sumA 1 (fun j => if mtB P (kd P q j) r then lkP P r n (kd P q j) else 0) k = sumA 1 (fun j => if mtB P (kd P q j) r then lkP P r n (kd P q j) else 0) (k + 1) from by show _ = _ + (if mtB P (kd P q k) r = true then _ else _); rw [if_neg (by rw [bI_0 c43]; decide)]; exact (add0I _).symm]
          refine g_sub [0, 2, 3, 4, 5] rfl ?_
          exact ih (k + 1) (by omega) (by omega)
        · skip
          refine g_iload_n hX dX1_framesLookedAt_46 2 rfl ?_
          refine g_aload hX dX1_framesLookedAt_47 0 rfl ?_
          refine g_aload_n hX dX1_framesLookedAt_49 4 rfl ?_
          refine g_iload_n hX dX1_framesLookedAt_50 5 rfl ?_
          refine g_iconst (v := 1) hX dX1_framesLookedAt_51 (by decide) ?_
          refine g_iadd hX dX1_framesLookedAt_52 ?_
          rw [nI_1]
          refine g_callS [.int (sumA 1 (fun j => if mtB P (kd P q j) r then lkP P r n (kd P q j) else 0) k)] hX (ihn (kd P q k) (d + 1) (hkt k hk2).2.2 (by omega)) cw_X1_framesLookedAt stt_X1_framesLookedAt lk_X1_111 ⟨by omega, by omega⟩ ⟨by omega, by omega⟩ (Nat.le_of_ble_eq_true rfl) rfl dX1_framesLookedAt_53 rfl (fun v53 M53 z53 hp53 hz53 hd53 => ?_)
          obtain ⟨rfl, rfl, rfl⟩ := hp53
          show G X _ (ov (cxT X) N P) sz (((0 + 0) + 0) + 0) (((0 + 0) + 0) + 0) 56 [(5, .ref (kd P q k)), (4, .int (nI k)), (3, .int (sumA 1 (fun j => if mtB P (kd P q j) r then lkP P r n (kd P q j) else 0) k)), (0, .ref q), (1, .ref r), (2, .int (nI d))] [.int (lkP P r n (kd P q k)), .int (sumA 1 (fun j => if mtB P (kd P q j) r then lkP P r n (kd P q j) else 0) k)]
          refine g_iadd hX dX1_framesLookedAt_56 ?_
          refine g_istore_n (L' := [(3, .int ((sumA 1 (fun j => if mtB P (kd P q j) r then lkP P r n (kd P q j) else 0) k) + (lkP P r n (kd P q k)))), (5, .ref (kd P q k)), (4, .int (nI k)), (0, .ref q), (1, .ref r), (2, .int (nI d))]) hX dX1_framesLookedAt_57 (by decide) rfl ?_
          refine g_iinc (v := nI (k + 1)) (L' := [(4, .int (nI (k + 1))), (3, .int ((sumA 1 (fun j => if mtB P (kd P q j) r then lkP P r n (kd P q j) else 0) k) + (lkP P r n (kd P q k)))), (5, .ref (kd P q k)), (0, .ref q), (1, .ref r), (2, .int (nI d))]) hX dX1_framesLookedAt_58 2 rfl (nI_1 _) (by decide) rfl ?_
          refine g_goto hX 15 dX1_framesLookedAt_61 (by decide) ?_
          rw [show sumA 1 (fun j => if mtB P (kd P q j) r then lkP P r n (kd P q j) else 0) k + lkP P r n (kd P q k) = sumA 1 (fun j => if mtB P (kd P q j) r then lkP P r n (kd P q j) else 0) (k + 1) from by show _ = _ + (if mtB P (kd P q k) r = true then _ else _); rw [if_pos (bI_1 c43)]]
          refine g_sub [0, 1, 3, 4, 5] rfl ?_
          exact ih (k + 1) (by omega) (by omega)
    show G X 6 (ov (cxT X) N P) sz 0 0 0 [(0, .ref q), (1, .ref r), (2, .int (nI d))] []
    refine g_iconst (v := 1) hX dX1_framesLookedAt_0 (by decide) ?_
    refine g_istore_n (L' := [(3, .int 1), (0, .ref q), (1, .ref r), (2, .int (nI d))]) hX dX1_framesLookedAt_1 (by decide) rfl ?_
    refine g_aload_n hX dX1_framesLookedAt_2 1 rfl ?_
    refine g_iload_n hX dX1_framesLookedAt_3 3 rfl ?_
    refine g_callS [] hX (ct_isBottom hX.st sz hw hq (by omega) (by omega)) cw_X1_isBottom stt_X1_isBottom lk_X1_210 ⟨by omega, by omega⟩ ⟨by omega, by omega⟩ (Nat.le_of_ble_eq_true rfl) rfl dX1_framesLookedAt_4 rfl (fun v4 M4 z4 hp4 hz4 hd4 => ?_)
    rw [decide_eq_false (by rw [hl1]; omega)] at hp4
    obtain ⟨rfl, rfl, rfl⟩ := hp4
    show G X _ (ov (cxT X) N P) sz (0 + 0) (0 + 0) 7 [(3, .int 1), (0, .ref q), (1, .ref r), (2, .int (nI d))] [.int 0]
    refine g_if_eq hX 12 dX1_framesLookedAt_7 (by decide) (fun _ => ?_) (fun c7 => absurd (by decide) c7)
    refine g_iconst (v := 0) hX dX1_framesLookedAt_12 (by decide) ?_
    refine g_istore (L' := [(4, .int 0), (3, .int 1), (0, .ref q), (1, .ref r), (2, .int (nI d))]) hX dX1_framesLookedAt_13 (by decide) rfl ?_
    refine g_sub [0, 1, 2, 3, 4] rfl ?_
    exact loop 0 (Nat.zero_le _)

set_option maxHeartbeats 4000000 in
set_option maxRecDepth 100000 in
theorem ct_digestOfFrame {l : Launch} (hl : l.stackTraces = false) {T : CT3} {D : va_G} {N : AH} {P : PS} (sz : Nat) (hw : Wf P) {q : Nat} (d : Int64) (hq : pD P q = true) (hs : pS P q < 1000) : Ct l T D yX1_digestOfFrame cX1_digestOfFrame 6 (some .long) 0 0 0 0 [.ref q, .long d] (ov T N P) sz (fun v M' z' => v = some (.long (dgf P q d)) ∧ M' = ov T N P ∧ sz = z') := by
  refine Ct.ofX hl (by decide) (Nat.le_of_ble_eq_true rfl) ?_
  intro X hl0 hT0 hD0 hlt hX hF
  subst hl0; subst hT0; subst hD0
  show G X 6 (ov (cxT X) N P) sz 0 0 0 [(0, .ref q), (1, .long d)] []
  refine g_aload_n hX dX1_digestOfFrame_0 0 rfl ?_
  refine g_getN (ci := 0) hX rfl fin_X0 (ov_pc (P := P) hq) 3 (by decide) fn_X1_133 rfl dX1_digestOfFrame_1 ?_
  refine g_if_ne hX 11 dX1_digestOfFrame_4 (by decide) (fun c4 => ?_) (fun c4 => ?_)
  · skip
    refine g_iconst (v := 0) hX dX1_digestOfFrame_11 (by decide) ?_
    refine g_istore_n (L' := [(3, .int 0), (0, .ref q), (1, .long d)]) hX dX1_digestOfFrame_12 (by decide) rfl ?_
    refine g_lload_n hX dX1_digestOfFrame_13 2 rfl ?_
    refine g_ldc2 hX kl_X1_138 dX1_digestOfFrame_14 ?_
    refine g_lmul hX dX1_digestOfFrame_17 ?_
    refine g_aload_n hX dX1_digestOfFrame_18 1 rfl ?_
    refine g_getN (ci := 0) hX rfl fin_X0 (ov_pc (P := P) hq) 3 (by decide) fn_X1_133 rfl dX1_digestOfFrame_19 ?_
    refine g_i2l hX dX1_digestOfFrame_22 ?_
    refine g_ladd hX dX1_digestOfFrame_23 ?_
    refine g_lstore (L' := [(4, .long ((d * 31) + ((nI (pS P q)).toInt64))), (3, .int 0), (0, .ref q), (1, .long d)]) hX dX1_digestOfFrame_24 (by decide) rfl ?_
    refine g_lload hX dX1_digestOfFrame_26 0 rfl ?_
    refine g_ldc2 hX kl_X1_138 dX1_digestOfFrame_28 ?_
    refine g_lmul hX dX1_digestOfFrame_31 ?_
    refine g_iload_n hX dX1_digestOfFrame_32 1 rfl ?_
    refine g_if_eq hX 40 dX1_digestOfFrame_33 (by decide) (fun _ => ?_) (fun c33 => absurd (by decide) c33)
    refine g_aload_n hX dX1_digestOfFrame_40 2 rfl ?_
    refine g_getN (ci := 0) hX rfl fin_X0 (ov_pc (P := P) hq) 5 (by decide) fn_X1_179 rfl dX1_digestOfFrame_41 ?_
    refine g_i2l hX dX1_digestOfFrame_44 ?_
    refine g_ladd hX dX1_digestOfFrame_45 ?_
    refine g_lstore (L' := [(4, .long ((((d * 31) + ((nI (pS P q)).toInt64)) * 31) + ((pB P q 0).toInt64))), (3, .int 0), (0, .ref q), (1, .long d)]) hX dX1_digestOfFrame_46 (by decide) rfl ?_
    refine g_lload hX dX1_digestOfFrame_48 0 rfl ?_
    refine g_ldc2 hX kl_X1_138 dX1_digestOfFrame_50 ?_
    refine g_lmul hX dX1_digestOfFrame_53 ?_
    refine g_iload_n hX dX1_digestOfFrame_54 1 rfl ?_
    refine g_if_eq hX 62 dX1_digestOfFrame_55 (by decide) (fun _ => ?_) (fun c55 => absurd (by decide) c55)
    refine g_aload_n hX dX1_digestOfFrame_62 2 rfl ?_
    refine g_getN (ci := 0) hX rfl fin_X0 (ov_pc (P := P) hq) 6 (by decide) fn_X1_182 rfl dX1_digestOfFrame_63 ?_
    refine g_i2l hX dX1_digestOfFrame_66 ?_
    refine g_ladd hX dX1_digestOfFrame_67 ?_
    refine g_lstore (L' := [(4, .long ((((((d * 31) + ((nI (pS P q)).toInt64)) * 31) + ((pB P q 0).toInt64)) * 31) + ((pB P q 1).toInt64))), (3, .int 0), (0, .ref q), (1, .long d)]) hX dX1_digestOfFrame_68 (by decide) rfl ?_
    refine g_lload hX dX1_digestOfFrame_70 0 rfl ?_
    refine g_ldc2 hX kl_X1_138 dX1_digestOfFrame_72 ?_
    refine g_lmul hX dX1_digestOfFrame_75 ?_
    refine g_iload_n hX dX1_digestOfFrame_76 1 rfl ?_
    refine g_if_eq hX 84 dX1_digestOfFrame_77 (by decide) (fun _ => ?_) (fun c77 => absurd (by decide) c77)
    refine g_aload_n hX dX1_digestOfFrame_84 2 rfl ?_
    refine g_getN (ci := 0) hX rfl fin_X0 (ov_pc (P := P) hq) 7 (by decide) fn_X1_185 rfl dX1_digestOfFrame_85 ?_
    refine g_i2l hX dX1_digestOfFrame_88 ?_
    refine g_ladd hX dX1_digestOfFrame_89 ?_
    refine g_lstore (L' := [(4, .long ((((((((d * 31) + ((nI (pS P q)).toInt64)) * 31) + ((pB P q 0).toInt64)) * 31) + ((pB P q 1).toInt64)) * 31) + ((pB P q 2).toInt64))), (3, .int 0), (0, .ref q), (1, .long d)]) hX dX1_digestOfFrame_90 (by decide) rfl ?_
    refine g_lload hX dX1_digestOfFrame_92 0 rfl ?_
    refine g_ldc2 hX kl_X1_138 dX1_digestOfFrame_94 ?_
    refine g_lmul hX dX1_digestOfFrame_97 ?_
    refine g_iload_n hX dX1_digestOfFrame_98 1 rfl ?_
    refine g_if_eq hX 106 dX1_digestOfFrame_99 (by decide) (fun _ => ?_) (fun c99 => absurd (by decide) c99)
    refine g_aload_n hX dX1_digestOfFrame_106 2 rfl ?_
    refine g_getN (ci := 0) hX rfl fin_X0 (ov_pc (P := P) hq) 8 (by decide) fn_X1_188 rfl dX1_digestOfFrame_107 ?_
    refine g_i2l hX dX1_digestOfFrame_110 ?_
    refine g_ladd hX dX1_digestOfFrame_111 ?_
    exact hF (some (.long ((((((((((d * 31) + ((nI (pS P q)).toInt64)) * 31) + ((pB P q 0).toInt64)) * 31) + ((pB P q 1).toInt64)) * 31) + ((pB P q 2).toInt64)) * 31) + ((pB P q 3).toInt64)))) (ov (cxT X) N P) sz _ _ _ _ .lreturn (⟨by unfold dgf; rw [if_neg (fun h => c4 (by rw [h]; rfl))], rfl, rfl⟩) (by omega) (by omega) ret_l dX1_digestOfFrame_112
  · skip
    refine g_iconst (v := 1) hX dX1_digestOfFrame_7 (by decide) ?_
    refine g_goto hX 12 dX1_digestOfFrame_8 (by decide) ?_
    refine g_istore_n (L' := [(3, .int 1), (0, .ref q), (1, .long d)]) hX dX1_digestOfFrame_12 (by decide) rfl ?_
    refine g_lload_n hX dX1_digestOfFrame_13 2 rfl ?_
    refine g_ldc2 hX kl_X1_138 dX1_digestOfFrame_14 ?_
    refine g_lmul hX dX1_digestOfFrame_17 ?_
    refine g_aload_n hX dX1_digestOfFrame_18 1 rfl ?_
    refine g_getN (ci := 0) hX rfl fin_X0 (ov_pc (P := P) hq) 3 (by decide) fn_X1_133 rfl dX1_digestOfFrame_19 ?_
    refine g_i2l hX dX1_digestOfFrame_22 ?_
    refine g_ladd hX dX1_digestOfFrame_23 ?_
    refine g_lstore (L' := [(4, .long ((d * 31) + ((nI (pS P q)).toInt64))), (3, .int 1), (0, .ref q), (1, .long d)]) hX dX1_digestOfFrame_24 (by decide) rfl ?_
    refine g_lload hX dX1_digestOfFrame_26 0 rfl ?_
    refine g_ldc2 hX kl_X1_138 dX1_digestOfFrame_28 ?_
    refine g_lmul hX dX1_digestOfFrame_31 ?_
    refine g_iload_n hX dX1_digestOfFrame_32 1 rfl ?_
    refine g_if_eq hX 40 dX1_digestOfFrame_33 (by decide) (fun c33 => absurd c33 (by decide)) (fun _ => ?_)
    refine g_iconst (v := 0) hX dX1_digestOfFrame_36 (by decide) ?_
    refine g_goto hX 44 dX1_digestOfFrame_37 (by decide) ?_
    refine g_i2l hX dX1_digestOfFrame_44 ?_
    refine g_ladd hX dX1_digestOfFrame_45 ?_
    refine g_lstore (L' := [(4, .long ((((d * 31) + ((nI (pS P q)).toInt64)) * 31) + ((0 : Int32).toInt64))), (3, .int 1), (0, .ref q), (1, .long d)]) hX dX1_digestOfFrame_46 (by decide) rfl ?_
    refine g_lload hX dX1_digestOfFrame_48 0 rfl ?_
    refine g_ldc2 hX kl_X1_138 dX1_digestOfFrame_50 ?_
    refine g_lmul hX dX1_digestOfFrame_53 ?_
    refine g_iload_n hX dX1_digestOfFrame_54 1 rfl ?_
    refine g_if_eq hX 62 dX1_digestOfFrame_55 (by decide) (fun c55 => absurd c55 (by decide)) (fun _ => ?_)
    refine g_iconst (v := 0) hX dX1_digestOfFrame_58 (by decide) ?_
    refine g_goto hX 66 dX1_digestOfFrame_59 (by decide) ?_
    refine g_i2l hX dX1_digestOfFrame_66 ?_
    refine g_ladd hX dX1_digestOfFrame_67 ?_
    refine g_lstore (L' := [(4, .long ((((((d * 31) + ((nI (pS P q)).toInt64)) * 31) + ((0 : Int32).toInt64)) * 31) + ((0 : Int32).toInt64))), (3, .int 1), (0, .ref q), (1, .long d)]) hX dX1_digestOfFrame_68 (by decide) rfl ?_
    refine g_lload hX dX1_digestOfFrame_70 0 rfl ?_
    refine g_ldc2 hX kl_X1_138 dX1_digestOfFrame_72 ?_
    refine g_lmul hX dX1_digestOfFrame_75 ?_
    refine g_iload_n hX dX1_digestOfFrame_76 1 rfl ?_
    refine g_if_eq hX 84 dX1_digestOfFrame_77 (by decide) (fun c77 => absurd c77 (by decide)) (fun _ => ?_)
    refine g_iconst (v := 0) hX dX1_digestOfFrame_80 (by decide) ?_
    refine g_goto hX 88 dX1_digestOfFrame_81 (by decide) ?_
    refine g_i2l hX dX1_digestOfFrame_88 ?_
    refine g_ladd hX dX1_digestOfFrame_89 ?_
    refine g_lstore (L' := [(4, .long ((((((((d * 31) + ((nI (pS P q)).toInt64)) * 31) + ((0 : Int32).toInt64)) * 31) + ((0 : Int32).toInt64)) * 31) + ((0 : Int32).toInt64))), (3, .int 1), (0, .ref q), (1, .long d)]) hX dX1_digestOfFrame_90 (by decide) rfl ?_
    refine g_lload hX dX1_digestOfFrame_92 0 rfl ?_
    refine g_ldc2 hX kl_X1_138 dX1_digestOfFrame_94 ?_
    refine g_lmul hX dX1_digestOfFrame_97 ?_
    refine g_iload_n hX dX1_digestOfFrame_98 1 rfl ?_
    refine g_if_eq hX 106 dX1_digestOfFrame_99 (by decide) (fun c99 => absurd c99 (by decide)) (fun _ => ?_)
    refine g_iconst (v := 0) hX dX1_digestOfFrame_102 (by decide) ?_
    refine g_goto hX 110 dX1_digestOfFrame_103 (by decide) ?_
    refine g_i2l hX dX1_digestOfFrame_110 ?_
    refine g_ladd hX dX1_digestOfFrame_111 ?_
    exact hF (some (.long ((((((((((d * 31) + ((nI (pS P q)).toInt64)) * 31) + ((0 : Int32).toInt64)) * 31) + ((0 : Int32).toInt64)) * 31) + ((0 : Int32).toInt64)) * 31) + ((0 : Int32).toInt64)))) (ov (cxT X) N P) sz _ _ _ _ .lreturn (⟨by unfold dgf; rw [if_pos (by have h9 := (nI_eq (a := pS P q) (b := 0) (by omega) (by omega)).mp c4; exact h9)], rfl, rfl⟩) (by omega) (by omega) ret_l dX1_digestOfFrame_112

set_option maxHeartbeats 4000000 in
set_option maxRecDepth 100000 in
theorem ct_digestOfFrames {l : Launch} (hl : l.stackTraces = false) {T : CT3} {D : va_G} {N : AH} {P : PS} (sz : Nat) (hw : Wf P) : ∀ (n : Nat) (q d : Nat) (g : Int64), TrP P n q → d + n < 40 → Ct l T D yX1_digestOfFrames cX1_digestOfFrames 8 (some .long) (n + 4) (80 + 60 * n) 0 0 [.ref q, .long g, .int (nI d)] (ov T N P) sz (fun v M' z' => v = some (.long (dgP P n q g)) ∧ M' = ov T N P ∧ sz = z') := by
  intro n
  induction n with
  | zero =>
    intro q d g ht hdn
    have hq := ht.d
    have hl1 := ht.l
    have hw5 := ht.w
    have hs4 := ht.s
    have hkc := ht.k
    refine Ct.ofX hl (by decide) (Nat.le_of_ble_eq_true rfl) ?_
    intro X hl0 hT0 hD0 hlt hX hF
    subst hl0; subst hT0; subst hD0
    have loop : ∀ k, k ≤ (pS P q) → G X 8 (ov (cxT X) N P) sz 0 0 10 [(6, .int (nI k)), (4, .long (iterL (fun j d => d * 31 + (pN P (kd P q j)).toInt64) (dgf P q g) k)), (0, .ref q), (1, .long g), (3, .int (nI d))] [] := by
      refine loop_up ?_
      intro k ih hk
      refine g_iload hX dX1_digestOfFrames_10 0 rfl ?_
      refine g_aload_n hX dX1_digestOfFrames_12 2 rfl ?_
      refine g_getN (ci := 0) hX rfl fin_X0 (ov_pc (P := P) hq) 3 (by decide) fn_X1_133 rfl dX1_digestOfFrames_13 ?_
      refine g_icmp_ge hX 79 dX1_digestOfFrames_16 (by decide) (fun c16 => ?_) (fun c16 => ?_)
      · skip
        have hke : k = pS P q := by have h9 := (nI_leI (a := pS P q) (b := k) (by omega) (by omega)).mp c16; omega
        subst hke
        refine g_lload hX dX1_digestOfFrames_79 1 rfl ?_
        exact hF (some (.long (iterL (fun j d => d * 31 + (pN P (kd P q j)).toInt64) (dgf P q g) (pS P q)))) (ov (cxT X) N P) sz _ _ _ _ .lreturn (⟨rfl, rfl, rfl⟩) (by omega) (by omega) ret_l dX1_digestOfFrames_81
      · skip
        have hk2 : k < pS P q := by have h9 := mt (nI_leI (a := pS P q) (b := k) (by omega) (by omega)).mpr c16; omega
        refine g_aload_n hX dX1_digestOfFrames_19 2 rfl ?_
        refine g_iload hX dX1_digestOfFrames_20 0 rfl ?_
        refine g_callVN [] hX (ct_at hX.st sz hw (P := P) (q := q) (p := k) hq (by omega) (by omega) (by omega)) cw_X0_at cv_X0_at ln_X1_148 (ci := 0) rfl rfl (ov_pc (P := P) hq) ⟨by omega, by omega⟩ ⟨by omega, by omega⟩ (Nat.le_of_ble_eq_true rfl) rfl dX1_digestOfFrames_22 rfl (fun v22 M22 z22 hp22 hz22 hd22 => ?_)
        rw [if_pos hk2, (hkc k hk2).1] at hp22
        obtain ⟨rfl, rfl, rfl⟩ := hp22
        show G X _ (ov (cxT X) N P) sz (0 + 0) (0 + 0) 25 [(6, .int (nI k)), (4, .long (iterL (fun j d => d * 31 + (pN P (kd P q j)).toInt64) (dgf P q g) k)), (0, .ref q), (1, .long g), (3, .int (nI d))] [.ref (kd P q k)]
        refine g_astore (L' := [(7, .ref (kd P q k)), (6, .int (nI k)), (4, .long (iterL (fun j d => d * 31 + (pN P (kd P q j)).toInt64) (dgf P q g) k)), (0, .ref q), (1, .long g), (3, .int (nI d))]) hX dX1_digestOfFrames_25 (by decide) rfl ?_
        refine g_aload hX dX1_digestOfFrames_27 0 rfl ?_
        refine g_ifnonnullR hX 35 dX1_digestOfFrames_29 (by decide) ?_
        refine g_aload_n hX dX1_digestOfFrames_35 3 rfl ?_
        refine g_iload_n hX dX1_digestOfFrames_36 5 rfl ?_
        refine g_callS [] hX (ct_isBottom hX.st sz hw hq (by omega) (by omega)) cw_X1_isBottom stt_X1_isBottom lk_X1_210 ⟨by omega, by omega⟩ ⟨by omega, by omega⟩ (Nat.le_of_ble_eq_true rfl) rfl dX1_digestOfFrames_37 rfl (fun v37 M37 z37 hp37 hz37 hd37 => ?_)
        rw [decide_eq_true (Or.inl (by rw [hl1]; exact Nat.le_refl 1))] at hp37
        obtain ⟨rfl, rfl, rfl⟩ := hp37
        show G X _ (ov (cxT X) N P) sz ((0 + 0) + 0) ((0 + 0) + 0) 40 [(7, .ref (kd P q k)), (6, .int (nI k)), (4, .long (iterL (fun j d => d * 31 + (pN P (kd P q j)).toInt64) (dgf P q g) k)), (0, .ref q), (1, .long g), (3, .int (nI d))] [.int 1]
        refine g_if_eq hX 61 dX1_digestOfFrames_40 (by decide) (fun c40 => absurd c40 (by decide)) (fun _ => ?_)
        refine g_lload hX dX1_digestOfFrames_43 2 rfl ?_
        refine g_ldc2 hX kl_X1_138 dX1_digestOfFrames_45 ?_
        refine g_lmul hX dX1_digestOfFrames_48 ?_
        refine g_aload hX dX1_digestOfFrames_49 0 rfl ?_
        refine g_getN (ci := 0) hX rfl fin_X0 (ov_pc (P := P) ((hkc k hk2).2.1)) 0 (by decide) fn_X1_56 rfl dX1_digestOfFrames_51 ?_
        refine g_i2l hX dX1_digestOfFrames_54 ?_
        refine g_ladd hX dX1_digestOfFrames_55 ?_
        refine g_lstore (L' := [(4, .long (((iterL (fun j d => d * 31 + (pN P (kd P q j)).toInt64) (dgf P q g) k) * 31) + ((pN P (kd P q k)).toInt64))), (7, .ref (kd P q k)), (6, .int (nI k)), (0, .ref q), (1, .long g), (3, .int (nI d))]) hX dX1_digestOfFrames_56 (by decide) rfl ?_
        refine g_goto hX 73 dX1_digestOfFrames_58 (by decide) ?_
        refine g_iinc (v := nI (k + 1)) (L' := [(6, .int (nI (k + 1))), (4, .long (((iterL (fun j d => d * 31 + (pN P (kd P q j)).toInt64) (dgf P q g) k) * 31) + ((pN P (kd P q k)).toInt64))), (7, .ref (kd P q k)), (0, .ref q), (1, .long g), (3, .int (nI d))]) hX dX1_digestOfFrames_73 2 rfl (nI_1 _) (by decide) rfl ?_
        refine g_goto hX 10 dX1_digestOfFrames_76 (by decide) ?_
        refine g_sub [0, 1, 3, 4, 5] rfl ?_
        exact ih (k + 1) (by omega) (by omega)
    show G X 8 (ov (cxT X) N P) sz 0 0 0 [(0, .ref q), (1, .long g), (3, .int (nI d))] []
    refine g_aload_n hX dX1_digestOfFrames_0 0 rfl ?_
    refine g_lload_n hX dX1_digestOfFrames_1 1 rfl ?_
    refine g_callS [] hX (ct_digestOfFrame hX.st sz hw g hq (by omega)) cw_X1_digestOfFrame stt_X1_digestOfFrame lk_X1_218 ⟨by omega, by omega⟩ ⟨by omega, by omega⟩ (Nat.le_of_ble_eq_true rfl) rfl dX1_digestOfFrames_2 rfl (fun v2 M2 z2 hp2 hz2 hd2 => ?_)
    obtain ⟨rfl, rfl, rfl⟩ := hp2
    show G X _ (ov (cxT X) N P) sz (0 + 0) (0 + 0) 5 [(0, .ref q), (1, .long g), (3, .int (nI d))] [.long (dgf P q g)]
    refine g_lstore (L' := [(4, .long (dgf P q g)), (0, .ref q), (1, .long g), (3, .int (nI d))]) hX dX1_digestOfFrames_5 (by decide) rfl ?_
    refine g_iconst (v := 0) hX dX1_digestOfFrames_7 (by decide) ?_
    refine g_istore (L' := [(6, .int 0), (4, .long (dgf P q g)), (0, .ref q), (1, .long g), (3, .int (nI d))]) hX dX1_digestOfFrames_8 (by decide) rfl ?_
    refine g_sub [0, 1, 2, 3, 4] rfl ?_
    exact loop 0 (Nat.zero_le _)
  | succ n ihn =>
    intro q d g ht hdn
    have hq := ht.d
    have hl1 := ht.l
    have hw5 := ht.w
    have hs4 := ht.s
    have hkc := ht.k
    have hkt : Kids P (pA P q) (pS P q) (fun c => TrP P n c) := ht.2.2.2.2
    refine Ct.ofX hl (by decide) (Nat.le_of_ble_eq_true rfl) ?_
    intro X hl0 hT0 hD0 hlt hX hF
    subst hl0; subst hT0; subst hD0
    have loop : ∀ k, k ≤ (pS P q) → G X 8 (ov (cxT X) N P) sz 0 0 10 [(6, .int (nI k)), (4, .long (iterL (fun j d => dgP P n (kd P q j) d) (dgf P q g) k)), (0, .ref q), (1, .long g), (3, .int (nI d))] [] := by
      refine loop_up ?_
      intro k ih hk
      refine g_iload hX dX1_digestOfFrames_10 0 rfl ?_
      refine g_aload_n hX dX1_digestOfFrames_12 2 rfl ?_
      refine g_getN (ci := 0) hX rfl fin_X0 (ov_pc (P := P) hq) 3 (by decide) fn_X1_133 rfl dX1_digestOfFrames_13 ?_
      refine g_icmp_ge hX 79 dX1_digestOfFrames_16 (by decide) (fun c16 => ?_) (fun c16 => ?_)
      · skip
        have hke : k = pS P q := by have h9 := (nI_leI (a := pS P q) (b := k) (by omega) (by omega)).mp c16; omega
        subst hke
        refine g_lload hX dX1_digestOfFrames_79 1 rfl ?_
        exact hF (some (.long (iterL (fun j d => dgP P n (kd P q j) d) (dgf P q g) (pS P q)))) (ov (cxT X) N P) sz _ _ _ _ .lreturn (⟨rfl, rfl, rfl⟩) (by omega) (by omega) ret_l dX1_digestOfFrames_81
      · skip
        have hk2 : k < pS P q := by have h9 := mt (nI_leI (a := pS P q) (b := k) (by omega) (by omega)).mpr c16; omega
        refine g_aload_n hX dX1_digestOfFrames_19 2 rfl ?_
        refine g_iload hX dX1_digestOfFrames_20 0 rfl ?_
        refine g_callVN [] hX (ct_at hX.st sz hw (P := P) (q := q) (p := k) hq (by omega) (by omega) (by omega)) cw_X0_at cv_X0_at ln_X1_148 (ci := 0) rfl rfl (ov_pc (P := P) hq) ⟨by omega, by omega⟩ ⟨by omega, by omega⟩ (Nat.le_of_ble_eq_true rfl) rfl dX1_digestOfFrames_22 rfl (fun v22 M22 z22 hp22 hz22 hd22 => ?_)
        rw [if_pos hk2, (hkc k hk2).1] at hp22
        obtain ⟨rfl, rfl, rfl⟩ := hp22
        show G X _ (ov (cxT X) N P) sz (0 + 0) (0 + 0) 25 [(6, .int (nI k)), (4, .long (iterL (fun j d => dgP P n (kd P q j) d) (dgf P q g) k)), (0, .ref q), (1, .long g), (3, .int (nI d))] [.ref (kd P q k)]
        refine g_astore (L' := [(7, .ref (kd P q k)), (6, .int (nI k)), (4, .long (iterL (fun j d => dgP P n (kd P q j) d) (dgf P q g) k)), (0, .ref q), (1, .long g), (3, .int (nI d))]) hX dX1_digestOfFrames_25 (by decide) rfl ?_
        refine g_aload hX dX1_digestOfFrames_27 0 rfl ?_
        refine g_ifnonnullR hX 35 dX1_digestOfFrames_29 (by decide) ?_
        refine g_aload_n hX dX1_digestOfFrames_35 3 rfl ?_
        refine g_iload_n hX dX1_digestOfFrames_36 5 rfl ?_
        refine g_callS [] hX (ct_isBottom hX.st sz hw hq (by omega) (by omega)) cw_X1_isBottom stt_X1_isBottom lk_X1_210 ⟨by omega, by omega⟩ ⟨by omega, by omega⟩ (Nat.le_of_ble_eq_true rfl) rfl dX1_digestOfFrames_37 rfl (fun v37 M37 z37 hp37 hz37 hd37 => ?_)
        rw [decide_eq_false (by rw [hl1]; omega)] at hp37
        obtain ⟨rfl, rfl, rfl⟩ := hp37
        show G X _ (ov (cxT X) N P) sz ((0 + 0) + 0) ((0 + 0) + 0) 40 [(7, .ref (kd P q k)), (6, .int (nI k)), (4, .long (iterL (fun j d => dgP P n (kd P q j) d) (dgf P q g) k)), (0, .ref q), (1, .long g), (3, .int (nI d))] [.int 0]
        refine g_if_eq hX 61 dX1_digestOfFrames_40 (by decide) (fun _ => ?_) (fun c40 => absurd (by decide) c40)
        refine g_aload hX dX1_digestOfFrames_61 0 rfl ?_
        refine g_lload hX dX1_digestOfFrames_63 2 rfl ?_
        refine g_iload_n hX dX1_digestOfFrames_65 5 rfl ?_
        refine g_iconst (v := 1) hX dX1_digestOfFrames_66 (by decide) ?_
        refine g_iadd hX dX1_digestOfFrames_67 ?_
        rw [nI_1]
        refine g_callS [] hX (ihn (kd P q k) (d + 1) (iterL (fun j d => dgP P n (kd P q j) d) (dgf P q g) k) (hkt k hk2).2.2 (by omega)) cw_X1_digestOfFrames stt_X1_digestOfFrames lk_X1_140 ⟨by omega, by omega⟩ ⟨by omega, by omega⟩ (Nat.le_of_ble_eq_true rfl) rfl dX1_digestOfFrames_68 rfl (fun v68 M68 z68 hp68 hz68 hd68 => ?_)
        obtain ⟨rfl, rfl, rfl⟩ := hp68
        show G X _ (ov (cxT X) N P) sz (((0 + 0) + 0) + 0) (((0 + 0) + 0) + 0) 71 [(7, .ref (kd P q k)), (6, .int (nI k)), (4, .long (iterL (fun j d => dgP P n (kd P q j) d) (dgf P q g) k)), (0, .ref q), (1, .long g), (3, .int (nI d))] [.long (dgP P n (kd P q k) (iterL (fun j d => dgP P n (kd P q j) d) (dgf P q g) k))]
        refine g_lstore (L' := [(4, .long (dgP P n (kd P q k) (iterL (fun j d => dgP P n (kd P q j) d) (dgf P q g) k))), (7, .ref (kd P q k)), (6, .int (nI k)), (0, .ref q), (1, .long g), (3, .int (nI d))]) hX dX1_digestOfFrames_71 (by decide) rfl ?_
        refine g_iinc (v := nI (k + 1)) (L' := [(6, .int (nI (k + 1))), (4, .long (dgP P n (kd P q k) (iterL (fun j d => dgP P n (kd P q j) d) (dgf P q g) k))), (7, .ref (kd P q k)), (0, .ref q), (1, .long g), (3, .int (nI d))]) hX dX1_digestOfFrames_73 2 rfl (nI_1 _) (by decide) rfl ?_
        refine g_goto hX 10 dX1_digestOfFrames_76 (by decide) ?_
        refine g_sub [0, 1, 3, 4, 5] rfl ?_
        exact ih (k + 1) (by omega) (by omega)
    show G X 8 (ov (cxT X) N P) sz 0 0 0 [(0, .ref q), (1, .long g), (3, .int (nI d))] []
    refine g_aload_n hX dX1_digestOfFrames_0 0 rfl ?_
    refine g_lload_n hX dX1_digestOfFrames_1 1 rfl ?_
    refine g_callS [] hX (ct_digestOfFrame hX.st sz hw g hq (by omega)) cw_X1_digestOfFrame stt_X1_digestOfFrame lk_X1_218 ⟨by omega, by omega⟩ ⟨by omega, by omega⟩ (Nat.le_of_ble_eq_true rfl) rfl dX1_digestOfFrames_2 rfl (fun v2 M2 z2 hp2 hz2 hd2 => ?_)
    obtain ⟨rfl, rfl, rfl⟩ := hp2
    show G X _ (ov (cxT X) N P) sz (0 + 0) (0 + 0) 5 [(0, .ref q), (1, .long g), (3, .int (nI d))] [.long (dgf P q g)]
    refine g_lstore (L' := [(4, .long (dgf P q g)), (0, .ref q), (1, .long g), (3, .int (nI d))]) hX dX1_digestOfFrames_5 (by decide) rfl ?_
    refine g_iconst (v := 0) hX dX1_digestOfFrames_7 (by decide) ?_
    refine g_istore (L' := [(6, .int 0), (4, .long (dgf P q g)), (0, .ref q), (1, .long g), (3, .int (nI d))]) hX dX1_digestOfFrames_8 (by decide) rfl ?_
    refine g_sub [0, 1, 2, 3, 4] rfl ?_
    exact loop 0 (Nat.zero_le _)

set_option maxHeartbeats 4000000 in
set_option maxRecDepth 100000 in
theorem ct_pbo {l : Launch} (hl : l.stackTraces = false) {T : CT3} {D : va_G} {N : AH} {P : PS} (sz : Nat) (hw : Wf P) {q : Nat} (pl : Nat → Nat) (hq : pD P q = true) (hpl : Plc P pl q) : Ct l T D yX1_placeBesideOthers cX1_placeBesideOthers 1 (some .int) 2 43 0 0 [.ref q] (ov T N P) sz (fun v M' z' => v = some (.int (plI P pl q)) ∧ M' = ov T N P ∧ sz = z') := by
  refine Ct.ofX hl (by decide) (Nat.le_of_ble_eq_true rfl) ?_
  intro X hl0 hT0 hD0 hlt hX hF
  subst hl0; subst hT0; subst hD0
  show G X 1 (ov (cxT X) N P) sz 0 0 0 [(0, .ref q)] []
  refine g_aload_n hX dX1_placeBesideOthers_0 0 rfl ?_
  refine g_ifnullR hX dX1_placeBesideOthers_1 ?_
  refine g_aload_n hX dX1_placeBesideOthers_4 0 rfl ?_
  refine g_getN (ci := 0) hX rfl fin_X0 (ov_pc (P := P) hq) 4 (by decide) fn_X1_68 rfl dX1_placeBesideOthers_5 ?_
  refine g_ifnonnull hX 13 dX1_placeBesideOthers_8 (by decide) (fun x8 c8 => ?_) (fun c8 => ?_)
  · skip
    obtain ⟨hdh, h1, h2, h3, h4, h5⟩ := hpl _ c8
    refine g_aload_n hX dX1_placeBesideOthers_13 0 rfl ?_
    refine g_getN (ci := 0) hX rfl fin_X0 (ov_pc (P := P) hq) 4 (by decide) fn_X1_68 rfl dX1_placeBesideOthers_14 ?_
    rw [c8]
    show G X _ (ov (cxT X) N P) sz 0 0 17 [(0, .ref q)] [.ref x8]
    refine g_aload_n hX dX1_placeBesideOthers_17 0 rfl ?_
    refine g_callVN [] hX (ct_placeOf hX.st sz hw hdh h1 h2 h3 h4 h5) cw_X0_placeOf cv_X0_placeOf ln_X1_73 (ci := 0) rfl rfl (ov_pc (P := P) hdh) ⟨by omega, by omega⟩ ⟨by omega, by omega⟩ (Nat.le_of_ble_eq_true rfl) rfl dX1_placeBesideOthers_18 rfl (fun v18 M18 z18 hp18 hz18 hd18 => ?_)
    obtain ⟨rfl, rfl, rfl⟩ := hp18
    show G X _ (ov (cxT X) N P) sz (0 + 0) (0 + 0) 21 [(0, .ref q)] [.int (nI (pl q))]
    exact hF (some (.int (nI (pl q)))) (ov (cxT X) N P) sz _ _ _ _ .ireturn (⟨by unfold plI; rw [c8], rfl, rfl⟩) (by omega) (by omega) ret_i dX1_placeBesideOthers_21
  · skip
    refine g_iconst (v := (-1)) hX dX1_placeBesideOthers_11 (by decide) ?_
    exact hF (some (.int (-1))) (ov (cxT X) N P) sz _ _ _ _ .ireturn (⟨by unfold plI; rw [c8], rfl, rfl⟩) (by omega) (by omega) ret_i dX1_placeBesideOthers_12

set_option maxHeartbeats 4000000 in
set_option maxRecDepth 100000 in
theorem ct_pbo0 {l : Launch} (hl : l.stackTraces = false) {T : CT3} {D : va_G} {M : AH} (sz : Nat) : Ct l T D yX1_placeBesideOthers cX1_placeBesideOthers 1 (some .int) 2 43 0 0 [.null] M sz (fun v M' z' => v = some (.int (-1)) ∧ M' = M ∧ sz = z') := by
  refine Ct.ofX hl (by decide) (Nat.le_of_ble_eq_true rfl) ?_
  intro X hl0 hT0 hD0 hlt hX hF
  subst hl0; subst hT0; subst hD0
  show G X 1 M sz 0 0 0 [(0, .null)] []
  refine g_aload_nN hX dX1_placeBesideOthers_0 0 rfl ?_
  refine g_ifnullN hX 11 dX1_placeBesideOthers_1 (by decide) ?_
  refine g_iconst (v := (-1)) hX dX1_placeBesideOthers_11 (by decide) ?_
  exact hF (some (.int (-1))) M sz _ _ _ _ .ireturn (⟨rfl, rfl, rfl⟩) (by omega) (by omega) ret_i dX1_placeBesideOthers_12

set_option maxHeartbeats 4000000 in
set_option maxRecDepth 100000 in
theorem ct_ans0 {l : Launch} (hl : l.stackTraces = false) {T : CT3} {D : va_G} {N : AH} {P : PS} {F : FS} (sz : Nat) (hwF : WfF P F) (hal : Alok P F) {q : Nat} (pl : Nat → Nat) (hq : pD P q = true) (hpl : Plc P pl q) : Ct l T D yX1_answerOf cX1_answerOf 4 (some .int) 4 89 0 0 [.ref (fO F), .ref q, .int 0] (ov T (ovF T N F) P) sz (fun v M' z' => v = some (.int (ansP P F pl q 0)) ∧ M' = ov T (ovF T N F) P ∧ sz = z') := by
  refine Ct.ofX hl (by decide) (Nat.le_of_ble_eq_true rfl) ?_
  intro X hl0 hT0 hD0 hlt hX hF
  subst hl0; subst hT0; subst hD0
  show G X 4 (ov (cxT X) (ovF (cxT X) N F) P) sz 0 0 0 [(0, .ref (fO F)), (1, .ref q), (2, .int 0)] []
  refine g_aload_n hX dX1_answerOf_0 1 rfl ?_
  refine g_getN (ci := 0) hX rfl fin_X0 (ov_pc (P := P) hq) 4 (by decide) fn_X1_68 rfl dX1_answerOf_1 ?_
  refine g_astore_nQ (L' := [(3, va_rf (pH P q)), (0, .ref (fO F)), (1, .ref q), (2, .int 0)]) hX dX1_answerOf_4 (by decide) rfl ?_
  refine g_iload_n hX dX1_answerOf_5 3 rfl ?_
  refine g_tableIn (off := 46) hX 52 dX1_answerOf_6 (by decide) (by decide) (by decide) (by decide) ?_
  refine g_aload_n hX dX1_answerOf_52 2 rfl ?_
  refine g_getN (ci := 0) hX rfl fin_X0 (ov_pc (P := P) hq) 5 (by decide) fn_X1_179 rfl dX1_answerOf_53 ?_
  exact hF (some (.int (pB P q 0))) (ov (cxT X) (ovF (cxT X) N F) P) sz _ _ _ _ .ireturn (⟨rfl, rfl, rfl⟩) (by omega) (by omega) ret_i dX1_answerOf_56

set_option maxHeartbeats 4000000 in
set_option maxRecDepth 100000 in
theorem ct_ans1 {l : Launch} (hl : l.stackTraces = false) {T : CT3} {D : va_G} {N : AH} {P : PS} {F : FS} (sz : Nat) (hwF : WfF P F) (hal : Alok P F) {q : Nat} (pl : Nat → Nat) (hq : pD P q = true) (hpl : Plc P pl q) : Ct l T D yX1_answerOf cX1_answerOf 4 (some .int) 4 89 0 0 [.ref (fO F), .ref q, .int 1] (ov T (ovF T N F) P) sz (fun v M' z' => v = some (.int (ansP P F pl q 1)) ∧ M' = ov T (ovF T N F) P ∧ sz = z') := by
  refine Ct.ofX hl (by decide) (Nat.le_of_ble_eq_true rfl) ?_
  intro X hl0 hT0 hD0 hlt hX hF
  subst hl0; subst hT0; subst hD0
  show G X 4 (ov (cxT X) (ovF (cxT X) N F) P) sz 0 0 0 [(0, .ref (fO F)), (1, .ref q), (2, .int 1)] []
  refine g_aload_n hX dX1_answerOf_0 1 rfl ?_
  refine g_getN (ci := 0) hX rfl fin_X0 (ov_pc (P := P) hq) 4 (by decide) fn_X1_68 rfl dX1_answerOf_1 ?_
  refine g_astore_nQ (L' := [(3, va_rf (pH P q)), (0, .ref (fO F)), (1, .ref q), (2, .int 1)]) hX dX1_answerOf_4 (by decide) rfl ?_
  refine g_iload_n hX dX1_answerOf_5 3 rfl ?_
  refine g_tableIn (off := 51) hX 57 dX1_answerOf_6 (by decide) (by decide) (by decide) (by decide) ?_
  refine g_aload_n hX dX1_answerOf_57 2 rfl ?_
  refine g_getN (ci := 0) hX rfl fin_X0 (ov_pc (P := P) hq) 6 (by decide) fn_X1_182 rfl dX1_answerOf_58 ?_
  exact hF (some (.int (pB P q 1))) (ov (cxT X) (ovF (cxT X) N F) P) sz _ _ _ _ .ireturn (⟨rfl, rfl, rfl⟩) (by omega) (by omega) ret_i dX1_answerOf_61

set_option maxHeartbeats 4000000 in
set_option maxRecDepth 100000 in
theorem ct_ans2 {l : Launch} (hl : l.stackTraces = false) {T : CT3} {D : va_G} {N : AH} {P : PS} {F : FS} (sz : Nat) (hwF : WfF P F) (hal : Alok P F) {q : Nat} (pl : Nat → Nat) (hq : pD P q = true) (hpl : Plc P pl q) : Ct l T D yX1_answerOf cX1_answerOf 4 (some .int) 4 89 0 0 [.ref (fO F), .ref q, .int 2] (ov T (ovF T N F) P) sz (fun v M' z' => v = some (.int (ansP P F pl q 2)) ∧ M' = ov T (ovF T N F) P ∧ sz = z') := by
  refine Ct.ofX hl (by decide) (Nat.le_of_ble_eq_true rfl) ?_
  intro X hl0 hT0 hD0 hlt hX hF
  subst hl0; subst hT0; subst hD0
  show G X 4 (ov (cxT X) (ovF (cxT X) N F) P) sz 0 0 0 [(0, .ref (fO F)), (1, .ref q), (2, .int 2)] []
  refine g_aload_n hX dX1_answerOf_0 1 rfl ?_
  refine g_getN (ci := 0) hX rfl fin_X0 (ov_pc (P := P) hq) 4 (by decide) fn_X1_68 rfl dX1_answerOf_1 ?_
  refine g_astore_nQ (L' := [(3, va_rf (pH P q)), (0, .ref (fO F)), (1, .ref q), (2, .int 2)]) hX dX1_answerOf_4 (by decide) rfl ?_
  refine g_iload_n hX dX1_answerOf_5 3 rfl ?_
  refine g_tableIn (off := 56) hX 62 dX1_answerOf_6 (by decide) (by decide) (by decide) (by decide) ?_
  refine g_aload_n hX dX1_answerOf_62 2 rfl ?_
  refine g_getN (ci := 0) hX rfl fin_X0 (ov_pc (P := P) hq) 7 (by decide) fn_X1_185 rfl dX1_answerOf_63 ?_
  exact hF (some (.int (pB P q 2))) (ov (cxT X) (ovF (cxT X) N F) P) sz _ _ _ _ .ireturn (⟨rfl, rfl, rfl⟩) (by omega) (by omega) ret_i dX1_answerOf_66

set_option maxHeartbeats 4000000 in
set_option maxRecDepth 100000 in
theorem ct_ans3 {l : Launch} (hl : l.stackTraces = false) {T : CT3} {D : va_G} {N : AH} {P : PS} {F : FS} (sz : Nat) (hwF : WfF P F) (hal : Alok P F) {q : Nat} (pl : Nat → Nat) (hq : pD P q = true) (hpl : Plc P pl q) : Ct l T D yX1_answerOf cX1_answerOf 4 (some .int) 4 89 0 0 [.ref (fO F), .ref q, .int 3] (ov T (ovF T N F) P) sz (fun v M' z' => v = some (.int (ansP P F pl q 3)) ∧ M' = ov T (ovF T N F) P ∧ sz = z') := by
  refine Ct.ofX hl (by decide) (Nat.le_of_ble_eq_true rfl) ?_
  intro X hl0 hT0 hD0 hlt hX hF
  subst hl0; subst hT0; subst hD0
  show G X 4 (ov (cxT X) (ovF (cxT X) N F) P) sz 0 0 0 [(0, .ref (fO F)), (1, .ref q), (2, .int 3)] []
  refine g_aload_n hX dX1_answerOf_0 1 rfl ?_
  refine g_getN (ci := 0) hX rfl fin_X0 (ov_pc (P := P) hq) 4 (by decide) fn_X1_68 rfl dX1_answerOf_1 ?_
  refine g_astore_nQ (L' := [(3, va_rf (pH P q)), (0, .ref (fO F)), (1, .ref q), (2, .int 3)]) hX dX1_answerOf_4 (by decide) rfl ?_
  refine g_iload_n hX dX1_answerOf_5 3 rfl ?_
  refine g_tableIn (off := 61) hX 67 dX1_answerOf_6 (by decide) (by decide) (by decide) (by decide) ?_
  refine g_aload_n hX dX1_answerOf_67 2 rfl ?_
  refine g_getN (ci := 0) hX rfl fin_X0 (ov_pc (P := P) hq) 8 (by decide) fn_X1_188 rfl dX1_answerOf_68 ?_
  exact hF (some (.int (pB P q 3))) (ov (cxT X) (ovF (cxT X) N F) P) sz _ _ _ _ .ireturn (⟨rfl, rfl, rfl⟩) (by omega) (by omega) ret_i dX1_answerOf_71

set_option maxHeartbeats 4000000 in
set_option maxRecDepth 100000 in
theorem ct_ans4 {l : Launch} (hl : l.stackTraces = false) {T : CT3} {D : va_G} {N : AH} {P : PS} {F : FS} (sz : Nat) (hwF : WfF P F) (hal : Alok P F) {q : Nat} (pl : Nat → Nat) (hq : pD P q = true) (hpl : Plc P pl q) : Ct l T D yX1_answerOf cX1_answerOf 4 (some .int) 4 89 0 0 [.ref (fO F), .ref q, .int 4] (ov T (ovF T N F) P) sz (fun v M' z' => v = some (.int (ansP P F pl q 4)) ∧ M' = ov T (ovF T N F) P ∧ sz = z') := by
  refine Ct.ofX hl (by decide) (Nat.le_of_ble_eq_true rfl) ?_
  intro X hl0 hT0 hD0 hlt hX hF
  subst hl0; subst hT0; subst hD0
  show G X 4 (ov (cxT X) (ovF (cxT X) N F) P) sz 0 0 0 [(0, .ref (fO F)), (1, .ref q), (2, .int 4)] []
  refine g_aload_n hX dX1_answerOf_0 1 rfl ?_
  refine g_getN (ci := 0) hX rfl fin_X0 (ov_pc (P := P) hq) 4 (by decide) fn_X1_68 rfl dX1_answerOf_1 ?_
  refine g_astore_nQ (L' := [(3, va_rf (pH P q)), (0, .ref (fO F)), (1, .ref q), (2, .int 4)]) hX dX1_answerOf_4 (by decide) rfl ?_
  refine g_iload_n hX dX1_answerOf_5 3 rfl ?_
  refine g_tableIn (off := 66) hX 72 dX1_answerOf_6 (by decide) (by decide) (by decide) (by decide) ?_
  refine g_aload_n hX dX1_answerOf_72 2 rfl ?_
  refine g_callVN [] hX (ct_area hX.st sz hwF.1 hq) cw_X0_area cv_X0_area ln_X1_86 (ci := 0) rfl rfl (ov_pc (P := P) hq) ⟨by omega, by omega⟩ ⟨by omega, by omega⟩ (Nat.le_of_ble_eq_true rfl) rfl dX1_answerOf_73 rfl (fun v73 M73 z73 hp73 hz73 hd73 => ?_)
  obtain ⟨rfl, rfl, rfl⟩ := hp73
  show G X _ (ov (cxT X) (ovF (cxT X) N F) P) sz (0 + 0) (0 + 0) 76 [(3, va_rf (pH P q)), (0, .ref (fO F)), (1, .ref q), (2, .int 4)] [.int (arB P q)]
  exact hF (some (.int (arB P q))) (ov (cxT X) (ovF (cxT X) N F) P) sz _ _ _ _ .ireturn (⟨rfl, rfl, rfl⟩) (by omega) (by omega) ret_i dX1_answerOf_76

set_option maxHeartbeats 4000000 in
set_option maxRecDepth 100000 in
theorem ct_ans5 {l : Launch} (hl : l.stackTraces = false) {T : CT3} {D : va_G} {N : AH} {P : PS} {F : FS} (sz : Nat) (hwF : WfF P F) (hal : Alok P F) {q : Nat} (pl : Nat → Nat) (hq : pD P q = true) (hpl : Plc P pl q) : Ct l T D yX1_answerOf cX1_answerOf 4 (some .int) 4 89 0 0 [.ref (fO F), .ref q, .int 5] (ov T (ovF T N F) P) sz (fun v M' z' => v = some (.int (ansP P F pl q 5)) ∧ M' = ov T (ovF T N F) P ∧ sz = z') := by
  refine Ct.ofX hl (by decide) (Nat.le_of_ble_eq_true rfl) ?_
  intro X hl0 hT0 hD0 hlt hX hF
  subst hl0; subst hT0; subst hD0
  show G X 4 (ov (cxT X) (ovF (cxT X) N F) P) sz 0 0 0 [(0, .ref (fO F)), (1, .ref q), (2, .int 5)] []
  refine g_aload_n hX dX1_answerOf_0 1 rfl ?_
  refine g_getN (ci := 0) hX rfl fin_X0 (ov_pc (P := P) hq) 4 (by decide) fn_X1_68 rfl dX1_answerOf_1 ?_
  refine g_astore_nQ (L' := [(3, va_rf (pH P q)), (0, .ref (fO F)), (1, .ref q), (2, .int 5)]) hX dX1_answerOf_4 (by decide) rfl ?_
  refine g_iload_n hX dX1_answerOf_5 3 rfl ?_
  refine g_tableIn (off := 71) hX 77 dX1_answerOf_6 (by decide) (by decide) (by decide) (by decide) ?_
  refine g_aload_n hX dX1_answerOf_77 2 rfl ?_
  refine g_callS [] hX (ct_pbo hX.st sz hwF.1 pl hq hpl) cw_X1_placeBesideOthers stt_X1_placeBesideOthers lk_X1_105 ⟨by omega, by omega⟩ ⟨by omega, by omega⟩ (Nat.le_of_ble_eq_true rfl) rfl dX1_answerOf_78 rfl (fun v78 M78 z78 hp78 hz78 hd78 => ?_)
  obtain ⟨rfl, rfl, rfl⟩ := hp78
  show G X _ (ov (cxT X) (ovF (cxT X) N F) P) sz (0 + 0) (0 + 0) 81 [(3, va_rf (pH P q)), (0, .ref (fO F)), (1, .ref q), (2, .int 5)] [.int (plI P pl q)]
  exact hF (some (.int (plI P pl q))) (ov (cxT X) (ovF (cxT X) N F) P) sz _ _ _ _ .ireturn (⟨rfl, rfl, rfl⟩) (by omega) (by omega) ret_i dX1_answerOf_81

set_option maxHeartbeats 4000000 in
set_option maxRecDepth 100000 in
theorem ct_ans6 {l : Launch} (hl : l.stackTraces = false) {T : CT3} {D : va_G} {N : AH} {P : PS} {F : FS} (sz : Nat) (hwF : WfF P F) (hal : Alok P F) {q : Nat} (pl : Nat → Nat) (hq : pD P q = true) (hpl : Plc P pl q) : Ct l T D yX1_answerOf cX1_answerOf 4 (some .int) 4 89 0 0 [.ref (fO F), .ref q, .int 6] (ov T (ovF T N F) P) sz (fun v M' z' => v = some (.int (ansP P F pl q 6)) ∧ M' = ov T (ovF T N F) P ∧ sz = z') := by
  refine Ct.ofX hl (by decide) (Nat.le_of_ble_eq_true rfl) ?_
  intro X hl0 hT0 hD0 hlt hX hF
  subst hl0; subst hT0; subst hD0
  show G X 4 (ov (cxT X) (ovF (cxT X) N F) P) sz 0 0 0 [(0, .ref (fO F)), (1, .ref q), (2, .int 6)] []
  refine g_aload_n hX dX1_answerOf_0 1 rfl ?_
  refine g_getN (ci := 0) hX rfl fin_X0 (ov_pc (P := P) hq) 4 (by decide) fn_X1_68 rfl dX1_answerOf_1 ?_
  refine g_astore_nQ (L' := [(3, va_rf (pH P q)), (0, .ref (fO F)), (1, .ref q), (2, .int 6)]) hX dX1_answerOf_4 (by decide) rfl ?_
  refine g_iload_n hX dX1_answerOf_5 3 rfl ?_
  refine g_tableIn (off := 76) hX 82 dX1_answerOf_6 (by decide) (by decide) (by decide) (by decide) ?_
  refine g_aload_nQ hX dX1_answerOf_82 0 rfl ?_
  refine g_ifnonnull hX 90 dX1_answerOf_83 (by decide) (fun x83 c83 => ?_) (fun c83 => ?_)
  · skip
    obtain ⟨hdh, h1, h2, h3, h4, h5⟩ := hpl _ c83
    rw [c83]
    show G X _ (ov (cxT X) (ovF (cxT X) N F) P) sz 0 0 90 [(3, .ref x83), (0, .ref (fO F)), (1, .ref q), (2, .int 6)] []
    refine g_aload_n hX dX1_answerOf_90 0 rfl ?_
    refine g_getN (ci := 0) hX rfl fin_X0 (ov_pc (P := P) hdh) 3 (by decide) fn_X1_133 rfl dX1_answerOf_91 ?_
    exact hF (some (.int (nI (pS P x83)))) (ov (cxT X) (ovF (cxT X) N F) P) sz _ _ _ _ .ireturn (⟨by unfold ansP; simp only [c83], rfl, rfl⟩) (by omega) (by omega) ret_i dX1_answerOf_94
  · skip
    refine g_iconst (v := (-1)) hX dX1_answerOf_86 (by decide) ?_
    refine g_goto hX 94 dX1_answerOf_87 (by decide) ?_
    exact hF (some (.int (-1))) (ov (cxT X) (ovF (cxT X) N F) P) sz _ _ _ _ .ireturn (⟨by unfold ansP; simp only [c83], rfl, rfl⟩) (by omega) (by omega) ret_i dX1_answerOf_94

set_option maxHeartbeats 4000000 in
set_option maxRecDepth 100000 in
theorem ct_ans7 {l : Launch} (hl : l.stackTraces = false) {T : CT3} {D : va_G} {N : AH} {P : PS} {F : FS} (sz : Nat) (hwF : WfF P F) (hal : Alok P F) {q : Nat} (pl : Nat → Nat) (hq : pD P q = true) (hpl : Plc P pl q) : Ct l T D yX1_answerOf cX1_answerOf 4 (some .int) 4 89 0 0 [.ref (fO F), .ref q, .int 7] (ov T (ovF T N F) P) sz (fun v M' z' => v = some (.int (ansP P F pl q 7)) ∧ M' = ov T (ovF T N F) P ∧ sz = z') := by
  refine Ct.ofX hl (by decide) (Nat.le_of_ble_eq_true rfl) ?_
  intro X hl0 hT0 hD0 hlt hX hF
  subst hl0; subst hT0; subst hD0
  show G X 4 (ov (cxT X) (ovF (cxT X) N F) P) sz 0 0 0 [(0, .ref (fO F)), (1, .ref q), (2, .int 7)] []
  refine g_aload_n hX dX1_answerOf_0 1 rfl ?_
  refine g_getN (ci := 0) hX rfl fin_X0 (ov_pc (P := P) hq) 4 (by decide) fn_X1_68 rfl dX1_answerOf_1 ?_
  refine g_astore_nQ (L' := [(3, va_rf (pH P q)), (0, .ref (fO F)), (1, .ref q), (2, .int 7)]) hX dX1_answerOf_4 (by decide) rfl ?_
  refine g_iload_n hX dX1_answerOf_5 3 rfl ?_
  refine g_tableIn (off := 89) hX 95 dX1_answerOf_6 (by decide) (by decide) (by decide) (by decide) ?_
  refine g_aload_nQ hX dX1_answerOf_95 0 rfl ?_
  refine g_ifnonnull hX 103 dX1_answerOf_96 (by decide) (fun x96 c96 => ?_) (fun c96 => ?_)
  · skip
    obtain ⟨hdh, h1, h2, h3, h4, h5⟩ := hpl _ c96
    rw [c96]
    show G X _ (ov (cxT X) (ovF (cxT X) N F) P) sz 0 0 103 [(3, .ref x96), (0, .ref (fO F)), (1, .ref q), (2, .int 7)] []
    refine g_aload_n hX dX1_answerOf_103 0 rfl ?_
    refine g_callVN [] hX (ct_area hX.st sz hwF.1 hdh) cw_X0_area cv_X0_area ln_X1_86 (ci := 0) rfl rfl (ov_pc (P := P) hdh) ⟨by omega, by omega⟩ ⟨by omega, by omega⟩ (Nat.le_of_ble_eq_true rfl) rfl dX1_answerOf_104 rfl (fun v104 M104 z104 hp104 hz104 hd104 => ?_)
    obtain ⟨rfl, rfl, rfl⟩ := hp104
    show G X _ (ov (cxT X) (ovF (cxT X) N F) P) sz (0 + 0) (0 + 0) 107 [(3, .ref x96), (0, .ref (fO F)), (1, .ref q), (2, .int 7)] [.int (arB P x96)]
    exact hF (some (.int (arB P x96))) (ov (cxT X) (ovF (cxT X) N F) P) sz _ _ _ _ .ireturn (⟨by unfold ansP; simp only [c96], rfl, rfl⟩) (by omega) (by omega) ret_i dX1_answerOf_107
  · skip
    refine g_iconst (v := (-1)) hX dX1_answerOf_99 (by decide) ?_
    refine g_goto hX 107 dX1_answerOf_100 (by decide) ?_
    exact hF (some (.int (-1))) (ov (cxT X) (ovF (cxT X) N F) P) sz _ _ _ _ .ireturn (⟨by unfold ansP; simp only [c96], rfl, rfl⟩) (by omega) (by omega) ret_i dX1_answerOf_107

set_option maxHeartbeats 4000000 in
set_option maxRecDepth 100000 in
theorem ct_ans8 {l : Launch} (hl : l.stackTraces = false) {T : CT3} {D : va_G} {N : AH} {P : PS} {F : FS} (sz : Nat) (hwF : WfF P F) (hal : Alok P F) {q : Nat} (pl : Nat → Nat) (hq : pD P q = true) (hpl : Plc P pl q) : Ct l T D yX1_answerOf cX1_answerOf 4 (some .int) 4 89 0 0 [.ref (fO F), .ref q, .int 8] (ov T (ovF T N F) P) sz (fun v M' z' => v = some (.int (ansP P F pl q 8)) ∧ M' = ov T (ovF T N F) P ∧ sz = z') := by
  refine Ct.ofX hl (by decide) (Nat.le_of_ble_eq_true rfl) ?_
  intro X hl0 hT0 hD0 hlt hX hF
  subst hl0; subst hT0; subst hD0
  show G X 4 (ov (cxT X) (ovF (cxT X) N F) P) sz 0 0 0 [(0, .ref (fO F)), (1, .ref q), (2, .int 8)] []
  refine g_aload_n hX dX1_answerOf_0 1 rfl ?_
  refine g_getN (ci := 0) hX rfl fin_X0 (ov_pc (P := P) hq) 4 (by decide) fn_X1_68 rfl dX1_answerOf_1 ?_
  refine g_astore_nQ (L' := [(3, va_rf (pH P q)), (0, .ref (fO F)), (1, .ref q), (2, .int 8)]) hX dX1_answerOf_4 (by decide) rfl ?_
  refine g_iload_n hX dX1_answerOf_5 3 rfl ?_
  refine g_tableOut hX 108 dX1_answerOf_6 (by decide) (by decide) ?_
  refine g_aload_n hX dX1_answerOf_108 1 rfl ?_
  refine g_aload_n hX dX1_answerOf_109 2 rfl ?_
  refine g_callV [] hX (ct_othersThatMeet hX.st sz hwF hal pl hq) cw_X1_othersThatMeet cv_X1_othersThatMeet lk_X1_191 (ci := 1) rfl rfl (ovF_o hwF) ⟨by omega, by omega⟩ ⟨by omega, by omega⟩ (Nat.le_of_ble_eq_true rfl) rfl dX1_answerOf_110 rfl (fun v110 M110 z110 hp110 hz110 hd110 => ?_)
  obtain ⟨rfl, rfl, rfl⟩ := hp110
  show G X _ (ov (cxT X) (ovF (cxT X) N F) P) sz (0 + 0) (0 + 0) 113 [(3, va_rf (pH P q)), (0, .ref (fO F)), (1, .ref q), (2, .int 8)] [.int (ansP P F pl q 8)]
  exact hF (some (.int (ansP P F pl q 8))) (ov (cxT X) (ovF (cxT X) N F) P) sz _ _ _ _ .ireturn (⟨rfl, rfl, rfl⟩) (by omega) (by omega) ret_i dX1_answerOf_113

theorem ct_answerOf {l : Launch} (hl : l.stackTraces = false) {T : CT3} {D : va_G} {N : AH} {P : PS} {F : FS} (sz : Nat) (hwF : WfF P F) (hal : Alok P F) {q : Nat} (pl : Nat → Nat) (hq : pD P q = true) (hpl : Plc P pl q) (w : Nat) (hwh : w ≤ 8) : Ct l T D yX1_answerOf cX1_answerOf 4 (some .int) 4 89 0 0 [.ref (fO F), .ref q, .int (nI w)] (ov T (ovF T N F) P) sz (fun v M' z' => v = some (.int (ansP P F pl q w)) ∧ M' = ov T (ovF T N F) P ∧ sz = z') := by
  rcases (show w = 0 ∨ w = 1 ∨ w = 2 ∨ w = 3 ∨ w = 4 ∨ w = 5 ∨ w = 6 ∨ w = 7 ∨ w = 8 by omega) with rfl | rfl | rfl | rfl | rfl | rfl | rfl | rfl | rfl
  · exact ct_ans0 hl sz hwF hal pl hq hpl
  · exact ct_ans1 hl sz hwF hal pl hq hpl
  · exact ct_ans2 hl sz hwF hal pl hq hpl
  · exact ct_ans3 hl sz hwF hal pl hq hpl
  · exact ct_ans4 hl sz hwF hal pl hq hpl
  · exact ct_ans5 hl sz hwF hal pl hq hpl
  · exact ct_ans6 hl sz hwF hal pl hq hpl
  · exact ct_ans7 hl sz hwF hal pl hq hpl
  · exact ct_ans8 hl sz hwF hal pl hq hpl

set_option maxHeartbeats 4000000 in
set_option maxRecDepth 100000 in
theorem ct_cnt0 {l : Launch} (hl : l.stackTraces = false) {T : CT3} {D : va_G} {N : AH} {P : PS} {F : FS} (sz : Nat) (hwF : WfF P F) {n : Nat} (hal : Alok P F) (ht : TrP P n (fT F)) (hn : n < 40) : Ct l T D yX1_counted cX1_counted 2 (some .int) (n + 5) (110 + 60 * n) 0 0 [.ref (fO F), .int 0] (ov T (ovF T N F) P) sz (fun v M' z' => v = some (.int (cntP P F n 0)) ∧ M' = ov T (ovF T N F) P ∧ sz = z') := by
  refine Ct.ofX hl (by decide) (Nat.le_of_ble_eq_true rfl) ?_
  intro X hl0 hT0 hD0 hlt hX hF
  subst hl0; subst hT0; subst hD0
  show G X 2 (ov (cxT X) (ovF (cxT X) N F) P) sz 0 0 0 [(0, .ref (fO F)), (1, .int 0)] []
  refine g_iload_n hX dX1_counted_0 1 rfl ?_
  refine g_tableIn (off := 47) hX 48 dX1_counted_1 (by decide) (by decide) (by decide) (by decide) ?_
  refine g_aload_n hX dX1_counted_48 0 rfl ?_
  refine g_callV [] hX (ct_heldInAll hX.st sz hwF hal) cw_X1_heldInAll cv_X1_heldInAll lk_X1_198 (ci := 1) rfl rfl (ovF_o hwF) ⟨by omega, by omega⟩ ⟨by omega, by omega⟩ (Nat.le_of_ble_eq_true rfl) rfl dX1_counted_49 rfl (fun v49 M49 z49 hp49 hz49 hd49 => ?_)
  obtain ⟨rfl, rfl, rfl⟩ := hp49
  show G X _ (ov (cxT X) (ovF (cxT X) N F) P) sz (0 + 0) (0 + 0) 52 [(0, .ref (fO F)), (1, .int 0)] [.int (sumI (hld P F) (fC F))]
  exact hF (some (.int (sumI (hld P F) (fC F)))) (ov (cxT X) (ovF (cxT X) N F) P) sz _ _ _ _ .ireturn (⟨rfl, rfl, rfl⟩) (by omega) (by omega) ret_i dX1_counted_52

set_option maxHeartbeats 4000000 in
set_option maxRecDepth 100000 in
theorem ct_cnt1 {l : Launch} (hl : l.stackTraces = false) {T : CT3} {D : va_G} {N : AH} {P : PS} {F : FS} (sz : Nat) (hwF : WfF P F) {n : Nat} (hal : Alok P F) (ht : TrP P n (fT F)) (hn : n < 40) : Ct l T D yX1_counted cX1_counted 2 (some .int) (n + 5) (110 + 60 * n) 0 0 [.ref (fO F), .int 1] (ov T (ovF T N F) P) sz (fun v M' z' => v = some (.int (cntP P F n 1)) ∧ M' = ov T (ovF T N F) P ∧ sz = z') := by
  refine Ct.ofX hl (by decide) (Nat.le_of_ble_eq_true rfl) ?_
  intro X hl0 hT0 hD0 hlt hX hF
  subst hl0; subst hT0; subst hD0
  show G X 2 (ov (cxT X) (ovF (cxT X) N F) P) sz 0 0 0 [(0, .ref (fO F)), (1, .int 1)] []
  refine g_iload_n hX dX1_counted_0 1 rfl ?_
  refine g_tableIn (off := 52) hX 53 dX1_counted_1 (by decide) (by decide) (by decide) (by decide) ?_
  refine g_aload_n hX dX1_counted_53 0 rfl ?_
  refine g_get (ci := 1) hX rfl fin_X1 (ovF_o hwF) 1 (by decide) fl_X1_33 rfl dX1_counted_54 ?_
  exact hF (some (.int (nI (fC F)))) (ov (cxT X) (ovF (cxT X) N F) P) sz _ _ _ _ .ireturn (⟨rfl, rfl, rfl⟩) (by omega) (by omega) ret_i dX1_counted_57

set_option maxHeartbeats 4000000 in
set_option maxRecDepth 100000 in
theorem ct_cnt2 {l : Launch} (hl : l.stackTraces = false) {T : CT3} {D : va_G} {N : AH} {P : PS} {F : FS} (sz : Nat) (hwF : WfF P F) {n : Nat} (hal : Alok P F) (ht : TrP P n (fT F)) (hn : n < 40) : Ct l T D yX1_counted cX1_counted 2 (some .int) (n + 5) (110 + 60 * n) 0 0 [.ref (fO F), .int 2] (ov T (ovF T N F) P) sz (fun v M' z' => v = some (.int (cntP P F n 2)) ∧ M' = ov T (ovF T N F) P ∧ sz = z') := by
  refine Ct.ofX hl (by decide) (Nat.le_of_ble_eq_true rfl) ?_
  intro X hl0 hT0 hD0 hlt hX hF
  subst hl0; subst hT0; subst hD0
  show G X 2 (ov (cxT X) (ovF (cxT X) N F) P) sz 0 0 0 [(0, .ref (fO F)), (1, .int 2)] []
  refine g_iload_n hX dX1_counted_0 1 rfl ?_
  refine g_tableIn (off := 57) hX 58 dX1_counted_1 (by decide) (by decide) (by decide) (by decide) ?_
  refine g_aload_n hX dX1_counted_58 0 rfl ?_
  refine g_get (ci := 1) hX rfl fin_X1 (ovF_o hwF) 3 (by decide) fl_X1_18 rfl dX1_counted_59 ?_
  refine g_iconst (v := 0) hX dX1_counted_62 (by decide) ?_
  refine g_callS [] hX (ct_framesIn hX.st sz hwF.1 n (fT F) 0 ht (by omega)) cw_X1_framesIn stt_X1_framesIn lk_X1_201 ⟨by omega, by omega⟩ ⟨by omega, by omega⟩ (Nat.le_of_ble_eq_true rfl) rfl dX1_counted_63 rfl (fun v63 M63 z63 hp63 hz63 hd63 => ?_)
  obtain ⟨rfl, rfl, rfl⟩ := hp63
  show G X _ (ov (cxT X) (ovF (cxT X) N F) P) sz (0 + 0) (0 + 0) 66 [(0, .ref (fO F)), (1, .int 2)] [.int (frP P n (fT F))]
  exact hF (some (.int (frP P n (fT F)))) (ov (cxT X) (ovF (cxT X) N F) P) sz _ _ _ _ .ireturn (⟨rfl, rfl, rfl⟩) (by omega) (by omega) ret_i dX1_counted_66

set_option maxHeartbeats 4000000 in
set_option maxRecDepth 100000 in
theorem ct_cnt3 {l : Launch} (hl : l.stackTraces = false) {T : CT3} {D : va_G} {N : AH} {P : PS} {F : FS} (sz : Nat) (hwF : WfF P F) {n : Nat} (hal : Alok P F) (ht : TrP P n (fT F)) (hn : n < 40) : Ct l T D yX1_counted cX1_counted 2 (some .int) (n + 5) (110 + 60 * n) 0 0 [.ref (fO F), .int 3] (ov T (ovF T N F) P) sz (fun v M' z' => v = some (.int (cntP P F n 3)) ∧ M' = ov T (ovF T N F) P ∧ sz = z') := by
  refine Ct.ofX hl (by decide) (Nat.le_of_ble_eq_true rfl) ?_
  intro X hl0 hT0 hD0 hlt hX hF
  subst hl0; subst hT0; subst hD0
  show G X 2 (ov (cxT X) (ovF (cxT X) N F) P) sz 0 0 0 [(0, .ref (fO F)), (1, .int 3)] []
  refine g_iload_n hX dX1_counted_0 1 rfl ?_
  refine g_tableIn (off := 66) hX 67 dX1_counted_1 (by decide) (by decide) (by decide) (by decide) ?_
  refine g_aload_n hX dX1_counted_67 0 rfl ?_
  refine g_get (ci := 1) hX rfl fin_X1 (ovF_o hwF) 3 (by decide) fl_X1_18 rfl dX1_counted_68 ?_
  refine g_getN (ci := 0) hX rfl fin_X0 (ov_pc (P := P) ht.d) 1 (by decide) fn_X1_102 rfl dX1_counted_71 ?_
  refine g_iconst (v := 1) hX dX1_counted_74 (by decide) ?_
  refine g_isub hX dX1_counted_75 ?_
  exact hF (some (.int ((nI (pL P (fT F))) - 1))) (ov (cxT X) (ovF (cxT X) N F) P) sz _ _ _ _ .ireturn (⟨rfl, rfl, rfl⟩) (by omega) (by omega) ret_i dX1_counted_76

set_option maxHeartbeats 4000000 in
set_option maxRecDepth 100000 in
theorem ct_cnt4 {l : Launch} (hl : l.stackTraces = false) {T : CT3} {D : va_G} {N : AH} {P : PS} {F : FS} (sz : Nat) (hwF : WfF P F) {n : Nat} (hal : Alok P F) (ht : TrP P n (fT F)) (hn : n < 40) : Ct l T D yX1_counted cX1_counted 2 (some .int) (n + 5) (110 + 60 * n) 0 0 [.ref (fO F), .int 4] (ov T (ovF T N F) P) sz (fun v M' z' => v = some (.int (cntP P F n 4)) ∧ M' = ov T (ovF T N F) P ∧ sz = z') := by
  refine Ct.ofX hl (by decide) (Nat.le_of_ble_eq_true rfl) ?_
  intro X hl0 hT0 hD0 hlt hX hF
  subst hl0; subst hT0; subst hD0
  show G X 2 (ov (cxT X) (ovF (cxT X) N F) P) sz 0 0 0 [(0, .ref (fO F)), (1, .int 4)] []
  refine g_iload_n hX dX1_counted_0 1 rfl ?_
  refine g_tableIn (off := 76) hX 77 dX1_counted_1 (by decide) (by decide) (by decide) (by decide) ?_
  refine g_aload_n hX dX1_counted_77 0 rfl ?_
  refine g_get (ci := 1) hX rfl fin_X1 (ovF_o hwF) 3 (by decide) fl_X1_18 rfl dX1_counted_78 ?_
  refine g_iconst (v := 0) hX dX1_counted_81 (by decide) ?_
  refine g_callS [] hX (ct_hedgeAreasIn hX.st sz hwF.1 n (fT F) 0 ht (by omega)) cw_X1_hedgeAreasIn stt_X1_hedgeAreasIn lk_X1_204 ⟨by omega, by omega⟩ ⟨by omega, by omega⟩ (Nat.le_of_ble_eq_true rfl) rfl dX1_counted_82 rfl (fun v82 M82 z82 hp82 hz82 hd82 => ?_)
  obtain ⟨rfl, rfl, rfl⟩ := hp82
  show G X _ (ov (cxT X) (ovF (cxT X) N F) P) sz (0 + 0) (0 + 0) 85 [(0, .ref (fO F)), (1, .int 4)] [.int (haP P n (fT F))]
  exact hF (some (.int (haP P n (fT F)))) (ov (cxT X) (ovF (cxT X) N F) P) sz _ _ _ _ .ireturn (⟨rfl, rfl, rfl⟩) (by omega) (by omega) ret_i dX1_counted_85

set_option maxHeartbeats 4000000 in
set_option maxRecDepth 100000 in
theorem ct_cnt5 {l : Launch} (hl : l.stackTraces = false) {T : CT3} {D : va_G} {N : AH} {P : PS} {F : FS} (sz : Nat) (hwF : WfF P F) {n : Nat} (hal : Alok P F) (ht : TrP P n (fT F)) (hn : n < 40) : Ct l T D yX1_counted cX1_counted 2 (some .int) (n + 5) (110 + 60 * n) 0 0 [.ref (fO F), .int 5] (ov T (ovF T N F) P) sz (fun v M' z' => v = some (.int (cntP P F n 5)) ∧ M' = ov T (ovF T N F) P ∧ sz = z') := by
  refine Ct.ofX hl (by decide) (Nat.le_of_ble_eq_true rfl) ?_
  intro X hl0 hT0 hD0 hlt hX hF
  subst hl0; subst hT0; subst hD0
  show G X 2 (ov (cxT X) (ovF (cxT X) N F) P) sz 0 0 0 [(0, .ref (fO F)), (1, .int 5)] []
  refine g_iload_n hX dX1_counted_0 1 rfl ?_
  refine g_tableIn (off := 85) hX 86 dX1_counted_1 (by decide) (by decide) (by decide) (by decide) ?_
  refine g_aload_n hX dX1_counted_86 0 rfl ?_
  refine g_get (ci := 1) hX rfl fin_X1 (ovF_o hwF) 3 (by decide) fl_X1_18 rfl dX1_counted_87 ?_
  refine g_callVN [] hX (ct_area hX.st sz hwF.1 ht.d) cw_X0_area cv_X0_area ln_X1_86 (ci := 0) rfl rfl (ov_pc (P := P) ht.d) ⟨by omega, by omega⟩ ⟨by omega, by omega⟩ (Nat.le_of_ble_eq_true rfl) rfl dX1_counted_90 rfl (fun v90 M90 z90 hp90 hz90 hd90 => ?_)
  obtain ⟨rfl, rfl, rfl⟩ := hp90
  show G X _ (ov (cxT X) (ovF (cxT X) N F) P) sz (0 + 0) (0 + 0) 93 [(0, .ref (fO F)), (1, .int 5)] [.int (arB P (fT F))]
  exact hF (some (.int (arB P (fT F)))) (ov (cxT X) (ovF (cxT X) N F) P) sz _ _ _ _ .ireturn (⟨rfl, rfl, rfl⟩) (by omega) (by omega) ret_i dX1_counted_93

set_option maxHeartbeats 4000000 in
set_option maxRecDepth 100000 in
theorem ct_cnt6 {l : Launch} (hl : l.stackTraces = false) {T : CT3} {D : va_G} {N : AH} {P : PS} {F : FS} (sz : Nat) (hwF : WfF P F) {n : Nat} (hal : Alok P F) (ht : TrP P n (fT F)) (hn : n < 40) : Ct l T D yX1_counted cX1_counted 2 (some .int) (n + 5) (110 + 60 * n) 0 0 [.ref (fO F), .int 6] (ov T (ovF T N F) P) sz (fun v M' z' => v = some (.int (cntP P F n 6)) ∧ M' = ov T (ovF T N F) P ∧ sz = z') := by
  refine Ct.ofX hl (by decide) (Nat.le_of_ble_eq_true rfl) ?_
  intro X hl0 hT0 hD0 hlt hX hF
  subst hl0; subst hT0; subst hD0
  show G X 2 (ov (cxT X) (ovF (cxT X) N F) P) sz 0 0 0 [(0, .ref (fO F)), (1, .int 6)] []
  refine g_iload_n hX dX1_counted_0 1 rfl ?_
  refine g_tableIn (off := 93) hX 94 dX1_counted_1 (by decide) (by decide) (by decide) (by decide) ?_
  refine g_aload_n hX dX1_counted_94 0 rfl ?_
  refine g_get (ci := 1) hX rfl fin_X1 (ovF_o hwF) 3 (by decide) fl_X1_18 rfl dX1_counted_95 ?_
  refine g_iconst (v := 0) hX dX1_counted_98 (by decide) ?_
  refine g_callS [] hX (ct_meetingPairsIn hX.st sz hwF.1 n (fT F) 0 ht (by omega)) cw_X1_meetingPairsIn stt_X1_meetingPairsIn lk_X1_207 ⟨by omega, by omega⟩ ⟨by omega, by omega⟩ (Nat.le_of_ble_eq_true rfl) rfl dX1_counted_99 rfl (fun v99 M99 z99 hp99 hz99 hd99 => ?_)
  obtain ⟨rfl, rfl, rfl⟩ := hp99
  show G X _ (ov (cxT X) (ovF (cxT X) N F) P) sz (0 + 0) (0 + 0) 102 [(0, .ref (fO F)), (1, .int 6)] [.int (mpP P n (fT F))]
  exact hF (some (.int (mpP P n (fT F)))) (ov (cxT X) (ovF (cxT X) N F) P) sz _ _ _ _ .ireturn (⟨rfl, rfl, rfl⟩) (by omega) (by omega) ret_i dX1_counted_102

set_option maxHeartbeats 4000000 in
set_option maxRecDepth 100000 in
theorem ct_cnt7 {l : Launch} (hl : l.stackTraces = false) {T : CT3} {D : va_G} {N : AH} {P : PS} {F : FS} (sz : Nat) (hwF : WfF P F) {n : Nat} (hal : Alok P F) (ht : TrP P n (fT F)) (hn : n < 40) : Ct l T D yX1_counted cX1_counted 2 (some .int) (n + 5) (110 + 60 * n) 0 0 [.ref (fO F), .int 7] (ov T (ovF T N F) P) sz (fun v M' z' => v = some (.int (cntP P F n 7)) ∧ M' = ov T (ovF T N F) P ∧ sz = z') := by
  refine Ct.ofX hl (by decide) (Nat.le_of_ble_eq_true rfl) ?_
  intro X hl0 hT0 hD0 hlt hX hF
  subst hl0; subst hT0; subst hD0
  show G X 2 (ov (cxT X) (ovF (cxT X) N F) P) sz 0 0 0 [(0, .ref (fO F)), (1, .int 7)] []
  refine g_iload_n hX dX1_counted_0 1 rfl ?_
  refine g_tableIn (off := 102) hX 103 dX1_counted_1 (by decide) (by decide) (by decide) (by decide) ?_
  refine g_aload_n hX dX1_counted_103 0 rfl ?_
  refine g_get (ci := 1) hX rfl fin_X1 (ovF_o hwF) 2 (by decide) fl_X1_176 rfl dX1_counted_104 ?_
  exact hF (some (.int (nI (fS F)))) (ov (cxT X) (ovF (cxT X) N F) P) sz _ _ _ _ .ireturn (⟨rfl, rfl, rfl⟩) (by omega) (by omega) ret_i dX1_counted_107

set_option maxHeartbeats 4000000 in
set_option maxRecDepth 100000 in
theorem ct_cnt8 {l : Launch} (hl : l.stackTraces = false) {T : CT3} {D : va_G} {N : AH} {P : PS} {F : FS} (sz : Nat) (hwF : WfF P F) {n : Nat} (hal : Alok P F) (ht : TrP P n (fT F)) (hn : n < 40) : Ct l T D yX1_counted cX1_counted 2 (some .int) (n + 5) (110 + 60 * n) 0 0 [.ref (fO F), .int 8] (ov T (ovF T N F) P) sz (fun v M' z' => v = some (.int (cntP P F n 8)) ∧ M' = ov T (ovF T N F) P ∧ sz = z') := by
  refine Ct.ofX hl (by decide) (Nat.le_of_ble_eq_true rfl) ?_
  intro X hl0 hT0 hD0 hlt hX hF
  subst hl0; subst hT0; subst hD0
  show G X 2 (ov (cxT X) (ovF (cxT X) N F) P) sz 0 0 0 [(0, .ref (fO F)), (1, .int 8)] []
  refine g_iload_n hX dX1_counted_0 1 rfl ?_
  refine g_tableOut hX 108 dX1_counted_1 (by decide) (by decide) ?_
  refine g_aload_n hX dX1_counted_108 0 rfl ?_
  refine g_get (ci := 1) hX rfl fin_X1 (ovF_o hwF) 3 (by decide) fl_X1_18 rfl dX1_counted_109 ?_
  refine g_getN (ci := 0) hX rfl fin_X0 (ov_pc (P := P) ht.d) 3 (by decide) fn_X1_133 rfl dX1_counted_112 ?_
  exact hF (some (.int (nI (pS P (fT F))))) (ov (cxT X) (ovF (cxT X) N F) P) sz _ _ _ _ .ireturn (⟨rfl, rfl, rfl⟩) (by omega) (by omega) ret_i dX1_counted_115

theorem ct_counted {l : Launch} (hl : l.stackTraces = false) {T : CT3} {D : va_G} {N : AH} {P : PS} {F : FS} (sz : Nat) (hwF : WfF P F) {n : Nat} (hal : Alok P F) (ht : TrP P n (fT F)) (hn : n < 40) (w : Nat) (hwh : w ≤ 8) : Ct l T D yX1_counted cX1_counted 2 (some .int) (n + 5) (110 + 60 * n) 0 0 [.ref (fO F), .int (nI w)] (ov T (ovF T N F) P) sz (fun v M' z' => v = some (.int (cntP P F n w)) ∧ M' = ov T (ovF T N F) P ∧ sz = z') := by
  rcases (show w = 0 ∨ w = 1 ∨ w = 2 ∨ w = 3 ∨ w = 4 ∨ w = 5 ∨ w = 6 ∨ w = 7 ∨ w = 8 by omega) with rfl | rfl | rfl | rfl | rfl | rfl | rfl | rfl | rfl
  · exact ct_cnt0 hl sz hwF hal ht hn
  · exact ct_cnt1 hl sz hwF hal ht hn
  · exact ct_cnt2 hl sz hwF hal ht hn
  · exact ct_cnt3 hl sz hwF hal ht hn
  · exact ct_cnt4 hl sz hwF hal ht hn
  · exact ct_cnt5 hl sz hwF hal ht hn
  · exact ct_cnt6 hl sz hwF hal ht hn
  · exact ct_cnt7 hl sz hwF hal ht hn
  · exact ct_cnt8 hl sz hwF hal ht hn
