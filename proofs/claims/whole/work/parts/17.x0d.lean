theorem ct_lowerEdge {l : Launch} (hl : l.stackTraces = false) {T : CT3} {D : va_G} {N : AH} {P : PS} (sz : Nat) (hw : Wf P) {q : Nat} (hq : pD P q = true) (x : Bool) : Ct l T D yX0_lowerEdge cX0_lowerEdge 2 (some .int) 0 0 0 0 [.ref q, .int (bI x)] (ov T N P) sz (fun v M' z' => v = some (.int (lowE P q x)) ∧ M' = ov T N P ∧ sz = z') := by
  cases x
  · exact ct_lowerEdgeF hl sz hw hq
  · exact ct_lowerEdgeT hl sz hw hq

set_option maxHeartbeats 4000000 in
set_option maxRecDepth 100000 in
theorem ct_lowerEdgeAt {l : Launch} (hl : l.stackTraces = false) {T : CT3} {D : va_G} {N : AH} {P : PS} (sz : Nat) (hw : Wf P) {q r p : Nat} (hq : pD P q = true) (hr : pD P r = true) (hp : p < pS P q) (hpr : pA P q p = some r) (hs : pS P q ≤ pW P q) (hs2 : pW P q < 1000) (x : Bool) : Ct l T D yX0_lowerEdgeAt cX0_lowerEdgeAt 4 (some .int) 1 21 0 0 [.ref q, .int (nI p), .int (bI x)] (ov T N P) sz (fun v M' z' => v = some (.int (lowE P r x)) ∧ M' = ov T N P ∧ sz = z') := by
  refine Ct.ofX hl (by decide) (Nat.le_of_ble_eq_true rfl) ?_
  intro X hl0 hT0 hD0 hlt hX hF
  subst hl0; subst hT0; subst hD0
  show G X 4 (ov (cxT X) N P) sz 0 0 0 [(0, .ref q), (1, .int (nI p)), (2, .int (bI x))] []
  refine g_aload_n hX dX0_lowerEdgeAt_0 0 rfl ?_
  refine g_iload_n hX dX0_lowerEdgeAt_1 1 rfl ?_
  refine g_callV [] hX (ct_at hX.st sz hw (P := P) (q := q) (p := p) hq (by omega) hs hs2) cw_X0_at cv_X0_at lk_X0_50 (ci := 0) rfl rfl (ov_pc (P := P) hq) ⟨by omega, by omega⟩ ⟨by omega, by omega⟩ (Nat.le_of_ble_eq_true rfl) rfl dX0_lowerEdgeAt_2 rfl (fun v2 M2 z2 hp2 hz2 hd2 => ?_)
  rw [if_pos (hp), hpr] at hp2
  obtain ⟨rfl, rfl, rfl⟩ := hp2
  show G X _ (ov (cxT X) N P) sz (0 + 0) (0 + 0) 5 [(0, .ref q), (1, .int (nI p)), (2, .int (bI x))] [.ref r]
  refine g_astore_n (L' := [(3, .ref r), (0, .ref q), (1, .int (nI p)), (2, .int (bI x))]) hX dX0_lowerEdgeAt_5 (by decide) rfl ?_
  refine g_aload_n hX dX0_lowerEdgeAt_6 0 rfl ?_
  refine g_ifnonnullR hX 14 dX0_lowerEdgeAt_7 (by decide) ?_
  refine g_aload_n hX dX0_lowerEdgeAt_14 0 rfl ?_
  refine g_iload_n hX dX0_lowerEdgeAt_15 3 rfl ?_
  refine g_callV [] hX (ct_lowerEdge hX.st sz hw hr x) cw_X0_lowerEdge cv_X0_lowerEdge lk_X0_66 (ci := 0) rfl rfl (ov_pc (P := P) hr) ⟨by omega, by omega⟩ ⟨by omega, by omega⟩ (Nat.le_of_ble_eq_true rfl) rfl dX0_lowerEdgeAt_16 rfl (fun v16 M16 z16 hp16 hz16 hd16 => ?_)
  obtain ⟨rfl, rfl, rfl⟩ := hp16
  show G X _ (ov (cxT X) N P) sz ((0 + 0) + 0) ((0 + 0) + 0) 19 [(3, .ref r), (0, .ref q), (1, .int (nI p)), (2, .int (bI x))] [.int (lowE P r x)]
  exact hF (some (.int (lowE P r x))) (ov (cxT X) N P) sz _ _ _ _ .ireturn (⟨rfl, rfl, rfl⟩) (by omega) (by omega) ret_i dX0_lowerEdgeAt_19

set_option maxHeartbeats 4000000 in
set_option maxRecDepth 100000 in
theorem ct_spread {l : Launch} (hl : l.stackTraces = false) {T : CT3} {D : va_G} {N : AH} {P : PS} (sz : Nat) (hw : Wf P) {q : Nat} {R : Nat → Prop} (hq : pD P q = true) (h0 : 0 < pS P q) (hs : pS P q ≤ pW P q) (hs2 : pW P q < 1000) (hc : Kids P (pA P q) (pS P q) R) (x : Bool) : Ct l T D yX0_spreadOfLowerEdges cX0_spreadOfLowerEdges 6 (some .int) 2 44 0 0 [.ref q, .int (bI x)] (ov T N P) sz (fun v M' z' => v = some (.int (maxK (fun c => lowE P c x) (pA P q) (pS P q - 1) - minK (fun c => lowE P c x) (pA P q) (pS P q - 1))) ∧ M' = ov T N P ∧ sz = z') := by
  refine Ct.ofX hl (by decide) (Nat.le_of_ble_eq_true rfl) ?_
  intro X hl0 hT0 hD0 hlt hX hF
  subst hl0; subst hT0; subst hD0
  have loop : ∀ k, k ≤ (pS P q - 1) → G X 6 (ov (cxT X) N P) sz 0 0 12 [(4, .int (nI (k + 1))), (0, .ref q), (1, .int (bI x)), (2, .int (minK (fun c => lowE P c x) (pA P q) k)), (3, .int (maxK (fun c => lowE P c x) (pA P q) k))] [] := by
    refine loop_up ?_
    intro k ih hk
    refine g_iload hX dX0_spreadOfLowerEdges_12 0 rfl ?_
    refine g_aload_n hX dX0_spreadOfLowerEdges_14 1 rfl ?_
    refine g_get (ci := 0) hX rfl fin_X0 (ov_pc (P := P) hq) 3 (by decide) fl_X0_47 rfl dX0_spreadOfLowerEdges_15 ?_
    refine g_icmp_ge hX 50 dX0_spreadOfLowerEdges_18 (by decide) (fun c18 => ?_) (fun c18 => ?_)
    · skip
      have hks : k = pS P q - 1 := by have h9 := (nI_leI (a := pS P q) (b := k + 1) (by omega) (by omega)).mp c18; omega
      subst hks
      refine g_iload_n hX dX0_spreadOfLowerEdges_50 4 rfl ?_
      refine g_iload_n hX dX0_spreadOfLowerEdges_51 3 rfl ?_
      refine g_isub hX dX0_spreadOfLowerEdges_52 ?_
      exact hF (some (.int ((maxK (fun c => lowE P c x) (pA P q) (pS P q - 1)) - (minK (fun c => lowE P c x) (pA P q) (pS P q - 1))))) (ov (cxT X) N P) sz _ _ _ _ .ireturn (⟨rfl, rfl, rfl⟩) (by omega) (by omega) ret_i dX0_spreadOfLowerEdges_53
    · skip
      have hks : k + 1 < pS P q := by have h9 := mt (nI_leI (a := pS P q) (b := k + 1) (by omega) (by omega)).mpr c18; omega
      refine g_aload_n hX dX0_spreadOfLowerEdges_21 1 rfl ?_
      refine g_iload hX dX0_spreadOfLowerEdges_22 0 rfl ?_
      refine g_iload_n hX dX0_spreadOfLowerEdges_24 2 rfl ?_
      refine g_callV [] hX (ct_lowerEdgeAt hX.st sz hw (P := P) (q := q) (r := (pA P q (k + 1)).getD 0) (p := (k + 1)) hq (hc (k + 1) (hks)).2.1 (hks) (hc (k + 1) (hks)).1 hs hs2 x) cw_X0_lowerEdgeAt cv_X0_lowerEdgeAt lk_X0_70 (ci := 0) rfl rfl (ov_pc (P := P) hq) ⟨by omega, by omega⟩ ⟨by omega, by omega⟩ (Nat.le_of_ble_eq_true rfl) rfl dX0_spreadOfLowerEdges_25 rfl (fun v25 M25 z25 hp25 hz25 hd25 => ?_)
      obtain ⟨rfl, rfl, rfl⟩ := hp25
      show G X _ (ov (cxT X) N P) sz (0 + 0) (0 + 0) 28 [(4, .int (nI (k + 1))), (0, .ref q), (1, .int (bI x)), (2, .int (minK (fun c => lowE P c x) (pA P q) k)), (3, .int (maxK (fun c => lowE P c x) (pA P q) k))] [.int (lowE P ((pA P q (k + 1)).getD 0) x)]
      refine g_istore (L' := [(5, .int (lowE P ((pA P q (k + 1)).getD 0) x)), (4, .int (nI (k + 1))), (0, .ref q), (1, .int (bI x)), (2, .int (minK (fun c => lowE P c x) (pA P q) k)), (3, .int (maxK (fun c => lowE P c x) (pA P q) k))]) hX dX0_spreadOfLowerEdges_28 (by decide) rfl ?_
      refine g_iload_n hX dX0_spreadOfLowerEdges_30 4 rfl ?_
      refine g_iload hX dX0_spreadOfLowerEdges_31 0 rfl ?_
      refine g_minI [] hX lk_X0_44 (by omega) (by omega) (Nat.le_of_ble_eq_true rfl) ⟨by omega, by omega⟩ dX0_spreadOfLowerEdges_33 ?_
      refine g_istore_n (L' := [(2, .int (minI (minK (fun c => lowE P c x) (pA P q) k) (lowE P ((pA P q (k + 1)).getD 0) x))), (5, .int (lowE P ((pA P q (k + 1)).getD 0) x)), (4, .int (nI (k + 1))), (0, .ref q), (1, .int (bI x)), (3, .int (maxK (fun c => lowE P c x) (pA P q) k))]) hX dX0_spreadOfLowerEdges_36 (by decide) rfl ?_
      refine g_iload_n hX dX0_spreadOfLowerEdges_37 5 rfl ?_
      refine g_iload hX dX0_spreadOfLowerEdges_38 1 rfl ?_
      refine g_maxI [] hX lk_X0_38 (by omega) (by omega) (Nat.le_of_ble_eq_true rfl) ⟨by omega, by omega⟩ dX0_spreadOfLowerEdges_40 ?_
      refine g_istore_n (L' := [(3, .int (maxI (maxK (fun c => lowE P c x) (pA P q) k) (lowE P ((pA P q (k + 1)).getD 0) x))), (2, .int (minI (minK (fun c => lowE P c x) (pA P q) k) (lowE P ((pA P q (k + 1)).getD 0) x))), (5, .int (lowE P ((pA P q (k + 1)).getD 0) x)), (4, .int (nI (k + 1))), (0, .ref q), (1, .int (bI x))]) hX dX0_spreadOfLowerEdges_43 (by decide) rfl ?_
      refine g_iinc (v := nI (k + 1 + 1)) (L' := [(4, .int (nI (k + 1 + 1))), (3, .int (maxI (maxK (fun c => lowE P c x) (pA P q) k) (lowE P ((pA P q (k + 1)).getD 0) x))), (2, .int (minI (minK (fun c => lowE P c x) (pA P q) k) (lowE P ((pA P q (k + 1)).getD 0) x))), (5, .int (lowE P ((pA P q (k + 1)).getD 0) x)), (0, .ref q), (1, .int (bI x))]) hX dX0_spreadOfLowerEdges_44 3 rfl (nI_1 _) (by decide) rfl ?_
      refine g_goto hX 12 dX0_spreadOfLowerEdges_47 (by decide) ?_
      refine g_sub [0, 4, 5, 2, 1] rfl ?_
      exact ih (k + 1) (by omega) (by omega)
  show G X 6 (ov (cxT X) N P) sz 0 0 0 [(0, .ref q), (1, .int (bI x))] []
  refine g_aload_n hX dX0_spreadOfLowerEdges_0 0 rfl ?_
  refine g_iconst (v := 0) hX dX0_spreadOfLowerEdges_1 (by decide) ?_
  refine g_iload_n hX dX0_spreadOfLowerEdges_2 1 rfl ?_
  refine g_callV [] hX (ct_lowerEdgeAt hX.st sz hw (P := P) (q := q) (r := (pA P q 0).getD 0) (p := 0) hq (hc 0 (h0)).2.1 (h0) (hc 0 (h0)).1 hs hs2 x) cw_X0_lowerEdgeAt cv_X0_lowerEdgeAt lk_X0_70 (ci := 0) rfl rfl (ov_pc (P := P) hq) ⟨by omega, by omega⟩ ⟨by omega, by omega⟩ (Nat.le_of_ble_eq_true rfl) rfl dX0_spreadOfLowerEdges_3 rfl (fun v3 M3 z3 hp3 hz3 hd3 => ?_)
  obtain ⟨rfl, rfl, rfl⟩ := hp3
  show G X _ (ov (cxT X) N P) sz (0 + 0) (0 + 0) 6 [(0, .ref q), (1, .int (bI x))] [.int (lowE P ((pA P q 0).getD 0) x)]
  refine g_istore_n (L' := [(2, .int (lowE P ((pA P q 0).getD 0) x)), (0, .ref q), (1, .int (bI x))]) hX dX0_spreadOfLowerEdges_6 (by decide) rfl ?_
  refine g_iload_n hX dX0_spreadOfLowerEdges_7 0 rfl ?_
  refine g_istore_n (L' := [(3, .int (lowE P ((pA P q 0).getD 0) x)), (2, .int (lowE P ((pA P q 0).getD 0) x)), (0, .ref q), (1, .int (bI x))]) hX dX0_spreadOfLowerEdges_8 (by decide) rfl ?_
  refine g_iconst (v := 1) hX dX0_spreadOfLowerEdges_9 (by decide) ?_
  refine g_istore (L' := [(4, .int 1), (3, .int (lowE P ((pA P q 0).getD 0) x)), (2, .int (lowE P ((pA P q 0).getD 0) x)), (0, .ref q), (1, .int (bI x))]) hX dX0_spreadOfLowerEdges_10 (by decide) rfl ?_
  refine g_sub [0, 3, 4, 2, 1] rfl ?_
  exact loop 0 (Nat.zero_le _)

set_option maxHeartbeats 4000000 in
set_option maxRecDepth 100000 in
theorem ct_splitsAlongX {l : Launch} (hl : l.stackTraces = false) {T : CT3} {D : va_G} {N : AH} {P : PS} (sz : Nat) (hw : Wf P) {q : Nat} {R : Nat → Prop} (hq : pD P q = true) (h0 : 0 < pS P q) (hs : pS P q ≤ pW P q) (hs2 : pW P q < 1000) (hc : Kids P (pA P q) (pS P q) R) : Ct l T D yX0_splitsAlongX cX0_splitsAlongX 1 (some .boolean) 3 69 0 0 [.ref q] (ov T N P) sz (fun v M' z' => v = some (.int (bI (decide ((maxK (fun c => lowE P c false) (pA P q) (pS P q - 1) - minK (fun c => lowE P c false) (pA P q) (pS P q - 1)) ≤ (maxK (fun c => lowE P c true) (pA P q) (pS P q - 1) - minK (fun c => lowE P c true) (pA P q) (pS P q - 1)))))) ∧ M' = ov T N P ∧ sz = z') := by
  refine Ct.ofX hl (by decide) (Nat.le_of_ble_eq_true rfl) ?_
  intro X hl0 hT0 hD0 hlt hX hF
  subst hl0; subst hT0; subst hD0
  show G X 1 (ov (cxT X) N P) sz 0 0 0 [(0, .ref q)] []
  refine g_aload_n hX dX0_splitsAlongX_0 0 rfl ?_
  refine g_iconst (v := 1) hX dX0_splitsAlongX_1 (by decide) ?_
  refine g_callV [] hX (ct_spread hX.st sz hw hq h0 hs hs2 hc true) cw_X0_spreadOfLowerEdges cv_X0_spreadOfLowerEdges lk_X0_74 (ci := 0) rfl rfl (ov_pc (P := P) hq) ⟨by omega, by omega⟩ ⟨by omega, by omega⟩ (Nat.le_of_ble_eq_true rfl) rfl dX0_splitsAlongX_2 rfl (fun v2 M2 z2 hp2 hz2 hd2 => ?_)
  obtain ⟨rfl, rfl, rfl⟩ := hp2
  show G X _ (ov (cxT X) N P) sz (0 + 0) (0 + 0) 5 [(0, .ref q)] [.int (maxK (fun c => lowE P c true) (pA P q) (pS P q - 1) - minK (fun c => lowE P c true) (pA P q) (pS P q - 1))]
  refine g_aload_n hX dX0_splitsAlongX_5 0 rfl ?_
  refine g_iconst (v := 0) hX dX0_splitsAlongX_6 (by decide) ?_
  refine g_callV [.int (maxK (fun c => lowE P c true) (pA P q) (pS P q - 1) - minK (fun c => lowE P c true) (pA P q) (pS P q - 1))] hX (ct_spread hX.st sz hw hq h0 hs hs2 hc false) cw_X0_spreadOfLowerEdges cv_X0_spreadOfLowerEdges lk_X0_74 (ci := 0) rfl rfl (ov_pc (P := P) hq) ⟨by omega, by omega⟩ ⟨by omega, by omega⟩ (Nat.le_of_ble_eq_true rfl) rfl dX0_splitsAlongX_7 rfl (fun v7 M7 z7 hp7 hz7 hd7 => ?_)
  obtain ⟨rfl, rfl, rfl⟩ := hp7
  show G X _ (ov (cxT X) N P) sz ((0 + 0) + 0) ((0 + 0) + 0) 10 [(0, .ref q)] [.int (maxK (fun c => lowE P c false) (pA P q) (pS P q - 1) - minK (fun c => lowE P c false) (pA P q) (pS P q - 1)), .int (maxK (fun c => lowE P c true) (pA P q) (pS P q - 1) - minK (fun c => lowE P c true) (pA P q) (pS P q - 1))]
  refine g_icmp_lt hX 17 dX0_splitsAlongX_10 (by decide) (fun c10 => ?_) (fun c10 => ?_)
  · skip
    refine g_iconst (v := 0) hX dX0_splitsAlongX_17 (by decide) ?_
    exact hF (some (.int 0)) (ov (cxT X) N P) sz _ _ _ _ .ireturn (⟨by rw [decide_eq_false (Int32.not_le.mpr c10)]; rfl, rfl, rfl⟩) (by omega) (by omega) (ret_b (by decide)) dX0_splitsAlongX_18
  · skip
    refine g_iconst (v := 1) hX dX0_splitsAlongX_13 (by decide) ?_
    refine g_goto hX 18 dX0_splitsAlongX_14 (by decide) ?_
    exact hF (some (.int 1)) (ov (cxT X) N P) sz _ _ _ _ .ireturn (⟨by rw [decide_eq_true (Int32.not_lt.mp c10)]; rfl, rfl, rfl⟩) (by omega) (by omega) (ret_b (by decide)) dX0_splitsAlongX_18

set_option maxHeartbeats 4000000 in
set_option maxRecDepth 100000 in
theorem ct_sort {l : Launch} (hl : l.stackTraces = false) {T : CT3} {D : va_G} {N : AH} {P : PS} (sz : Nat) (hw : Wf P) {q : Nat} (hq : pD P q = true) (h0 : 0 < pS P q) (hs : pS P q ≤ pW P q) (hs2 : pW P q < 1000) (hc : Kids P (pA P q) (pS P q) (fun c => pH P c = some q)) (x : Bool) : Ct l T D yX0_sortByLowerEdges cX0_sortByLowerEdges 6 none 2 44 0 0 [.ref q, .int (bI x)] (ov T N P) sz (fun v M' z' => v = none ∧ M' = ov T N (sA P q (srtF (fun c => lowE P c x) (pA P q) (pS P q) (pS P q - 1))) ∧ sz = z') := by
  refine Ct.ofX hl (by decide) (Nat.le_of_ble_eq_true rfl) ?_
  intro X hl0 hT0 hD0 hlt hX hF
  subst hl0; subst hT0; subst hD0
  have outer : ∀ m, m ≤ (pS P q - 1) → ∀ g, g = srtF (fun c => lowE P c x) (pA P q) (pS P q) m → Kids P g (pS P q) (fun c => pH P c = some q) → G X 6 (ov (cxT X) N (sA P q g)) sz 0 0 2 [(2, .int (nI (m + 1))), (0, .ref q), (1, .int (bI x))] [] := by
    refine loop_up ?_
    intro m ih hk g hg hkg
    refine g_iload_n hX dX0_sortByLowerEdges_2 0 rfl ?_
    refine g_aload_n hX dX0_sortByLowerEdges_3 1 rfl ?_
    refine g_get (ci := 0) hX rfl fin_X0 (ov_pc (P := (sA P q g)) hq) 3 (by decide) fl_X0_47 rfl dX0_sortByLowerEdges_4 ?_
    refine g_icmp_ge hX 69 dX0_sortByLowerEdges_7 (by decide) (fun c7 => ?_) (fun c7 => ?_)
    · skip
      have hms : m = pS P q - 1 := by have h9 := (nI_leI (a := pS P q) (b := m + 1) (by omega) (by omega)).mp c7; omega
      subst hms
      subst hg
      exact hF none (ov (cxT X) N (sA P q (srtF (fun c => lowE P c x) (pA P q) (pS P q) (pS P q - 1)))) sz _ _ _ _ .return_ (⟨rfl, rfl, rfl⟩) (by omega) (by omega) ret_v dX0_sortByLowerEdges_69
    · skip
      have hms : m + 1 < pS P q := by have h9 := mt (nI_leI (a := pS P q) (b := m + 1) (by omega) (by omega)).mpr c7; omega
      refine g_aload_n hX dX0_sortByLowerEdges_10 1 rfl ?_
      refine g_iload_n hX dX0_sortByLowerEdges_11 0 rfl ?_
      refine g_iload_n hX dX0_sortByLowerEdges_12 2 rfl ?_
      refine g_callV [] hX (ct_lowerEdgeAt hX.st sz hw (P := sA P q g) (q := q) (r := (g (m + 1)).getD 0) (p := (m + 1)) hq (hkg (m + 1) (show (m + 1) < pS P q by omega)).2.1 (show (m + 1) < pS P q by omega) (by rw [pAq_sA]; exact (hkg (m + 1) (show (m + 1) < pS P q by omega)).1) hs hs2 x) cw_X0_lowerEdgeAt cv_X0_lowerEdgeAt lk_X0_70 (ci := 0) rfl rfl (ov_pc (P := (sA P q g)) hq) ⟨by omega, by omega⟩ ⟨by omega, by omega⟩ (Nat.le_of_ble_eq_true rfl) rfl dX0_sortByLowerEdges_13 rfl (fun v13 M13 z13 hp13 hz13 hd13 => ?_)
      obtain ⟨rfl, rfl, rfl⟩ := hp13
      show G X _ (ov (cxT X) N (sA P q g)) sz (0 + 0) (0 + 0) 16 [(2, .int (nI (m + 1))), (0, .ref q), (1, .int (bI x))] [.int (lowE P ((g (m + 1)).getD 0) x)]
      refine g_istore_n (L' := [(3, .int (lowE P ((g (m + 1)).getD 0) x)), (2, .int (nI (m + 1))), (0, .ref q), (1, .int (bI x))]) hX dX0_sortByLowerEdges_16 (by decide) rfl ?_
      refine g_iconst (v := 0) hX dX0_sortByLowerEdges_17 (by decide) ?_
      refine g_istore (L' := [(4, .int 0), (3, .int (lowE P ((g (m + 1)).getD 0) x)), (2, .int (nI (m + 1))), (0, .ref q), (1, .int (bI x))]) hX dX0_sortByLowerEdges_18 (by decide) rfl ?_
      have behind : G X 6 (ov (cxT X) N (sA P q g)) sz 0 0 43 [(4, .int (nI (posK (fun c => lowE P c x) g (m + 1) (m + 1) 0))), (2, .int (nI (m + 1))), (0, .ref q), (1, .int (bI x)), (3, .int (lowE P ((g (m + 1)).getD 0) x))] [] := by
        have hpos : (posK (fun c => lowE P c x) g (m + 1) (m + 1) 0) ≤ m + 1 := posK_le (m + 1) 0 (by omega)
        generalize hpe : (posK (fun c => lowE P c x) g (m + 1) (m + 1) 0) = pos at hpos ⊢
        refine g_aload_n hX dX0_sortByLowerEdges_43 2 rfl ?_
        refine g_iload_n hX dX0_sortByLowerEdges_44 1 rfl ?_
        refine g_callV [] hX (ct_takeOut hX.st sz hw (P := sA P q g) (q := q) (r := (g (m + 1)).getD 0) (p := m + 1) hq (hkg (m + 1) hms).2.1 hms (by rw [pAq_sA]; exact (hkg (m + 1) hms).1) hs hs2 (by rw [pAq_sA]; exact hkg.ch)) cw_X0_takeOut cv_X0_takeOut lk_X0_77 (ci := 0) rfl rfl (ov_pc (P := (sA P q g)) hq) ⟨by omega, by omega⟩ ⟨by omega, by omega⟩ (Nat.le_of_ble_eq_true rfl) rfl dX0_sortByLowerEdges_45 rfl (fun v45 M45 z45 hp45 hz45 hd45 => ?_)
        rw [pAq_sA] at hp45
        obtain ⟨rfl, rfl, rfl⟩ := hp45
        show G X _ (ov (cxT X) N (sH (sS (sA (sA P q g) q (remF g (pS P q) (m + 1))) q (pS P q - 1)) ((g (m + 1)).getD 0) none)) sz (0 + 0) (0 + 0) 48 [(4, .int (nI pos)), (2, .int (nI (m + 1))), (0, .ref q), (1, .int (bI x)), (3, .int (lowE P ((g (m + 1)).getD 0) x))] [.ref ((g (m + 1)).getD 0)]
        refine g_astore (L' := [(5, .ref ((g (m + 1)).getD 0)), (4, .int (nI pos)), (2, .int (nI (m + 1))), (0, .ref q), (1, .int (bI x)), (3, .int (lowE P ((g (m + 1)).getD 0) x))]) hX dX0_sortByLowerEdges_48 (by decide) rfl ?_
        refine g_aload hX dX0_sortByLowerEdges_50 0 rfl ?_
        refine g_ifnullR hX dX0_sortByLowerEdges_52 ?_
        refine g_aload_n hX dX0_sortByLowerEdges_55 3 rfl ?_
        refine g_iload hX dX0_sortByLowerEdges_56 1 rfl ?_
        refine g_aload hX dX0_sortByLowerEdges_58 0 rfl ?_
        refine g_callV [] hX (ct_insert hX.st sz hw (P := sH (sS (sA (sA P q g) q (remF g (pS P q) (m + 1))) q (pS P q - 1)) ((g (m + 1)).getD 0) none) (q := q) (r := (g (m + 1)).getD 0) (p := pos) hq (hkg (m + 1) hms).2.1 (by rw [show pS (sH (sS (sA (sA P q g) q (remF g (pS P q) (m + 1))) q (pS P q - 1)) ((g (m + 1)).getD 0) none) q = pS P q - 1 from pSq_sS _ _ _]; omega) (by rw [show pS (sH (sS (sA (sA P q g) q (remF g (pS P q) (m + 1))) q (pS P q - 1)) ((g (m + 1)).getD 0) none) q = pS P q - 1 from pSq_sS _ _ _]; show pS P q - 1 < pW P q; omega) hs2 (by rw [show pS (sH (sS (sA (sA P q g) q (remF g (pS P q) (m + 1))) q (pS P q - 1)) ((g (m + 1)).getD 0) none) q = pS P q - 1 from pSq_sS _ _ _, show pA (sH (sS (sA (sA P q g) q (remF g (pS P q) (m + 1))) q (pS P q - 1)) ((g (m + 1)).getD 0) none) q = remF g (pS P q) (m + 1) from pAq_sA _ _ _]; exact hkg.rem.ch)) cw_X0_insert cv_X0_insert lk_X0_58 (ci := 0) rfl rfl (ov_pc (P := (sH (sS (sA (sA P q g) q (remF g (pS P q) (m + 1))) q (pS P q - 1)) ((g (m + 1)).getD 0) none)) hq) ⟨by omega, by omega⟩ ⟨by omega, by omega⟩ (Nat.le_of_ble_eq_true rfl) rfl dX0_sortByLowerEdges_60 rfl (fun v60 M60 z60 hp60 hz60 hd60 => ?_)
        rw [show pS (sH (sS (sA (sA P q g) q (remF g (pS P q) (m + 1))) q (pS P q - 1)) ((g (m + 1)).getD 0) none) q = pS P q - 1 from pSq_sS _ _ _, show pA (sH (sS (sA (sA P q g) q (remF g (pS P q) (m + 1))) q (pS P q - 1)) ((g (m + 1)).getD 0) none) q = remF g (pS P q) (m + 1) from pAq_sA _ _ _, srt_fold rfl h0 (hkg (m + 1) hms).2.2] at hp60
        obtain ⟨rfl, rfl, rfl⟩ := hp60
        show G X _ (ov (cxT X) N (sA P q (insF (remF g (pS P q) (m + 1)) (pS P q - 1) pos ((g (m + 1)).getD 0)))) sz ((0 + 0) + 0) ((0 + 0) + 0) 63 [(5, .ref ((g (m + 1)).getD 0)), (4, .int (nI pos)), (2, .int (nI (m + 1))), (0, .ref q), (1, .int (bI x)), (3, .int (lowE P ((g (m + 1)).getD 0) x))] []
        refine g_iinc (v := nI (m + 1 + 1)) (L' := [(2, .int (nI (m + 1 + 1))), (5, .ref ((g (m + 1)).getD 0)), (4, .int (nI pos)), (0, .ref q), (1, .int (bI x)), (3, .int (lowE P ((g (m + 1)).getD 0) x))]) hX dX0_sortByLowerEdges_63 2 rfl (nI_1 _) (by decide) rfl ?_
        refine g_goto hX 2 dX0_sortByLowerEdges_66 (by decide) ?_
        refine g_sub [0, 3, 4] rfl ?_
        exact ih (m + 1) (by omega) (by omega) _ (by subst hpe; subst hg; rfl) (by subst hpe; exact hkg.srtS (fun c => lowE P c x) hms)
      have inner : ∀ p, p ≤ (m + 1) → posK (fun c => lowE P c x) g (m + 1) (m + 1 - p) p = (posK (fun c => lowE P c x) g (m + 1) (m + 1) 0) → G X 6 (ov (cxT X) N (sA P q g)) sz 0 0 20 [(4, .int (nI p)), (2, .int (nI (m + 1))), (0, .ref q), (1, .int (bI x)), (3, .int (lowE P ((g (m + 1)).getD 0) x))] [] := by
        refine loop_up ?_
        intro p ih hk hpp
        refine g_iload hX dX0_sortByLowerEdges_20 0 rfl ?_
        refine g_iload_n hX dX0_sortByLowerEdges_22 1 rfl ?_
        refine g_icmp_ge hX 43 dX0_sortByLowerEdges_23 (by decide) (fun c23 => ?_) (fun c23 => ?_)
        · skip
          have hpm : p = m + 1 := by have h9 := (nI_leI (a := m + 1) (b := p) (by omega) (by omega)).mp c23; omega
          rw [hpm, posK_end] at hpp
          rw [hpm.trans hpp]
          exact behind
        · skip
          have hpm : p < m + 1 := by have h9 := mt (nI_leI (a := m + 1) (b := p) (by omega) (by omega)).mpr c23; omega
          refine g_aload_n hX dX0_sortByLowerEdges_26 2 rfl ?_
          refine g_iload hX dX0_sortByLowerEdges_27 0 rfl ?_
          refine g_iload_n hX dX0_sortByLowerEdges_29 3 rfl ?_
          refine g_callV [] hX (ct_lowerEdgeAt hX.st sz hw (P := sA P q g) (q := q) (r := (g p).getD 0) (p := p) hq (hkg p (show p < pS P q by omega)).2.1 (show p < pS P q by omega) (by rw [pAq_sA]; exact (hkg p (show p < pS P q by omega)).1) hs hs2 x) cw_X0_lowerEdgeAt cv_X0_lowerEdgeAt lk_X0_70 (ci := 0) rfl rfl (ov_pc (P := (sA P q g)) hq) ⟨by omega, by omega⟩ ⟨by omega, by omega⟩ (Nat.le_of_ble_eq_true rfl) rfl dX0_sortByLowerEdges_30 rfl (fun v30 M30 z30 hp30 hz30 hd30 => ?_)
          obtain ⟨rfl, rfl, rfl⟩ := hp30
          show G X _ (ov (cxT X) N (sA P q g)) sz (0 + 0) (0 + 0) 33 [(4, .int (nI p)), (2, .int (nI (m + 1))), (0, .ref q), (1, .int (bI x)), (3, .int (lowE P ((g (m + 1)).getD 0) x))] [.int (lowE P ((g p).getD 0) x)]
          refine g_iload_n hX dX0_sortByLowerEdges_33 4 rfl ?_
          refine g_icmp_gt hX 43 dX0_sortByLowerEdges_34 (by decide) (fun c34 => ?_) (fun c34 => ?_)
          · skip
            rw [posK_stop (key := fun c => lowE P c x) (f := g) (n := m + 1) (p := p) (Int32.not_le.mpr c34)] at hpp
            refine g_sub [0, 1, 2, 3, 4] rfl ?_
            rw [hpp]
            exact behind
          · skip
            refine g_iinc (v := nI (p + 1)) (L' := [(4, .int (nI (p + 1))), (2, .int (nI (m + 1))), (0, .ref q), (1, .int (bI x)), (3, .int (lowE P ((g (m + 1)).getD 0) x))]) hX dX0_sortByLowerEdges_37 0 rfl (nI_1 _) (by decide) rfl ?_
            refine g_goto hX 20 dX0_sortByLowerEdges_40 (by decide) ?_
            refine g_sub [0, 1, 2, 3, 4] rfl ?_
            exact ih (p + 1) (by omega) (by omega) (by rw [← posK_go (key := fun c => lowE P c x) (f := g) (n := m + 1) (p := p) hpm (Int32.not_lt.mp c34)]; exact hpp)
      refine g_sub [0, 2, 3, 4, 1] rfl ?_
      exact inner 0 (Nat.zero_le _) (by rw [Nat.sub_zero])
  show G X 6 (ov (cxT X) N P) sz 0 0 0 [(0, .ref q), (1, .int (bI x))] []
  refine g_iconst (v := 1) hX dX0_sortByLowerEdges_0 (by decide) ?_
  refine g_istore_n (L' := [(2, .int 1), (0, .ref q), (1, .int (bI x))]) hX dX0_sortByLowerEdges_1 (by decide) rfl ?_
  refine g_sub [0, 1, 2] rfl ?_
  have h9 := outer 0 (Nat.zero_le _) (pA P q) rfl hc
  rw [sA_self] at h9
  exact h9
