set_option maxHeartbeats 4000000 in
set_option maxRecDepth 100000 in
theorem cr_thrown {l : Launch} (hl : l.stackTraces = false) {T : CT3} {D : va_G} {N : AH} {o : Nat} {S : RS} (sz : Nat) : Ct l T D yX2_thrown cX2_thrown 1 (some .int) 0 0 0 0 [.ref o] (ovR T N o S) sz (fun v M' z' => v = some (.int (nI (rC S 0))) ∧ M' = ovR T N o S ∧ sz = z') := by
  refine Ct.ofX hl (by decide) (Nat.le_of_ble_eq_true rfl) ?_
  intro X hl0 hT0 hD0 hlt hX hF
  subst hl0; subst hT0; subst hD0
  show G X 1 (ovR (cxT X) N o S) sz 0 0 0 [(0, .ref o)] []
  refine g_aload_n hX dX2_thrown_0 0 rfl ?_
  refine g_get (ci := 2) hX rfl fin_X2 (ovR_o (S := S)) 0 (by decide) fl_X2_38 rfl dX2_thrown_1 ?_
  exact hF (some (.int (nI (rC S 0)))) (ovR (cxT X) N o S) sz _ _ _ _ .ireturn (⟨rfl, rfl, rfl⟩) (by omega) (by omega) ret_i dX2_thrown_4

set_option maxHeartbeats 4000000 in
set_option maxRecDepth 100000 in
theorem cr_no {l : Launch} (hl : l.stackTraces = false) {T : CT3} {D : va_G} {N : AH} {o : Nat} {S : RS} (sz : Nat) (n : Nat) : Ct l T D yX2_no cX2_no 2 (some .int) 0 0 0 0 [.ref o, .int (nI n)] (ovR T N o S) sz (fun v M' z' => v = some (.int 0) ∧ M' = ovR T N o (uC S 0 n) ∧ sz = z') := by
  refine Ct.ofX hl (by decide) (Nat.le_of_ble_eq_true rfl) ?_
  intro X hl0 hT0 hD0 hlt hX hF
  subst hl0; subst hT0; subst hD0
  show G X 2 (ovR (cxT X) N o S) sz 0 0 0 [(0, .ref o), (1, .int (nI n))] []
  refine g_aload_n hX dX2_no_0 0 rfl ?_
  refine g_iload_n hX dX2_no_1 1 rfl ?_
  refine g_put (ci := 2) hX rfl fld_X2 (ovR_o (S := S)) 0 (by decide) fl_X2_38 rfl rfl rfl (Nat.le_of_ble_eq_true rfl) dX2_no_2 ?_
  refine g_eqM (ovR_uC0 n rfl) ?_
  refine g_iconst (v := 0) hX dX2_no_5 (by decide) ?_
  exact hF (some (.int 0)) (ovR (cxT X) N o (uC S 0 n)) sz _ _ _ _ .ireturn (⟨rfl, rfl, rfl⟩) (by omega) (by omega) ret_i dX2_no_6

set_option maxHeartbeats 4000000 in
set_option maxRecDepth 100000 in
theorem cr_isAllotment {l : Launch} (hl : l.stackTraces = false) {T : CT3} {D : va_G} {N : AH} {o : Nat} {S : RS} (sz : Nat) (n : Int32) : Ct l T D yX2_isAllotment cX2_isAllotment 2 (some .boolean) 0 0 0 0 [.ref o, .int n] (ovR T N o S) sz (fun v M' z' => v = some (.int (bI (isA S n))) ∧ M' = ovR T N o S ∧ sz = z') := by
  refine Ct.ofX hl (by decide) (Nat.le_of_ble_eq_true rfl) ?_
  intro X hl0 hT0 hD0 hlt hX hF
  subst hl0; subst hT0; subst hD0
  show G X 2 (ovR (cxT X) N o S) sz 0 0 0 [(0, .ref o), (1, .int n)] []
  refine g_iload_n hX dX2_isAllotment_0 1 rfl ?_
  refine g_if_lt hX 16 dX2_isAllotment_1 (by decide) (fun c1 => ?_) (fun c1 => ?_)
  · skip
    refine g_iconst (v := 0) hX dX2_isAllotment_16 (by decide) ?_
    exact hF (some (.int 0)) (ovR (cxT X) N o S) sz _ _ _ _ .ireturn (⟨by unfold isA; rw [decide_eq_false (Int32.not_le.mpr c1)]; rfl, rfl, rfl⟩) (by omega) (by omega) (ret_b (by decide)) dX2_isAllotment_17
  · skip
    refine g_iload_n hX dX2_isAllotment_4 1 rfl ?_
    refine g_aload_n hX dX2_isAllotment_5 0 rfl ?_
    refine g_get (ci := 2) hX rfl fin_X2 (ovR_o (S := S)) 1 (by decide) fl_X2_41 rfl dX2_isAllotment_6 ?_
    refine g_icmp_ge hX 16 dX2_isAllotment_9 (by decide) (fun c9 => ?_) (fun c9 => ?_)
    · skip
      refine g_iconst (v := 0) hX dX2_isAllotment_16 (by decide) ?_
      exact hF (some (.int 0)) (ovR (cxT X) N o S) sz _ _ _ _ .ireturn (⟨by unfold isA; rw [decide_eq_true (Int32.not_lt.mp c1), decide_eq_false (Int32.not_lt.mpr c9)]; rfl, rfl, rfl⟩) (by omega) (by omega) (ret_b (by decide)) dX2_isAllotment_17
    · skip
      refine g_iconst (v := 1) hX dX2_isAllotment_12 (by decide) ?_
      refine g_goto hX 17 dX2_isAllotment_13 (by decide) ?_
      exact hF (some (.int 1)) (ovR (cxT X) N o S) sz _ _ _ _ .ireturn (⟨by unfold isA; rw [decide_eq_true (Int32.not_lt.mp c1), decide_eq_true (Int32.not_le.mp c9)]; rfl, rfl, rfl⟩) (by omega) (by omega) (ret_b (by decide)) dX2_isAllotment_17

set_option maxHeartbeats 4000000 in
set_option maxRecDepth 100000 in
theorem cr_isRect {l : Launch} (hl : l.stackTraces = false) {T : CT3} {D : va_G} {M : AH} (sz : Nat) (x1 y1 x2 y2 : Int32) : Ct l T D yX2_isRect cX2_isRect 4 (some .boolean) 0 0 0 0 [.int x1, .int y1, .int x2, .int y2] M sz (fun v M' z' => v = some (.int (bI (isR x1 y1 x2 y2))) ∧ M' = M ∧ sz = z') := by
  refine Ct.ofX hl (by decide) (Nat.le_of_ble_eq_true rfl) ?_
  intro X hl0 hT0 hD0 hlt hX hF
  subst hl0; subst hT0; subst hD0
  show G X 4 M sz 0 0 0 [(0, .int x1), (1, .int y1), (2, .int x2), (3, .int y2)] []
  refine g_iload_n hX dX2_isRect_0 0 rfl ?_
  refine g_if_lt hX 34 dX2_isRect_1 (by decide) (fun c1 => ?_) (fun c1 => ?_)
  · skip
    refine g_iconst (v := 0) hX dX2_isRect_34 (by decide) ?_
    exact hF (some (.int 0)) M sz _ _ _ _ .ireturn (⟨by rw [isR_1 c1]; rfl, rfl, rfl⟩) (by omega) (by omega) (ret_b (by decide)) dX2_isRect_35
  · skip
    refine g_iload_n hX dX2_isRect_4 1 rfl ?_
    refine g_if_lt hX 34 dX2_isRect_5 (by decide) (fun c5 => ?_) (fun c5 => ?_)
    · skip
      refine g_iconst (v := 0) hX dX2_isRect_34 (by decide) ?_
      exact hF (some (.int 0)) M sz _ _ _ _ .ireturn (⟨by rw [isR_2 c5]; rfl, rfl, rfl⟩) (by omega) (by omega) (ret_b (by decide)) dX2_isRect_35
    · skip
      refine g_iload_n hX dX2_isRect_8 2 rfl ?_
      refine g_bipush (v := 99) hX dX2_isRect_9 (by decide) ?_
      refine g_icmp_gt hX 34 dX2_isRect_11 (by decide) (fun c11 => ?_) (fun c11 => ?_)
      · skip
        refine g_iconst (v := 0) hX dX2_isRect_34 (by decide) ?_
        exact hF (some (.int 0)) M sz _ _ _ _ .ireturn (⟨by rw [isR_3 c11]; rfl, rfl, rfl⟩) (by omega) (by omega) (ret_b (by decide)) dX2_isRect_35
      · skip
        refine g_iload_n hX dX2_isRect_14 3 rfl ?_
        refine g_bipush (v := 99) hX dX2_isRect_15 (by decide) ?_
        refine g_icmp_gt hX 34 dX2_isRect_17 (by decide) (fun c17 => ?_) (fun c17 => ?_)
        · skip
          refine g_iconst (v := 0) hX dX2_isRect_34 (by decide) ?_
          exact hF (some (.int 0)) M sz _ _ _ _ .ireturn (⟨by rw [isR_4 c17]; rfl, rfl, rfl⟩) (by omega) (by omega) (ret_b (by decide)) dX2_isRect_35
        · skip
          refine g_iload_n hX dX2_isRect_20 0 rfl ?_
          refine g_iload_n hX dX2_isRect_21 2 rfl ?_
          refine g_icmp_gt hX 34 dX2_isRect_22 (by decide) (fun c22 => ?_) (fun c22 => ?_)
          · skip
            refine g_iconst (v := 0) hX dX2_isRect_34 (by decide) ?_
            exact hF (some (.int 0)) M sz _ _ _ _ .ireturn (⟨by rw [isR_5 c22]; rfl, rfl, rfl⟩) (by omega) (by omega) (ret_b (by decide)) dX2_isRect_35
          · skip
            refine g_iload_n hX dX2_isRect_25 1 rfl ?_
            refine g_iload_n hX dX2_isRect_26 3 rfl ?_
            refine g_icmp_gt hX 34 dX2_isRect_27 (by decide) (fun c27 => ?_) (fun c27 => ?_)
            · skip
              refine g_iconst (v := 0) hX dX2_isRect_34 (by decide) ?_
              exact hF (some (.int 0)) M sz _ _ _ _ .ireturn (⟨by rw [isR_6 c27]; rfl, rfl, rfl⟩) (by omega) (by omega) (ret_b (by decide)) dX2_isRect_35
            · skip
              refine g_iconst (v := 1) hX dX2_isRect_30 (by decide) ?_
              refine g_goto hX 35 dX2_isRect_31 (by decide) ?_
              exact hF (some (.int 1)) M sz _ _ _ _ .ireturn (⟨by rw [isR_t c1 c5 c11 c17 c22 c27]; rfl, rfl, rfl⟩) (by omega) (by omega) (ret_b (by decide)) dX2_isRect_35

set_option maxHeartbeats 4000000 in
set_option maxRecDepth 100000 in
theorem cr_take {l : Launch} (hl : l.stackTraces = false) {T : CT3} {D : va_G} {N : AH} {o : Nat} {S : RS} (sz : Nat) (x1 y1 x2 y2 : Int32) : Ct l T D yX2_take cX2_take 5 none 0 0 0 0 [.ref o, .int x1, .int y1, .int x2, .int y2] (ovR T N o S) sz (fun v M' z' => v = none ∧ M' = ovR T N o (tkR S x1 y1 x2 y2) ∧ sz = z') := by
  refine Ct.ofX hl (by decide) (Nat.le_of_ble_eq_true rfl) ?_
  intro X hl0 hT0 hD0 hlt hX hF
  subst hl0; subst hT0; subst hD0
  show G X 5 (ovR (cxT X) N o S) sz 0 0 0 [(0, .ref o), (1, .int x1), (2, .int y1), (3, .int x2), (4, .int y2)] []
  refine g_aload_n hX dX2_take_0 0 rfl ?_
  refine g_get (ci := 2) hX rfl fin_X2 (ovR_o (S := S)) 13 (by decide) fl_X2_35 rfl dX2_take_1 ?_
  refine g_iconst (v := 0) hX dX2_take_4 (by decide) ?_
  refine g_iload_n hX dX2_take_5 1 rfl ?_
  refine g_iast hX (ovR_at (S := S) 8 rfl) 0 rfl (by omega) (by decide) dX2_take_6 ?_
  refine g_eqM (ovR_uR 0 x1) ?_
  refine g_aload_n hX dX2_take_7 0 rfl ?_
  refine g_get (ci := 2) hX rfl fin_X2 (ovR_o (S := (uR S 0 x1))) 13 (by decide) fl_X2_35 rfl dX2_take_8 ?_
  refine g_iconst (v := 1) hX dX2_take_11 (by decide) ?_
  refine g_iload_n hX dX2_take_12 2 rfl ?_
  refine g_iast hX (ovR_at (S := (uR S 0 x1)) 8 rfl) 1 rfl (by omega) (by decide) dX2_take_13 ?_
  refine g_eqM (ovR_uR 1 y1) ?_
  refine g_aload_n hX dX2_take_14 0 rfl ?_
  refine g_get (ci := 2) hX rfl fin_X2 (ovR_o (S := (uR (uR S 0 x1) 1 y1))) 13 (by decide) fl_X2_35 rfl dX2_take_15 ?_
  refine g_iconst (v := 2) hX dX2_take_18 (by decide) ?_
  refine g_iload_n hX dX2_take_19 3 rfl ?_
  refine g_iast hX (ovR_at (S := (uR (uR S 0 x1) 1 y1)) 8 rfl) 2 rfl (by omega) (by decide) dX2_take_20 ?_
  refine g_eqM (ovR_uR 2 x2) ?_
  refine g_aload_n hX dX2_take_21 0 rfl ?_
  refine g_get (ci := 2) hX rfl fin_X2 (ovR_o (S := (uR (uR (uR S 0 x1) 1 y1) 2 x2))) 13 (by decide) fl_X2_35 rfl dX2_take_22 ?_
  refine g_iconst (v := 3) hX dX2_take_25 (by decide) ?_
  refine g_iload hX dX2_take_26 4 rfl ?_
  refine g_iast hX (ovR_at (S := (uR (uR (uR S 0 x1) 1 y1) 2 x2)) 8 rfl) 3 rfl (by omega) (by decide) dX2_take_28 ?_
  refine g_eqM (ovR_uR 3 y2) ?_
  exact hF none (ovR (cxT X) N o (uR (uR (uR (uR S 0 x1) 1 y1) 2 x2) 3 y2)) sz _ _ _ _ .return_ (⟨rfl, rfl, rfl⟩) (by omega) (by omega) ret_v dX2_take_29

set_option maxHeartbeats 4000000 in
set_option maxRecDepth 100000 in
theorem cr_held {l : Launch} (hl : l.stackTraces = false) {T : CT3} {D : va_G} {N : AH} {o : Nat} {S : RS} (sz : Nat) {f p : Nat} (hb : 5 * f + p < 2000) : Ct l T D yX2_held cX2_held 3 (some .int) 0 0 0 0 [.ref o, .int (nI f), .int (nI p)] (ovR T N o S) sz (fun v M' z' => v = some (.int (nI (rK S (5 * f + p)))) ∧ M' = ovR T N o S ∧ sz = z') := by
  refine Ct.ofX hl (by decide) (Nat.le_of_ble_eq_true rfl) ?_
  intro X hl0 hT0 hD0 hlt hX hF
  subst hl0; subst hT0; subst hD0
  show G X 3 (ovR (cxT X) N o S) sz 0 0 0 [(0, .ref o), (1, .int (nI f)), (2, .int (nI p))] []
  refine g_aload_n hX dX2_held_0 0 rfl ?_
  refine g_get (ci := 2) hX rfl fin_X2 (ovR_o (S := S)) 8 (by decide) fl_X2_23 rfl dX2_held_1 ?_
  refine g_iconst (v := 5) hX dX2_held_4 (by decide) ?_
  refine g_iload_n hX dX2_held_5 1 rfl ?_
  refine g_imul hX dX2_held_6 ?_
  refine g_iload_n hX dX2_held_7 2 rfl ?_
  refine g_iadd hX dX2_held_8 ?_
  refine g_iald hX (ovR_at (S := S) 4 rfl) (5 * f + p) (ix5 _ _) (by omega) (by decide) dX2_held_9 ?_
  exact hF (some (.int (nI (rK S (5 * f + p))))) (ovR (cxT X) N o S) sz _ _ _ _ .ireturn (⟨rfl, rfl, rfl⟩) (by omega) (by omega) ret_i dX2_held_10

set_option maxHeartbeats 4000000 in
set_option maxRecDepth 100000 in
theorem cr_edgeOf0 {l : Launch} (hl : l.stackTraces = false) {T : CT3} {D : va_G} {N : AH} {o : Nat} {S : RS} (sz : Nat) {f k s : Nat} (hf : f < 400) (hg : rG S f = 0) (hk : k < 5) (hx : rK S (5 * f + k) < 60) (hs : s < 4) : Ct l T D yX2_edgeOf cX2_edgeOf 5 (some .int) 1 22 0 0 [.ref o, .int (nI f), .int (nI k), .int (nI s)] (ovR T N o S) sz (fun v M' z' => v = some (.int (kidE S 0 (rK S (5 * f + k)) s)) ∧ M' = ovR T N o S ∧ sz = z') := by
  refine Ct.ofX hl (by decide) (Nat.le_of_ble_eq_true rfl) ?_
  intro X hl0 hT0 hD0 hlt hX hF
  subst hl0; subst hT0; subst hD0
  show G X 5 (ovR (cxT X) N o S) sz 0 0 0 [(0, .ref o), (1, .int (nI f)), (2, .int (nI k)), (3, .int (nI s))] []
  refine g_aload_n hX dX2_edgeOf_0 0 rfl ?_
  refine g_iload_n hX dX2_edgeOf_1 1 rfl ?_
  refine g_iload_n hX dX2_edgeOf_2 2 rfl ?_
  refine g_callV [] hX (cr_held hX.st sz (f := f) (p := k) (by omega)) cw_X2_held cv_X2_held lk_X2_44 (ci := 2) rfl rfl ovR_o ⟨by omega, by omega⟩ ⟨by omega, by omega⟩ (Nat.le_of_ble_eq_true rfl) rfl dX2_edgeOf_3 rfl (fun v3 M3 z3 hp3 hz3 hd3 => ?_)
  obtain ⟨rfl, rfl, rfl⟩ := hp3
  show G X _ (ovR (cxT X) N o S) sz (0 + 0) (0 + 0) 6 [(0, .ref o), (1, .int (nI f)), (2, .int (nI k)), (3, .int (nI s))] [.int (nI (rK S (5 * f + k)))]
  refine g_istore (L' := [(4, .int (nI (rK S (5 * f + k)))), (0, .ref o), (1, .int (nI f)), (2, .int (nI k)), (3, .int (nI s))]) hX dX2_edgeOf_6 (by decide) rfl ?_
  refine g_aload_n hX dX2_edgeOf_8 1 rfl ?_
  refine g_get (ci := 2) hX rfl fin_X2 (ovR_o (S := S)) 9 (by decide) fl_X2_26 rfl dX2_edgeOf_9 ?_
  refine g_iload_n hX dX2_edgeOf_12 2 rfl ?_
  refine g_iald hX (ovR_at (S := S) 5 rfl) f rfl (by omega) (by decide) dX2_edgeOf_13 ?_
  rw [hg]
  refine g_if_ne hX 31 dX2_edgeOf_14 (by decide) (fun c14 => absurd (by decide) c14) (fun _ => ?_)
  refine g_aload_n hX dX2_edgeOf_17 1 rfl ?_
  refine g_get (ci := 2) hX rfl fin_X2 (ovR_o (S := S)) 3 (by decide) fl_X2_9 rfl dX2_edgeOf_18 ?_
  refine g_iconst (v := 4) hX dX2_edgeOf_21 (by decide) ?_
  refine g_iload hX dX2_edgeOf_22 0 rfl ?_
  refine g_imul hX dX2_edgeOf_24 ?_
  refine g_iload_n hX dX2_edgeOf_25 4 rfl ?_
  refine g_iadd hX dX2_edgeOf_26 ?_
  refine g_iald hX (ovR_at (S := S) 1 rfl) (4 * (rK S (5 * f + k)) + s) (ix4 _ _) (by omega) (by decide) dX2_edgeOf_27 ?_
  refine g_goto hX 38 dX2_edgeOf_28 (by decide) ?_
  exact hF (some (.int (rE S (4 * (rK S (5 * f + k)) + s)))) (ovR (cxT X) N o S) sz _ _ _ _ .ireturn (⟨rfl, rfl, rfl⟩) (by omega) (by omega) ret_i dX2_edgeOf_38

set_option maxHeartbeats 4000000 in
set_option maxRecDepth 100000 in
theorem cr_edgeOfS {l : Launch} (hl : l.stackTraces = false) {T : CT3} {D : va_G} {N : AH} {o : Nat} {S : RS} (sz : Nat) {n f k s fr lo : Nat} (hf : f < 400) (hg : rG S f = n + 1) (hn : n < 1000) (hk : k < 5) (hE : ∀ {l : Launch} (_ : l.stackTraces = false) {T : CT3} {D : va_G} {N : AH} {o : Nat} (sz : Nat), Ct l T D yX2_edge cX2_edge 6 (some .int) fr lo 0 0 [.ref o, .int (nI (rK S (5 * f + k))), .int (nI s)] (ovR T N o S) sz (fun v M' z' => v = some (.int (edR S n (rK S (5 * f + k)) s)) ∧ M' = ovR T N o S ∧ sz = z')) : Ct l T D yX2_edgeOf cX2_edgeOf 5 (some .int) (fr + 1) (lo + 25) 0 0 [.ref o, .int (nI f), .int (nI k), .int (nI s)] (ovR T N o S) sz (fun v M' z' => v = some (.int (kidE S (n + 1) (rK S (5 * f + k)) s)) ∧ M' = ovR T N o S ∧ sz = z') := by
  refine Ct.ofX hl (by decide) (Nat.le_of_ble_eq_true rfl) ?_
  intro X hl0 hT0 hD0 hlt hX hF
  subst hl0; subst hT0; subst hD0
  show G X 5 (ovR (cxT X) N o S) sz 0 0 0 [(0, .ref o), (1, .int (nI f)), (2, .int (nI k)), (3, .int (nI s))] []
  refine g_aload_n hX dX2_edgeOf_0 0 rfl ?_
  refine g_iload_n hX dX2_edgeOf_1 1 rfl ?_
  refine g_iload_n hX dX2_edgeOf_2 2 rfl ?_
  refine g_callV [] hX (cr_held hX.st sz (f := f) (p := k) (by omega)) cw_X2_held cv_X2_held lk_X2_44 (ci := 2) rfl rfl ovR_o ⟨by omega, by omega⟩ ⟨by omega, by omega⟩ (Nat.le_of_ble_eq_true rfl) rfl dX2_edgeOf_3 rfl (fun v3 M3 z3 hp3 hz3 hd3 => ?_)
  obtain ⟨rfl, rfl, rfl⟩ := hp3
  show G X _ (ovR (cxT X) N o S) sz (0 + 0) (0 + 0) 6 [(0, .ref o), (1, .int (nI f)), (2, .int (nI k)), (3, .int (nI s))] [.int (nI (rK S (5 * f + k)))]
  refine g_istore (L' := [(4, .int (nI (rK S (5 * f + k)))), (0, .ref o), (1, .int (nI f)), (2, .int (nI k)), (3, .int (nI s))]) hX dX2_edgeOf_6 (by decide) rfl ?_
  refine g_aload_n hX dX2_edgeOf_8 1 rfl ?_
  refine g_get (ci := 2) hX rfl fin_X2 (ovR_o (S := S)) 9 (by decide) fl_X2_26 rfl dX2_edgeOf_9 ?_
  refine g_iload_n hX dX2_edgeOf_12 2 rfl ?_
  refine g_iald hX (ovR_at (S := S) 5 rfl) f rfl (by omega) (by decide) dX2_edgeOf_13 ?_
  rw [hg]
  refine g_if_ne hX 31 dX2_edgeOf_14 (by decide) (fun _ => ?_) (fun c14 => absurd c14 (nI_ne0 (by omega) (by omega)))
  refine g_aload_n hX dX2_edgeOf_31 1 rfl ?_
  refine g_iload hX dX2_edgeOf_32 0 rfl ?_
  refine g_iload_n hX dX2_edgeOf_34 4 rfl ?_
  refine g_callV [] hX (hE hX.st sz) cw_X2_edge cv_X2_edge lk_X2_47 (ci := 2) rfl rfl ovR_o ⟨by omega, by omega⟩ ⟨by omega, by omega⟩ (Nat.le_of_ble_eq_true rfl) rfl dX2_edgeOf_35 rfl (fun v35 M35 z35 hp35 hz35 hd35 => ?_)
  obtain ⟨rfl, rfl, rfl⟩ := hp35
  show G X _ (ovR (cxT X) N o S) sz ((0 + 0) + 0) ((0 + 0) + 0) 38 [(4, .int (nI (rK S (5 * f + k)))), (0, .ref o), (1, .int (nI f)), (2, .int (nI k)), (3, .int (nI s))] [.int (edR S n (rK S (5 * f + k)) s)]
  exact hF (some (.int (edR S n (rK S (5 * f + k)) s))) (ovR (cxT X) N o S) sz _ _ _ _ .ireturn (⟨rfl, rfl, rfl⟩) (by omega) (by omega) ret_i dX2_edgeOf_38

set_option maxHeartbeats 4000000 in
set_option maxRecDepth 100000 in
theorem cr_edge_of {l : Launch} (hl : l.stackTraces = false) {T : CT3} {D : va_G} {N : AH} {o : Nat} {S : RS} (sz : Nat) {n f s fr lo : Nat} (hf : f < 400) (hm : rM S f ≤ 5) (h0 : 0 < rM S f) (hs : s < 4) (hO : ∀ k, k < rM S f → ∀ {l : Launch} (_ : l.stackTraces = false) {T : CT3} {D : va_G} {N : AH} {o : Nat} (sz : Nat), Ct l T D yX2_edgeOf cX2_edgeOf 5 (some .int) fr lo 0 0 [.ref o, .int (nI f), .int (nI k), .int (nI s)] (ovR T N o S) sz (fun v M' z' => v = some (.int (kidE S n (rK S (5 * f + k)) s)) ∧ M' = ovR T N o S ∧ sz = z')) : Ct l T D yX2_edge cX2_edge 6 (some .int) (fr + 1) (lo + 24) 0 0 [.ref o, .int (nI f), .int (nI s)] (ovR T N o S) sz (fun v M' z' => v = some (.int (edR S n f s)) ∧ M' = ovR T N o S ∧ sz = z') := by
  refine Ct.ofX hl (by decide) (Nat.le_of_ble_eq_true rfl) ?_
  intro X hl0 hT0 hD0 hlt hX hF
  subst hl0; subst hT0; subst hD0
  have loop : ∀ k, k ≤ (rM S f - 1) → G X 6 (ovR (cxT X) N o S) sz 0 0 11 [(4, .int (nI (k + 1))), (3, .int (hulL (fun k => kidE S n (rK S (5 * f + k))) k s)), (0, .ref o), (1, .int (nI f)), (2, .int (nI s))] [] := by
    refine loop_up ?_
    intro k ih hk
    refine g_iload hX dX2_edge_11 0 rfl ?_
    refine g_aload_n hX dX2_edge_13 2 rfl ?_
    refine g_get (ci := 2) hX rfl fin_X2 (ovR_o (S := S)) 7 (by decide) fl_X2_20 rfl dX2_edge_14 ?_
    refine g_iload_n hX dX2_edge_17 3 rfl ?_
    refine g_iald hX (ovR_at (S := S) 3 rfl) f rfl (by omega) (by decide) dX2_edge_18 ?_
    refine g_icmp_ge hX 59 dX2_edge_19 (by decide) (fun c19 => ?_) (fun c19 => ?_)
    · skip
      have hke : k = rM S f - 1 := by have h9 := (nI_leI (a := rM S f) (b := k + 1) (by omega) (by omega)).mp c19; omega
      subst hke
      refine g_iload_n hX dX2_edge_59 1 rfl ?_
      exact hF (some (.int (hulL (fun k => kidE S n (rK S (5 * f + k))) (rM S f - 1) s))) (ovR (cxT X) N o S) sz _ _ _ _ .ireturn (⟨by rw [edR_eq], rfl, rfl⟩) (by omega) (by omega) ret_i dX2_edge_60
    · skip
      have hk2 : k + 1 < rM S f := by have h9 := mt (nI_leI (a := rM S f) (b := k + 1) (by omega) (by omega)).mpr c19; omega
      refine g_aload_n hX dX2_edge_22 2 rfl ?_
      refine g_iload_n hX dX2_edge_23 3 rfl ?_
      refine g_iload hX dX2_edge_24 0 rfl ?_
      refine g_iload_n hX dX2_edge_26 4 rfl ?_
      refine g_callV [] hX (hO (k + 1) (hk2) hX.st sz) cw_X2_edgeOf cv_X2_edgeOf lk_X2_50 (ci := 2) rfl rfl ovR_o ⟨by omega, by omega⟩ ⟨by omega, by omega⟩ (Nat.le_of_ble_eq_true rfl) rfl dX2_edge_27 rfl (fun v27 M27 z27 hp27 hz27 hd27 => ?_)
      obtain ⟨rfl, rfl, rfl⟩ := hp27
      show G X _ (ovR (cxT X) N o S) sz (0 + 0) (0 + 0) 30 [(4, .int (nI (k + 1))), (3, .int (hulL (fun k => kidE S n (rK S (5 * f + k))) k s)), (0, .ref o), (1, .int (nI f)), (2, .int (nI s))] [.int (kidE S n (rK S (5 * f + (k + 1))) s)]
      refine g_istore (L' := [(5, .int (kidE S n (rK S (5 * f + (k + 1))) s)), (4, .int (nI (k + 1))), (3, .int (hulL (fun k => kidE S n (rK S (5 * f + k))) k s)), (0, .ref o), (1, .int (nI f)), (2, .int (nI s))]) hX dX2_edge_30 (by decide) rfl ?_
      refine g_iload_n hX dX2_edge_32 5 rfl ?_
      refine g_iconst (v := 2) hX dX2_edge_33 (by decide) ?_
      refine g_icmp_ge hX 46 dX2_edge_34 (by decide) (fun c34 => ?_) (fun c34 => ?_)
      · skip
        refine g_iload_n hX dX2_edge_46 2 rfl ?_
        refine g_iload hX dX2_edge_47 0 rfl ?_
        refine g_maxI [] hX lk_X2_59 (by omega) (by omega) (Nat.le_of_ble_eq_true rfl) ⟨by omega, by omega⟩ dX2_edge_49 ?_
        refine g_istore_n (L' := [(3, .int (maxI (hulL (fun k => kidE S n (rK S (5 * f + k))) k s) (kidE S n (rK S (5 * f + (k + 1))) s))), (5, .int (kidE S n (rK S (5 * f + (k + 1))) s)), (4, .int (nI (k + 1))), (0, .ref o), (1, .int (nI f)), (2, .int (nI s))]) hX dX2_edge_52 (by decide) rfl ?_
        refine g_iinc (v := nI (k + 1 + 1)) (L' := [(4, .int (nI (k + 1 + 1))), (3, .int (maxI (hulL (fun k => kidE S n (rK S (5 * f + k))) k s) (kidE S n (rK S (5 * f + (k + 1))) s))), (5, .int (kidE S n (rK S (5 * f + (k + 1))) s)), (0, .ref o), (1, .int (nI f)), (2, .int (nI s))]) hX dX2_edge_53 2 rfl (nI_1 _) (by decide) rfl ?_
        refine g_goto hX 11 dX2_edge_56 (by decide) ?_
        have hs2 : ¬ s < 2 := by have h9 := (nI_leI (a := 2) (b := s) (by omega) (by omega)).mp c34; omega
        rw [← hulL_b (g := (fun k => kidE S n (rK S (5 * f + k)))) hs2]
        refine g_sub [0, 1, 3, 4, 5] rfl ?_
        exact ih (k + 1) (by omega) (by omega)
      · skip
        refine g_iload_n hX dX2_edge_37 2 rfl ?_
        refine g_iload hX dX2_edge_38 0 rfl ?_
        refine g_minI [] hX lk_X2_54 (by omega) (by omega) (Nat.le_of_ble_eq_true rfl) ⟨by omega, by omega⟩ dX2_edge_40 ?_
        refine g_goto hX 52 dX2_edge_43 (by decide) ?_
        refine g_istore_n (L' := [(3, .int (minI (hulL (fun k => kidE S n (rK S (5 * f + k))) k s) (kidE S n (rK S (5 * f + (k + 1))) s))), (5, .int (kidE S n (rK S (5 * f + (k + 1))) s)), (4, .int (nI (k + 1))), (0, .ref o), (1, .int (nI f)), (2, .int (nI s))]) hX dX2_edge_52 (by decide) rfl ?_
        refine g_iinc (v := nI (k + 1 + 1)) (L' := [(4, .int (nI (k + 1 + 1))), (3, .int (minI (hulL (fun k => kidE S n (rK S (5 * f + k))) k s) (kidE S n (rK S (5 * f + (k + 1))) s))), (5, .int (kidE S n (rK S (5 * f + (k + 1))) s)), (0, .ref o), (1, .int (nI f)), (2, .int (nI s))]) hX dX2_edge_53 2 rfl (nI_1 _) (by decide) rfl ?_
        refine g_goto hX 11 dX2_edge_56 (by decide) ?_
        have hs2 : s < 2 := by have h9 := mt (nI_leI (a := 2) (b := s) (by omega) (by omega)).mpr c34; omega
        rw [← hulL_s (g := (fun k => kidE S n (rK S (5 * f + k)))) hs2]
        refine g_sub [0, 1, 3, 4, 5] rfl ?_
        exact ih (k + 1) (by omega) (by omega)
  show G X 6 (ovR (cxT X) N o S) sz 0 0 0 [(0, .ref o), (1, .int (nI f)), (2, .int (nI s))] []
  refine g_aload_n hX dX2_edge_0 0 rfl ?_
  refine g_iload_n hX dX2_edge_1 1 rfl ?_
  refine g_iconst (v := 0) hX dX2_edge_2 (by decide) ?_
  refine g_iload_n hX dX2_edge_3 2 rfl ?_
  refine g_callV [] hX (hO 0 (h0) hX.st sz) cw_X2_edgeOf cv_X2_edgeOf lk_X2_50 (ci := 2) rfl rfl ovR_o ⟨by omega, by omega⟩ ⟨by omega, by omega⟩ (Nat.le_of_ble_eq_true rfl) rfl dX2_edge_4 rfl (fun v4 M4 z4 hp4 hz4 hd4 => ?_)
  obtain ⟨rfl, rfl, rfl⟩ := hp4
  show G X _ (ovR (cxT X) N o S) sz (0 + 0) (0 + 0) 7 [(0, .ref o), (1, .int (nI f)), (2, .int (nI s))] [.int (kidE S n (rK S (5 * f + 0)) s)]
  refine g_istore_n (L' := [(3, .int (kidE S n (rK S (5 * f + 0)) s)), (0, .ref o), (1, .int (nI f)), (2, .int (nI s))]) hX dX2_edge_7 (by decide) rfl ?_
  refine g_iconst (v := 1) hX dX2_edge_8 (by decide) ?_
  refine g_istore (L' := [(4, .int 1), (3, .int (kidE S n (rK S (5 * f + 0)) s)), (0, .ref o), (1, .int (nI f)), (2, .int (nI s))]) hX dX2_edge_9 (by decide) rfl ?_
  refine g_sub [0, 1, 2, 3, 4] rfl ?_
  exact loop 0 (Nat.zero_le _)

/-- an edge of a frame's hedge, by the level -/
theorem cr_edge : ∀ (n : Nat) {S : RS} {f s : Nat}, TrR S n f → 0 < rM S f → s < 4 → n < 1000 → ∀ {l : Launch} (_ : l.stackTraces = false) {T : CT3} {D : va_G} {N : AH} {o : Nat} (sz : Nat), Ct l T D yX2_edge cX2_edge 6 (some .int) (2 * n + 2) (49 * n + 46) 0 0 [.ref o, .int (nI f), .int (nI s)] (ovR T N o S) sz (fun v M' z' => v = some (.int (edR S n f s)) ∧ M' = ovR T N o S ∧ sz = z') := by
  intro n
  induction n with
  | zero =>
    intro S f s h h0 hs hn l hl T D N o sz
    exact cr_edge_of hl sz h.1 h.m h0 hs (fun k hk {_} hl {_} {_} {_} {_} sz => cr_edgeOf0 hl sz h.1 h.g (by have := h.m; omega) (h.2.2.2 k hk) hs)
  | succ n ih =>
    intro S f s h h0 hs hn l hl T D N o sz
    exact cr_edge_of (fr := 2 * n + 2 + 1) (lo := 49 * n + 46 + 25) hl sz h.f h.m h0 hs (fun k hk {_} hl {_} {_} {_} {_} sz => cr_edgeOfS hl sz h.f h.g (by omega) (by have := h.m; omega) (ih (h.k hk) (h.kn hk) hs (by omega)))
