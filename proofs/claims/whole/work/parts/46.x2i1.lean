set_option maxHeartbeats 4000000 in
set_option maxRecDepth 100000 in
theorem cr_told {l : Launch} (hl : l.stackTraces = false) {T : CT3} {D : va_G} {N : AH} {o : Nat} {S : RS} (sz : Nat) {h : Nat} (ht : TrR S h (rC S 4)) (hh : h < 58) (hc : rC S 1 ≤ 60) (hd : ∀ a, a < 60 → rD S a ≤ 1) {a : Nat} (hac : a < rC S 1) {fr ps : Nat → Nat} (hp : rD S a = 1 → Pth S h a fr ps ∧ fr 0 = rC S 4) {w : Nat} (hw : w ≤ 8) : Ct l T D yX2_told cX2_told 3 (some .int) (h + 7) (27 * h + 150) 0 0 [.ref o, .int (nI a), .int (nI w)] (ovR T N o S) sz (fun v M' z' => v = some (.int (alR S h fr ps a w)) ∧ (∃ S', M' = ovR T N o S' ∧ SE S S' ∧ rC S' 0 = 0) ∧ sz = z') := by
  refine Ct.ofX hl (by decide) (Nat.le_of_ble_eq_true rfl) ?_
  intro X hl0 hT0 hD0 hlt hX hF
  subst hl0; subst hT0; subst hD0
  show G X 3 (ovR (cxT X) N o S) sz 0 0 0 [(0, .ref o), (1, .int (nI a)), (2, .int (nI w))] []
  refine g_aload_n hX dX2_told_0 0 rfl ?_
  refine g_iconst (v := 0) hX dX2_told_1 (by decide) ?_
  refine g_put (ci := 2) hX rfl fld_X2 (ovR_o (S := S)) 0 (by decide) fl_X2_38 rfl rfl rfl (Nat.le_of_ble_eq_true rfl) dX2_told_2 ?_
  refine g_eqM (ovR_uC0 0 rfl) ?_
  refine g_aload_n hX dX2_told_5 0 rfl ?_
  refine g_iload_n hX dX2_told_6 1 rfl ?_
  refine g_callV [] hX (cr_isAllotment hX.st sz (S := uC S 0 0) (nI a)) cw_X2_isAllotment cv_X2_isAllotment lk_X2_128 (ci := 2) rfl rfl ovR_o ⟨by omega, by omega⟩ ⟨by omega, by omega⟩ (Nat.le_of_ble_eq_true rfl) rfl dX2_told_7 rfl (fun v7 M7 z7 hp7 hz7 hd7 => ?_)
  rw [show isA (uC S 0 0) (nI a) = true from isA_n hac hc] at hp7
  obtain ⟨rfl, rfl, rfl⟩ := hp7
  show G X _ (ovR (cxT X) N o (uC S 0 0)) sz (0 + 0) (0 + 0) 10 [(0, .ref o), (1, .int (nI a)), (2, .int (nI w))] [.int 1]
  refine g_if_eq hX 32 dX2_told_10 (by decide) (fun c10 => absurd c10 (by decide)) (fun _ => ?_)
  refine g_iload_n hX dX2_told_13 2 rfl ?_
  refine g_if_lt hX 32 dX2_told_14 (by decide) (fun c14 => absurd c14 (mt (nI_ltI (a := w) (b := 0) (by omega) (by omega)).mp (by omega))) (fun _ => ?_)
  refine g_iload_n hX dX2_told_17 2 rfl ?_
  refine g_bipush (v := 8) hX dX2_told_18 (by decide) ?_
  refine g_icmp_gt hX 32 dX2_told_20 (by decide) (fun c20 => absurd c20 (mt (nI_ltI (a := 8) (b := w) (by omega) (by omega)).mp (by omega))) (fun _ => ?_)
  refine g_aload_n hX dX2_told_23 0 rfl ?_
  refine g_iload_n hX dX2_told_24 1 rfl ?_
  refine g_iload_n hX dX2_told_25 2 rfl ?_
  refine g_callV [] hX (cr_allot hX.st sz (S := uC S 0 0) (h := h) (SE.tt (S' := uC S 0 0) (SE.rfl' S) ht) hh hc hd (a := a) (by omega) (fr := fr) (ps := ps) (fun h1 => ⟨SE.pth (S' := uC S 0 0) (SE.rfl' S) (hp h1).1, (hp h1).2⟩) w hw) cw_X2_allotmentTold cv_X2_allotmentTold lk_X2_141 (ci := 2) rfl rfl ovR_o ⟨by omega, by omega⟩ ⟨by omega, by omega⟩ (Nat.le_of_ble_eq_true rfl) rfl dX2_told_26 rfl (fun v26 M26 z26 hp26 hz26 hd26 => ?_)
  rw [SE.al (S' := uC S 0 0) (SE.rfl' S)] at hp26
  obtain ⟨rfl, ⟨S1, rfl, hs1, h01⟩, rfl⟩ := hp26
  show G X _ (ovR (cxT X) N o S1) sz ((0 + 0) + 0) ((0 + 0) + 0) 29 [(0, .ref o), (1, .int (nI a)), (2, .int (nI w))] [.int (alR S h fr ps a w)]
  refine g_goto hX 37 dX2_told_29 (by decide) ?_
  exact hF (some (.int (alR S h fr ps a w))) (ovR (cxT X) N o S1) sz _ _ _ _ .ireturn (⟨rfl, ⟨S1, rfl, SE.trans (SE.rfl' S) hs1, h01⟩, rfl⟩) (by omega) (by omega) ret_i dX2_told_37

set_option maxHeartbeats 4000000 in
set_option maxRecDepth 100000 in
theorem cr_told_no {l : Launch} (hl : l.stackTraces = false) {T : CT3} {D : va_G} {N : AH} {o : Nat} {S : RS} (sz : Nat) {x y : Int32} (hno : ¬ (isA S x = true ∧ 0 ≤ y ∧ y ≤ 8)) : Ct l T D yX2_told cX2_told 3 (some .int) 1 30 0 0 [.ref o, .int x, .int y] (ovR T N o S) sz (fun v M' z' => v = some (.int 0) ∧ M' = ovR T N o (uC (uC S 0 0) 0 1) ∧ sz = z') := by
  refine Ct.ofX hl (by decide) (Nat.le_of_ble_eq_true rfl) ?_
  intro X hl0 hT0 hD0 hlt hX hF
  subst hl0; subst hT0; subst hD0
  show G X 3 (ovR (cxT X) N o S) sz 0 0 0 [(0, .ref o), (1, .int x), (2, .int y)] []
  refine g_aload_n hX dX2_told_0 0 rfl ?_
  refine g_iconst (v := 0) hX dX2_told_1 (by decide) ?_
  refine g_put (ci := 2) hX rfl fld_X2 (ovR_o (S := S)) 0 (by decide) fl_X2_38 rfl rfl rfl (Nat.le_of_ble_eq_true rfl) dX2_told_2 ?_
  refine g_eqM (ovR_uC0 0 rfl) ?_
  refine g_aload_n hX dX2_told_5 0 rfl ?_
  refine g_iload_n hX dX2_told_6 1 rfl ?_
  refine g_callV [] hX (cr_isAllotment hX.st sz (S := uC S 0 0) x) cw_X2_isAllotment cv_X2_isAllotment lk_X2_128 (ci := 2) rfl rfl ovR_o ⟨by omega, by omega⟩ ⟨by omega, by omega⟩ (Nat.le_of_ble_eq_true rfl) rfl dX2_told_7 rfl (fun v7 M7 z7 hp7 hz7 hd7 => ?_)
  rw [show isA (uC S 0 0) x = isA S x from rfl] at hp7
  obtain ⟨rfl, rfl, rfl⟩ := hp7
  show G X _ (ovR (cxT X) N o (uC S 0 0)) sz (0 + 0) (0 + 0) 10 [(0, .ref o), (1, .int x), (2, .int y)] [.int (bI (isA S x))]
  refine g_if_eq hX 32 dX2_told_10 (by decide) (fun c10 => ?_) (fun c10 => ?_)
  · skip
    refine g_aload_n hX dX2_told_32 0 rfl ?_
    refine g_iconst (v := 1) hX dX2_told_33 (by decide) ?_
    refine g_callV [] hX (cr_no hX.st sz (S := uC S 0 0) 1) cw_X2_no cv_X2_no lk_X2_103 (ci := 2) rfl rfl ovR_o ⟨by omega, by omega⟩ ⟨by omega, by omega⟩ (Nat.le_of_ble_eq_true rfl) rfl dX2_told_34 rfl (fun v34 M34 z34 hp34 hz34 hd34 => ?_)
    obtain ⟨rfl, rfl, rfl⟩ := hp34
    show G X _ (ovR (cxT X) N o (uC (uC S 0 0) 0 1)) sz ((0 + 0) + 0) ((0 + 0) + 0) 37 [(0, .ref o), (1, .int x), (2, .int y)] [.int 0]
    exact hF (some (.int 0)) (ovR (cxT X) N o (uC (uC S 0 0) 0 1)) sz _ _ _ _ .ireturn (⟨rfl, rfl, rfl⟩) (by omega) (by omega) ret_i dX2_told_37
  · skip
    refine g_iload_n hX dX2_told_13 2 rfl ?_
    refine g_if_lt hX 32 dX2_told_14 (by decide) (fun c14 => ?_) (fun c14 => ?_)
    · skip
      refine g_aload_n hX dX2_told_32 0 rfl ?_
      refine g_iconst (v := 1) hX dX2_told_33 (by decide) ?_
      refine g_callV [] hX (cr_no hX.st sz (S := uC S 0 0) 1) cw_X2_no cv_X2_no lk_X2_103 (ci := 2) rfl rfl ovR_o ⟨by omega, by omega⟩ ⟨by omega, by omega⟩ (Nat.le_of_ble_eq_true rfl) rfl dX2_told_34 rfl (fun v34 M34 z34 hp34 hz34 hd34 => ?_)
      obtain ⟨rfl, rfl, rfl⟩ := hp34
      show G X _ (ovR (cxT X) N o (uC (uC S 0 0) 0 1)) sz ((0 + 0) + 0) ((0 + 0) + 0) 37 [(0, .ref o), (1, .int x), (2, .int y)] [.int 0]
      exact hF (some (.int 0)) (ovR (cxT X) N o (uC (uC S 0 0) 0 1)) sz _ _ _ _ .ireturn (⟨rfl, rfl, rfl⟩) (by omega) (by omega) ret_i dX2_told_37
    · skip
      refine g_iload_n hX dX2_told_17 2 rfl ?_
      refine g_bipush (v := 8) hX dX2_told_18 (by decide) ?_
      refine g_icmp_gt hX 32 dX2_told_20 (by decide) (fun c20 => ?_) (fun c20 => ?_)
      · skip
        refine g_aload_n hX dX2_told_32 0 rfl ?_
        refine g_iconst (v := 1) hX dX2_told_33 (by decide) ?_
        refine g_callV [] hX (cr_no hX.st sz (S := uC S 0 0) 1) cw_X2_no cv_X2_no lk_X2_103 (ci := 2) rfl rfl ovR_o ⟨by omega, by omega⟩ ⟨by omega, by omega⟩ (Nat.le_of_ble_eq_true rfl) rfl dX2_told_34 rfl (fun v34 M34 z34 hp34 hz34 hd34 => ?_)
        obtain ⟨rfl, rfl, rfl⟩ := hp34
        show G X _ (ovR (cxT X) N o (uC (uC S 0 0) 0 1)) sz ((0 + 0) + 0) ((0 + 0) + 0) 37 [(0, .ref o), (1, .int x), (2, .int y)] [.int 0]
        exact hF (some (.int 0)) (ovR (cxT X) N o (uC (uC S 0 0) 0 1)) sz _ _ _ _ .ireturn (⟨rfl, rfl, rfl⟩) (by omega) (by omega) ret_i dX2_told_37
      · skip
        exact absurd ⟨bI_1 c10, Int32.not_lt.mp c14, Int32.not_lt.mp c20⟩ hno

set_option maxHeartbeats 4000000 in
set_option maxRecDepth 100000 in
theorem cr_way {l : Launch} (hl : l.stackTraces = false) {T : CT3} {D : va_G} {N : AH} {o : Nat} {S : RS} (sz : Nat) {h : Nat} (ht : TrR S h (rC S 4)) (hh : h < 58) (hc : rC S 1 ≤ 60) (hd : ∀ a, a < 60 → rD S a ≤ 1) {a : Nat} (hac : a < rC S 1) {fr ps : Nat → Nat} (hp : rD S a = 1 → Pth S h a fr ps ∧ fr 0 = rC S 4) (y : Nat) (hy : y < 2147483648) : Ct l T D yX2_way cX2_way 3 (some .int) (h + 7) (27 * h + 150) 0 0 [.ref o, .int (nI a), .int (nI y)] (ovR T N o S) sz (fun v M' z' => v = some (.int (if rD S a = 0 then -1 else if y < h then nI (ps y) else -1)) ∧ (∃ S', M' = ovR T N o S' ∧ SE S S' ∧ rC S' 0 = 0) ∧ sz = z') := by
  refine Ct.ofX hl (by decide) (Nat.le_of_ble_eq_true rfl) ?_
  intro X hl0 hT0 hD0 hlt hX hF
  subst hl0; subst hT0; subst hD0
  have htf := ht.f
  show G X 3 (ovR (cxT X) N o S) sz 0 0 0 [(0, .ref o), (1, .int (nI a)), (2, .int (nI y))] []
  refine g_aload_n hX dX2_way_0 0 rfl ?_
  refine g_iconst (v := 0) hX dX2_way_1 (by decide) ?_
  refine g_put (ci := 2) hX rfl fld_X2 (ovR_o (S := S)) 0 (by decide) fl_X2_38 rfl rfl rfl (Nat.le_of_ble_eq_true rfl) dX2_way_2 ?_
  refine g_eqM (ovR_uC0 0 rfl) ?_
  refine g_aload_n hX dX2_way_5 0 rfl ?_
  refine g_iload_n hX dX2_way_6 1 rfl ?_
  refine g_callV [] hX (cr_isAllotment hX.st sz (S := uC S 0 0) (nI a)) cw_X2_isAllotment cv_X2_isAllotment lk_X2_128 (ci := 2) rfl rfl ovR_o ⟨by omega, by omega⟩ ⟨by omega, by omega⟩ (Nat.le_of_ble_eq_true rfl) rfl dX2_way_7 rfl (fun v7 M7 z7 hp7 hz7 hd7 => ?_)
  rw [show isA (uC S 0 0) (nI a) = true from isA_n hac hc] at hp7
  obtain ⟨rfl, rfl, rfl⟩ := hp7
  show G X _ (ovR (cxT X) N o (uC S 0 0)) sz (0 + 0) (0 + 0) 10 [(0, .ref o), (1, .int (nI a)), (2, .int (nI y))] [.int 1]
  refine g_if_eq hX 17 dX2_way_10 (by decide) (fun c10 => absurd c10 (by decide)) (fun _ => ?_)
  refine g_iload_n hX dX2_way_13 2 rfl ?_
  refine g_if_ge hX 23 dX2_way_14 (by decide) (fun _ => ?_) (fun c14 => absurd ((nI_leI (a := 0) (b := y) (by omega) (by omega)).mpr (by omega)) c14)
  refine g_aload_n hX dX2_way_23 0 rfl ?_
  refine g_get (ci := 2) hX rfl fin_X2 (ovR_o (S := (uC S 0 0))) 4 (by decide) fl_X2_13 rfl dX2_way_24 ?_
  refine g_iload_n hX dX2_way_27 1 rfl ?_
  refine g_iald hX (ovR_at (S := (uC S 0 0)) 2 rfl) a rfl (by omega) (by decide) dX2_way_28 ?_
  refine g_if_ne hX 34 dX2_way_29 (by decide) (fun c29 => ?_) (fun c29 => ?_)
  · skip
    have h9 : ¬ rD S a = 0 := fun e => c29 (by show nI (rD S a) = 0; rw [e]; rfl)
    have hd1 : rD S a = 1 := by have h8 := hd a (by omega); omega
    obtain ⟨hpp, hfr⟩ := hp hd1
    refine g_aload_n hX dX2_way_34 0 rfl ?_
    refine g_aload_n hX dX2_way_35 0 rfl ?_
    refine g_get (ci := 2) hX rfl fin_X2 (ovR_o (S := (uC S 0 0))) 6 (by decide) fl_X2_80 rfl dX2_way_36 ?_
    refine g_iload_n hX dX2_way_39 1 rfl ?_
    refine g_iconst (v := 0) hX dX2_way_40 (by decide) ?_
    refine g_callV [] hX (cr_find hX.st sz h (rC S 4) a 0 fr ps (uC S 0 0) (SE.tr (S' := uC S 0 0) (SE.rfl' S) ht) (SE.pth (S' := uC S 0 0) (SE.rfl' S) hpp) hfr (by omega) (by omega)) cw_X2_find cv_X2_find lk_X2_125 (ci := 2) rfl rfl ovR_o ⟨by omega, by omega⟩ ⟨by omega, by omega⟩ (Nat.le_of_ble_eq_true rfl) rfl dX2_way_41 rfl (fun v41 M41 z41 hp41 hz41 hd41 => ?_)
    obtain ⟨rfl, ⟨w, p, rfl, hw1, hp1, hw3, hp3⟩, rfl⟩ := hp41
    show G X _ (ovR (cxT X) N o (uWP (uC S 0 0) (va_up (rC (uC S 0 0)) 5 (0 + h)) w p)) sz ((0 + 0) + 0) ((0 + 0) + 0) 44 [(0, .ref o), (1, .int (nI a)), (2, .int (nI y))] [.int (nI (ps h))]
    refine g_pop hX dX2_way_44 rfl ?_
    refine g_iload_n hX dX2_way_45 2 rfl ?_
    refine g_aload_n hX dX2_way_46 0 rfl ?_
    refine g_get (ci := 2) hX rfl fin_X2 (ovR_o (S := (uWP (uC S 0 0) (va_up (rC (uC S 0 0)) 5 (0 + h)) w p))) 12 (by decide) fl_X2_77 rfl dX2_way_47 ?_
    rw [show rC (uWP (uC S 0 0) (va_up (rC (uC S 0 0)) 5 (0 + h)) w p) 5 = h from (va_up_self (rC (uC S 0 0)) 5 (0 + h)).trans (Nat.zero_add h)]
    refine g_icmp_ge hX 62 dX2_way_50 (by decide) (fun c50 => ?_) (fun c50 => ?_)
    · skip
      have hyh : ¬ y < h := by have h9 := (nI_leI (a := h) (b := y) (by omega) (by omega)).mp c50; omega
      refine g_iconst (v := (-1)) hX dX2_way_62 (by decide) ?_
      exact hF (some (.int (-1))) (ovR (cxT X) N o (uWP (uC S 0 0) (va_up (rC (uC S 0 0)) 5 (0 + h)) w p)) sz _ _ _ _ .ireturn (⟨by rw [show (if rD S a = 0 then (-1 : Int32) else if y < h then nI (ps y) else -1) = _ from by rw [if_neg (by omega), if_neg hyh]], ⟨(uWP (uC S 0 0) (va_up (rC (uC S 0 0)) 5 (0 + h)) w p), rfl, SE.rfl' S, rfl⟩, rfl⟩) (by omega) (by omega) ret_i dX2_way_63
    · skip
      have hyh : y < h := by have h9 := mt (nI_leI (a := h) (b := y) (by omega) (by omega)).mpr c50; omega
      have hpy := hp3 y hyh
      rw [Nat.zero_add] at hpy
      refine g_aload_n hX dX2_way_53 0 rfl ?_
      refine g_get (ci := 2) hX rfl fin_X2 (ovR_o (S := (uWP (uC S 0 0) (va_up (rC (uC S 0 0)) 5 (0 + h)) w p))) 11 (by decide) fl_X2_32 rfl dX2_way_54 ?_
      refine g_iload_n hX dX2_way_57 2 rfl ?_
      refine g_iald hX (ovR_at (S := (uWP (uC S 0 0) (va_up (rC (uC S 0 0)) 5 (0 + h)) w p)) 7 rfl) y rfl (by omega) (by decide) dX2_way_58 ?_
      rw [show rP (uWP (uC S 0 0) (va_up (rC (uC S 0 0)) 5 (0 + h)) w p) y = ps y from hpy]
      refine g_goto hX 63 dX2_way_59 (by decide) ?_
      exact hF (some (.int (nI (ps y)))) (ovR (cxT X) N o (uWP (uC S 0 0) (va_up (rC (uC S 0 0)) 5 (0 + h)) w p)) sz _ _ _ _ .ireturn (⟨by rw [show (if rD S a = 0 then (-1 : Int32) else if y < h then nI (ps y) else -1) = _ from by rw [if_neg (by omega), if_pos hyh]], ⟨(uWP (uC S 0 0) (va_up (rC (uC S 0 0)) 5 (0 + h)) w p), rfl, SE.rfl' S, rfl⟩, rfl⟩) (by omega) (by omega) ret_i dX2_way_63
  · skip
    have hd0 : rD S a = 0 := (nI_eq (a := rD S a) (b := 0) (by have := hd a (by omega); omega) (by omega)).mp c29
    refine g_iconst (v := (-1)) hX dX2_way_32 (by decide) ?_
    exact hF (some (.int (-1))) (ovR (cxT X) N o (uC S 0 0)) sz _ _ _ _ .ireturn (⟨by rw [show (if rD S a = 0 then (-1 : Int32) else if y < h then nI (ps y) else -1) = _ from if_pos hd0], ⟨(uC S 0 0), rfl, SE.rfl' S, rfl⟩, rfl⟩) (by omega) (by omega) ret_i dX2_way_33

set_option maxHeartbeats 4000000 in
set_option maxRecDepth 100000 in
theorem cr_way_no {l : Launch} (hl : l.stackTraces = false) {T : CT3} {D : va_G} {N : AH} {o : Nat} {S : RS} (sz : Nat) {x y : Int32} (hno : ¬ (isA S x = true ∧ 0 ≤ y)) : Ct l T D yX2_way cX2_way 3 (some .int) 1 30 0 0 [.ref o, .int x, .int y] (ovR T N o S) sz (fun v M' z' => v = some (.int 0) ∧ M' = ovR T N o (uC (uC S 0 0) 0 1) ∧ sz = z') := by
  refine Ct.ofX hl (by decide) (Nat.le_of_ble_eq_true rfl) ?_
  intro X hl0 hT0 hD0 hlt hX hF
  subst hl0; subst hT0; subst hD0
  show G X 3 (ovR (cxT X) N o S) sz 0 0 0 [(0, .ref o), (1, .int x), (2, .int y)] []
  refine g_aload_n hX dX2_way_0 0 rfl ?_
  refine g_iconst (v := 0) hX dX2_way_1 (by decide) ?_
  refine g_put (ci := 2) hX rfl fld_X2 (ovR_o (S := S)) 0 (by decide) fl_X2_38 rfl rfl rfl (Nat.le_of_ble_eq_true rfl) dX2_way_2 ?_
  refine g_eqM (ovR_uC0 0 rfl) ?_
  refine g_aload_n hX dX2_way_5 0 rfl ?_
  refine g_iload_n hX dX2_way_6 1 rfl ?_
  refine g_callV [] hX (cr_isAllotment hX.st sz (S := uC S 0 0) x) cw_X2_isAllotment cv_X2_isAllotment lk_X2_128 (ci := 2) rfl rfl ovR_o ⟨by omega, by omega⟩ ⟨by omega, by omega⟩ (Nat.le_of_ble_eq_true rfl) rfl dX2_way_7 rfl (fun v7 M7 z7 hp7 hz7 hd7 => ?_)
  rw [show isA (uC S 0 0) x = isA S x from rfl] at hp7
  obtain ⟨rfl, rfl, rfl⟩ := hp7
  show G X _ (ovR (cxT X) N o (uC S 0 0)) sz (0 + 0) (0 + 0) 10 [(0, .ref o), (1, .int x), (2, .int y)] [.int (bI (isA S x))]
  refine g_if_eq hX 17 dX2_way_10 (by decide) (fun c10 => ?_) (fun c10 => ?_)
  · skip
    refine g_aload_n hX dX2_way_17 0 rfl ?_
    refine g_iconst (v := 1) hX dX2_way_18 (by decide) ?_
    refine g_callV [] hX (cr_no hX.st sz (S := uC S 0 0) 1) cw_X2_no cv_X2_no lk_X2_103 (ci := 2) rfl rfl ovR_o ⟨by omega, by omega⟩ ⟨by omega, by omega⟩ (Nat.le_of_ble_eq_true rfl) rfl dX2_way_19 rfl (fun v19 M19 z19 hp19 hz19 hd19 => ?_)
    obtain ⟨rfl, rfl, rfl⟩ := hp19
    show G X _ (ovR (cxT X) N o (uC (uC S 0 0) 0 1)) sz ((0 + 0) + 0) ((0 + 0) + 0) 22 [(0, .ref o), (1, .int x), (2, .int y)] [.int 0]
    exact hF (some (.int 0)) (ovR (cxT X) N o (uC (uC S 0 0) 0 1)) sz _ _ _ _ .ireturn (⟨rfl, rfl, rfl⟩) (by omega) (by omega) ret_i dX2_way_22
  · skip
    refine g_iload_n hX dX2_way_13 2 rfl ?_
    refine g_if_ge hX 23 dX2_way_14 (by decide) (fun c14 => ?_) (fun c14 => ?_)
    · skip
      exact absurd ⟨bI_1 c10, c14⟩ hno
    · skip
      refine g_aload_n hX dX2_way_17 0 rfl ?_
      refine g_iconst (v := 1) hX dX2_way_18 (by decide) ?_
      refine g_callV [] hX (cr_no hX.st sz (S := uC S 0 0) 1) cw_X2_no cv_X2_no lk_X2_103 (ci := 2) rfl rfl ovR_o ⟨by omega, by omega⟩ ⟨by omega, by omega⟩ (Nat.le_of_ble_eq_true rfl) rfl dX2_way_19 rfl (fun v19 M19 z19 hp19 hz19 hd19 => ?_)
      obtain ⟨rfl, rfl, rfl⟩ := hp19
      show G X _ (ovR (cxT X) N o (uC (uC S 0 0) 0 1)) sz ((0 + 0) + 0) ((0 + 0) + 0) 22 [(0, .ref o), (1, .int x), (2, .int y)] [.int 0]
      exact hF (some (.int 0)) (ovR (cxT X) N o (uC (uC S 0 0) 0 1)) sz _ _ _ _ .ireturn (⟨rfl, rfl, rfl⟩) (by omega) (by omega) ret_i dX2_way_22
