set_option maxHeartbeats 1000000 in
set_option maxRecDepth 100000 in
theorem cr_go_no1 {l : Launch} (hl : l.stackTraces = false) {T : CT3} {D : va_G} {N : AH} {o : Nat} {S : RS} (sz : Nat) (x : Int32) (hno : isA S x = false) : Ct l T D yX2_go cX2_go 4 (some .int) 1 30 0 0 [.ref o, .int x] (ovR T N o S) sz (fun v M' z' => v = some (.int 0) ∧ M' = ovR T N o (uC (uC S 0 0) 0 1) ∧ sz = z') := by
  refine Ct.ofX hl (by decide) (Nat.le_of_ble_eq_true rfl) ?_
  intro X hl0 hT0 hD0 hlt hX hF
  subst hl0; subst hT0; subst hD0
  show G X 4 (ovR (cxT X) N o S) sz 0 0 0 [(0, .ref o), (1, .int x)] []
  refine g_aload_n hX dX2_go_0 0 rfl ?_
  refine g_iconst (v := 0) hX dX2_go_1 (by decide) ?_
  refine g_put (ci := 2) hX rfl fld_X2 (ovR_o (S := S)) 0 (by decide) fl_X2_38 rfl rfl rfl (Nat.le_of_ble_eq_true rfl) dX2_go_2 ?_
  refine g_eqM (ovR_uC0 0 rfl) ?_
  refine g_aload_n hX dX2_go_5 0 rfl ?_
  refine g_iload_n hX dX2_go_6 1 rfl ?_
  refine g_callV [] hX (cr_isAllotment hX.st sz (S := uC S 0 0) x) cw_X2_isAllotment cv_X2_isAllotment lk_X2_128 (ci := 2) rfl rfl ovR_o ⟨by omega, by omega⟩ ⟨by omega, by omega⟩ (Nat.le_of_ble_eq_true rfl) rfl dX2_go_7 rfl (fun v7 M7 z7 hp7 hz7 hd7 => ?_)
  rw [show isA (uC S 0 0) x = false from hno] at hp7
  obtain ⟨rfl, rfl, rfl⟩ := hp7
  show G X _ (ovR (cxT X) N o (uC S 0 0)) sz (0 + 0) (0 + 0) 10 [(0, .ref o), (1, .int x)] [.int 0]
  refine g_if_ne hX 19 dX2_go_10 (by decide) (fun c10 => absurd (by decide) c10) (fun _ => ?_)
  refine g_aload_n hX dX2_go_13 0 rfl ?_
  refine g_iconst (v := 1) hX dX2_go_14 (by decide) ?_
  refine g_callV [] hX (cr_no hX.st sz (S := uC S 0 0) 1) cw_X2_no cv_X2_no lk_X2_103 (ci := 2) rfl rfl ovR_o ⟨by omega, by omega⟩ ⟨by omega, by omega⟩ (Nat.le_of_ble_eq_true rfl) rfl dX2_go_15 rfl (fun v15 M15 z15 hp15 hz15 hd15 => ?_)
  obtain ⟨rfl, rfl, rfl⟩ := hp15
  show G X _ (ovR (cxT X) N o (uC (uC S 0 0) 0 1)) sz ((0 + 0) + 0) ((0 + 0) + 0) 18 [(0, .ref o), (1, .int x)] [.int 0]
  exact hF (some (.int 0)) (ovR (cxT X) N o (uC (uC S 0 0) 0 1)) sz _ _ _ _ .ireturn (⟨rfl, rfl, rfl⟩) (by omega) (by omega) ret_i dX2_go_18

set_option maxHeartbeats 1000000 in
set_option maxRecDepth 100000 in
theorem cr_go_no2 {l : Launch} (hl : l.stackTraces = false) {T : CT3} {D : va_G} {N : AH} {o : Nat} {S : RS} (sz : Nat) (hc : rC S 1 ≤ 60) {a : Nat} (hac : a < rC S 1) (h0 : rD S a = 0) : Ct l T D yX2_go cX2_go 4 (some .int) 1 30 0 0 [.ref o, .int (nI a)] (ovR T N o S) sz (fun v M' z' => v = some (.int 0) ∧ M' = ovR T N o (uC (uC S 0 0) 0 2) ∧ sz = z') := by
  refine Ct.ofX hl (by decide) (Nat.le_of_ble_eq_true rfl) ?_
  intro X hl0 hT0 hD0 hlt hX hF
  subst hl0; subst hT0; subst hD0
  show G X 4 (ovR (cxT X) N o S) sz 0 0 0 [(0, .ref o), (1, .int (nI a))] []
  refine g_aload_n hX dX2_go_0 0 rfl ?_
  refine g_iconst (v := 0) hX dX2_go_1 (by decide) ?_
  refine g_put (ci := 2) hX rfl fld_X2 (ovR_o (S := S)) 0 (by decide) fl_X2_38 rfl rfl rfl (Nat.le_of_ble_eq_true rfl) dX2_go_2 ?_
  refine g_eqM (ovR_uC0 0 rfl) ?_
  refine g_aload_n hX dX2_go_5 0 rfl ?_
  refine g_iload_n hX dX2_go_6 1 rfl ?_
  refine g_callV [] hX (cr_isAllotment hX.st sz (S := uC S 0 0) (nI a)) cw_X2_isAllotment cv_X2_isAllotment lk_X2_128 (ci := 2) rfl rfl ovR_o ⟨by omega, by omega⟩ ⟨by omega, by omega⟩ (Nat.le_of_ble_eq_true rfl) rfl dX2_go_7 rfl (fun v7 M7 z7 hp7 hz7 hd7 => ?_)
  rw [show isA (uC S 0 0) (nI a) = true from isA_n hac hc] at hp7
  obtain ⟨rfl, rfl, rfl⟩ := hp7
  show G X _ (ovR (cxT X) N o (uC S 0 0)) sz (0 + 0) (0 + 0) 10 [(0, .ref o), (1, .int (nI a))] [.int 1]
  refine g_if_ne hX 19 dX2_go_10 (by decide) (fun _ => ?_) (fun c10 => absurd c10 (by decide))
  refine g_aload_n hX dX2_go_19 0 rfl ?_
  refine g_get (ci := 2) hX rfl fin_X2 (ovR_o (S := (uC S 0 0))) 4 (by decide) fl_X2_13 rfl dX2_go_20 ?_
  refine g_iload_n hX dX2_go_23 1 rfl ?_
  refine g_iald hX (ovR_at (S := (uC S 0 0)) 2 rfl) a rfl (by omega) (by decide) dX2_go_24 ?_
  rw [show rD (uC S 0 0) a = 0 from h0]
  refine g_if_ne hX 34 dX2_go_25 (by decide) (fun c25 => absurd (by decide) c25) (fun _ => ?_)
  refine g_aload_n hX dX2_go_28 0 rfl ?_
  refine g_iconst (v := 2) hX dX2_go_29 (by decide) ?_
  refine g_callV [] hX (cr_no hX.st sz (S := uC S 0 0) 2) cw_X2_no cv_X2_no lk_X2_103 (ci := 2) rfl rfl ovR_o ⟨by omega, by omega⟩ ⟨by omega, by omega⟩ (Nat.le_of_ble_eq_true rfl) rfl dX2_go_30 rfl (fun v30 M30 z30 hp30 hz30 hd30 => ?_)
  obtain ⟨rfl, rfl, rfl⟩ := hp30
  show G X _ (ovR (cxT X) N o (uC (uC S 0 0) 0 2)) sz ((0 + 0) + 0) ((0 + 0) + 0) 33 [(0, .ref o), (1, .int (nI a))] [.int 0]
  exact hF (some (.int 0)) (ovR (cxT X) N o (uC (uC S 0 0) 0 2)) sz _ _ _ _ .ireturn (⟨rfl, rfl, rfl⟩) (by omega) (by omega) ret_i dX2_go_33

set_option maxHeartbeats 1000000 in
set_option maxRecDepth 100000 in
theorem cr_go {l : Launch} (hl : l.stackTraces = false) {T : CT3} {D : va_G} {N : AH} {o : Nat} {S : RS} (sz : Nat) {h : Nat} (ht : TrR S h (rC S 4)) (hh : h < 58) (hc : rC S 1 ≤ 60) {a : Nat} (hac : a < rC S 1) (hd1 : rD S a = 1) {fr ps : Nat → Nat} (hp : Pth S h a fr ps) (hf0 : fr 0 = rC S 4) (hT : TrR (gnR fr ps h (rmR S (fr h) (ps h))) h (rC S 4)) : Ct l T D yX2_go cX2_go 4 (some .int) (h + 7) (27 * h + 150) 0 0 [.ref o, .int (nI a)] (ovR T N o S) sz (fun v M' z' => v = some (.int (aroR S a)) ∧ (∃ S', M' = ovR T N o S' ∧ SE (uD (lowR h (gnR fr ps h (rmR S (fr h) (ps h)))) a 0) S' ∧ rC S' 0 = 0) ∧ sz = z') := by
  refine Ct.ofX hl (by decide) (Nat.le_of_ble_eq_true rfl) ?_
  intro X hl0 hT0 hD0 hlt hX hF
  subst hl0; subst hT0; subst hD0
  have hl9 := Pth_lv hp (by rw [hf0]; exact ht)
  have htb := Pth_tr hp (by rw [hf0]; exact ht)
  have hpn := hp.2.1
  have hbf := htb.f
  have hbm := htb.m
  have chain : ∀ k S1, k ≤ h → GnI S1 h fr ps k → G X 4 (ovR (cxT X) N o (gnR fr ps k S1)) sz 0 0 108 [(0, .ref o), (1, .int (nI a))] [] → G X 4 (ovR (cxT X) N o S1) sz 0 0 64 [(3, .int (nI k)), (0, .ref o), (1, .int (nI a))] [] := by
    intro k
    induction k with
    | zero =>
      intro S1 hk hi hG
      refine g_iload_n hX dX2_go_64 0 rfl ?_
      refine g_if_le hX 108 dX2_go_65 (by decide) (fun _ => ?_) (fun c65 => absurd (by decide) c65)
      refine g_sub [1, 2] rfl ?_
      exact hG
    | succ k ihk =>
      intro S1 hk hi hG
      refine g_iload_n hX dX2_go_64 0 rfl ?_
      refine g_if_le hX 108 dX2_go_65 (by decide) (fun c65 => absurd c65 (nI_nle (by omega) (by omega))) (fun _ => ?_)
      refine g_aload_n hX dX2_go_68 1 rfl ?_
      refine g_get (ci := 2) hX rfl fin_X2 (ovR_o (S := S1)) 7 (by decide) fl_X2_20 rfl dX2_go_69 ?_
      refine g_aload_n hX dX2_go_72 1 rfl ?_
      refine g_get (ci := 2) hX rfl fin_X2 (ovR_o (S := S1)) 10 (by decide) fl_X2_29 rfl dX2_go_73 ?_
      refine g_iload_n hX dX2_go_76 0 rfl ?_
      refine g_iald hX (ovR_at (S := S1) 6 rfl) (k + 1) rfl (by omega) (by decide) dX2_go_77 ?_
      rw [hi.w (k + 1) hk]
      have hf8 := hi.f (k + 1) hk
      have hm8 := hi.m (k + 1) (Nat.le_refl _)
      refine g_iald hX (ovR_at (S := S1) 3 rfl) (fr (k + 1)) rfl (by omega) (by decide) dX2_go_78 ?_
      refine g_if_ne hX 108 dX2_go_79 (by decide) (fun c79 => ?_) (fun c79 => ?_)
      · skip
        have hm0 : ¬ rM S1 (fr (k + 1)) = 0 := fun e => c79 (by rw [e]; rfl)
        refine g_sub [1, 2] rfl ?_
        rw [gn_f hm0] at hG
        exact hG
      · skip
        have hm0 : rM S1 (fr (k + 1)) = 0 := (nI_eq (a := rM S1 (fr (k + 1))) (b := 0) (by omega) (by omega)).mp c79
        have hm5 := hi.m k (by omega)
        have hs9 := hi.s k (by omega)
        have hf9 := hi.f k (by omega)
        refine g_aload_n hX dX2_go_82 1 rfl ?_
        refine g_aload_n hX dX2_go_83 1 rfl ?_
        refine g_get (ci := 2) hX rfl fin_X2 (ovR_o (S := S1)) 10 (by decide) fl_X2_29 rfl dX2_go_84 ?_
        refine g_iload_n hX dX2_go_87 0 rfl ?_
        refine g_iconst (v := 1) hX dX2_go_88 (by decide) ?_
        refine g_isub hX dX2_go_89 ?_
        refine g_iald hX (ovR_at (S := S1) 6 rfl) ((k + 1) - 1) (nI_m1 (by omega)) (by omega) (by decide) dX2_go_90 ?_
        rw [show k + 1 - 1 = k from rfl, hi.w k (by omega)]
        refine g_aload_n hX dX2_go_91 1 rfl ?_
        refine g_get (ci := 2) hX rfl fin_X2 (ovR_o (S := S1)) 11 (by decide) fl_X2_32 rfl dX2_go_92 ?_
        refine g_iload_n hX dX2_go_95 0 rfl ?_
        refine g_iconst (v := 1) hX dX2_go_96 (by decide) ?_
        refine g_isub hX dX2_go_97 ?_
        refine g_iald hX (ovR_at (S := S1) 7 rfl) ((k + 1) - 1) (nI_m1 (by omega)) (by omega) (by decide) dX2_go_98 ?_
        rw [show k + 1 - 1 = k from rfl, hi.p k (by omega)]
        refine g_callV [] hX (cr_remove hX.st sz (S := S1) (f := fr k) (p := ps k) hf9 hm5 hs9) cw_X2_remove cv_X2_remove lk_X2_132 (ci := 2) rfl rfl ovR_o ⟨by omega, by omega⟩ ⟨by omega, by omega⟩ (Nat.le_of_ble_eq_true rfl) rfl dX2_go_99 rfl (fun v99 M99 z99 hp99 hz99 hd99 => ?_)
        obtain ⟨rfl, rfl, rfl⟩ := hp99
        show G X _ (ovR (cxT X) N o (rmR S1 (fr k) (ps k))) sz (0 + 0) (0 + 0) 102 [(3, .int (nI (k + 1))), (0, .ref o), (1, .int (nI a))] []
        refine g_iinc (v := nI k) (L' := [(3, .int (nI k)), (0, .ref o), (1, .int (nI a))]) hX dX2_go_102 0 rfl (nI_p1 (by omega)) (by decide) rfl ?_
        refine g_goto hX 64 dX2_go_105 (by decide) ?_
        refine g_sub [0, 1, 2] rfl ?_
        rw [gn_t hm0] at hG
        exact ihk _ (by omega) (hi.st hk) hG
  have down : ∀ n S1, TrR S1 n (rC S1 4) → n < 58 → G X 4 (ovR (cxT X) N o (lowR n S1)) sz 0 0 149 [(0, .ref o), (1, .int (nI a))] [] → G X 4 (ovR (cxT X) N o S1) sz 0 0 108 [(0, .ref o), (1, .int (nI a))] [] := by
    intro n
    induction n with
    | zero =>
      intro S1 h1 hn hG
      have h1g := h1.g
      have h1f := h1.f
      have h1m := h1.m
      refine g_aload_n hX dX2_go_108 0 rfl ?_
      refine g_get (ci := 2) hX rfl fin_X2 (ovR_o (S := S1)) 9 (by decide) fl_X2_26 rfl dX2_go_109 ?_
      refine g_aload_n hX dX2_go_112 0 rfl ?_
      refine g_get (ci := 2) hX rfl fin_X2 (ovR_o (S := S1)) 6 (by decide) fl_X2_80 rfl dX2_go_113 ?_
      refine g_iald hX (ovR_at (S := S1) 5 rfl) (rC S1 4) rfl (by omega) (by decide) dX2_go_116 ?_
      rw [h1g]
      refine g_if_le hX 149 dX2_go_117 (by decide) (fun _ => ?_) (fun c117 => absurd (by decide) c117)
      refine g_sub [0, 1] rfl ?_
      exact hG
    | succ n ihn =>
      intro S1 h1 hn hG
      have h1g := h1.g
      have h1f := h1.f
      have h1m := h1.m
      have h10 := h1.m0
      refine g_aload_n hX dX2_go_108 0 rfl ?_
      refine g_get (ci := 2) hX rfl fin_X2 (ovR_o (S := S1)) 9 (by decide) fl_X2_26 rfl dX2_go_109 ?_
      refine g_aload_n hX dX2_go_112 0 rfl ?_
      refine g_get (ci := 2) hX rfl fin_X2 (ovR_o (S := S1)) 6 (by decide) fl_X2_80 rfl dX2_go_113 ?_
      refine g_iald hX (ovR_at (S := S1) 5 rfl) (rC S1 4) rfl (by omega) (by decide) dX2_go_116 ?_
      rw [h1g]
      refine g_if_le hX 149 dX2_go_117 (by decide) (fun c117 => absurd c117 (nI_nle (by omega) (by omega))) (fun _ => ?_)
      refine g_aload_n hX dX2_go_120 0 rfl ?_
      refine g_get (ci := 2) hX rfl fin_X2 (ovR_o (S := S1)) 7 (by decide) fl_X2_20 rfl dX2_go_121 ?_
      refine g_aload_n hX dX2_go_124 0 rfl ?_
      refine g_get (ci := 2) hX rfl fin_X2 (ovR_o (S := S1)) 6 (by decide) fl_X2_80 rfl dX2_go_125 ?_
      refine g_iald hX (ovR_at (S := S1) 3 rfl) (rC S1 4) rfl (by omega) (by decide) dX2_go_128 ?_
      refine g_iconst (v := 1) hX dX2_go_129 (by decide) ?_
      refine g_icmp_ne hX 149 dX2_go_130 (by decide) (fun c130 => ?_) (fun c130 => ?_)
      · skip
        have hm1 : ¬ rM S1 (rC S1 4) = 1 := fun e => c130 (by rw [e]; rfl)
        refine g_sub [0, 1] rfl ?_
        rw [low_f hm1] at hG
        exact hG
      · skip
        have hm1 : rM S1 (rC S1 4) = 1 := (nI_eq (a := rM S1 (rC S1 4)) (b := 1) (by omega) (by omega)).mp c130
        refine g_aload_n hX dX2_go_133 0 rfl ?_
        refine g_aload_n hX dX2_go_134 0 rfl ?_
        refine g_aload_n hX dX2_go_135 0 rfl ?_
        refine g_get (ci := 2) hX rfl fin_X2 (ovR_o (S := S1)) 6 (by decide) fl_X2_80 rfl dX2_go_136 ?_
        refine g_iconst (v := 0) hX dX2_go_139 (by decide) ?_
        refine g_callV [.ref o] hX (cr_held hX.st sz (S := S1) (f := rC S1 4) (p := 0) (by omega)) cw_X2_held cv_X2_held lk_X2_44 (ci := 2) rfl rfl ovR_o ⟨by omega, by omega⟩ ⟨by omega, by omega⟩ (Nat.le_of_ble_eq_true rfl) rfl dX2_go_140 rfl (fun v140 M140 z140 hp140 hz140 hd140 => ?_)
        obtain ⟨rfl, rfl, rfl⟩ := hp140
        show G X _ (ovR (cxT X) N o S1) sz (0 + 0) (0 + 0) 143 [(0, .ref o), (1, .int (nI a))] [.int (nI (rK S1 (5 * (rC S1 4)))), .ref o]
        refine g_put (ci := 2) hX rfl fld_X2 (ovR_o (S := S1)) 6 (by decide) fl_X2_80 rfl rfl rfl (Nat.le_of_ble_eq_true rfl) dX2_go_143 ?_
        refine g_eqM (ovR_uC4 (rK S1 (5 * (rC S1 4))) rfl) ?_
        refine g_goto hX 108 dX2_go_146 (by decide) ?_
        refine g_sub [0, 1] rfl ?_
        rw [low_t hm1] at hG
        exact ihn _ (TrR.cg (S := S1) (S' := uC S1 4 (rK S1 (5 * rC S1 4))) rfl rfl rfl (h1.k (k := 0) h10)) (by omega) hG
  show G X 4 (ovR (cxT X) N o S) sz 0 0 0 [(0, .ref o), (1, .int (nI a))] []
  refine g_aload_n hX dX2_go_0 0 rfl ?_
  refine g_iconst (v := 0) hX dX2_go_1 (by decide) ?_
  refine g_put (ci := 2) hX rfl fld_X2 (ovR_o (S := S)) 0 (by decide) fl_X2_38 rfl rfl rfl (Nat.le_of_ble_eq_true rfl) dX2_go_2 ?_
  refine g_eqM (ovR_uC0 0 rfl) ?_
  refine g_aload_n hX dX2_go_5 0 rfl ?_
  refine g_iload_n hX dX2_go_6 1 rfl ?_
  refine g_callV [] hX (cr_isAllotment hX.st sz (S := uC S 0 0) (nI a)) cw_X2_isAllotment cv_X2_isAllotment lk_X2_128 (ci := 2) rfl rfl ovR_o ⟨by omega, by omega⟩ ⟨by omega, by omega⟩ (Nat.le_of_ble_eq_true rfl) rfl dX2_go_7 rfl (fun v7 M7 z7 hp7 hz7 hd7 => ?_)
  rw [show isA (uC S 0 0) (nI a) = true from isA_n hac hc] at hp7
  obtain ⟨rfl, rfl, rfl⟩ := hp7
  show G X _ (ovR (cxT X) N o (uC S 0 0)) sz (0 + 0) (0 + 0) 10 [(0, .ref o), (1, .int (nI a))] [.int 1]
  refine g_if_ne hX 19 dX2_go_10 (by decide) (fun _ => ?_) (fun c10 => absurd c10 (by decide))
  refine g_aload_n hX dX2_go_19 0 rfl ?_
  refine g_get (ci := 2) hX rfl fin_X2 (ovR_o (S := (uC S 0 0))) 4 (by decide) fl_X2_13 rfl dX2_go_20 ?_
  refine g_iload_n hX dX2_go_23 1 rfl ?_
  refine g_iald hX (ovR_at (S := (uC S 0 0)) 2 rfl) a rfl (by omega) (by decide) dX2_go_24 ?_
  rw [show rD (uC S 0 0) a = 1 from hd1]
  refine g_if_ne hX 34 dX2_go_25 (by decide) (fun _ => ?_) (fun c25 => absurd c25 (by decide))
  refine g_aload_n hX dX2_go_34 0 rfl ?_
  refine g_aload_n hX dX2_go_35 0 rfl ?_
  refine g_get (ci := 2) hX rfl fin_X2 (ovR_o (S := (uC S 0 0))) 6 (by decide) fl_X2_80 rfl dX2_go_36 ?_
  refine g_iload_n hX dX2_go_39 1 rfl ?_
  refine g_iconst (v := 0) hX dX2_go_40 (by decide) ?_
  refine g_callV [] hX (cr_find hX.st sz h (rC S 4) a 0 fr ps (uC S 0 0) (SE.tr (S' := uC S 0 0) (SE.rfl' S) ht) (SE.pth (S' := uC S 0 0) (SE.rfl' S) hp) hf0 (by omega) (by omega)) cw_X2_find cv_X2_find lk_X2_125 (ci := 2) rfl rfl ovR_o ⟨by omega, by omega⟩ ⟨by omega, by omega⟩ (Nat.le_of_ble_eq_true rfl) rfl dX2_go_41 rfl (fun v41 M41 z41 hp41 hz41 hd41 => ?_)
  obtain ⟨rfl, ⟨w, p, rfl, hw1, hp1, hw3, hp3⟩, rfl⟩ := hp41
  show G X _ (ovR (cxT X) N o (uWP (uC S 0 0) (va_up (rC (uC S 0 0)) 5 (0 + h)) w p)) sz ((0 + 0) + 0) ((0 + 0) + 0) 44 [(0, .ref o), (1, .int (nI a))] [.int (nI (ps h))]
  obtain ⟨S1, hS1⟩ : ∃ S1, S1 = uWP (uC S 0 0) (va_up (rC (uC S 0 0)) 5 (0 + h)) w p := ⟨_, rfl⟩
  have hs0 : SE S (uC S 0 0) := SE.rfl' S
  have hs : SE S S1 := by rw [hS1]; exact hs0.trans (SE.wp _ _ _ _)
  have h01 : rC S1 0 = 0 := by rw [hS1, wp_0]; rfl
  have h51 : rC S1 5 = h := by rw [hS1, rC_wp, Nat.zero_add]; exact va_up_self _ _ _
  have hw1k : ∀ j, j ≤ h → rW S1 j = fr j := fun j hj => by rw [hS1, rW_wp]; have h9 := hw3 j hj; rw [Nat.zero_add] at h9; exact h9
  have hp1k : ∀ j, j < h → rP S1 j = ps j := fun j hj => by rw [hS1, rP_wp]; have h9 := hp3 j hj; rw [Nat.zero_add] at h9; exact h9
  have hm1e : rM S1 = rM S := hs.2.2.1
  rw [← hS1]
  clear hS1 hw3 hp3 hw1 hp1
  refine g_istore_n (L' := [(2, .int (nI (ps h))), (0, .ref o), (1, .int (nI a))]) hX dX2_go_44 (by decide) rfl ?_
  refine g_aload_n hX dX2_go_45 1 rfl ?_
  refine g_aload_n hX dX2_go_46 1 rfl ?_
  refine g_get (ci := 2) hX rfl fin_X2 (ovR_o (S := S1)) 10 (by decide) fl_X2_29 rfl dX2_go_47 ?_
  refine g_aload_n hX dX2_go_50 1 rfl ?_
  refine g_get (ci := 2) hX rfl fin_X2 (ovR_o (S := S1)) 12 (by decide) fl_X2_77 rfl dX2_go_51 ?_
  rw [h51]
  refine g_iald hX (ovR_at (S := S1) 6 rfl) h rfl (by omega) (by decide) dX2_go_54 ?_
  rw [hw1k h (Nat.le_refl _)]
  refine g_iload_n hX dX2_go_55 0 rfl ?_
  refine g_callV [] hX (cr_remove hX.st sz (S := S1) (f := fr h) (p := ps h) hbf (by rw [hm1e]; exact hbm) (by rw [hm1e]; exact hpn)) cw_X2_remove cv_X2_remove lk_X2_132 (ci := 2) rfl rfl ovR_o ⟨by omega, by omega⟩ ⟨by omega, by omega⟩ (Nat.le_of_ble_eq_true rfl) rfl dX2_go_56 rfl (fun v56 M56 z56 hp56 hz56 hd56 => ?_)
  obtain ⟨rfl, rfl, rfl⟩ := hp56
  show G X _ (ovR (cxT X) N o (rmR S1 (fr h) (ps h))) sz (((0 + 0) + 0) + 0) (((0 + 0) + 0) + 0) 59 [(2, .int (nI (ps h))), (0, .ref o), (1, .int (nI a))] []
  obtain ⟨S2, hS2⟩ : ∃ S2, S2 = rmR S1 (fr h) (ps h) := ⟨_, rfl⟩
  have hs2 : SE (rmR S (fr h) (ps h)) S2 := by rw [hS2]; exact hs.rm _ _
  have h02 : rC S2 0 = 0 := by rw [hS2, rm_C]; exact h01
  have h52 : rC S2 5 = h := by rw [hS2, rm_C]; exact h51
  have hg2 : GnI S2 h fr ps h := by
    refine ⟨by rw [hS2, rm_W]; exact hw1k, by rw [hS2, rm_P]; exact hp1k, fun j hj => ?_, fun j hj => ?_, fun j hj => (hl9 j hj).f, fun i j hij hj => Pth_ne hp (by rw [hf0]; exact ht) hij hj⟩
    · have h8 := (hl9 j hj).m
      rw [hS2, rm_M, hm1e]
      by_cases hjk : fr j = fr h
      · rw [hjk, va_up_self]; omega
      · rw [va_up_ne _ _ hjk]; exact h8
    · rw [hS2, rm_M, hm1e, va_up_ne _ _ (Pth_ne hp (by rw [hf0]; exact ht) hj (Nat.le_refl _))]
      exact (hp.1 j hj).1
  rw [← hS2]
  clear hS2
  refine g_aload_n hX dX2_go_59 1 rfl ?_
  refine g_get (ci := 2) hX rfl fin_X2 (ovR_o (S := S2)) 12 (by decide) fl_X2_77 rfl dX2_go_60 ?_
  rw [h52]
  refine g_istore_n (L' := [(3, .int (nI h)), (2, .int (nI (ps h))), (0, .ref o), (1, .int (nI a))]) hX dX2_go_63 (by decide) rfl ?_
  refine g_sub [0, 2, 3] rfl ?_
  refine chain h S2 (Nat.le_refl _) hg2 ?_
  obtain ⟨S3, hS3⟩ : ∃ S3, S3 = gnR fr ps h S2 := ⟨_, rfl⟩
  have hs3 : SE (gnR fr ps h (rmR S (fr h) (ps h))) S3 := by rw [hS3]; exact hs2.gn _ _ _
  have h03 : rC S3 0 = 0 := by rw [hS3, gn_C]; exact h02
  have h34 : rC S3 4 = rC S 4 := by rw [hs3.2.2.2.2.2.2.2.2, gn_C, rm_C]
  have ht3 : TrR S3 h (rC S3 4) := by rw [h34]; exact hs3.tr hT
  rw [← hS3]
  refine down h S3 ht3 hh ?_
  obtain ⟨S4, hS4⟩ : ∃ S4, S4 = lowR h S3 := ⟨_, rfl⟩
  have hs4 : SE (lowR h (gnR fr ps h (rmR S (fr h) (ps h)))) S4 := by rw [hS4]; exact hs3.low _
  have h04 : rC S4 0 = 0 := by rw [hS4, low_0]; exact h03
  have he4 : rE S4 = rE S := by rw [hS4, low_E, hs3.1, gn_E]; rfl
  rw [← hS4]
  clear hS4
  refine g_aload_n hX dX2_go_149 0 rfl ?_
  refine g_get (ci := 2) hX rfl fin_X2 (ovR_o (S := S4)) 4 (by decide) fl_X2_13 rfl dX2_go_150 ?_
  refine g_iload_n hX dX2_go_153 1 rfl ?_
  refine g_iconst (v := 0) hX dX2_go_154 (by decide) ?_
  refine g_iast hX (ovR_at (S := S4) 2 rfl) a rfl (by omega) (by decide) dX2_go_155 ?_
  refine g_eqM (ovR_uD a 0 rfl) ?_
  refine g_aload_n hX dX2_go_156 0 rfl ?_
  refine g_iload_n hX dX2_go_157 1 rfl ?_
  refine g_callV [] hX (cr_areaOf hX.st sz (S := uD S4 a 0) (a := a) (by omega)) cw_X2_areaOf cv_X2_areaOf lk_X2_135 (ci := 2) rfl rfl ovR_o ⟨by omega, by omega⟩ ⟨by omega, by omega⟩ (Nat.le_of_ble_eq_true rfl) rfl dX2_go_158 rfl (fun v158 M158 z158 hp158 hz158 hd158 => ?_)
  rw [show aroR (uD S4 a 0) a = aroR S a from by show areaI (rE S4 _) (rE S4 _) (rE S4 _) (rE S4 _) = _; rw [he4]; rfl] at hp158
  obtain ⟨rfl, rfl, rfl⟩ := hp158
  show G X _ (ovR (cxT X) N o (uD S4 a 0)) sz ((((0 + 0) + 0) + 0) + 0) ((((0 + 0) + 0) + 0) + 0) 161 [(0, .ref o), (1, .int (nI a))] [.int (aroR S a)]
  exact hF (some (.int (aroR S a))) (ovR (cxT X) N o (uD S4 a 0)) sz _ _ _ _ .ireturn (⟨rfl, ⟨uD S4 a 0, rfl, hs4.uD a 0, h04⟩, rfl⟩) (by omega) (by omega) ret_i dX2_go_161
