set_option maxHeartbeats 1000000 in
set_option maxRecDepth 100000 in
theorem cr_come_no1 {l : Launch} (hl : l.stackTraces = false) {T : CT3} {D : va_G} {N : AH} {o : Nat} {S : RS} (sz : Nat) (x1 y1 x2 y2 : Int32) (hr : isR x1 y1 x2 y2 = false) : Ct l T D yX2_come cX2_come 7 (some .int) 1 30 0 0 [.ref o, .int x1, .int y1, .int x2, .int y2] (ovR T N o S) sz (fun v M' z' => v = some (.int 0) ∧ M' = ovR T N o (uC (uC S 0 0) 0 1) ∧ sz = z') := by
  refine Ct.ofX hl (by decide) (Nat.le_of_ble_eq_true rfl) ?_
  intro X hl0 hT0 hD0 hlt hX hF
  subst hl0; subst hT0; subst hD0
  show G X 7 (ovR (cxT X) N o S) sz 0 0 0 [(0, .ref o), (1, .int x1), (2, .int y1), (3, .int x2), (4, .int y2)] []
  refine g_aload_n hX dX2_come_0 0 rfl ?_
  refine g_iconst (v := 0) hX dX2_come_1 (by decide) ?_
  refine g_put (ci := 2) hX rfl fld_X2 (ovR_o (S := S)) 0 (by decide) fl_X2_38 rfl rfl rfl (Nat.le_of_ble_eq_true rfl) dX2_come_2 ?_
  refine g_eqM (ovR_uC0 0 rfl) ?_
  refine g_iload_n hX dX2_come_5 1 rfl ?_
  refine g_iload_n hX dX2_come_6 2 rfl ?_
  refine g_iload_n hX dX2_come_7 3 rfl ?_
  refine g_iload hX dX2_come_8 4 rfl ?_
  refine g_callS [] hX (cr_isRect hX.st sz _ _ _ _) cw_X2_isRect stt_X2_isRect lk_X2_100 ⟨by omega, by omega⟩ ⟨by omega, by omega⟩ (Nat.le_of_ble_eq_true rfl) rfl dX2_come_10 rfl (fun v10 M10 z10 hp10 hz10 hd10 => ?_)
  rw [show isR x1 y1 x2 y2 = false from hr] at hp10
  obtain ⟨rfl, rfl, rfl⟩ := hp10
  show G X _ (ovR (cxT X) N o (uC S 0 0)) sz (0 + 0) (0 + 0) 13 [(0, .ref o), (1, .int x1), (2, .int y1), (3, .int x2), (4, .int y2)] [.int 0]
  refine g_if_ne hX 22 dX2_come_13 (by decide) (fun c13 => absurd (by decide) c13) (fun _ => ?_)
  refine g_aload_n hX dX2_come_16 0 rfl ?_
  refine g_iconst (v := 1) hX dX2_come_17 (by decide) ?_
  refine g_callV [] hX (cr_no hX.st sz (S := uC S 0 0) 1) cw_X2_no cv_X2_no lk_X2_103 (ci := 2) rfl rfl ovR_o ⟨by omega, by omega⟩ ⟨by omega, by omega⟩ (Nat.le_of_ble_eq_true rfl) rfl dX2_come_18 rfl (fun v18 M18 z18 hp18 hz18 hd18 => ?_)
  obtain ⟨rfl, rfl, rfl⟩ := hp18
  show G X _ (ovR (cxT X) N o (uC (uC S 0 0) 0 1)) sz ((0 + 0) + 0) ((0 + 0) + 0) 21 [(0, .ref o), (1, .int x1), (2, .int y1), (3, .int x2), (4, .int y2)] [.int 0]
  exact hF (some (.int 0)) (ovR (cxT X) N o (uC (uC S 0 0) 0 1)) sz _ _ _ _ .ireturn (⟨rfl, rfl, rfl⟩) (by omega) (by omega) ret_i dX2_come_21

set_option maxHeartbeats 1000000 in
set_option maxRecDepth 100000 in
theorem cr_come_no2 {l : Launch} (hl : l.stackTraces = false) {T : CT3} {D : va_G} {N : AH} {o : Nat} {S : RS} (sz : Nat) (x1 y1 x2 y2 : Int32) (hr : isR x1 y1 x2 y2 = true) (hc : rC S 1 = 60) : Ct l T D yX2_come cX2_come 7 (some .int) 1 30 0 0 [.ref o, .int x1, .int y1, .int x2, .int y2] (ovR T N o S) sz (fun v M' z' => v = some (.int 0) ∧ M' = ovR T N o (uC (uC S 0 0) 0 2) ∧ sz = z') := by
  refine Ct.ofX hl (by decide) (Nat.le_of_ble_eq_true rfl) ?_
  intro X hl0 hT0 hD0 hlt hX hF
  subst hl0; subst hT0; subst hD0
  show G X 7 (ovR (cxT X) N o S) sz 0 0 0 [(0, .ref o), (1, .int x1), (2, .int y1), (3, .int x2), (4, .int y2)] []
  refine g_aload_n hX dX2_come_0 0 rfl ?_
  refine g_iconst (v := 0) hX dX2_come_1 (by decide) ?_
  refine g_put (ci := 2) hX rfl fld_X2 (ovR_o (S := S)) 0 (by decide) fl_X2_38 rfl rfl rfl (Nat.le_of_ble_eq_true rfl) dX2_come_2 ?_
  refine g_eqM (ovR_uC0 0 rfl) ?_
  refine g_iload_n hX dX2_come_5 1 rfl ?_
  refine g_iload_n hX dX2_come_6 2 rfl ?_
  refine g_iload_n hX dX2_come_7 3 rfl ?_
  refine g_iload hX dX2_come_8 4 rfl ?_
  refine g_callS [] hX (cr_isRect hX.st sz _ _ _ _) cw_X2_isRect stt_X2_isRect lk_X2_100 ⟨by omega, by omega⟩ ⟨by omega, by omega⟩ (Nat.le_of_ble_eq_true rfl) rfl dX2_come_10 rfl (fun v10 M10 z10 hp10 hz10 hd10 => ?_)
  rw [show isR x1 y1 x2 y2 = true from hr] at hp10
  obtain ⟨rfl, rfl, rfl⟩ := hp10
  show G X _ (ovR (cxT X) N o (uC S 0 0)) sz (0 + 0) (0 + 0) 13 [(0, .ref o), (1, .int x1), (2, .int y1), (3, .int x2), (4, .int y2)] [.int 1]
  refine g_if_ne hX 22 dX2_come_13 (by decide) (fun _ => ?_) (fun c13 => absurd c13 (by decide))
  refine g_aload_n hX dX2_come_22 0 rfl ?_
  refine g_get (ci := 2) hX rfl fin_X2 (ovR_o (S := (uC S 0 0))) 1 (by decide) fl_X2_41 rfl dX2_come_23 ?_
  rw [show rC (uC S 0 0) 1 = 60 from hc]
  refine g_bipush (v := 60) hX dX2_come_26 (by decide) ?_
  refine g_icmp_ne hX 37 dX2_come_28 (by decide) (fun c28 => absurd (by decide) c28) (fun _ => ?_)
  refine g_aload_n hX dX2_come_31 0 rfl ?_
  refine g_iconst (v := 2) hX dX2_come_32 (by decide) ?_
  refine g_callV [] hX (cr_no hX.st sz (S := uC S 0 0) 2) cw_X2_no cv_X2_no lk_X2_103 (ci := 2) rfl rfl ovR_o ⟨by omega, by omega⟩ ⟨by omega, by omega⟩ (Nat.le_of_ble_eq_true rfl) rfl dX2_come_33 rfl (fun v33 M33 z33 hp33 hz33 hd33 => ?_)
  obtain ⟨rfl, rfl, rfl⟩ := hp33
  show G X _ (ovR (cxT X) N o (uC (uC S 0 0) 0 2)) sz ((0 + 0) + 0) ((0 + 0) + 0) 36 [(0, .ref o), (1, .int x1), (2, .int y1), (3, .int x2), (4, .int y2)] [.int 0]
  exact hF (some (.int 0)) (ovR (cxT X) N o (uC (uC S 0 0) 0 2)) sz _ _ _ _ .ireturn (⟨rfl, rfl, rfl⟩) (by omega) (by omega) ret_i dX2_come_36

set_option maxHeartbeats 1000000 in
set_option maxRecDepth 100000 in
theorem cr_come {l : Launch} (hl : l.stackTraces = false) {T : CT3} {D : va_G} {N : AH} {o : Nat} {S : RS} (sz : Nat) {h : Nat} (ht : TrR S h (rC S 4)) (hh : h < 58) (hc : rC S 1 < 60) (x1 y1 x2 y2 : Int32) (hr : isR x1 y1 x2 y2 = true) {Pt Pl : Nat → Nat} (hPt : Pt = pthR (tkR (uC S 0 0) x1 y1 x2 y2) h (rC S 4)) (hPl : Pl = plcR (tkR (uC S 0 0) x1 y1 x2 y2) h (rC S 4)) (hm4 : rM S (Pt h) ≤ 4) (hS : ∀ w p, SpI Pt Pl h h (cm3 (cm1 S x1 y1 x2 y2 h w p) (rC S 1) (Pt h))) : Ct l T D yX2_come cX2_come 7 (some .int) (2 * h + 8) (49 * h + 170) 0 0 [.ref o, .int x1, .int y1, .int x2, .int y2] (ovR T N o S) sz (fun v M' z' => v = some (.int (nI (rC S 1))) ∧ (∃ w p, M' = ovR T N o (uC (spuR Pt Pl h h (cm3 (cm1 S x1 y1 x2 y2 h w p) (rC S 1) (Pt h))) 1 (rC S 1 + 1))) ∧ sz = z') := by
  refine Ct.ofX hl (by decide) (Nat.le_of_ble_eq_true rfl) ?_
  intro X hl0 hT0 hD0 hlt hX hF
  subst hl0; subst hT0; subst hD0
  have chain : ∀ k S1, k ≤ h → (∀ j, j ≤ h → rW S1 j = Pt j) → (∀ j, j < h → rP S1 j = Pl j) → SpI Pt Pl h k S1 → G X 7 (ovR (cxT X) N o (spuR Pt Pl h k S1)) sz 0 0 205 [(0, .ref o)] [] → G X 7 (ovR (cxT X) N o S1) sz 0 0 116 [(5, .int (nI k)), (0, .ref o)] [] := by
    intro k
    induction k with
    | zero =>
      intro S1 hk hw1 hp1 hi hG
      obtain ⟨hf4, hm5, hi2⟩ := hi
      refine g_iload hX dX2_come_116 0 rfl ?_
      refine g_if_lt hX 205 dX2_come_118 (by decide) (fun c118 => absurd c118 (mt (nI_ltI (a := 0) (b := 0) (by omega) (by omega)).mp (by omega))) (fun _ => ?_)
      refine g_aload_n hX dX2_come_121 1 rfl ?_
      refine g_get (ci := 2) hX rfl fin_X2 (ovR_o (S := S1)) 7 (by decide) fl_X2_20 rfl dX2_come_122 ?_
      refine g_aload_n hX dX2_come_125 1 rfl ?_
      refine g_get (ci := 2) hX rfl fin_X2 (ovR_o (S := S1)) 10 (by decide) fl_X2_29 rfl dX2_come_126 ?_
      refine g_iload hX dX2_come_129 0 rfl ?_
      refine g_iald hX (ovR_at (S := S1) 6 rfl) 0 rfl (by omega) (by decide) dX2_come_131 ?_
      rw [hw1 0 hk]
      refine g_iald hX (ovR_at (S := S1) 3 rfl) (Pt 0) rfl (by omega) (by decide) dX2_come_132 ?_
      refine g_iconst (v := 4) hX dX2_come_133 (by decide) ?_
      refine g_icmp_le hX 205 dX2_come_134 (by decide) (fun c134 => ?_) (fun c134 => ?_)
      · skip
        have hm4n : ¬ 4 < rM S1 (Pt 0) := by have h9 := (nI_leI (a := rM S1 (Pt 0)) (b := 4) (by omega) (by omega)).mp c134; omega
        refine g_sub [1] rfl ?_
        rw [spu_0f hm4n] at hG
        exact hG
      · skip
        have hm4n : 4 < rM S1 (Pt 0) := by have h9 := mt (nI_leI (a := rM S1 (Pt 0)) (b := 4) (by omega) (by omega)).mpr c134; omega
        obtain ⟨⟨hs1, hs2, hs3, hs4⟩, hi3⟩ := hi2 hm4n
        refine g_aload_n hX dX2_come_137 1 rfl ?_
        refine g_aload_n hX dX2_come_138 1 rfl ?_
        refine g_get (ci := 2) hX rfl fin_X2 (ovR_o (S := S1)) 10 (by decide) fl_X2_29 rfl dX2_come_139 ?_
        refine g_iload hX dX2_come_142 0 rfl ?_
        refine g_iald hX (ovR_at (S := S1) 6 rfl) 0 rfl (by omega) (by decide) dX2_come_144 ?_
        rw [hw1 0 hk]
        refine g_callV [] hX (cr_splitOff hX.st sz (S := S1) (n := h) (f := Pt 0) hs1 (by omega) hs2 hs3 hs4 (by omega)) cw_X2_splitOff cv_X2_splitOff lk_X2_119 (ci := 2) rfl rfl ovR_o ⟨by omega, by omega⟩ ⟨by omega, by omega⟩ (Nat.le_of_ble_eq_true rfl) rfl dX2_come_145 rfl (fun v145 M145 z145 hp145 hz145 hd145 => ?_)
        obtain ⟨rfl, rfl, rfl⟩ := hp145
        obtain ⟨S4, hS4⟩ : ∃ S4, S4 = spR S1 h (Pt 0) := ⟨_, rfl⟩
        rw [← hS4] at hi3 ⊢
        have hw4 : rW S4 = rW S1 := by rw [hS4, spR_W]
        have hp4 : rP S4 = rP S1 := by rw [hS4, spR_P]
        show G X _ (ovR (cxT X) N o S4) sz (0 + 0) (0 + 0) 148 [(5, .int (nI 0)), (0, .ref o)] [.int (nI (rC S1 3))]
        refine g_istore (L' := [(6, .int (nI (rC S1 3))), (5, .int (nI 0)), (0, .ref o)]) hX dX2_come_148 (by decide) rfl ?_
        refine g_iload hX dX2_come_150 1 rfl ?_
        refine g_if_ne hX 173 dX2_come_152 (by decide) (fun c152 => absurd rfl c152) (fun _ => ?_)
        refine g_aload_n hX dX2_come_155 2 rfl ?_
        refine g_callV [] hX (cr_growTop hX.st sz (S := S4) hi3.1 hi3.2.1 hi3.2.2.1 hi3.2.2.2.1) cw_X2_growTop cv_X2_growTop lk_X2_122 (ci := 2) rfl rfl ovR_o ⟨by omega, by omega⟩ ⟨by omega, by omega⟩ (Nat.le_of_ble_eq_true rfl) rfl dX2_come_156 rfl (fun v156 M156 z156 hp156 hz156 hd156 => ?_)
        obtain ⟨rfl, rfl, rfl⟩ := hp156
        show G X _ (ovR (cxT X) N o (gtR S4)) sz ((0 + 0) + 0) ((0 + 0) + 0) 159 [(6, .int (nI (rC S1 3))), (5, .int (nI 0)), (0, .ref o)] []
        refine g_aload_n hX dX2_come_159 2 rfl ?_
        refine g_aload_n hX dX2_come_160 2 rfl ?_
        refine g_get (ci := 2) hX rfl fin_X2 (ovR_o (S := (gtR S4))) 6 (by decide) fl_X2_80 rfl dX2_come_161 ?_
        refine g_iconst (v := 1) hX dX2_come_164 (by decide) ?_
        refine g_iload hX dX2_come_165 0 rfl ?_
        refine g_callV [] hX (cr_put hX.st sz (S := gtR S4) (f := rC (gtR S4) 4) (p := 1) (x := rC S1 3) hi3.2.2.2.2.1 hi3.2.2.2.2.2.1 hi3.2.2.2.2.2.2) cw_X2_put cv_X2_put lk_X2_93 (ci := 2) rfl rfl ovR_o ⟨by omega, by omega⟩ ⟨by omega, by omega⟩ (Nat.le_of_ble_eq_true rfl) rfl dX2_come_167 rfl (fun v167 M167 z167 hp167 hz167 hd167 => ?_)
        obtain ⟨rfl, rfl, rfl⟩ := hp167
        show G X _ (ovR (cxT X) N o (ptR (gtR S4) (rC (gtR S4) 4) 1 (rC S1 3))) sz (((0 + 0) + 0) + 0) (((0 + 0) + 0) + 0) 170 [(6, .int (nI (rC S1 3))), (5, .int (nI 0)), (0, .ref o)] []
        refine g_goto hX 199 dX2_come_170 (by decide) ?_
        refine g_iinc (v := -1) (L' := [(5, .int (-1)), (6, .int (nI (rC S1 3))), (0, .ref o)]) hX dX2_come_199 1 rfl (by decide) (by decide) rfl ?_
        refine g_goto hX 116 dX2_come_202 (by decide) ?_
        refine g_iload hX dX2_come_116 0 rfl ?_
        refine g_if_lt hX 205 dX2_come_118 (by decide) (fun _ => ?_) (fun c118 => absurd (by decide) c118)
        refine g_sub [2] rfl ?_
        rw [spu_0t hm4n, ← hS4] at hG
        exact hG
    | succ k ihk =>
      intro S1 hk hw1 hp1 hi hG
      obtain ⟨hf4, hm5, hi2⟩ := hi
      refine g_iload hX dX2_come_116 0 rfl ?_
      refine g_if_lt hX 205 dX2_come_118 (by decide) (fun c118 => absurd c118 (mt (nI_ltI (a := (k + 1)) (b := 0) (by omega) (by omega)).mp (by omega))) (fun _ => ?_)
      refine g_aload_n hX dX2_come_121 1 rfl ?_
      refine g_get (ci := 2) hX rfl fin_X2 (ovR_o (S := S1)) 7 (by decide) fl_X2_20 rfl dX2_come_122 ?_
      refine g_aload_n hX dX2_come_125 1 rfl ?_
      refine g_get (ci := 2) hX rfl fin_X2 (ovR_o (S := S1)) 10 (by decide) fl_X2_29 rfl dX2_come_126 ?_
      refine g_iload hX dX2_come_129 0 rfl ?_
      refine g_iald hX (ovR_at (S := S1) 6 rfl) (k + 1) rfl (by omega) (by decide) dX2_come_131 ?_
      rw [hw1 (k + 1) hk]
      refine g_iald hX (ovR_at (S := S1) 3 rfl) (Pt (k + 1)) rfl (by omega) (by decide) dX2_come_132 ?_
      refine g_iconst (v := 4) hX dX2_come_133 (by decide) ?_
      refine g_icmp_le hX 205 dX2_come_134 (by decide) (fun c134 => ?_) (fun c134 => ?_)
      · skip
        have hm4n : ¬ 4 < rM S1 (Pt (k + 1)) := by have h9 := (nI_leI (a := rM S1 (Pt (k + 1))) (b := 4) (by omega) (by omega)).mp c134; omega
        refine g_sub [1] rfl ?_
        rw [spu_sf hm4n] at hG
        exact hG
      · skip
        have hm4n : 4 < rM S1 (Pt (k + 1)) := by have h9 := mt (nI_leI (a := rM S1 (Pt (k + 1))) (b := 4) (by omega) (by omega)).mpr c134; omega
        obtain ⟨⟨hs1, hs2, hs3, hs4⟩, hi3⟩ := hi2 hm4n
        refine g_aload_n hX dX2_come_137 1 rfl ?_
        refine g_aload_n hX dX2_come_138 1 rfl ?_
        refine g_get (ci := 2) hX rfl fin_X2 (ovR_o (S := S1)) 10 (by decide) fl_X2_29 rfl dX2_come_139 ?_
        refine g_iload hX dX2_come_142 0 rfl ?_
        refine g_iald hX (ovR_at (S := S1) 6 rfl) (k + 1) rfl (by omega) (by decide) dX2_come_144 ?_
        rw [hw1 (k + 1) hk]
        refine g_callV [] hX (cr_splitOff hX.st sz (S := S1) (n := (h - (k + 1))) (f := Pt (k + 1)) hs1 (by omega) hs2 hs3 hs4 (by omega)) cw_X2_splitOff cv_X2_splitOff lk_X2_119 (ci := 2) rfl rfl ovR_o ⟨by omega, by omega⟩ ⟨by omega, by omega⟩ (Nat.le_of_ble_eq_true rfl) rfl dX2_come_145 rfl (fun v145 M145 z145 hp145 hz145 hd145 => ?_)
        obtain ⟨rfl, rfl, rfl⟩ := hp145
        obtain ⟨S4, hS4⟩ : ∃ S4, S4 = spR S1 (h - (k + 1)) (Pt (k + 1)) := ⟨_, rfl⟩
        rw [← hS4] at hi3 ⊢
        have hw4 : rW S4 = rW S1 := by rw [hS4, spR_W]
        have hp4 : rP S4 = rP S1 := by rw [hS4, spR_P]
        show G X _ (ovR (cxT X) N o S4) sz (0 + 0) (0 + 0) 148 [(5, .int (nI (k + 1))), (0, .ref o)] [.int (nI (rC S1 3))]
        refine g_istore (L' := [(6, .int (nI (rC S1 3))), (5, .int (nI (k + 1))), (0, .ref o)]) hX dX2_come_148 (by decide) rfl ?_
        refine g_iload hX dX2_come_150 1 rfl ?_
        refine g_if_ne hX 173 dX2_come_152 (by decide) (fun _ => ?_) (fun c152 => absurd c152 (nI_ne0 (by omega) (by omega)))
        refine g_aload_n hX dX2_come_173 2 rfl ?_
        refine g_aload_n hX dX2_come_174 2 rfl ?_
        refine g_get (ci := 2) hX rfl fin_X2 (ovR_o (S := S4)) 10 (by decide) fl_X2_29 rfl dX2_come_175 ?_
        refine g_iload hX dX2_come_178 1 rfl ?_
        refine g_iconst (v := 1) hX dX2_come_180 (by decide) ?_
        refine g_isub hX dX2_come_181 ?_
        refine g_iald hX (ovR_at (S := S4) 6 rfl) ((k + 1) - 1) (nI_m1 (by omega)) (by omega) (by decide) dX2_come_182 ?_
        rw [show k + 1 - 1 = k from rfl, hw4, hw1 k (by omega)]
        refine g_aload_n hX dX2_come_183 2 rfl ?_
        refine g_get (ci := 2) hX rfl fin_X2 (ovR_o (S := S4)) 11 (by decide) fl_X2_32 rfl dX2_come_184 ?_
        refine g_iload hX dX2_come_187 1 rfl ?_
        refine g_iconst (v := 1) hX dX2_come_189 (by decide) ?_
        refine g_isub hX dX2_come_190 ?_
        refine g_iald hX (ovR_at (S := S4) 7 rfl) ((k + 1) - 1) (nI_m1 (by omega)) (by omega) (by decide) dX2_come_191 ?_
        rw [show k + 1 - 1 = k from rfl, hp4, hp1 k (by omega)]
        refine g_iconst (v := 1) hX dX2_come_192 (by decide) ?_
        refine g_iadd hX dX2_come_193 ?_
        rw [nI_1]
        show G X _ (ovR (cxT X) N o S4) sz (0 + 0) (0 + 0) 194 [(6, .int (nI (rC S1 3))), (5, .int (nI (k + 1))), (0, .ref o)] [.int (nI (Pl k + 1)), .int (nI (Pt k)), .ref o]
        refine g_iload hX dX2_come_194 0 rfl ?_
        refine g_callV [] hX (cr_put hX.st sz (S := S4) (f := Pt k) (p := Pl k + 1) (x := rC S1 3) hi3.1.1 hi3.1.2.1 hi3.1.2.2) cw_X2_put cv_X2_put lk_X2_93 (ci := 2) rfl rfl ovR_o ⟨by omega, by omega⟩ ⟨by omega, by omega⟩ (Nat.le_of_ble_eq_true rfl) rfl dX2_come_196 rfl (fun v196 M196 z196 hp196 hz196 hd196 => ?_)
        obtain ⟨rfl, rfl, rfl⟩ := hp196
        show G X _ (ovR (cxT X) N o (ptR S4 (Pt k) (Pl k + 1) (rC S1 3))) sz ((0 + 0) + 0) ((0 + 0) + 0) 199 [(6, .int (nI (rC S1 3))), (5, .int (nI (k + 1))), (0, .ref o)] []
        refine g_iinc (v := nI k) (L' := [(5, .int (nI k)), (6, .int (nI (rC S1 3))), (0, .ref o)]) hX dX2_come_199 1 rfl (nI_p1 (by omega)) (by decide) rfl ?_
        refine g_goto hX 116 dX2_come_202 (by decide) ?_
        refine g_sub [0, 2] rfl ?_
        rw [spu_st hm4n, ← hS4] at hG
        exact ihk _ (by omega) (fun j hj => by rw [ptR_W, hw4]; exact hw1 j hj) (fun j hj => by rw [ptR_P, hp4]; exact hp1 j hj) hi3.2 hG
  have hPf : Pt h < 400 := by rw [hPt]; exact (pthR_tr (SE.tt (S' := tkR (uC S 0 0) x1 y1 x2 y2) (SE.rfl' S) ht) h (Nat.le_refl _)).f
  show G X 7 (ovR (cxT X) N o S) sz 0 0 0 [(0, .ref o), (1, .int x1), (2, .int y1), (3, .int x2), (4, .int y2)] []
  refine g_aload_n hX dX2_come_0 0 rfl ?_
  refine g_iconst (v := 0) hX dX2_come_1 (by decide) ?_
  refine g_put (ci := 2) hX rfl fld_X2 (ovR_o (S := S)) 0 (by decide) fl_X2_38 rfl rfl rfl (Nat.le_of_ble_eq_true rfl) dX2_come_2 ?_
  refine g_eqM (ovR_uC0 0 rfl) ?_
  refine g_iload_n hX dX2_come_5 1 rfl ?_
  refine g_iload_n hX dX2_come_6 2 rfl ?_
  refine g_iload_n hX dX2_come_7 3 rfl ?_
  refine g_iload hX dX2_come_8 4 rfl ?_
  refine g_callS [] hX (cr_isRect hX.st sz _ _ _ _) cw_X2_isRect stt_X2_isRect lk_X2_100 ⟨by omega, by omega⟩ ⟨by omega, by omega⟩ (Nat.le_of_ble_eq_true rfl) rfl dX2_come_10 rfl (fun v10 M10 z10 hp10 hz10 hd10 => ?_)
  rw [show isR x1 y1 x2 y2 = true from hr] at hp10
  obtain ⟨rfl, rfl, rfl⟩ := hp10
  show G X _ (ovR (cxT X) N o (uC S 0 0)) sz (0 + 0) (0 + 0) 13 [(0, .ref o), (1, .int x1), (2, .int y1), (3, .int x2), (4, .int y2)] [.int 1]
  refine g_if_ne hX 22 dX2_come_13 (by decide) (fun _ => ?_) (fun c13 => absurd c13 (by decide))
  refine g_aload_n hX dX2_come_22 0 rfl ?_
  refine g_get (ci := 2) hX rfl fin_X2 (ovR_o (S := (uC S 0 0))) 1 (by decide) fl_X2_41 rfl dX2_come_23 ?_
  refine g_bipush (v := 60) hX dX2_come_26 (by decide) ?_
  refine g_icmp_ne hX 37 dX2_come_28 (by decide) (fun _ => ?_) (fun c28 => absurd c28 (fun e => by have h9 := (nI_eq (a := rC S 1) (b := 60) (by omega) (by omega)).mp e; omega))
  refine g_aload_n hX dX2_come_37 0 rfl ?_
  refine g_iload_n hX dX2_come_38 1 rfl ?_
  refine g_iload_n hX dX2_come_39 2 rfl ?_
  refine g_iload_n hX dX2_come_40 3 rfl ?_
  refine g_iload hX dX2_come_41 4 rfl ?_
  refine g_callV [] hX (cr_take hX.st sz (S := uC S 0 0) _ _ _ _) cw_X2_take cv_X2_take lk_X2_106 (ci := 2) rfl rfl ovR_o ⟨by omega, by omega⟩ ⟨by omega, by omega⟩ (Nat.le_of_ble_eq_true rfl) rfl dX2_come_43 rfl (fun v43 M43 z43 hp43 hz43 hd43 => ?_)
  obtain ⟨rfl, rfl, rfl⟩ := hp43
  show G X _ (ovR (cxT X) N o (tkR (uC S 0 0) x1 y1 x2 y2)) sz ((0 + 0) + 0) ((0 + 0) + 0) 46 [(0, .ref o), (1, .int x1), (2, .int y1), (3, .int x2), (4, .int y2)] []
  refine g_aload_n hX dX2_come_46 0 rfl ?_
  refine g_callV [] hX (cr_goDown hX.st sz (S := tkR (uC S 0 0) x1 y1 x2 y2) (h := h) (SE.tt (S' := tkR (uC S 0 0) x1 y1 x2 y2) (SE.rfl' S) ht) hh) cw_X2_goDown cv_X2_goDown lk_X2_110 (ci := 2) rfl rfl ovR_o ⟨by omega, by omega⟩ ⟨by omega, by omega⟩ (Nat.le_of_ble_eq_true rfl) rfl dX2_come_47 rfl (fun v47 M47 z47 hp47 hz47 hd47 => ?_)
  obtain ⟨rfl, ⟨w, p, rfl, hw3, hp3⟩, rfl⟩ := hp47
  show G X _ (ovR (cxT X) N o (uWP (tkR (uC S 0 0) x1 y1 x2 y2) (va_up (rC (tkR (uC S 0 0) x1 y1 x2 y2)) 5 h) w p)) sz (((0 + 0) + 0) + 0) (((0 + 0) + 0) + 0) 50 [(0, .ref o), (1, .int x1), (2, .int y1), (3, .int x2), (4, .int y2)] []
  obtain ⟨S1, hS1⟩ : ∃ S1, S1 = cm1 S x1 y1 x2 y2 h w p := ⟨_, rfl⟩
  have hSp := hS w p
  rw [show rC (tkR (uC S 0 0) x1 y1 x2 y2) 4 = rC S 4 from rfl, ← hPt] at hw3
  rw [show rC (tkR (uC S 0 0) x1 y1 x2 y2) 4 = rC S 4 from rfl, ← hPl] at hp3
  rw [← hS1] at hSp
  have hc1 : rC S1 1 = rC S 1 := by rw [hS1, cm1_C1]
  have h51 : rC S1 5 = h := by rw [hS1, cm1_C5]
  have hW1 : ∀ j, j ≤ h → rW S1 j = Pt j := by rw [hS1, cm1_W]; exact hw3
  have hP1 : ∀ j, j < h → rP S1 j = Pl j := by rw [hS1, cm1_P]; exact hp3
  have hM1 : rM S1 = rM S := by rw [hS1, cm1_M]
  show G X 7 (ovR (cxT X) N o (cm1 S x1 y1 x2 y2 h w p)) _ _ _ _ _ _
  rw [← hS1]
  refine g_aload_n hX dX2_come_50 0 rfl ?_
  refine g_get (ci := 2) hX rfl fin_X2 (ovR_o (S := S1)) 13 (by decide) fl_X2_35 rfl dX2_come_51 ?_
  refine g_iconst (v := 0) hX dX2_come_54 (by decide) ?_
  refine g_aload_n hX dX2_come_55 0 rfl ?_
  refine g_get (ci := 2) hX rfl fin_X2 (ovR_o (S := S1)) 3 (by decide) fl_X2_9 rfl dX2_come_56 ?_
  refine g_iconst (v := 4) hX dX2_come_59 (by decide) ?_
  refine g_aload_n hX dX2_come_60 0 rfl ?_
  refine g_get (ci := 2) hX rfl fin_X2 (ovR_o (S := S1)) 1 (by decide) fl_X2_41 rfl dX2_come_61 ?_
  rw [hc1]
  refine g_imul hX dX2_come_64 ?_
  refine g_iconst (v := 4) hX dX2_come_65 (by decide) ?_
  refine g_acopy [] hX lk_X2_113 nat_arraycopyName stt_arraycopyName ini_java_lang_System (by omega) (by omega) (by decide) (ovR_at (S := S1) 8 rfl) (ovR_at (S := S1) 1 rfl) 0 (4 * rC S 1) 4 rfl (ix40 _) rfl (by decide) (by omega) (by decide) (by decide) dX2_come_66 ?_
  refine g_eqM (ovR_uEf _) ?_
  show G X _ (ovR (cxT X) N o (uEf S1 (va_cpy (rR S1) (rE S1) 0 (4 * (rC S 1)) 4))) sz (((0 + 0) + 0) + 0) (((0 + 0) + 0) + 0) 69 [(0, .ref o), (1, .int x1), (2, .int y1), (3, .int x2), (4, .int y2)] []
  refine g_aload_n hX dX2_come_69 0 rfl ?_
  refine g_get (ci := 2) hX rfl fin_X2 (ovR_o (S := (uEf S1 (va_cpy (rR S1) (rE S1) 0 (4 * (rC S 1)) 4)))) 4 (by decide) fl_X2_13 rfl dX2_come_70 ?_
  refine g_aload_n hX dX2_come_73 0 rfl ?_
  refine g_get (ci := 2) hX rfl fin_X2 (ovR_o (S := (uEf S1 (va_cpy (rR S1) (rE S1) 0 (4 * (rC S 1)) 4)))) 1 (by decide) fl_X2_41 rfl dX2_come_74 ?_
  rw [show rC (uEf S1 (va_cpy (rR S1) (rE S1) 0 (4 * (rC S 1)) 4)) 1 = rC S 1 from hc1]
  refine g_iconst (v := 1) hX dX2_come_77 (by decide) ?_
  refine g_iast hX (ovR_at (S := (uEf S1 (va_cpy (rR S1) (rE S1) 0 (4 * (rC S 1)) 4))) 2 rfl) (rC S 1) rfl (by omega) (by decide) dX2_come_78 ?_
  refine g_eqM (ovR_uD (rC S 1) 1 rfl) ?_
  show G X 7 (ovR (cxT X) N o (cm2 S1 (rC S 1))) _ _ _ _ _ _
  obtain ⟨S2, hS2⟩ : ∃ S2, S2 = cm2 S1 (rC S 1) := ⟨_, rfl⟩
  have hc2 : rC S2 1 = rC S 1 := by rw [hS2, cm2_C]; exact hc1
  have h52 : rC S2 5 = h := by rw [hS2, cm2_C]; exact h51
  have hW2 : ∀ j, j ≤ h → rW S2 j = Pt j := by rw [hS2, cm2_W]; exact hW1
  have hP2 : ∀ j, j < h → rP S2 j = Pl j := by rw [hS2, cm2_P]; exact hP1
  have hM2 : rM S2 = rM S := by rw [hS2, cm2_M]; exact hM1
  have hc3 : ptR S2 (Pt h) (rM S2 (Pt h)) (rC S 1) = cm3 S1 (rC S 1) (Pt h) := by rw [hS2]; rfl
  rw [← hc3] at hSp
  rw [← hS2]
  refine g_aload_n hX dX2_come_79 0 rfl ?_
  refine g_aload_n hX dX2_come_80 0 rfl ?_
  refine g_get (ci := 2) hX rfl fin_X2 (ovR_o (S := S2)) 10 (by decide) fl_X2_29 rfl dX2_come_81 ?_
  refine g_aload_n hX dX2_come_84 0 rfl ?_
  refine g_get (ci := 2) hX rfl fin_X2 (ovR_o (S := S2)) 12 (by decide) fl_X2_77 rfl dX2_come_85 ?_
  rw [h52]
  refine g_iald hX (ovR_at (S := S2) 6 rfl) h rfl (by omega) (by decide) dX2_come_88 ?_
  rw [hW2 h (Nat.le_refl _)]
  refine g_aload_n hX dX2_come_89 0 rfl ?_
  refine g_get (ci := 2) hX rfl fin_X2 (ovR_o (S := S2)) 7 (by decide) fl_X2_20 rfl dX2_come_90 ?_
  refine g_aload_n hX dX2_come_93 0 rfl ?_
  refine g_get (ci := 2) hX rfl fin_X2 (ovR_o (S := S2)) 10 (by decide) fl_X2_29 rfl dX2_come_94 ?_
  refine g_aload_n hX dX2_come_97 0 rfl ?_
  refine g_get (ci := 2) hX rfl fin_X2 (ovR_o (S := S2)) 12 (by decide) fl_X2_77 rfl dX2_come_98 ?_
  rw [h52]
  refine g_iald hX (ovR_at (S := S2) 6 rfl) h rfl (by omega) (by decide) dX2_come_101 ?_
  rw [hW2 h (Nat.le_refl _)]
  refine g_iald hX (ovR_at (S := S2) 3 rfl) (Pt h) rfl (by omega) (by decide) dX2_come_102 ?_
  refine g_aload_n hX dX2_come_103 0 rfl ?_
  refine g_get (ci := 2) hX rfl fin_X2 (ovR_o (S := S2)) 1 (by decide) fl_X2_41 rfl dX2_come_104 ?_
  rw [hc2]
  refine g_callV [] hX (cr_put hX.st sz (S := S2) (f := Pt h) (p := rM S2 (Pt h)) (x := rC S 1) hPf (by rw [hM2]; exact hm4) (Nat.le_refl _)) cw_X2_put cv_X2_put lk_X2_93 (ci := 2) rfl rfl ovR_o ⟨by omega, by omega⟩ ⟨by omega, by omega⟩ (Nat.le_of_ble_eq_true rfl) rfl dX2_come_107 rfl (fun v107 M107 z107 hp107 hz107 hd107 => ?_)
  obtain ⟨rfl, rfl, rfl⟩ := hp107
  show G X _ (ovR (cxT X) N o (ptR S2 (Pt h) (rM S2 (Pt h)) (rC S 1))) sz ((((0 + 0) + 0) + 0) + 0) ((((0 + 0) + 0) + 0) + 0) 110 [(0, .ref o), (1, .int x1), (2, .int y1), (3, .int x2), (4, .int y2)] []
  obtain ⟨S3, hS3⟩ : ∃ S3, S3 = ptR S2 (Pt h) (rM S2 (Pt h)) (rC S 1) := ⟨_, rfl⟩
  have hc4 : rC S3 1 = rC S 1 := by rw [hS3, ptR_C]; exact hc2
  have h53 : rC S3 5 = h := by rw [hS3, ptR_C]; exact h52
  have hW3 : ∀ j, j ≤ h → rW S3 j = Pt j := by rw [hS3, ptR_W]; exact hW2
  have hP3 : ∀ j, j < h → rP S3 j = Pl j := by rw [hS3, ptR_P]; exact hP2
  have he3 : S3 = cm3 (cm1 S x1 y1 x2 y2 h w p) (rC S 1) (Pt h) := by rw [hS3, hc3, hS1]
  rw [← hS3] at hSp ⊢
  refine g_aload_n hX dX2_come_110 0 rfl ?_
  refine g_get (ci := 2) hX rfl fin_X2 (ovR_o (S := S3)) 12 (by decide) fl_X2_77 rfl dX2_come_111 ?_
  rw [h53]
  refine g_istore (L' := [(5, .int (nI h)), (0, .ref o), (1, .int x1), (2, .int y1), (3, .int x2), (4, .int y2)]) hX dX2_come_114 (by decide) rfl ?_
  refine g_sub [0, 1] rfl ?_
  refine chain h S3 (Nat.le_refl _) hW3 hP3 hSp ?_
  obtain ⟨S5, hS5⟩ : ∃ S5, S5 = spuR Pt Pl h h S3 := ⟨_, rfl⟩
  have hc5 : rC S5 1 = rC S 1 := by rw [hS5, spu_C1]; exact hc4
  rw [← hS5]
  refine g_aload_n hX dX2_come_205 0 rfl ?_
  refine g_dup hX dX2_come_206 rfl ?_
  refine g_get (ci := 2) hX rfl fin_X2 (ovR_o (S := S5)) 1 (by decide) fl_X2_41 rfl dX2_come_207 ?_
  rw [hc5]
  refine g_iconst (v := 1) hX dX2_come_210 (by decide) ?_
  refine g_iadd hX dX2_come_211 ?_
  refine g_put (ci := 2) hX rfl fld_X2 (ovR_o (S := S5)) 1 (by decide) fl_X2_41 rfl rfl rfl (Nat.le_of_ble_eq_true rfl) dX2_come_212 ?_
  refine g_eqM (ovR_uC1 (rC S 1 + 1) (nI_1 _)) ?_
  have hc6 : rC (uC S5 1 (rC S 1 + 1)) 1 = rC S 1 + 1 := va_up_self (rC S5) 1 _
  refine g_aload_n hX dX2_come_215 0 rfl ?_
  refine g_get (ci := 2) hX rfl fin_X2 (ovR_o (S := (uC S5 1 (rC S 1 + 1)))) 1 (by decide) fl_X2_41 rfl dX2_come_216 ?_
  refine g_iconst (v := 1) hX dX2_come_219 (by decide) ?_
  refine g_isub hX dX2_come_220 ?_
  exact hF (some (.int ((nI (rC (uC S5 1 (rC S 1 + 1)) 1)) - 1))) (ovR (cxT X) N o (uC S5 1 (rC S 1 + 1))) sz _ _ _ _ .ireturn (⟨by rw [hc6, nI_m1 (by omega)]; rfl, ⟨w, p, by rw [hS5, he3]⟩, rfl⟩) (by omega) (by omega) ret_i dX2_come_221
