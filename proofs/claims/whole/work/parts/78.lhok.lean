set_option maxHeartbeats 1000000 in
set_option maxRecDepth 100000 in
theorem lh_come {l : Launch} (hl : l.stackTraces = false) {T : CT3} {D : va_G} {M : AH} (sz : Nat) {b0 qo : Nat} {fs : List Value} (hb0 : M b0 = some (.inr (1, fs))) {a0 a1 a2 a3 : Int32} {fr lo mc ms : Nat} {post : Option Value → AH → Nat → Prop} (hc : Ct l T D yX1_come cX1_come 7 (some .int) fr lo mc ms [.ref b0, .int a0, .int a1, .int a2, .int a3] M sz post) {f : Nat → Int64} {Q : Int32 → AH → Nat → Prop} (hq : ∀ v M' z', post v M' z' → ∃ x, v = some (.int x) ∧ M' qo = some (eL T 1 f) ∧ Q x M' z') : CtH l T D yL_come cL_come 7 (some .int) [(0, 14, 17, 13), (0, 14, 21, 15)] (fr + 1) (8 + (7 + 11) + lo) mc ms [.ref b0, .int a0, .int a1, .int a2, .int a3, .ref qo] M sz (fun v M' z' => v = some (.int 0) ∧ ∃ x M1, Q x M1 z' ∧ M' = va_up M1 qo (some (eL T 1 (va_up f 0 x.toInt64)))) := by
  refine CtH.of hl (by decide) (Nat.le_of_ble_eq_true rfl) ?_
  intro X hl0 hT0 hD0 hlt hX hTh hF
  subst hl0; subst hT0; subst hD0
  show G X 7 M sz 0 0 0 [(0, .ref b0), (1, .int a0), (2, .int a1), (3, .int a2), (4, .int a3), (5, .ref qo)] []
  refine g_aload hX dL_come_0 5 rfl ?_
  refine g_iconst (v := 0) hX dL_come_2 (by decide) ?_
  refine g_aload_n hX dL_come_3 0 rfl ?_
  refine g_iload_n hX dL_come_4 1 rfl ?_
  refine g_iload_n hX dL_come_5 2 rfl ?_
  refine g_iload_n hX dL_come_6 3 rfl ?_
  refine g_iload hX dL_come_7 4 rfl ?_
  refine g_callV [.int 0, .ref qo] hX hc cw_X1_come cv_X1_come lk_L_7 (ci := 1) rfl rfl hb0 ⟨Nat.le_refl _, Nat.le_refl _⟩ ⟨by omega, by omega⟩ (Nat.le_of_ble_eq_true rfl) rfl dL_come_9 rfl (fun v5 M5 z5 hp5 hz5 hd5 => ?_)
  obtain ⟨x, rfl, hqo, hQ⟩ := hq _ _ _ hp5
  refine g_i2l (x := x) hX dL_come_12 ?_
  refine g_last hX hqo 0 rfl (by decide) (by decide) dL_come_13 ?_
  refine g_goto hX 25 dL_come_14 (by decide) ?_
  refine g_iconst (v := 0) hX dL_come_25 (by decide) ?_
  exact hF (some (.int 0)) _ z5 _ _ _ _ .ireturn (⟨rfl, x, M5, hQ, rfl⟩) (by omega) (by omega) ret_i dL_come_26

set_option maxHeartbeats 1000000 in
set_option maxRecDepth 100000 in
theorem lh_go {l : Launch} (hl : l.stackTraces = false) {T : CT3} {D : va_G} {M : AH} (sz : Nat) {b0 qo : Nat} {fs : List Value} (hb0 : M b0 = some (.inr (1, fs))) {a0 : Int32} {fr lo mc ms : Nat} {post : Option Value → AH → Nat → Prop} (hc : Ct l T D yX1_go cX1_go 4 (some .int) fr lo mc ms [.ref b0, .int a0] M sz post) {f : Nat → Int64} {Q : Int32 → AH → Nat → Prop} (hq : ∀ v M' z', post v M' z' → ∃ x, v = some (.int x) ∧ M' qo = some (eL T 1 f) ∧ Q x M' z') : CtH l T D yL_go cL_go 4 (some .int) [(0, 9, 12, 21), (0, 9, 15, 15)] (fr + 1) (8 + (4 + 11) + lo) mc ms [.ref b0, .int a0, .ref qo] M sz (fun v M' z' => v = some (.int 0) ∧ ∃ x M1, Q x M1 z' ∧ M' = va_up M1 qo (some (eL T 1 (va_up f 0 x.toInt64)))) := by
  refine CtH.of hl (by decide) (Nat.le_of_ble_eq_true rfl) ?_
  intro X hl0 hT0 hD0 hlt hX hTh hF
  subst hl0; subst hT0; subst hD0
  show G X 4 M sz 0 0 0 [(0, .ref b0), (1, .int a0), (2, .ref qo)] []
  refine g_aload_n hX dL_go_0 2 rfl ?_
  refine g_iconst (v := 0) hX dL_go_1 (by decide) ?_
  refine g_aload_n hX dL_go_2 0 rfl ?_
  refine g_iload_n hX dL_go_3 1 rfl ?_
  refine g_callV [.int 0, .ref qo] hX hc cw_X1_go cv_X1_go lk_L_17 (ci := 1) rfl rfl hb0 ⟨Nat.le_refl _, Nat.le_refl _⟩ ⟨by omega, by omega⟩ (Nat.le_of_ble_eq_true rfl) rfl dL_go_4 rfl (fun v5 M5 z5 hp5 hz5 hd5 => ?_)
  obtain ⟨x, rfl, hqo, hQ⟩ := hq _ _ _ hp5
  refine g_i2l (x := x) hX dL_go_7 ?_
  refine g_last hX hqo 0 rfl (by decide) (by decide) dL_go_8 ?_
  refine g_goto hX 18 dL_go_9 (by decide) ?_
  refine g_iconst (v := 0) hX dL_go_18 (by decide) ?_
  exact hF (some (.int 0)) _ z5 _ _ _ _ .ireturn (⟨rfl, x, M5, hQ, rfl⟩) (by omega) (by omega) ret_i dL_go_19

set_option maxHeartbeats 1000000 in
set_option maxRecDepth 100000 in
theorem lh_told {l : Launch} (hl : l.stackTraces = false) {T : CT3} {D : va_G} {M : AH} (sz : Nat) {b0 qo : Nat} {fs : List Value} (hb0 : M b0 = some (.inr (1, fs))) {a0 a1 : Int32} {fr lo mc ms : Nat} {post : Option Value → AH → Nat → Prop} (hc : Ct l T D yX1_told cX1_told 4 (some .int) fr lo mc ms [.ref b0, .int a0, .int a1] M sz post) {f : Nat → Int64} {Q : Int32 → AH → Nat → Prop} (hq : ∀ v M' z', post v M' z' → ∃ x, v = some (.int x) ∧ M' qo = some (eL T 1 f) ∧ Q x M' z') : CtH l T D yL_told cL_told 5 (some .int) [(0, 10, 13, 21)] (fr + 1) (8 + (4 + 11) + lo) mc ms [.ref b0, .int a0, .int a1, .ref qo] M sz (fun v M' z' => v = some (.int 0) ∧ ∃ x M1, Q x M1 z' ∧ M' = va_up M1 qo (some (eL T 1 (va_up f 0 x.toInt64)))) := by
  refine CtH.of hl (by decide) (Nat.le_of_ble_eq_true rfl) ?_
  intro X hl0 hT0 hD0 hlt hX hTh hF
  subst hl0; subst hT0; subst hD0
  show G X 5 M sz 0 0 0 [(0, .ref b0), (1, .int a0), (2, .int a1), (3, .ref qo)] []
  refine g_aload_n hX dL_told_0 3 rfl ?_
  refine g_iconst (v := 0) hX dL_told_1 (by decide) ?_
  refine g_aload_n hX dL_told_2 0 rfl ?_
  refine g_iload_n hX dL_told_3 1 rfl ?_
  refine g_iload_n hX dL_told_4 2 rfl ?_
  refine g_callV [.int 0, .ref qo] hX hc cw_X1_told cv_X1_told lk_L_23 (ci := 1) rfl rfl hb0 ⟨Nat.le_refl _, Nat.le_refl _⟩ ⟨by omega, by omega⟩ (Nat.le_of_ble_eq_true rfl) rfl dL_told_5 rfl (fun v5 M5 z5 hp5 hz5 hd5 => ?_)
  obtain ⟨x, rfl, hqo, hQ⟩ := hq _ _ _ hp5
  refine g_i2l (x := x) hX dL_told_8 ?_
  refine g_last hX hqo 0 rfl (by decide) (by decide) dL_told_9 ?_
  refine g_goto hX 17 dL_told_10 (by decide) ?_
  refine g_iconst (v := 0) hX dL_told_17 (by decide) ?_
  exact hF (some (.int 0)) _ z5 _ _ _ _ .ireturn (⟨rfl, x, M5, hQ, rfl⟩) (by omega) (by omega) ret_i dL_told_18

set_option maxHeartbeats 1000000 in
set_option maxRecDepth 100000 in
theorem lh_way {l : Launch} (hl : l.stackTraces = false) {T : CT3} {D : va_G} {M : AH} (sz : Nat) {b0 qo : Nat} {fs : List Value} (hb0 : M b0 = some (.inr (1, fs))) {a0 a1 : Int32} {fr lo mc ms : Nat} {post : Option Value → AH → Nat → Prop} (hc : Ct l T D yX1_way cX1_way 6 (some .int) fr lo mc ms [.ref b0, .int a0, .int a1] M sz post) {f : Nat → Int64} {Q : Int32 → AH → Nat → Prop} (hq : ∀ v M' z', post v M' z' → ∃ x, v = some (.int x) ∧ M' qo = some (eL T 1 f) ∧ Q x M' z') : CtH l T D yL_way cL_way 5 (some .int) [(0, 10, 13, 21)] (fr + 1) (8 + (6 + 11) + lo) mc ms [.ref b0, .int a0, .int a1, .ref qo] M sz (fun v M' z' => v = some (.int 0) ∧ ∃ x M1, Q x M1 z' ∧ M' = va_up M1 qo (some (eL T 1 (va_up f 0 x.toInt64)))) := by
  refine CtH.of hl (by decide) (Nat.le_of_ble_eq_true rfl) ?_
  intro X hl0 hT0 hD0 hlt hX hTh hF
  subst hl0; subst hT0; subst hD0
  show G X 5 M sz 0 0 0 [(0, .ref b0), (1, .int a0), (2, .int a1), (3, .ref qo)] []
  refine g_aload_n hX dL_way_0 3 rfl ?_
  refine g_iconst (v := 0) hX dL_way_1 (by decide) ?_
  refine g_aload_n hX dL_way_2 0 rfl ?_
  refine g_iload_n hX dL_way_3 1 rfl ?_
  refine g_iload_n hX dL_way_4 2 rfl ?_
  refine g_callV [.int 0, .ref qo] hX hc cw_X1_way cv_X1_way lk_L_27 (ci := 1) rfl rfl hb0 ⟨Nat.le_refl _, Nat.le_refl _⟩ ⟨by omega, by omega⟩ (Nat.le_of_ble_eq_true rfl) rfl dL_way_5 rfl (fun v5 M5 z5 hp5 hz5 hd5 => ?_)
  obtain ⟨x, rfl, hqo, hQ⟩ := hq _ _ _ hp5
  refine g_i2l (x := x) hX dL_way_8 ?_
  refine g_last hX hqo 0 rfl (by decide) (by decide) dL_way_9 ?_
  refine g_goto hX 17 dL_way_10 (by decide) ?_
  refine g_iconst (v := 0) hX dL_way_17 (by decide) ?_
  exact hF (some (.int 0)) _ z5 _ _ _ _ .ireturn (⟨rfl, x, M5, hQ, rfl⟩) (by omega) (by omega) ret_i dL_way_18

set_option maxHeartbeats 1000000 in
set_option maxRecDepth 100000 in
theorem lh_overlaps {l : Launch} (hl : l.stackTraces = false) {T : CT3} {D : va_G} {M : AH} (sz : Nat) {b0 qo : Nat} {fs : List Value} (hb0 : M b0 = some (.inr (1, fs))) {a0 a1 a2 a3 : Int32} {fr lo mc ms : Nat} {post : Option Value → AH → Nat → Prop} (hc : Ct l T D yX1_overlaps cX1_overlaps 5 (some .int) fr lo mc ms [.ref b0, .int a0, .int a1, .int a2, .int a3] M sz post) {f : Nat → Int64} {Q : Int32 → AH → Nat → Prop} (hq : ∀ v M' z', post v M' z' → ∃ x, v = some (.int x) ∧ M' qo = some (eL T 1 f) ∧ Q x M' z') : CtH l T D yL_overlaps cL_overlaps 7 (some .int) [(0, 14, 17, 13)] (fr + 1) (8 + (5 + 11) + lo) mc ms [.ref b0, .int a0, .int a1, .int a2, .int a3, .ref qo] M sz (fun v M' z' => v = some (.int 0) ∧ ∃ x M1, Q x M1 z' ∧ M' = va_up M1 qo (some (eL T 1 (va_up f 0 x.toInt64)))) := by
  refine CtH.of hl (by decide) (Nat.le_of_ble_eq_true rfl) ?_
  intro X hl0 hT0 hD0 hlt hX hTh hF
  subst hl0; subst hT0; subst hD0
  show G X 7 M sz 0 0 0 [(0, .ref b0), (1, .int a0), (2, .int a1), (3, .int a2), (4, .int a3), (5, .ref qo)] []
  refine g_aload hX dL_overlaps_0 5 rfl ?_
  refine g_iconst (v := 0) hX dL_overlaps_2 (by decide) ?_
  refine g_aload_n hX dL_overlaps_3 0 rfl ?_
  refine g_iload_n hX dL_overlaps_4 1 rfl ?_
  refine g_iload_n hX dL_overlaps_5 2 rfl ?_
  refine g_iload_n hX dL_overlaps_6 3 rfl ?_
  refine g_iload hX dL_overlaps_7 4 rfl ?_
  refine g_callV [.int 0, .ref qo] hX hc cw_X1_overlaps cv_X1_overlaps lk_L_30 (ci := 1) rfl rfl hb0 ⟨Nat.le_refl _, Nat.le_refl _⟩ ⟨by omega, by omega⟩ (Nat.le_of_ble_eq_true rfl) rfl dL_overlaps_9 rfl (fun v5 M5 z5 hp5 hz5 hd5 => ?_)
  obtain ⟨x, rfl, hqo, hQ⟩ := hq _ _ _ hp5
  refine g_i2l (x := x) hX dL_overlaps_12 ?_
  refine g_last hX hqo 0 rfl (by decide) (by decide) dL_overlaps_13 ?_
  refine g_goto hX 21 dL_overlaps_14 (by decide) ?_
  refine g_iconst (v := 0) hX dL_overlaps_21 (by decide) ?_
  exact hF (some (.int 0)) _ z5 _ _ _ _ .ireturn (⟨rfl, x, M5, hQ, rfl⟩) (by omega) (by omega) ret_i dL_overlaps_22

set_option maxHeartbeats 1000000 in
set_option maxRecDepth 100000 in
theorem lh_looks {l : Launch} (hl : l.stackTraces = false) {T : CT3} {D : va_G} {M : AH} (sz : Nat) {b0 qo : Nat} {fs : List Value} (hb0 : M b0 = some (.inr (1, fs))) {a0 a1 a2 a3 : Int32} {fr lo mc ms : Nat} {post : Option Value → AH → Nat → Prop} (hc : Ct l T D yX1_looks cX1_looks 5 (some .int) fr lo mc ms [.ref b0, .int a0, .int a1, .int a2, .int a3] M sz post) {f : Nat → Int64} {Q : Int32 → AH → Nat → Prop} (hq : ∀ v M' z', post v M' z' → ∃ x, v = some (.int x) ∧ M' qo = some (eL T 1 f) ∧ Q x M' z') : CtH l T D yL_looks cL_looks 7 (some .int) [(0, 14, 17, 13)] (fr + 1) (8 + (5 + 11) + lo) mc ms [.ref b0, .int a0, .int a1, .int a2, .int a3, .ref qo] M sz (fun v M' z' => v = some (.int 0) ∧ ∃ x M1, Q x M1 z' ∧ M' = va_up M1 qo (some (eL T 1 (va_up f 0 x.toInt64)))) := by
  refine CtH.of hl (by decide) (Nat.le_of_ble_eq_true rfl) ?_
  intro X hl0 hT0 hD0 hlt hX hTh hF
  subst hl0; subst hT0; subst hD0
  show G X 7 M sz 0 0 0 [(0, .ref b0), (1, .int a0), (2, .int a1), (3, .int a2), (4, .int a3), (5, .ref qo)] []
  refine g_aload hX dL_looks_0 5 rfl ?_
  refine g_iconst (v := 0) hX dL_looks_2 (by decide) ?_
  refine g_aload_n hX dL_looks_3 0 rfl ?_
  refine g_iload_n hX dL_looks_4 1 rfl ?_
  refine g_iload_n hX dL_looks_5 2 rfl ?_
  refine g_iload_n hX dL_looks_6 3 rfl ?_
  refine g_iload hX dL_looks_7 4 rfl ?_
  refine g_callV [.int 0, .ref qo] hX hc cw_X1_looks cv_X1_looks lk_L_33 (ci := 1) rfl rfl hb0 ⟨Nat.le_refl _, Nat.le_refl _⟩ ⟨by omega, by omega⟩ (Nat.le_of_ble_eq_true rfl) rfl dL_looks_9 rfl (fun v5 M5 z5 hp5 hz5 hd5 => ?_)
  obtain ⟨x, rfl, hqo, hQ⟩ := hq _ _ _ hp5
  refine g_i2l (x := x) hX dL_looks_12 ?_
  refine g_last hX hqo 0 rfl (by decide) (by decide) dL_looks_13 ?_
  refine g_goto hX 21 dL_looks_14 (by decide) ?_
  refine g_iconst (v := 0) hX dL_looks_21 (by decide) ?_
  exact hF (some (.int 0)) _ z5 _ _ _ _ .ireturn (⟨rfl, x, M5, hQ, rfl⟩) (by omega) (by omega) ret_i dL_looks_22

set_option maxHeartbeats 1000000 in
set_option maxRecDepth 100000 in
theorem lh_nearest {l : Launch} (hl : l.stackTraces = false) {T : CT3} {D : va_G} {M : AH} (sz : Nat) {b0 qo : Nat} {fs : List Value} (hb0 : M b0 = some (.inr (1, fs))) {a0 a1 : Int32} {fr lo mc ms : Nat} {post : Option Value → AH → Nat → Prop} (hc : Ct l T D yX1_nearest cX1_nearest 6 (some .int) fr lo mc ms [.ref b0, .int a0, .int a1] M sz post) {f : Nat → Int64} {Q : Int32 → AH → Nat → Prop} (hq : ∀ v M' z', post v M' z' → ∃ x, v = some (.int x) ∧ M' qo = some (eL T 1 f) ∧ Q x M' z') : CtH l T D yL_nearest cL_nearest 5 (some .int) [(0, 10, 13, 13)] (fr + 1) (8 + (6 + 11) + lo) mc ms [.ref b0, .int a0, .int a1, .ref qo] M sz (fun v M' z' => v = some (.int 0) ∧ ∃ x M1, Q x M1 z' ∧ M' = va_up M1 qo (some (eL T 1 (va_up f 0 x.toInt64)))) := by
  refine CtH.of hl (by decide) (Nat.le_of_ble_eq_true rfl) ?_
  intro X hl0 hT0 hD0 hlt hX hTh hF
  subst hl0; subst hT0; subst hD0
  show G X 5 M sz 0 0 0 [(0, .ref b0), (1, .int a0), (2, .int a1), (3, .ref qo)] []
  refine g_aload_n hX dL_nearest_0 3 rfl ?_
  refine g_iconst (v := 0) hX dL_nearest_1 (by decide) ?_
  refine g_aload_n hX dL_nearest_2 0 rfl ?_
  refine g_iload_n hX dL_nearest_3 1 rfl ?_
  refine g_iload_n hX dL_nearest_4 2 rfl ?_
  refine g_callV [.int 0, .ref qo] hX hc cw_X1_nearest cv_X1_nearest lk_L_36 (ci := 1) rfl rfl hb0 ⟨Nat.le_refl _, Nat.le_refl _⟩ ⟨by omega, by omega⟩ (Nat.le_of_ble_eq_true rfl) rfl dL_nearest_5 rfl (fun v5 M5 z5 hp5 hz5 hd5 => ?_)
  obtain ⟨x, rfl, hqo, hQ⟩ := hq _ _ _ hp5
  refine g_i2l (x := x) hX dL_nearest_8 ?_
  refine g_last hX hqo 0 rfl (by decide) (by decide) dL_nearest_9 ?_
  refine g_goto hX 17 dL_nearest_10 (by decide) ?_
  refine g_iconst (v := 0) hX dL_nearest_17 (by decide) ?_
  exact hF (some (.int 0)) _ z5 _ _ _ _ .ireturn (⟨rfl, x, M5, hQ, rfl⟩) (by omega) (by omega) ret_i dL_nearest_18

set_option maxHeartbeats 1000000 in
set_option maxRecDepth 100000 in
theorem lh_count {l : Launch} (hl : l.stackTraces = false) {T : CT3} {D : va_G} {M : AH} (sz : Nat) {b0 qo : Nat} {fs : List Value} (hb0 : M b0 = some (.inr (1, fs))) {a0 : Int32} {fr lo mc ms : Nat} {post : Option Value → AH → Nat → Prop} (hc : Ct l T D yX1_count cX1_count 2 (some .int) fr lo mc ms [.ref b0, .int a0] M sz post) {f : Nat → Int64} {Q : Int32 → AH → Nat → Prop} (hq : ∀ v M' z', post v M' z' → ∃ x, v = some (.int x) ∧ M' qo = some (eL T 1 f) ∧ Q x M' z') : CtH l T D yL_count cL_count 4 (some .int) [(0, 9, 12, 21)] (fr + 1) (8 + (2 + 11) + lo) mc ms [.ref b0, .int a0, .ref qo] M sz (fun v M' z' => v = some (.int 0) ∧ ∃ x M1, Q x M1 z' ∧ M' = va_up M1 qo (some (eL T 1 (va_up f 0 x.toInt64)))) := by
  refine CtH.of hl (by decide) (Nat.le_of_ble_eq_true rfl) ?_
  intro X hl0 hT0 hD0 hlt hX hTh hF
  subst hl0; subst hT0; subst hD0
  show G X 4 M sz 0 0 0 [(0, .ref b0), (1, .int a0), (2, .ref qo)] []
  refine g_aload_n hX dL_count_0 2 rfl ?_
  refine g_iconst (v := 0) hX dL_count_1 (by decide) ?_
  refine g_aload_n hX dL_count_2 0 rfl ?_
  refine g_iload_n hX dL_count_3 1 rfl ?_
  refine g_callV [.int 0, .ref qo] hX hc cw_X1_count cv_X1_count lk_L_39 (ci := 1) rfl rfl hb0 ⟨Nat.le_refl _, Nat.le_refl _⟩ ⟨by omega, by omega⟩ (Nat.le_of_ble_eq_true rfl) rfl dL_count_4 rfl (fun v5 M5 z5 hp5 hz5 hd5 => ?_)
  obtain ⟨x, rfl, hqo, hQ⟩ := hq _ _ _ hp5
  refine g_i2l (x := x) hX dL_count_7 ?_
  refine g_last hX hqo 0 rfl (by decide) (by decide) dL_count_8 ?_
  refine g_goto hX 15 dL_count_9 (by decide) ?_
  refine g_iconst (v := 0) hX dL_count_15 (by decide) ?_
  exact hF (some (.int 0)) _ z5 _ _ _ _ .ireturn (⟨rfl, x, M5, hQ, rfl⟩) (by omega) (by omega) ret_i dL_count_16

set_option maxHeartbeats 1000000 in
set_option maxRecDepth 100000 in
theorem lh_grows {l : Launch} (hl : l.stackTraces = false) {T : CT3} {D : va_G} {M : AH} (sz : Nat) {b0 qo : Nat} {fs : List Value} (hb0 : M b0 = some (.inr (1, fs))) {a0 a1 a2 a3 : Int32} {fr lo mc ms : Nat} {post : Option Value → AH → Nat → Prop} (hc : Ct l T D yX1_grows cX1_grows 8 (some .int) fr lo mc ms [.ref b0, .int a0, .int a1, .int a2, .int a3] M sz post) {f : Nat → Int64} {Q : Int32 → AH → Nat → Prop} (hq : ∀ v M' z', post v M' z' → ∃ x, v = some (.int x) ∧ M' qo = some (eL T 1 f) ∧ Q x M' z') : CtH l T D yL_grows cL_grows 7 (some .int) [(0, 14, 17, 13)] (fr + 1) (8 + (8 + 11) + lo) mc ms [.ref b0, .int a0, .int a1, .int a2, .int a3, .ref qo] M sz (fun v M' z' => v = some (.int 0) ∧ ∃ x M1, Q x M1 z' ∧ M' = va_up M1 qo (some (eL T 1 (va_up f 0 x.toInt64)))) := by
  refine CtH.of hl (by decide) (Nat.le_of_ble_eq_true rfl) ?_
  intro X hl0 hT0 hD0 hlt hX hTh hF
  subst hl0; subst hT0; subst hD0
  show G X 7 M sz 0 0 0 [(0, .ref b0), (1, .int a0), (2, .int a1), (3, .int a2), (4, .int a3), (5, .ref qo)] []
  refine g_aload hX dL_grows_0 5 rfl ?_
  refine g_iconst (v := 0) hX dL_grows_2 (by decide) ?_
  refine g_aload_n hX dL_grows_3 0 rfl ?_
  refine g_iload_n hX dL_grows_4 1 rfl ?_
  refine g_iload_n hX dL_grows_5 2 rfl ?_
  refine g_iload_n hX dL_grows_6 3 rfl ?_
  refine g_iload hX dL_grows_7 4 rfl ?_
  refine g_callV [.int 0, .ref qo] hX hc cw_X1_grows cv_X1_grows lk_L_42 (ci := 1) rfl rfl hb0 ⟨Nat.le_refl _, Nat.le_refl _⟩ ⟨by omega, by omega⟩ (Nat.le_of_ble_eq_true rfl) rfl dL_grows_9 rfl (fun v5 M5 z5 hp5 hz5 hd5 => ?_)
  obtain ⟨x, rfl, hqo, hQ⟩ := hq _ _ _ hp5
  refine g_i2l (x := x) hX dL_grows_12 ?_
  refine g_last hX hqo 0 rfl (by decide) (by decide) dL_grows_13 ?_
  refine g_goto hX 21 dL_grows_14 (by decide) ?_
  refine g_iconst (v := 0) hX dL_grows_21 (by decide) ?_
  exact hF (some (.int 0)) _ z5 _ _ _ _ .ireturn (⟨rfl, x, M5, hQ, rfl⟩) (by omega) (by omega) ret_i dL_grows_22

set_option maxHeartbeats 1000000 in
set_option maxRecDepth 100000 in
theorem lh_splits {l : Launch} (hl : l.stackTraces = false) {T : CT3} {D : va_G} {M : AH} (sz : Nat) {b0 qo : Nat} {fs : List Value} (hb0 : M b0 = some (.inr (1, fs))) {a0 a1 a2 a3 : Int32} {fr lo mc ms : Nat} {post : Option Value → AH → Nat → Prop} (hc : Ct l T D yX1_splits cX1_splits 7 (some .int) fr lo mc ms [.ref b0, .int a0, .int a1, .int a2, .int a3] M sz post) {f : Nat → Int64} {Q : Int32 → AH → Nat → Prop} (hq : ∀ v M' z', post v M' z' → ∃ x, v = some (.int x) ∧ M' qo = some (eL T 1 f) ∧ Q x M' z') : CtH l T D yL_splits cL_splits 7 (some .int) [(0, 14, 17, 13)] (fr + 1) (8 + (7 + 11) + lo) mc ms [.ref b0, .int a0, .int a1, .int a2, .int a3, .ref qo] M sz (fun v M' z' => v = some (.int 0) ∧ ∃ x M1, Q x M1 z' ∧ M' = va_up M1 qo (some (eL T 1 (va_up f 0 x.toInt64)))) := by
  refine CtH.of hl (by decide) (Nat.le_of_ble_eq_true rfl) ?_
  intro X hl0 hT0 hD0 hlt hX hTh hF
  subst hl0; subst hT0; subst hD0
  show G X 7 M sz 0 0 0 [(0, .ref b0), (1, .int a0), (2, .int a1), (3, .int a2), (4, .int a3), (5, .ref qo)] []
  refine g_aload hX dL_splits_0 5 rfl ?_
  refine g_iconst (v := 0) hX dL_splits_2 (by decide) ?_
  refine g_aload_n hX dL_splits_3 0 rfl ?_
  refine g_iload_n hX dL_splits_4 1 rfl ?_
  refine g_iload_n hX dL_splits_5 2 rfl ?_
  refine g_iload_n hX dL_splits_6 3 rfl ?_
  refine g_iload hX dL_splits_7 4 rfl ?_
  refine g_callV [.int 0, .ref qo] hX hc cw_X1_splits cv_X1_splits lk_L_45 (ci := 1) rfl rfl hb0 ⟨Nat.le_refl _, Nat.le_refl _⟩ ⟨by omega, by omega⟩ (Nat.le_of_ble_eq_true rfl) rfl dL_splits_9 rfl (fun v5 M5 z5 hp5 hz5 hd5 => ?_)
  obtain ⟨x, rfl, hqo, hQ⟩ := hq _ _ _ hp5
  refine g_i2l (x := x) hX dL_splits_12 ?_
  refine g_last hX hqo 0 rfl (by decide) (by decide) dL_splits_13 ?_
  refine g_goto hX 21 dL_splits_14 (by decide) ?_
  refine g_iconst (v := 0) hX dL_splits_21 (by decide) ?_
  exact hF (some (.int 0)) _ z5 _ _ _ _ .ireturn (⟨rfl, x, M5, hQ, rfl⟩) (by omega) (by omega) ret_i dL_splits_22
