theorem cas_IAE : Cond.castable "java/lang/IllegalArgumentException" "java/lang/IllegalArgumentException" ∈ lw_tbl := List.mem_append_right _ (List.mem_of_getElem? (i := 170) (by decide +kernel))
theorem cas_ISE : Cond.castable "java/lang/IllegalStateException" "java/lang/IllegalStateException" ∈ lw_tbl := List.mem_append_right _ (List.mem_of_getElem? (i := 238) (by decide +kernel))
theorem cas_IOB : Cond.castable "java/lang/IndexOutOfBoundsException" "java/lang/IndexOutOfBoundsException" ∈ lw_tbl := List.mem_append_right _ (List.mem_of_getElem? (i := 340) (by decide +kernel))
set_option maxHeartbeats 1000000 in
set_option maxRecDepth 100000 in
theorem lh_told_no1 {l : Launch} (hl : l.stackTraces = false) {T : CT3} {D : va_G} {N : AH} {P : PS} {F : FS} (sz : Nat) (hwF : WfF P F) (hal : Alok P F) (x y : Int32) (ha : alI F x = none) {qo : Nat} : CtH l T D yL_told cL_told 5 (some .int) [(0, 10, 13, 21)] 8 130 1 6 [.ref (fO F), .int x, .int y, .ref qo] (ov T (ovF T N F) P) sz (fun v M' z' => v = some (.int 1) ∧ M' = ov T (ovF T N F) P ∧ sz ≤ z') := by
  refine CtH.of hl (by decide) (Nat.le_of_ble_eq_true rfl) ?_
  intro X hl0 hT0 hD0 hlt hX hTh hF
  subst hl0; subst hT0; subst hD0
  show G X 5 (ov (cxT X) (ovF (cxT X) N F) P) sz 0 0 0 [(0, .ref (fO F)), (1, .int x), (2, .int y), (3, .ref qo)] []
  refine g_aload_n hX dL_told_0 3 rfl ?_
  refine g_iconst (v := 0) hX dL_told_1 (by decide) ?_
  refine g_aload_n hX dL_told_2 0 rfl ?_
  refine g_iload_n hX dL_told_3 1 rfl ?_
  refine g_iload_n hX dL_told_4 2 rfl ?_
  refine g_callX [.int 0, .ref qo] hX hTh (E0 := "java/lang/IndexOutOfBoundsException") (as := [.int x, .int y]) (cx_told_no1 hX.st sz hwF hal x y ha) cw_X1_told cv_X1_told lk_L_23 (ci := 1) rfl rfl (ovF_o hwF) ⟨by omega, by omega⟩ ⟨by omega, by omega⟩ (Nat.le_of_ble_eq_true rfl) rfl dL_told_5 rfl (suf := []) rfl (by decide) (by decide) cl_L_21 cas_IOB (hpc := 13) rfl (fun z5 q5 hz5 => ?_)
  refine g_astore (L' := [(4, .ref q5), (0, .ref (fO F)), (1, .int x), (2, .int y), (3, .ref qo)]) hX dL_told_13 (by decide) rfl ?_
  refine g_iconst (v := 1) hX dL_told_15 (by decide) ?_
  exact hF (some (.int 1)) _ z5 _ _ _ _ .ireturn (⟨rfl, rfl, hz5⟩) (by omega) (by omega) ret_i dL_told_16
