set_option maxHeartbeats 1000000 in
set_option maxRecDepth 100000 in
theorem cr_init {l : Launch} (hl : l.stackTraces = false) {T : CT3} {D : va_G} {N : AH} {o : Nat} : Ct l T D yX2_init cX2_init 1 none 1 21 8 3224 [.ref o] (va_up N o (some (.inr (2, [.int 0, .int 0, .int 0, .null, .null, .int 0, .int 0, .null, .null, .null, .null, .null, .int 0, .null])))) (o + 1) (fun v M' z' => v = none ∧ M' = ovR T N o iR ∧ o + 9 = z') := by
  refine Ct.ofX hl (by decide) (Nat.le_of_ble_eq_true rfl) ?_
  intro X hl0 hT0 hD0 hlt hX hF
  subst hl0; subst hT0; subst hD0
  show G X 1 (va_up N o (some (.inr (2, [.int 0, .int 0, .int 0, .null, .null, .int 0, .int 0, .null, .null, .null, .null, .null, .int 0, .null])))) (o + 1) 0 0 0 [(0, .ref o)] []
  refine g_eqM (inR_0 (T := cxT X)) ?_
  show G X _ (inR (cxT X) N o 0 [.int 0, .int 0, .int 0, .null, .null, .int 0, .int 0, .null, .null, .null, .null, .null, .int 0, .null]) (o + 1) 0 0 0 [(0, .ref o)] []
  refine g_aload_n hX dX2_init_0 0 rfl ?_
  refine g_objInit [] hX lk_X2_1 im_Lib_objectInit cd_Lib_objectInit (by omega) (by omega) (Nat.le_of_ble_eq_true rfl) dX2_init_1 ?_
  refine g_aload_n hX dX2_init_4 0 rfl ?_
  refine g_sipush (v := 240) hX dX2_init_5 (by decide) ?_
  refine g_newI hX ac_int 240 rfl (by decide) (by decide) (by decide) dX2_init_8 ?_
  refine g_eqM (inR_new 0 rfl) ?_
  show G X _ (inR (cxT X) N o 1 [.int 0, .int 0, .int 0, .null, .null, .int 0, .int 0, .null, .null, .null, .null, .null, .int 0, .null]) (o + 2) 1 240 10 [(0, .ref o)] [.ref (o + 1), .ref o]
  refine g_putF (fs := [.int 0, .int 0, .int 0, .null, .null, .int 0, .int 0, .null, .null, .null, .null, .null, .int 0, .null]) (ci := 2) hX rfl fld_X2 inR_o 3 (by decide) fl_X2_9 rfl rfl rfl rfl rfl (Nat.le_of_ble_eq_true rfl) dX2_init_10 ?_
  refine g_eqM (inR_up [.int 0, .int 0, .int 0, .ref (o + 1), .null, .int 0, .int 0, .null, .null, .null, .null, .null, .int 0, .null]) ?_
  refine g_aload_n hX dX2_init_13 0 rfl ?_
  refine g_bipush (v := 60) hX dX2_init_14 (by decide) ?_
  refine g_newI hX ac_int 60 rfl (by decide) (by decide) (by decide) dX2_init_16 ?_
  refine g_eqM (inR_new 1 rfl) ?_
  show G X _ (inR (cxT X) N o 2 [.int 0, .int 0, .int 0, .ref (o + 1), .null, .int 0, .int 0, .null, .null, .null, .null, .null, .int 0, .null]) (o + 3) 2 300 18 [(0, .ref o)] [.ref (o + 2), .ref o]
  refine g_putF (fs := [.int 0, .int 0, .int 0, .ref (o + 1), .null, .int 0, .int 0, .null, .null, .null, .null, .null, .int 0, .null]) (ci := 2) hX rfl fld_X2 inR_o 4 (by decide) fl_X2_13 rfl rfl rfl rfl rfl (Nat.le_of_ble_eq_true rfl) dX2_init_18 ?_
  refine g_eqM (inR_up [.int 0, .int 0, .int 0, .ref (o + 1), .ref (o + 2), .int 0, .int 0, .null, .null, .null, .null, .null, .int 0, .null]) ?_
  refine g_aload_n hX dX2_init_21 0 rfl ?_
  refine g_iconst (v := 1) hX dX2_init_22 (by decide) ?_
  refine g_put (fs := [.int 0, .int 0, .int 0, .ref (o + 1), .ref (o + 2), .int 0, .int 0, .null, .null, .null, .null, .null, .int 0, .null]) (ci := 2) hX rfl fld_X2 inR_o 5 (by decide) fl_X2_16 rfl rfl rfl (Nat.le_of_ble_eq_true rfl) dX2_init_23 ?_
  refine g_eqM (inR_up [.int 0, .int 0, .int 0, .ref (o + 1), .ref (o + 2), .int 1, .int 0, .null, .null, .null, .null, .null, .int 0, .null]) ?_
  refine g_aload_n hX dX2_init_26 0 rfl ?_
  refine g_sipush (v := 400) hX dX2_init_27 (by decide) ?_
  refine g_newI hX ac_int 400 rfl (by decide) (by decide) (by decide) dX2_init_30 ?_
  refine g_eqM (inR_new 2 rfl) ?_
  show G X _ (inR (cxT X) N o 3 [.int 0, .int 0, .int 0, .ref (o + 1), .ref (o + 2), .int 1, .int 0, .null, .null, .null, .null, .null, .int 0, .null]) (o + 4) 3 700 32 [(0, .ref o)] [.ref (o + 3), .ref o]
  refine g_putF (fs := [.int 0, .int 0, .int 0, .ref (o + 1), .ref (o + 2), .int 1, .int 0, .null, .null, .null, .null, .null, .int 0, .null]) (ci := 2) hX rfl fld_X2 inR_o 7 (by decide) fl_X2_20 rfl rfl rfl rfl rfl (Nat.le_of_ble_eq_true rfl) dX2_init_32 ?_
  refine g_eqM (inR_up [.int 0, .int 0, .int 0, .ref (o + 1), .ref (o + 2), .int 1, .int 0, .ref (o + 3), .null, .null, .null, .null, .int 0, .null]) ?_
  refine g_aload_n hX dX2_init_35 0 rfl ?_
  refine g_sipush (v := 2000) hX dX2_init_36 (by decide) ?_
  refine g_newI hX ac_int 2000 rfl (by decide) (by decide) (by decide) dX2_init_39 ?_
  refine g_eqM (inR_new 3 rfl) ?_
  show G X _ (inR (cxT X) N o 4 [.int 0, .int 0, .int 0, .ref (o + 1), .ref (o + 2), .int 1, .int 0, .ref (o + 3), .null, .null, .null, .null, .int 0, .null]) (o + 5) 4 2700 41 [(0, .ref o)] [.ref (o + 4), .ref o]
  refine g_putF (fs := [.int 0, .int 0, .int 0, .ref (o + 1), .ref (o + 2), .int 1, .int 0, .ref (o + 3), .null, .null, .null, .null, .int 0, .null]) (ci := 2) hX rfl fld_X2 inR_o 8 (by decide) fl_X2_23 rfl rfl rfl rfl rfl (Nat.le_of_ble_eq_true rfl) dX2_init_41 ?_
  refine g_eqM (inR_up [.int 0, .int 0, .int 0, .ref (o + 1), .ref (o + 2), .int 1, .int 0, .ref (o + 3), .ref (o + 4), .null, .null, .null, .int 0, .null]) ?_
  refine g_aload_n hX dX2_init_44 0 rfl ?_
  refine g_sipush (v := 400) hX dX2_init_45 (by decide) ?_
  refine g_newI hX ac_int 400 rfl (by decide) (by decide) (by decide) dX2_init_48 ?_
  refine g_eqM (inR_new 4 rfl) ?_
  show G X _ (inR (cxT X) N o 5 [.int 0, .int 0, .int 0, .ref (o + 1), .ref (o + 2), .int 1, .int 0, .ref (o + 3), .ref (o + 4), .null, .null, .null, .int 0, .null]) (o + 6) 5 3100 50 [(0, .ref o)] [.ref (o + 5), .ref o]
  refine g_putF (fs := [.int 0, .int 0, .int 0, .ref (o + 1), .ref (o + 2), .int 1, .int 0, .ref (o + 3), .ref (o + 4), .null, .null, .null, .int 0, .null]) (ci := 2) hX rfl fld_X2 inR_o 9 (by decide) fl_X2_26 rfl rfl rfl rfl rfl (Nat.le_of_ble_eq_true rfl) dX2_init_50 ?_
  refine g_eqM (inR_up [.int 0, .int 0, .int 0, .ref (o + 1), .ref (o + 2), .int 1, .int 0, .ref (o + 3), .ref (o + 4), .ref (o + 5), .null, .null, .int 0, .null]) ?_
  refine g_aload_n hX dX2_init_53 0 rfl ?_
  refine g_bipush (v := 60) hX dX2_init_54 (by decide) ?_
  refine g_newI hX ac_int 60 rfl (by decide) (by decide) (by decide) dX2_init_56 ?_
  refine g_eqM (inR_new 5 rfl) ?_
  show G X _ (inR (cxT X) N o 6 [.int 0, .int 0, .int 0, .ref (o + 1), .ref (o + 2), .int 1, .int 0, .ref (o + 3), .ref (o + 4), .ref (o + 5), .null, .null, .int 0, .null]) (o + 7) 6 3160 58 [(0, .ref o)] [.ref (o + 6), .ref o]
  refine g_putF (fs := [.int 0, .int 0, .int 0, .ref (o + 1), .ref (o + 2), .int 1, .int 0, .ref (o + 3), .ref (o + 4), .ref (o + 5), .null, .null, .int 0, .null]) (ci := 2) hX rfl fld_X2 inR_o 10 (by decide) fl_X2_29 rfl rfl rfl rfl rfl (Nat.le_of_ble_eq_true rfl) dX2_init_58 ?_
  refine g_eqM (inR_up [.int 0, .int 0, .int 0, .ref (o + 1), .ref (o + 2), .int 1, .int 0, .ref (o + 3), .ref (o + 4), .ref (o + 5), .ref (o + 6), .null, .int 0, .null]) ?_
  refine g_aload_n hX dX2_init_61 0 rfl ?_
  refine g_bipush (v := 60) hX dX2_init_62 (by decide) ?_
  refine g_newI hX ac_int 60 rfl (by decide) (by decide) (by decide) dX2_init_64 ?_
  refine g_eqM (inR_new 6 rfl) ?_
  show G X _ (inR (cxT X) N o 7 [.int 0, .int 0, .int 0, .ref (o + 1), .ref (o + 2), .int 1, .int 0, .ref (o + 3), .ref (o + 4), .ref (o + 5), .ref (o + 6), .null, .int 0, .null]) (o + 8) 7 3220 66 [(0, .ref o)] [.ref (o + 7), .ref o]
  refine g_putF (fs := [.int 0, .int 0, .int 0, .ref (o + 1), .ref (o + 2), .int 1, .int 0, .ref (o + 3), .ref (o + 4), .ref (o + 5), .ref (o + 6), .null, .int 0, .null]) (ci := 2) hX rfl fld_X2 inR_o 11 (by decide) fl_X2_32 rfl rfl rfl rfl rfl (Nat.le_of_ble_eq_true rfl) dX2_init_66 ?_
  refine g_eqM (inR_up [.int 0, .int 0, .int 0, .ref (o + 1), .ref (o + 2), .int 1, .int 0, .ref (o + 3), .ref (o + 4), .ref (o + 5), .ref (o + 6), .ref (o + 7), .int 0, .null]) ?_
  refine g_aload_n hX dX2_init_69 0 rfl ?_
  refine g_iconst (v := 4) hX dX2_init_70 (by decide) ?_
  refine g_newI hX ac_int 4 rfl (by decide) (by decide) (by decide) dX2_init_71 ?_
  refine g_eqM (inR_new 7 rfl) ?_
  show G X _ (inR (cxT X) N o 8 [.int 0, .int 0, .int 0, .ref (o + 1), .ref (o + 2), .int 1, .int 0, .ref (o + 3), .ref (o + 4), .ref (o + 5), .ref (o + 6), .ref (o + 7), .int 0, .null]) (o + 9) 8 3224 73 [(0, .ref o)] [.ref (o + 8), .ref o]
  refine g_putF (fs := [.int 0, .int 0, .int 0, .ref (o + 1), .ref (o + 2), .int 1, .int 0, .ref (o + 3), .ref (o + 4), .ref (o + 5), .ref (o + 6), .ref (o + 7), .int 0, .null]) (ci := 2) hX rfl fld_X2 inR_o 13 (by decide) fl_X2_35 rfl rfl rfl rfl rfl (Nat.le_of_ble_eq_true rfl) dX2_init_73 ?_
  refine g_eqM (inR_up [.int 0, .int 0, .int 0, .ref (o + 1), .ref (o + 2), .int 1, .int 0, .ref (o + 3), .ref (o + 4), .ref (o + 5), .ref (o + 6), .ref (o + 7), .int 0, .ref (o + 8)]) ?_
  refine g_eqM (show (inR (cxT X) N o 8 [.int 0, .int 0, .int 0, .ref (o + 1), .ref (o + 2), .int 1, .int 0, .ref (o + 3), .ref (o + 4), .ref (o + 5), .ref (o + 6), .ref (o + 7), .int 0, .ref (o + 8)]) = ovR (cxT X) N o iR from inR_8) ?_
  exact hF none (ovR (cxT X) N o iR) (o + 9) _ _ _ _ .return_ (⟨rfl, rfl, rfl⟩) (by omega) (by omega) ret_v dX2_init_76
