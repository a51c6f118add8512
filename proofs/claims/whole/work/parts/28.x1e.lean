set_option maxHeartbeats 4000000 in
set_option maxRecDepth 100000 in
/-- behind the new top, if there is one -/
theorem split_tail {X : Cx} {fr lo mc ms : Nat} {post : Option Value → AH → Nat → Prop} (hX : Ok X yX1_split cX1_split 6 fr lo mc ms) (hF : Fnl X cX1_split 6 none mc ms post) {N : AH} {P : PS} {F : FS} {sz a b ab q k0 : Nat} (hwF : WfF P F) (hdl : ∀ x, pD P x = true → x + 1 < sz) (hoL : fO F + 1 < sz) (hq : pD P q = true) (hS : pS P q = 5) (hW : pW P q = 5) (hc : Kids P (pA P q) (pS P q) (fun c => pH P c = some q)) (hh : pH P q = some ab) (hab : pD P ab = true) (hSa : pS P ab ≤ 4) (hWa : pW P ab = 5) (hca : ∀ k c, k < pS P ab → pA P ab k = some c → pD P c = true) (haq : ab ≠ q) (hk0 : k0 < pS P ab) (hka : pA P ab k0 = some q) (hmin : ∀ j, j < k0 → pA P ab j ≠ some q)
    (hpost : post none (ov (cxT X) (ovF (cxT X) N (sSp F (fS F + 1))) (spP P q ab k0 sz)) (sz + 1 + 1)) (ha : a + 2 ≤ mc) (hb : b + 14 ≤ ms) (hfr : 4 ≤ fr) (hlo : 89 ≤ lo) : G X 6 (ov (cxT X) (ovF (cxT X) N F) P) sz a b 11 [(0, .ref (fO F)), (1, .ref q)] [] := by
  have hqz : q ≠ sz := by have := hdl q hq; omega
  have haz : ab ≠ sz := by have := hdl ab hab; omega
  have hkg : Kids P (srP P q) (pS P q) (fun c => pH P c = some q) := hc.srtF _ (pS P q - 1) (by omega)
  have k3 := hkg 3 (by omega)
  have k4 := hkg 4 (by omega)
  have hwF2 : WfF (sp2 P q sz) F := WfF.nw (P := sA P q (srP P q)) hwF hdl hoL (-1) (pL P q) bx0 5
  have hq2 : pD (sp2 P q sz) q = true := sp_D2 q hq
  have ha2 : pD (sp2 P q sz) ab = true := sp_D2 ab hab
  have hz2 : pD (sp2 P q sz) sz = true := sp_Dz
  have h32 : pD (sp2 P q sz) (sr3 P q) = true := sp_D2 _ k3.2.1
  have h42 : pD (sp2 P q sz) (sr4 P q) = true := sp_D2 _ k4.2.1
  have hch2 : ∀ k c, k < 5 → srP P q k = some c → pD (sp2 P q sz) c = true := fun k c hk hc2 => sp_D2 c (hkg.ch k c (by omega) hc2)
  have hch4 : ∀ k c, k < 4 → remF (srP P q) 5 3 k = some c → pD (sp2 P q sz) c = true := by
    intro k c hk hc2
    unfold remF at hc2
    by_cases h1 : k < 3
    · rw [if_pos h1] at hc2; exact hch2 k c (by omega) hc2
    · rw [if_neg h1, if_pos (by omega)] at hc2; exact hch2 (k + 1) c (by omega) hc2
  have hr3 : srP P q 3 = some (sr3 P q) := k3.1
  have hr4 : remF (srP P q) 5 3 3 = some (sr4 P q) := by
    show (if 3 < 3 then _ else if 3 + 1 < 5 then srP P q (3 + 1) else _) = _
    rw [if_neg (by omega), if_pos (by omega)]; exact k4.1
  refine g_aload_n hX dX1_split_11 1 rfl ?_
  refine g_getN (ci := 0) hX rfl fin_X0 (ov_pc (P := P) hq) 4 (by decide) fn_X1_68 rfl dX1_split_12 ?_
  rw [hh]
  show G X _ (ov (cxT X) (ovF (cxT X) N F) P) sz a b 15 [(0, .ref (fO F)), (1, .ref q)] [.ref ab]
  refine g_astore_n (L' := [(2, .ref ab), (0, .ref (fO F)), (1, .ref q)]) hX dX1_split_15 (by decide) rfl ?_
  refine g_aload_n hX dX1_split_16 0 rfl ?_
  refine g_ifnonnullR hX 21 dX1_split_17 (by decide) ?_
  refine g_aload_n hX dX1_split_21 2 rfl ?_
  refine g_aload_n hX dX1_split_22 2 rfl ?_
  refine g_callVN [.ref q] hX (ct_splitsAlongX hX.st sz hwF.1 hq (by omega) (by omega) (by omega) hc) cw_X0_splitsAlongX cv_X0_splitsAlongX ln_X1_164 (ci := 0) rfl rfl (ov_pc (P := P) hq) ⟨by omega, by omega⟩ ⟨by omega, by omega⟩ (Nat.le_of_ble_eq_true rfl) rfl dX1_split_23 rfl (fun v23 M23 z23 hp23 hz23 hd23 => ?_)
  obtain ⟨rfl, rfl, rfl⟩ := hp23
  show G X _ (ov (cxT X) (ovF (cxT X) N F) P) sz (a + 0) (b + 0) 26 [(2, .ref ab), (0, .ref (fO F)), (1, .ref q)] [.int (bI (sxP P q)), .ref q]
  refine g_callVN [] hX (ct_sort hX.st sz hwF.1 hq (by omega) (by omega) (by omega) hc (sxP P q)) cw_X0_sortByLowerEdges cv_X0_sortByLowerEdges ln_X1_168 (ci := 0) rfl rfl (ov_pc (P := P) hq) ⟨by omega, by omega⟩ ⟨by omega, by omega⟩ (Nat.le_of_ble_eq_true rfl) rfl dX1_split_26 rfl (fun v26 M26 z26 hp26 hz26 hd26 => ?_)
  obtain ⟨rfl, rfl, rfl⟩ := hp26
  show G X _ (ov (cxT X) (ovF (cxT X) N F) (sA P q (srP P q))) sz ((a + 0) + 0) ((b + 0) + 0) 29 [(2, .ref ab), (0, .ref (fO F)), (1, .ref q)] []
  refine g_new (ci := 0) (fs := [.int 0, .int 0, .null, .int 0, .null, .int 0, .int 0, .int 0, .int 0]) hX rfl fld_X0 cl_X1_9 ins_NestedFrames_Piece ini_NestedFrames_Piece tyP9 (by omega) (by omega) dX1_split_29 ?_
  show G X _ (va_up (ov (cxT X) (ovF (cxT X) N F) (sA P q (srP P q))) sz (some blkP)) (sz + 1) (((a + 0) + 0) + 1) (((b + 0) + 0) + 9) 32 [(2, .ref ab), (0, .ref (fO F)), (1, .ref q)] [.ref sz]
  refine g_dup hX dX1_split_32 rfl ?_
  refine g_aload_n hX dX1_split_33 2 rfl ?_
  refine g_getN (ci := 0) hX rfl fin_X0 (by rw [va_up_ne _ _ (by have h9 := hdl _ hq; omega)]; exact (ov_pc (P := (sA P q (srP P q))) hq)) 1 (by decide) fn_X1_102 rfl dX1_split_34 ?_
  refine g_callIN [.ref sz] hX (ct_Pinit_ hX.st (M := (va_up (ov (cxT X) (ovF (cxT X) N F) (sA P q (srP P q))) sz (some blkP))) (q := sz) (va_up_self _ _ _) (pL P q)) cw_X0_init_ rfl im_X0_init_ ln_X1_15 ⟨by omega, by omega⟩ ⟨by omega, by omega⟩ (Nat.le_of_ble_eq_true rfl) rfl dX1_split_37 rfl (fun v37 M37 z37 hp37 hz37 hd37 => ?_)
  obtain ⟨rfl, rfl, rfl⟩ := hp37
  refine g_eqM (ov_nw (P := sA P q (srP P q)) (-1) (pL P q) bx0 5 hdl rfl) ?_
  show G X _ (ov (cxT X) (ovF (cxT X) N F) (sp2 P q sz)) (sz + 1 + 1) ((((a + 0) + 0) + 1) + 1) ((((b + 0) + 0) + 9) + 5) 40 [(2, .ref ab), (0, .ref (fO F)), (1, .ref q)] [.ref sz]
  refine g_astore_n (L' := [(3, .ref sz), (2, .ref ab), (0, .ref (fO F)), (1, .ref q)]) hX dX1_split_40 (by decide) rfl ?_
  refine g_iconst (v := 3) hX dX1_split_41 (by decide) ?_
  refine g_istore (L' := [(4, .int 3), (3, .ref sz), (2, .ref ab), (0, .ref (fO F)), (1, .ref q)]) hX dX1_split_42 (by decide) rfl ?_
  refine g_iload hX dX1_split_44 0 rfl ?_
  refine g_iconst (v := 4) hX dX1_split_46 (by decide) ?_
  refine g_icmp_gt hX 74 dX1_split_47 (by decide) (fun c47 => absurd c47 (by decide)) (fun _ => ?_)
  refine g_aload_n hX dX1_split_50 4 rfl ?_
  refine g_iconst (v := 3) hX dX1_split_51 (by decide) ?_
  refine g_callVN [] hX (ct_takeOut hX.st (sz + 1 + 1) hwF2.1 (P := sp2 P q sz) (q := q) (r := sr3 P q) (p := 3) hq2 h32 (by rw [sp2_S hS hqz]; decide) (by rw [sp2_A hqz]; exact hr3) (by rw [sp2_S hS hqz, sp2_W hqz, hW]; decide) (by rw [sp2_W hqz, hW]; decide) (by rw [sp2_S hS hqz, sp2_A hqz]; exact hch2)) cw_X0_takeOut cv_X0_takeOut ln_X1_77 (ci := 0) rfl rfl (ov_pc (P := (sp2 P q sz)) hq2) ⟨by omega, by omega⟩ ⟨by omega, by omega⟩ (Nat.le_of_ble_eq_true rfl) rfl dX1_split_52 rfl (fun v52 M52 z52 hp52 hz52 hd52 => ?_)
  rw [sp2_S hS hqz, sp2_A hqz] at hp52
  obtain ⟨rfl, rfl, rfl⟩ := hp52
  show G X _ (ov (cxT X) (ovF (cxT X) N F) (sp3 P q sz)) (sz + 1 + 1) (((((a + 0) + 0) + 1) + 1) + 0) (((((b + 0) + 0) + 9) + 5) + 0) 55 [(4, .int 3), (3, .ref sz), (2, .ref ab), (0, .ref (fO F)), (1, .ref q)] [.ref (sr3 P q)]
  refine g_astore (L' := [(5, .ref (sr3 P q)), (4, .int 3), (3, .ref sz), (2, .ref ab), (0, .ref (fO F)), (1, .ref q)]) hX dX1_split_55 (by decide) rfl ?_
  refine g_aload hX dX1_split_57 0 rfl ?_
  refine g_ifnullR hX dX1_split_59 ?_
  refine g_aload_n hX dX1_split_62 2 rfl ?_
  refine g_aload hX dX1_split_63 0 rfl ?_
  refine g_callVN [] hX (ct_append hX.st (sz + 1 + 1) hwF2.1 (P := sp3 P q sz) (q := sz) (r := sr3 P q) hz2 h32 (by rw [sp3_Sz hqz, sp3_Wz]; decide) (by rw [sp3_Wz]; decide) (by rw [sp3_Sz hqz, sp3_Az hqz]; intro k c hk; exact absurd hk (Nat.not_lt_zero k))) cw_X0_append cv_X0_append ln_X1_49 (ci := 0) rfl rfl (ov_pc (P := (sp3 P q sz)) hz2) ⟨by omega, by omega⟩ ⟨by omega, by omega⟩ (Nat.le_of_ble_eq_true rfl) rfl dX1_split_65 rfl (fun v65 M65 z65 hp65 hz65 hd65 => ?_)
  rw [sp3_Sz hqz, sp3_Az hqz] at hp65
  obtain ⟨rfl, rfl, rfl⟩ := hp65
  show G X _ (ov (cxT X) (ovF (cxT X) N F) (sp4 P q sz)) (sz + 1 + 1) ((((((a + 0) + 0) + 1) + 1) + 0) + 0) ((((((b + 0) + 0) + 9) + 5) + 0) + 0) 68 [(5, .ref (sr3 P q)), (4, .int 3), (3, .ref sz), (2, .ref ab), (0, .ref (fO F)), (1, .ref q)] []
  refine g_iinc (v := 4) (L' := [(4, .int 4), (5, .ref (sr3 P q)), (3, .ref sz), (2, .ref ab), (0, .ref (fO F)), (1, .ref q)]) hX dX1_split_68 1 rfl rfl (by decide) rfl ?_
  refine g_goto hX 44 dX1_split_71 (by decide) ?_
  refine g_iload hX dX1_split_44 0 rfl ?_
  refine g_iconst (v := 4) hX dX1_split_46 (by decide) ?_
  refine g_icmp_gt hX 74 dX1_split_47 (by decide) (fun c47 => absurd c47 (by decide)) (fun _ => ?_)
  refine g_aload_n hX dX1_split_50 5 rfl ?_
  refine g_iconst (v := 3) hX dX1_split_51 (by decide) ?_
  refine g_callVN [] hX (ct_takeOut hX.st (sz + 1 + 1) hwF2.1 (P := sp4 P q sz) (q := q) (r := sr4 P q) (p := 3) hq2 h42 (by rw [sp4_S hqz]; decide) (by rw [sp4_A hqz]; exact hr4) (by rw [sp4_S hqz, sp4_W hqz, hW]; decide) (by rw [sp4_W hqz, hW]; decide) (by rw [sp4_S hqz, sp4_A hqz]; exact hch4)) cw_X0_takeOut cv_X0_takeOut ln_X1_77 (ci := 0) rfl rfl (ov_pc (P := (sp4 P q sz)) hq2) ⟨by omega, by omega⟩ ⟨by omega, by omega⟩ (Nat.le_of_ble_eq_true rfl) rfl dX1_split_52 rfl (fun v52 M52 z52 hp52 hz52 hd52 => ?_)
  rw [sp4_S hqz, sp4_A hqz] at hp52
  obtain ⟨rfl, rfl, rfl⟩ := hp52
  show G X _ (ov (cxT X) (ovF (cxT X) N F) (sp5 P q sz)) (sz + 1 + 1) (((((((a + 0) + 0) + 1) + 1) + 0) + 0) + 0) (((((((b + 0) + 0) + 9) + 5) + 0) + 0) + 0) 55 [(4, .int 4), (5, .ref (sr3 P q)), (3, .ref sz), (2, .ref ab), (0, .ref (fO F)), (1, .ref q)] [.ref (sr4 P q)]
  refine g_astore (L' := [(5, .ref (sr4 P q)), (4, .int 4), (3, .ref sz), (2, .ref ab), (0, .ref (fO F)), (1, .ref q)]) hX dX1_split_55 (by decide) rfl ?_
  refine g_aload hX dX1_split_57 0 rfl ?_
  refine g_ifnullR hX dX1_split_59 ?_
  refine g_aload_n hX dX1_split_62 2 rfl ?_
  refine g_aload hX dX1_split_63 0 rfl ?_
  refine g_callVN [] hX (ct_append hX.st (sz + 1 + 1) hwF2.1 (P := sp5 P q sz) (q := sz) (r := sr4 P q) hz2 h42 (by rw [sp5_Sz hqz, sp5_Wz]; decide) (by rw [sp5_Wz]; decide) (by rw [sp5_Sz hqz, sp5_Az hqz]; intro k c hk hc2; rw [show k = 0 by omega] at hc2; cases hc2; exact h32)) cw_X0_append cv_X0_append ln_X1_49 (ci := 0) rfl rfl (ov_pc (P := (sp5 P q sz)) hz2) ⟨by omega, by omega⟩ ⟨by omega, by omega⟩ (Nat.le_of_ble_eq_true rfl) rfl dX1_split_65 rfl (fun v65 M65 z65 hp65 hz65 hd65 => ?_)
  rw [sp5_Sz hqz, sp5_Az hqz] at hp65
  obtain ⟨rfl, rfl, rfl⟩ := hp65
  show G X _ (ov (cxT X) (ovF (cxT X) N F) (sp6 P q sz)) (sz + 1 + 1) ((((((((a + 0) + 0) + 1) + 1) + 0) + 0) + 0) + 0) ((((((((b + 0) + 0) + 9) + 5) + 0) + 0) + 0) + 0) 68 [(5, .ref (sr4 P q)), (4, .int 4), (3, .ref sz), (2, .ref ab), (0, .ref (fO F)), (1, .ref q)] []
  refine g_iinc (v := 5) (L' := [(4, .int 5), (5, .ref (sr4 P q)), (3, .ref sz), (2, .ref ab), (0, .ref (fO F)), (1, .ref q)]) hX dX1_split_68 1 rfl rfl (by decide) rfl ?_
  refine g_goto hX 44 dX1_split_71 (by decide) ?_
  refine g_iload hX dX1_split_44 0 rfl ?_
  refine g_iconst (v := 4) hX dX1_split_46 (by decide) ?_
  refine g_icmp_gt hX 74 dX1_split_47 (by decide) (fun _ => ?_) (fun c47 => absurd (by decide) c47)
  refine g_aload_n hX dX1_split_74 2 rfl ?_
  have hk6 : Kids (sp6 P q sz) (pA (sp6 P q sz) sz) (pS (sp6 P q sz) sz) (fun c => c ≠ sz) := by
    rw [sp6_Sz hqz, sp6_Az]
    refine Kids.mk fun k hk => ?_
    rcases (show k = 0 ∨ k = 1 by omega) with rfl | rfl
    · exact ⟨_, (ins01 _ _).1, h32, (by have h9 : sr3 P q + 1 < sz := hdl _ k3.2.1; omega : sr3 P q ≠ sz)⟩
    · exact ⟨_, (ins01 _ _).2, h42, (by have h9 : sr4 P q + 1 < sz := hdl _ k4.2.1; omega : sr4 P q ≠ sz)⟩
  refine g_callVN [] hX (ct_tighten hX.st (sz + 1 + 1) hwF2.1 (P := sp6 P q sz) (q := sz) hz2 (by rw [sp6_Sz hqz]; decide) (by rw [sp6_Sz hqz, sp6_Wz]; decide) (by rw [sp6_Wz]; decide) hk6) cw_X0_tighten cv_X0_tighten ln_X1_158 (ci := 0) rfl rfl (ov_pc (P := (sp6 P q sz)) hz2) ⟨by omega, by omega⟩ ⟨by omega, by omega⟩ (Nat.le_of_ble_eq_true rfl) rfl dX1_split_75 rfl (fun v75 M75 z75 hp75 hz75 hd75 => ?_)
  rw [sp6_Sz hqz] at hp75
  obtain ⟨rfl, rfl, rfl⟩ := hp75
  show G X _ (ov (cxT X) (ovF (cxT X) N F) (sp7 P q sz)) (sz + 1 + 1) (((((((((a + 0) + 0) + 1) + 1) + 0) + 0) + 0) + 0) + 0) (((((((((b + 0) + 0) + 9) + 5) + 0) + 0) + 0) + 0) + 0) 78 [(4, .int 5), (5, .ref (sr4 P q)), (3, .ref sz), (2, .ref ab), (0, .ref (fO F)), (1, .ref q)] []
  refine g_aload_n hX dX1_split_78 3 rfl ?_
  refine g_aload_n hX dX1_split_79 3 rfl ?_
  refine g_aload_n hX dX1_split_80 5 rfl ?_
  refine g_callVN [.ref ab] hX (ct_placeOf hX.st (sz + 1 + 1) hwF2.1 (P := sp7 P q sz) (q := ab) (r := q) (k0 := k0) ha2 (by rw [sp7_Sa haz haq, sp7_Wa haz]; omega) (by rw [sp7_Wa haz]; omega) (by rw [sp7_Sa haz haq]; exact hk0) (by rw [sp7_Aa haz haq]; exact hka) (by rw [sp7_Aa haz haq]; exact hmin)) cw_X0_placeOf cv_X0_placeOf ln_X1_73 (ci := 0) rfl rfl (ov_pc (P := (sp7 P q sz)) ha2) ⟨by omega, by omega⟩ ⟨by omega, by omega⟩ (Nat.le_of_ble_eq_true rfl) rfl dX1_split_81 rfl (fun v81 M81 z81 hp81 hz81 hd81 => ?_)
  obtain ⟨rfl, rfl, rfl⟩ := hp81
  show G X _ (ov (cxT X) (ovF (cxT X) N F) (sp7 P q sz)) (sz + 1 + 1) ((((((((((a + 0) + 0) + 1) + 1) + 0) + 0) + 0) + 0) + 0) + 0) ((((((((((b + 0) + 0) + 9) + 5) + 0) + 0) + 0) + 0) + 0) + 0) 84 [(4, .int 5), (5, .ref (sr4 P q)), (3, .ref sz), (2, .ref ab), (0, .ref (fO F)), (1, .ref q)] [.int (nI k0), .ref ab]
  refine g_iconst (v := 1) hX dX1_split_84 (by decide) ?_
  refine g_iadd hX dX1_split_85 ?_
  rw [nI_1]
  show G X _ (ov (cxT X) (ovF (cxT X) N F) (sp7 P q sz)) (sz + 1 + 1) ((((((((((a + 0) + 0) + 1) + 1) + 0) + 0) + 0) + 0) + 0) + 0) ((((((((((b + 0) + 0) + 9) + 5) + 0) + 0) + 0) + 0) + 0) + 0) 86 [(4, .int 5), (5, .ref (sr4 P q)), (3, .ref sz), (2, .ref ab), (0, .ref (fO F)), (1, .ref q)] [.int (nI (k0 + 1)), .ref ab]
  refine g_aload_n hX dX1_split_86 2 rfl ?_
  refine g_callVN [] hX (ct_insert hX.st (sz + 1 + 1) hwF2.1 (P := sp7 P q sz) (q := ab) (r := sz) (p := k0 + 1) ha2 hz2 (by rw [sp7_Sa haz haq]; omega) (by rw [sp7_Sa haz haq, sp7_Wa haz]; omega) (by rw [sp7_Wa haz]; omega) (by rw [sp7_Sa haz haq, sp7_Aa haz haq]; exact fun k c hk hc2 => sp_D2 c (hca k c hk hc2))) cw_X0_insert cv_X0_insert ln_X1_172 (ci := 0) rfl rfl (ov_pc (P := (sp7 P q sz)) ha2) ⟨by omega, by omega⟩ ⟨by omega, by omega⟩ (Nat.le_of_ble_eq_true rfl) rfl dX1_split_87 rfl (fun v87 M87 z87 hp87 hz87 hd87 => ?_)
  rw [sp7_Sa haz haq, sp7_Aa haz haq] at hp87
  obtain ⟨rfl, rfl, rfl⟩ := hp87
  show G X _ (ov (cxT X) (ovF (cxT X) N F) (spP P q ab k0 sz)) (sz + 1 + 1) (((((((((((a + 0) + 0) + 1) + 1) + 0) + 0) + 0) + 0) + 0) + 0) + 0) (((((((((((b + 0) + 0) + 9) + 5) + 0) + 0) + 0) + 0) + 0) + 0) + 0) 90 [(4, .int 5), (5, .ref (sr4 P q)), (3, .ref sz), (2, .ref ab), (0, .ref (fO F)), (1, .ref q)] []
  refine g_aload_n hX dX1_split_90 4 rfl ?_
  refine g_dup hX dX1_split_91 rfl ?_
  refine g_get (ci := 1) hX rfl fin_X1 (ovF_o hwF2) 2 (by decide) fl_X1_176 rfl dX1_split_92 ?_
  refine g_iconst (v := 1) hX dX1_split_95 (by decide) ?_
  refine g_iadd hX dX1_split_96 ?_
  rw [nI_1]
  refine g_put (ci := 1) hX rfl fld_X1 (ovF_o (P := spP P q ab k0 sz) hwF2) 2 (by decide) fl_X1_176 rfl rfl rfl (Nat.le_of_ble_eq_true rfl) dX1_split_97 ?_
  refine g_eqM (ovF_sSp (P := spP P q ab k0 sz) hwF2 (fS F + 1) rfl) ?_
  exact hF none (ov (cxT X) (ovF (cxT X) N (sSp F (fS F + 1))) (spP P q ab k0 sz)) (sz + 1 + 1) _ _ _ _ .return_ hpost (by omega) (by omega) ret_v dX1_split_100

set_option maxHeartbeats 4000000 in
set_option maxRecDepth 100000 in
theorem ct_split {l : Launch} (hl : l.stackTraces = false) {T : CT3} {D : va_G} {N : AH} {P : PS} {F : FS} (sz : Nat) (hwF : WfF P F) {q ab k0 : Nat} (hq : pD P q = true) (hS : pS P q = 5) (hW : pW P q = 5) (hc : Kids P (pA P q) (pS P q) (fun c => pH P c = some q)) (hh : pH P q = some ab) (hab : pD P ab = true) (hSa : pS P ab ≤ 4) (hWa : pW P ab = 5) (hca : ∀ k c, k < pS P ab → pA P ab k = some c → pD P c = true) (haq : ab ≠ q) (hk0 : k0 < pS P ab) (hka : pA P ab k0 = some q) (hmin : ∀ j, j < k0 → pA P ab j ≠ some q) : Ct l T D yX1_split cX1_split 6 none 4 89 4 28 [.ref (fO F), .ref q] (ov T (ovF T N F) P) sz (fun v M' z' => v = none ∧ M' = ov T (ovF T N (sSp F (fS F + 1))) (spP P q ab k0 sz) ∧ sz + 1 + 1 = z') := by
  refine Ct.ofX hl (by decide) (Nat.le_of_ble_eq_true rfl) ?_
  intro X hl0 hT0 hD0 hlt hX hF
  subst hl0; subst hT0; subst hD0
  have hdl := dom_lt hwF.1 hlt
  have hoL := obj_lt hwF hlt
  show G X 6 (ov (cxT X) (ovF (cxT X) N F) P) sz 0 0 0 [(0, .ref (fO F)), (1, .ref q)] []
  refine g_aload_n hX dX1_split_0 1 rfl ?_
  refine g_getN (ci := 0) hX rfl fin_X0 (ov_pc (P := P) hq) 4 (by decide) fn_X1_68 rfl dX1_split_1 ?_
  rw [hh]
  show G X _ (ov (cxT X) (ovF (cxT X) N F) P) sz 0 0 4 [(0, .ref (fO F)), (1, .ref q)] [.ref ab]
  refine g_ifnonnullR hX 11 dX1_split_4 (by decide) ?_
  exact split_tail hX hF hwF hdl hoL hq hS hW hc hh hab hSa hWa hca haq hk0 hka hmin ⟨rfl, rfl, rfl⟩ (by decide) (by decide) (Nat.le_refl _) (Nat.le_refl _)

set_option maxHeartbeats 4000000 in
set_option maxRecDepth 100000 in
theorem ct_splitTop {l : Launch} (hl : l.stackTraces = false) {T : CT3} {D : va_G} {N : AH} {P : PS} {F : FS} (sz : Nat) (hwF : WfF P F) (hq : pD P (fT F) = true) (hS : pS P (fT F) = 5) (hW : pW P (fT F) = 5) (hc : Kids P (pA P (fT F)) (pS P (fT F)) (fun c => pH P c = some (fT F) ∧ c ≠ fT F)) (hh : pH P (fT F) = none) : Ct l T D yX1_split cX1_split 6 none 4 89 4 28 [.ref (fO F), .ref (fT F)] (ov T (ovF T N F) P) sz (fun v M' z' => v = none ∧ M' = ov T (ovF T N (sSp (sT F sz) (fS F + 1))) (spP (rsP P F sz) (fT F) sz 0 (sz + 1 + 1)) ∧ sz + 1 + 1 + 1 + 1 = z') := by
  refine Ct.ofX hl (by decide) (Nat.le_of_ble_eq_true rfl) ?_
  intro X hl0 hT0 hD0 hlt hX hF
  subst hl0; subst hT0; subst hD0
  have hdl := dom_lt hwF.1 hlt
  have hoL := obj_lt hwF hlt
  show G X 6 (ov (cxT X) (ovF (cxT X) N F) P) sz 0 0 0 [(0, .ref (fO F)), (1, .ref (fT F))] []
  refine g_aload_n hX dX1_split_0 1 rfl ?_
  refine g_getN (ci := 0) hX rfl fin_X0 (ov_pc (P := P) hq) 4 (by decide) fn_X1_68 rfl dX1_split_1 ?_
  rw [hh]
  show G X _ (ov (cxT X) (ovF (cxT X) N F) P) sz 0 0 4 [(0, .ref (fO F)), (1, .ref (fT F))] [.null]
  refine g_ifnonnullN hX dX1_split_4 ?_
  refine g_aload_n hX dX1_split_7 0 rfl ?_
  refine g_callV [] hX (ct_raiseTop hX.st sz hwF hq) cw_X1_raiseTop cv_X1_raiseTop lk_X1_161 (ci := 1) rfl rfl (ovF_o hwF) ⟨by omega, by omega⟩ ⟨by omega, by omega⟩ (Nat.le_of_ble_eq_true rfl) rfl dX1_split_8 rfl (fun v8 M8 z8 hp8 hz8 hd8 => ?_)
  obtain ⟨rfl, rfl, rfl⟩ := hp8
  show G X _ (ov (cxT X) (ovF (cxT X) N (sT F sz)) (rsP P F sz)) (sz + 1 + 1) (0 + 2) (0 + 14) 11 [(0, .ref (fO F)), (1, .ref (fT F))] []
  refine g_dom (fun hlt2 => ?_)
  have htl := hdl _ hq
  have htz : fT F ≠ sz := by omega
  have hwF1 : WfF (rsP P F sz) (sT F sz) := hwF.nw hdl hoL (-1) (pL P (fT F) + 1) bx0 5
  have hd1 : ∀ x, pD P x = true → pD (rsP P F sz) x = true := by intro x hx; simp only [rsP, pD_sH, pN_sH, pL_sH, pH_sH, pS_sH, pB_sH, pA_sH, pW_sH, pD_sS, pN_sS, pL_sS, pH_sS, pS_sS, pB_sS, pA_sS, pW_sS, pD_sB, pN_sB, pL_sB, pH_sB, pS_sB, pB_sB, pA_sB, pW_sB, pD_sA, pN_sA, pL_sA, pH_sA, pS_sA, pB_sA, pA_sA, pW_sA, pD_nwP, pN_nwP, pL_nwP, pH_nwP, pS_nwP, pB_nwP, pA_nwP, pW_nwP, va_up]; split; rfl; exact hx
  have eS : pS (rsP P F sz) (fT F) = 5 := by simp [rsP, pD_sH, pN_sH, pL_sH, pH_sH, pS_sH, pB_sH, pA_sH, pW_sH, pD_sS, pN_sS, pL_sS, pH_sS, pS_sS, pB_sS, pA_sS, pW_sS, pD_sB, pN_sB, pL_sB, pH_sB, pS_sB, pB_sB, pA_sB, pW_sB, pD_sA, pN_sA, pL_sA, pH_sA, pS_sA, pB_sA, pA_sA, pW_sA, pD_nwP, pN_nwP, pL_nwP, pH_nwP, pS_nwP, pB_nwP, pA_nwP, pW_nwP, va_up, htz, hS]
  have eA : pA (rsP P F sz) (fT F) = pA P (fT F) := by simp [rsP, pD_sH, pN_sH, pL_sH, pH_sH, pS_sH, pB_sH, pA_sH, pW_sH, pD_sS, pN_sS, pL_sS, pH_sS, pS_sS, pB_sS, pA_sS, pW_sS, pD_sB, pN_sB, pL_sB, pH_sB, pS_sB, pB_sB, pA_sB, pW_sB, pD_sA, pN_sA, pL_sA, pH_sA, pS_sA, pB_sA, pA_sA, pW_sA, pD_nwP, pN_nwP, pL_nwP, pH_nwP, pS_nwP, pB_nwP, pA_nwP, pW_nwP, va_up, htz]
  have eW : pW (rsP P F sz) (fT F) = 5 := by simp [rsP, pD_sH, pN_sH, pL_sH, pH_sH, pS_sH, pB_sH, pA_sH, pW_sH, pD_sS, pN_sS, pL_sS, pH_sS, pS_sS, pB_sS, pA_sS, pW_sS, pD_sB, pN_sB, pL_sB, pH_sB, pS_sB, pB_sB, pA_sB, pW_sB, pD_sA, pN_sA, pL_sA, pH_sA, pS_sA, pB_sA, pA_sA, pW_sA, pD_nwP, pN_nwP, pL_nwP, pH_nwP, pS_nwP, pB_nwP, pA_nwP, pW_nwP, va_up, htz, hW]
  have eH : pH (rsP P F sz) (fT F) = some sz := by simp [rsP, pD_sH, pN_sH, pL_sH, pH_sH, pS_sH, pB_sH, pA_sH, pW_sH, pD_sS, pN_sS, pL_sS, pH_sS, pS_sS, pB_sS, pA_sS, pW_sS, pD_sB, pN_sB, pL_sB, pH_sB, pS_sB, pB_sB, pA_sB, pW_sB, pD_sA, pN_sA, pL_sA, pH_sA, pS_sA, pB_sA, pA_sA, pW_sA, pD_nwP, pN_nwP, pL_nwP, pH_nwP, pS_nwP, pB_nwP, pA_nwP, pW_nwP, va_up]
  have eSz : pS (rsP P F sz) sz = 1 := by simp [rsP, pD_sH, pN_sH, pL_sH, pH_sH, pS_sH, pB_sH, pA_sH, pW_sH, pD_sS, pN_sS, pL_sS, pH_sS, pS_sS, pB_sS, pA_sS, pW_sS, pD_sB, pN_sB, pL_sB, pH_sB, pS_sB, pB_sB, pA_sB, pW_sB, pD_sA, pN_sA, pL_sA, pH_sA, pS_sA, pB_sA, pA_sA, pW_sA, pD_nwP, pN_nwP, pL_nwP, pH_nwP, pS_nwP, pB_nwP, pA_nwP, pW_nwP, va_up]
  have eWz : pW (rsP P F sz) sz = 5 := by simp [rsP, pD_sH, pN_sH, pL_sH, pH_sH, pS_sH, pB_sH, pA_sH, pW_sH, pD_sS, pN_sS, pL_sS, pH_sS, pS_sS, pB_sS, pA_sS, pW_sS, pD_sB, pN_sB, pL_sB, pH_sB, pS_sB, pB_sB, pA_sB, pW_sB, pD_sA, pN_sA, pL_sA, pH_sA, pS_sA, pB_sA, pA_sA, pW_sA, pD_nwP, pN_nwP, pL_nwP, pH_nwP, pS_nwP, pB_nwP, pA_nwP, pW_nwP, va_up]
  have eAz : pA (rsP P F sz) sz 0 = some (fT F) := by simp [rsP, pD_sH, pN_sH, pL_sH, pH_sH, pS_sH, pB_sH, pA_sH, pW_sH, pD_sS, pN_sS, pL_sS, pH_sS, pS_sS, pB_sS, pA_sS, pW_sS, pD_sB, pN_sB, pL_sB, pH_sB, pS_sB, pB_sB, pA_sB, pW_sB, pD_sA, pN_sA, pL_sA, pH_sA, pS_sA, pB_sA, pA_sA, pW_sA, pD_nwP, pN_nwP, pL_nwP, pH_nwP, pS_nwP, pB_nwP, pA_nwP, pW_nwP, va_up, insF]
  have hc1 : Kids (rsP P F sz) (pA (rsP P F sz) (fT F)) (pS (rsP P F sz) (fT F)) (fun c => pH (rsP P F sz) c = some (fT F)) := by
    rw [eS, eA]
    refine Kids.mk fun k hk => ?_
    obtain ⟨h1, h2, h3, h4⟩ := hc k (by omega)
    refine ⟨_, h1, hd1 _ h2, ?_⟩
    have h5 := hdl _ h2
    simp [rsP, pD_sH, pN_sH, pL_sH, pH_sH, pS_sH, pB_sH, pA_sH, pW_sH, pD_sS, pN_sS, pL_sS, pH_sS, pS_sS, pB_sS, pA_sS, pW_sS, pD_sB, pN_sB, pL_sB, pH_sB, pS_sB, pB_sB, pA_sB, pW_sB, pD_sA, pN_sA, pL_sA, pH_sA, pS_sA, pB_sA, pA_sA, pW_sA, pD_nwP, pN_nwP, pL_nwP, pH_nwP, pS_nwP, pB_nwP, pA_nwP, pW_nwP, va_up, h4, show (pA P (fT F) k).getD 0 ≠ sz by omega, h3]
  exact split_tail hX hF (F := sT F sz) (k0 := 0) hwF1 (dom_lt hwF1.1 hlt2) (obj_lt hwF1 hlt2) (hd1 _ hq) eS eW hc1 eH (nwq _ _ _) (by rw [eSz]; decide) eWz (by intro k c hk hc2; rw [eSz] at hk; rw [show k = 0 by omega, eAz] at hc2; cases hc2; exact hd1 _ hq) (Ne.symm htz) (by rw [eSz]; decide) eAz (fun j hj => absurd hj (Nat.not_lt_zero j)) ⟨rfl, rfl, rfl⟩ (by decide) (by decide) (Nat.le_refl _) (Nat.le_refl _)
