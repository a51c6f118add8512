/-! the law's loop -/
theorem and15 (x : Int32) : ∃ k, k < 16 ∧ x &&& 15 = nI k := by
  refine ⟨x.toBitVec.toNat % 16, Nat.mod_lt _ (by decide), ?_⟩
  apply Int32.toBitVec_inj.mp
  apply BitVec.eq_of_toNat_eq
  have h1 : (x &&& 15).toBitVec = x.toBitVec &&& (15 : Int32).toBitVec := rfl
  rw [h1, BitVec.toNat_and, show ((15 : Int32).toBitVec).toNat = 2 ^ 4 - 1 by decide, Nat.and_two_pow_sub_one_eq_mod]
  have h2 : (nI (x.toBitVec.toNat % 2 ^ 4)).toBitVec = BitVec.ofNat 32 (x.toBitVec.toNat % 2 ^ 4) := rfl
  show _ = (nI (x.toBitVec.toNat % 2 ^ 4)).toBitVec.toNat
  rw [h2, BitVec.toNat_ofNat, Nat.mod_eq_of_lt (Nat.lt_of_lt_of_le (Nat.mod_lt _ (by decide)) (by decide))]
set_option maxHeartbeats 1000000 in
set_option maxRecDepth 100000 in
/-- one call, from the switch -/
theorem law_step {X : Cx} {nm : String} (hX : Ok X (yLn nm) cL_law 9 2048 84000 630684 7204052) (hT : ThL X) {bs n : Nat} {xs : Nat → Int32} (hS : ScX X bs n xs) (hn : n ≤ 2560) {i : Nat} (hi : i + 4 < n) {x sz a b : Nat} {M : AH} (hM : LW (cxT X) x M sz) (ra : a + 60 ≤ 630684) (rb : b + 400 ≤ 7204052) (kk : ∀ M' z' a' b', LW (cxT X) x M' z' → a' ≤ a + 60 → b' ≤ b + 400 → G X 9 M' z' a' b' 931 [(0, .ref bs), (1, .ref x), (2, .ref (x + 4)), (3, .ref (x + 13)), (4, .int (nI i))] []) : G X 9 M sz a b 32 [(0, .ref bs), (1, .ref x), (2, .ref (x + 4)), (3, .ref (x + 13)), (4, .int (nI i))] [] := by
  have hM0 := hM
  obtain ⟨P, F, S, φ, al, L, h, f, rfl, hg, hI⟩ := hM
  refine g_aload_n hX dL_law_32 0 rfl ?_
  refine g_iload hX dL_law_33 4 rfl ?_
  refine g_sld hX hS i (by omega) hn rfl dL_law_35 ?_
  refine g_bipush (v := 15) hX dL_law_36 (by decide) ?_
  refine g_iand hX dL_law_38 ?_
  obtain ⟨k, hk, e⟩ := and15 (xs i)
  rw [e]
  rcases (show k = 0 ∨ k = 1 ∨ k = 2 ∨ k = 3 ∨ k = 4 ∨ k = 5 ∨ k = 6 ∨ k = 7 ∨ k = 8 ∨ k = 9 ∨ k = 10 ∨ k = 11 ∨ k = 12 ∨ k = 13 ∨ k = 14 ∨ k = 15 by omega) with rfl | rfl | rfl | rfl | rfl | rfl | rfl | rfl | rfl | rfl | rfl | rfl | rfl | rfl | rfl | rfl
  · exact g_tableIn (off := 61) hX 100 dL_law_39 (by decide) (by decide) (by decide) (by decide) (st_come hX hT hS hn hi hg hI ra rb kk)
  · exact g_tableIn (off := 153) hX 192 dL_law_39 (by decide) (by decide) (by decide) (by decide) (st_go hX hT hS hn hi hg hI ra rb kk)
  · exact g_tableIn (off := 209) hX 248 dL_law_39 (by decide) (by decide) (by decide) (by decide) (st_told hX hT hS hn hi hg hI ra rb kk)
  · exact g_tableIn (off := 277) hX 316 dL_law_39 (by decide) (by decide) (by decide) (by decide) (st_way hX hT hS hn hi hg hI ra rb kk)
  · exact g_tableIn (off := 345) hX 384 dL_law_39 (by decide) (by decide) (by decide) (by decide) (st_overlaps hX hT hS hn hi hg hI ra rb kk)
  · exact g_tableIn (off := 437) hX 476 dL_law_39 (by decide) (by decide) (by decide) (by decide) (st_looks hX hT hS hn hi hg hI ra rb kk)
  · exact g_tableIn (off := 529) hX 568 dL_law_39 (by decide) (by decide) (by decide) (by decide) (st_nearest hX hT hS hn hi hg hI ra rb kk)
  · exact g_tableIn (off := 597) hX 636 dL_law_39 (by decide) (by decide) (by decide) (by decide) (st_count hX hT hS hn hi hg hI ra rb kk)
  · exact g_tableIn (off := 653) hX 692 dL_law_39 (by decide) (by decide) (by decide) (by decide) (st_grows hX hT hS hn hi hg hI ra rb kk)
  · exact g_tableIn (off := 745) hX 784 dL_law_39 (by decide) (by decide) (by decide) (by decide) (st_splits hX hT hS hn hi hg hI ra rb kk)
  · exact g_tableIn (off := 837) hX 876 dL_law_39 (by decide) (by decide) (by decide) (by decide) (st_mean hX hT hS hn hi hg hI ra rb kk)
  · exact g_tableIn (off := 878) hX 917 dL_law_39 (by decide) (by decide) (by decide) (by decide) (st_digest hX hT hS hn hi hg hI ra rb kk)
  · exact g_tableOut hX 931 dL_law_39 (by decide) (by decide) (kk _ _ a b hM0 (by omega) (by omega))
  · exact g_tableOut hX 931 dL_law_39 (by decide) (by decide) (kk _ _ a b hM0 (by omega) (by omega))
  · exact g_tableOut hX 931 dL_law_39 (by decide) (by decide) (kk _ _ a b hM0 (by omega) (by omega))
  · exact g_tableOut hX 931 dL_law_39 (by decide) (by decide) (kk _ _ a b hM0 (by omega) (by omega))
set_option maxHeartbeats 1000000 in
set_option maxRecDepth 100000 in
theorem law_loop {X : Cx} {nm : String} (hX : Ok X (yLn nm) cL_law 9 2048 84000 630684 7204052) (hT : ThL X) {bs n : Nat} {xs : Nat → Int32} (hS : ScX X bs n xs) (hn : n ≤ 2560) {x : Nat} (hend : ∀ M sz a b L, a ≤ 630684 → b ≤ 7204052 → G X 9 M sz a b 938 L [.int 1]) : ∀ m i sz a b (M : AH), n < i + 5 + 5 * m → i < 3000 → LW (cxT X) x M sz → a + 60 * m ≤ 630684 → b + 400 * m ≤ 7204052 → G X 9 M sz a b 23 [(0, .ref bs), (1, .ref x), (2, .ref (x + 4)), (3, .ref (x + 13)), (4, .int (nI i))] [] := by
  intro m
  induction m with
  | zero =>
    intro i sz a b M h1 hi3 hM ra rb
    refine g_iload hX dL_law_23 4 rfl ?_
    refine g_aload_n hX dL_law_25 0 rfl ?_
    refine g_slen hX hS dL_law_26 ?_
    refine g_iconst (v := 5) hX dL_law_27 (by decide) ?_
    refine g_isub hX dL_law_28 ?_
    have hd : (nI n - 5).toInt = (n : Int) - 5 := dif_i (b := 5) (by omega) (by decide)
    have hi' : (nI i).toInt = (i : Int) := Int32.toInt_ofNat_of_lt (by omega)
    refine g_icmp_gt hX 937 dL_law_29 (by decide) (fun _ => ?_) (fun hlt => ?_)
    · refine g_iconst (v := 1) hX dL_law_937 (by decide) ?_
      exact hend _ _ _ _ _ (by omega) (by omega)
    · rw [Int32.lt_iff_toInt_lt, hd, hi'] at hlt
      omega
  | succ m ih =>
    intro i sz a b M h1 hi3 hM ra rb
    refine g_iload hX dL_law_23 4 rfl ?_
    refine g_aload_n hX dL_law_25 0 rfl ?_
    refine g_slen hX hS dL_law_26 ?_
    refine g_iconst (v := 5) hX dL_law_27 (by decide) ?_
    refine g_isub hX dL_law_28 ?_
    have hd : (nI n - 5).toInt = (n : Int) - 5 := dif_i (b := 5) (by omega) (by decide)
    have hi' : (nI i).toInt = (i : Int) := Int32.toInt_ofNat_of_lt (by omega)
    refine g_icmp_gt hX 937 dL_law_29 (by decide) (fun _ => ?_) (fun hlt => ?_)
    · refine g_iconst (v := 1) hX dL_law_937 (by decide) ?_
      exact hend _ _ _ _ _ (by omega) (by omega)
    · rw [Int32.lt_iff_toInt_lt, hd, hi'] at hlt
      refine law_step hX hT hS hn (by omega) hM (by omega) (by omega) (fun M' z' a' b' hM' ha' hb' => ?_)
      refine g_iinc (L' := [(4, .int (nI (i + 5))), (0, .ref bs), (1, .ref x), (2, .ref (x + 4)), (3, .ref (x + 13))]) hX dL_law_931 4 rfl (nI_add i 5) (by decide) rfl ?_
      refine g_goto hX 23 dL_law_934 (by decide) ?_
      refine g_sub [1, 2, 3, 4, 0] rfl ?_
      exact ih (i + 5) z' a' b' M' (by omega) (by omega) hM' (by omega) (by omega)
