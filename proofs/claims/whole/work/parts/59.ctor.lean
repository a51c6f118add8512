/-! the class's constructor -/
def eP : PS := (fun _ => false, fun _ => 0, fun _ => 0, fun _ => none, fun _ => 0, fun _ _ => 0, fun _ _ => none, fun _ => 0)
theorem ov_eP (T : CT3) (N : AH) : ov T N eP = N := by
  funext q
  unfold ov
  rw [if_neg (show ¬ pD eP q = true from by intro h; cases h)]
  cases q with
  | zero => rfl
  | succ k => exact if_neg (show ¬ pD eP k = true from by intro h; cases h)
def iP (o : Nat) : PS := nwP eP (o + 2) (-1) 1 bx0 5
def iF (o : Nat) : FS := (o, 0, 0, o + 2, fun _ => none)
def iM (T : CT3) (N : AH) (o : Nat) : AH := va_up (va_up N o (some (.inr (1, [.ref (o + 1), .int 0, .int 0, .null])))) (o + 1) (some (eR T 60 (fun _ => none)))
theorem iP_D {o q : Nat} (h : q ≠ o + 2) : pD (iP o) q = false := by
  unfold iP
  rw [pD_nwP, va_up_ne _ _ h]
  rfl
theorem iP_D2 {o q : Nat} (h : pD (iP o) q = true) : q = o + 2 := by
  by_cases h2 : q = o + 2
  · exact h2
  · rw [iP_D h2] at h; cases h
theorem WfF_i (o : Nat) : WfF (iP o) (iF o) := by
  refine ⟨fun q hq => ?_, iP_D (show o ≠ o + 2 by omega), iP_D (show o + 1 ≠ o + 2 by omega), fun k hk => ?_⟩
  · have h := iP_D2 hq
    exact iP_D (by omega)
  · have hk' : k + 1 = o := hk
    exact iP_D (by omega)
theorem iM_o (T : CT3) (N : AH) (o : Nat) : ov T (iM T N o) (iP o) o = some (.inr (1, [.ref (o + 1), .int 0, .int 0, .null])) := by
  rw [ov_no (iP_D (by omega)) (fun k hk => iP_D (by omega))]
  unfold iM
  rw [va_up_ne _ _ (by omega), va_up_self]
theorem iM_x {T : CT3} {N : AH} {o x : Nat} (h : x ≠ o) : iM T N o x = ovF T N (iF o) x := by
  unfold iM ovF
  show _ = if x = o then _ else if x = o + 1 then some (eR T 60 (fun _ => none)) else N x
  rw [if_neg h]
  by_cases h1 : x = o + 1
  · rw [if_pos h1, h1, va_up_self]
  · rw [if_neg h1, va_up_ne _ _ h1, va_up_ne _ _ h]
theorem iM_fold (T : CT3) (N : AH) (o : Nat) : va_up (ov T (iM T N o) (iP o)) o (some (.inr (1, [.ref (o + 1), .int 0, .int 0, .ref (o + 2)]))) = ov T (ovF T N (iF o)) (iP o) := by
  funext x
  by_cases hx : x = o
  · subst hx
    rw [va_up_self]
    exact (ovF_o (T := T) (N := N) (WfF_i x)).symm
  · rw [va_up_ne _ _ hx]
    unfold ov
    by_cases hp : pD (iP o) x = true
    · rw [if_pos hp, if_pos hp]
    · rw [if_neg hp, if_neg hp]
      cases x with
      | zero => exact iM_x hx
      | succ k =>
        show (if pD (iP o) k = true then _ else iM T N o (k + 1)) = (if pD (iP o) k = true then _ else ovF T N (iF o) (k + 1))
        rw [iM_x hx]
set_option maxHeartbeats 1000000 in
set_option maxRecDepth 100000 in
theorem ct_init {l : Launch} (hl : l.stackTraces = false) {T : CT3} {D : va_G} {N : AH} {o : Nat} : Ct l T D yX1_init cX1_init 1 none 2 42 3 74 [.ref o] (va_up N o (some (.inr (1, [.null, .int 0, .int 0, .null])))) (o + 1) (fun v M' z' => v = none ∧ M' = ov T (ovF T N (iF o)) (iP o) ∧ o + 4 = z') := by
  refine Ct.ofX hl (by decide) (Nat.le_of_ble_eq_true rfl) ?_
  intro X hl0 hT0 hD0 hlt hX hF
  subst hl0; subst hT0; subst hD0
  show G X 1 (va_up N o (some (.inr (1, [.null, .int 0, .int 0, .null])))) (o + 1) 0 0 0 [(0, .ref o)] []
  refine g_aload_n hX dX1_init_0 0 rfl ?_
  refine g_objInit [] hX lk_X1_1 im_Lib_objectInit cd_Lib_objectInit (by omega) (by omega) (Nat.le_of_ble_eq_true rfl) dX1_init_1 ?_
  refine g_aload_n hX dX1_init_4 0 rfl ?_
  refine g_bipush (v := 60) hX dX1_init_5 (by decide) ?_
  refine g_anew (N := 60) hX cl_X1_9 ao_P rfl (by decide) (by decide) (by decide) dX1_init_7 ?_
  refine g_putF (fs := [.null, .int 0, .int 0, .null]) (ci := 1) hX rfl fld_X1 (by rw [va_up_ne _ _ (by omega)]; exact va_up_self _ _ _) 0 (by decide) fl_X1_11 rfl rfl rfl rfl rfl (Nat.le_of_ble_eq_true rfl) dX1_init_10 ?_
  refine g_eqM ((va_upC _ _ _ (by omega)).trans (congrArg (fun f => va_up f (o + 1) (some (eR (cxT X) 60 (fun _ => none)))) (va_up2 _ _ _ _))) ?_
  show G X 1 (iM (cxT X) N o) (o + 2) 1 60 13 [(0, .ref o)] []
  refine g_aload_n hX dX1_init_13 0 rfl ?_
  refine g_new (ci := 0) (fs := [.int 0, .int 0, .null, .int 0, .null, .int 0, .int 0, .int 0, .int 0]) hX rfl fld_X0 cl_X1_9 ins_NestedFrames_Piece ini_NestedFrames_Piece tyP9 (by omega) (by omega) dX1_init_14 ?_
  show G X 1 (va_up (iM (cxT X) N o) (o + 2) (some blkP)) (o + 3) 2 69 17 [(0, .ref o)] [.ref (o + 2), .ref o]
  refine g_dup hX dX1_init_17 rfl ?_
  refine g_iconst (v := 1) hX dX1_init_18 (by decide) ?_
  refine g_callIN [.ref (o + 2), .ref o] hX (ct_Pinit_ hX.st (M := va_up (iM (cxT X) N o) (o + 2) (some blkP)) (q := o + 2) (va_up_self _ _ _) 1) cw_X0_init_ rfl im_X0_init_ ln_X1_15 ⟨by omega, by omega⟩ ⟨by omega, by omega⟩ (Nat.le_of_ble_eq_true rfl) rfl dX1_init_19 rfl (fun v19 M19 z19 hp19 hz19 hd19 => ?_)
  obtain ⟨rfl, rfl, rfl⟩ := hp19
  have h9 := ov_nw (T := cxT X) (N := iM (cxT X) N o) (P := eP) (q := o + 2) (-1) 1 bx0 5 (fun x hx => by cases hx) (e0 := some blkP) (vs := [.int (-1), .int (nI 1), .ref (o + 2 + 1), .int 0, .null, .int 0, .int 0, .int (-1), .int (-1)]) rfl
  rw [ov_eP] at h9
  refine g_eqM h9 ?_
  show G X 1 (ov (cxT X) (iM (cxT X) N o) (iP o)) (o + 4) 3 74 22 [(0, .ref o)] [.ref (o + 2), .ref o]
  refine g_put (fs := [.ref (o + 1), .int 0, .int 0, .null]) (ci := 1) hX rfl fld_X1 (iM_o (cxT X) N o) 3 (by decide) fl_X1_18 rfl rfl rfl (Nat.le_of_ble_eq_true rfl) dX1_init_22 ?_
  refine g_eqM (iM_fold (cxT X) N o) ?_
  exact hF none (ov (cxT X) (ovF (cxT X) N (iF o)) (iP o)) (o + 4) _ _ _ _ .return_ (⟨rfl, rfl, rfl⟩) (by omega) (by omega) ret_v dX1_init_25
