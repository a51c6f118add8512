/-! THE CLAIM OUT OF ONE WALK OF THE LAW'S BODY. Your part is whole_start (and what it stands on); all else here is the same for every law, but numbers. -/
def R_law : String := "NestedFramesLaw"
def lw_P (b : Addr) (xs : List Int32) (args : Array Value) (s : State) : Prop := args = #[.ref b] ∧ s.IntsAt b xs ∧ xs.length ≤ 2560 ∧ (Jvm.Cond.and given_1 narrow_1).before args s = true
/-- what a walk over the start with the record d0 says of its end, said of the start itself -/
theorem lw_closed {s t : State} {o : Outcome} {d0 : Drawn} {L : List Loc} {k n : Nat} (hd0 : s.drawn.sameBut d0 lw_cs) (hv : ∃ v, o = .returned v) (hW : (s.setDrawn d0).WarmedH t.vm) (hs : (s.setDrawn d0).sameButNew ({ t with vm := s.vm } : State) L k n) : State.butDraws s t lw_cs (fun t1 => Framed s o t1 L k n) := by
  have h2 : t.drawn = d0 := congrArg State.drawn hs.1
  refine ⟨⟨hv, hW, State.sameButNew.setDrawn hs s.drawn⟩, ?_, by decide⟩
  rw [h2]
  exact hd0
def lw_Q (_ : Array Value) (s : State) (o : Outcome) (t : State) : Prop := o = .returned (some (.int 1)) ∧ State.butDraws s t lw_cs (fun t1 => Framed s o t1 [] 630684 7204052)
def lw_Z (below : List Frame) (a : Array Value) (s : State) : State → Prop := fun t => ∃ o, t.status = .running ∧ Ended t below o ∧ lw_Q a s o t
/-- the law's own end, with 1 on the stack, nothing written that was there before, its room as the claim has it; d0: the record of draws at this point (at the entry s.drawn: begin with 'refine W.base ?_' and 'have hd0 := Drawn.sameBut.refl s.drawn lw_cs') -/
theorem lw_ret {p : Program} {l : Launch} {e : Env} {s : State} {m : MethodId} {below : List Frame} {meth : Method} {c : Code} {b : Nat} {d0 : Drawn} (hd0 : s.drawn.sameBut d0 lw_cs) (hx : p.tables.exec = Jvm.exec) (hb : c.code = code) (hr : meth.sig.returnType = ret) (hlocks : meth.locks = false) {pc : Nat} {H : Heap} {ls : Array Slot} (hdg : decode code pc = .ok (.ireturn, 1)) : W p l e room_1 (s.setDrawn d0) m #[Value.ref b] below meth c H [] 630684 7204052 (lw_Z below #[Value.ref b] s) (F0 m pc ls [.int 1]) := by
  intro T hT X
  obtain ⟨fs, hret, hrun, hended, hW, hframe⟩ := X.leave (v := some (.int 1)) (hlocks := hlocks) (fun h => by rw [hr] at h; cases h)
  have hmeth' : T.vm.method? m = some meth := X.method'
  refine ⟨T.setFrames fs, ?_, .returned (some (.int 1)), hrun, hended, rfl, lw_closed hd0 ⟨_, rfl⟩ hW hframe⟩
  jvm_step X.here [X.here.top, hx, hb, hdg, hmeth', hr, ret, narrow_b1]
  (try refine ⟨rfl, ?_⟩); (try refine ⟨rfl, ?_⟩)
  first | (intro acts; rw [hret _ acts rfl rfl rfl]) | rw [hret _ _ rfl rfl rfl]
  exact Steps.refl _
/-- what holds at the law's entry: the machine, the code, the tables' words (any of lw_tbl by 'hts w (by decide +kernel)'), the script of L ints xs at the cell b, what the Statement gives of the start (any of its parts by flat_of_before) -/
def lw_At (p : Program) (s : State) (m : MethodId) (meth : Method) (c : Code) (b L : Nat) (xs : Nat → Int32) : Prop :=
  p.tables.exec = Jvm.exec ∧ c.code = code ∧ meth.sig.returnType = ret ∧ c.maxLocals = 9 ∧ s.vm.findClass R_law = some m.cls ∧ (∀ w ∈ lw_tbl, w.before #[Value.ref b] s = true) ∧ va_X b L xs s s.heap ∧ b < s.heap.size ∧ meth.locks = false ∧ (Jvm.Cond.and given_1 narrow_1).before #[Value.ref b] s = true
theorem lw_hend {p : Program} {l : Launch} {e : Env} {s : State} {m : MethodId} {below : List Frame} {meth : Method} {c : Code} {b : Nat} {D : va_G} {T : CT3} (hx : p.tables.exec = Jvm.exec) (hb : c.code = code) (hr : meth.sig.returnType = ret) (hlocks : meth.locks = false) : ∀ M sz a b' L, a ≤ 630684 → b' ≤ 7204052 → G (p, l, e, room_1, s, m, #[Value.ref b], below, meth, c, lw_Z below #[Value.ref b] s, (fun q => s.heap.size ≤ q), D, T) 9 M sz a b' 938 L [.int 1] := by
  intro M sz a b' L ha hb' H locs ls hsz hwd hS hl hMA
  refine va_forget (fun q hq => hS.2.2 q hq) ?_
  refine W.widen ha hb' ?_
  exact lw_ret (d0 := s.drawn) (Drawn.sameBut.refl s.drawn lw_cs) hx hb hr hlocks dL_law_938
/-- the world as the loop begins -/
theorem Wd_start (T : CT3) (x : Nat) : va_up (ovR T (ov T (ovF T (fun _ => none) (iF x)) (iP x)) (x + 4) iR) (x + 13) (some (eL T 1 (fun _ => 0))) = Wd T x (iP x) (iF x) iR (fun _ => 0) ∧ Gm x (iP x) (iF x) (x + 14) := by
  have hg : Gm x (iP x) (iF x) (x + 14) := ⟨rfl, WfF_i x, fun q hq => by have := iP_D2 hq; omega, Nat.le_refl _⟩
  refine ⟨?_, hg⟩
  funext q
  by_cases e : q = x + 13
  · subst e; rw [va_up_self, Wd_out hg]
  · rw [va_up_ne _ _ e]
    have key : (q < x + 4 ∨ x + 4 + 9 ≤ q) → ov T (ovF T (fun _ => none) (iF x)) (iP x) q = Wd T x (iP x) (iF x) iR (fun _ => 0) q := by
      intro hq
      have hN : N2 T (x + 13) (fun _ => 0) q = none := by unfold N2; rw [if_neg e]
      have hR : (fun _ => none : AH) q = ovR T (N2 T (x + 13) (fun _ => 0)) (x + 4) iR q := by
        rcases hq with c | c
        · rw [ovR_lo c, hN]
        · rw [ovR_hi c, hN]
      have hF : ovF T (fun _ => none) (iF x) q = ovF T (ovR T (N2 T (x + 13) (fun _ => 0)) (x + 4) iR) (iF x) q := by
        unfold ovF; rw [← hR]
      unfold Wd ov
      cases q with
      | zero => rw [hF]
      | succ q => simp only [hF]
    by_cases c1 : q < x + 4
    · rw [ovR_lo c1]; exact key (Or.inl c1)
    · by_cases c2 : q < x + 4 + 9
      · rw [Wd_mid hg (by omega) (by omega)]; exact ovR_k (by omega) c2
      · rw [ovR_hi (by omega)]; exact key (Or.inr (by omega))
set_option maxHeartbeats 4000000 in
set_option maxRecDepth 100000 in
theorem law_body {X : Cx} {nm : String} (hX : Ok X (yLn nm) cL_law 9 2048 84000 630684 7204052) (hT : ThL X) {bs n : Nat} {xs : Nat → Int32} (hS : ScX X bs n xs) (hn : n ≤ 2560) (hend : ∀ M sz a b L, a ≤ 630684 → b ≤ 7204052 → G X 9 M sz a b 938 L [.int 1]) (x : Nat) : G X 9 (fun _ => none) x 0 0 0 [(0, .ref bs)] [] := by
  refine g_new (ci := 1) (fs := [.null, .int 0, .int 0, .null]) hX rfl fld_X1 cl_L_8 ins_NestedFrames ini_NestedFrames (fun j hj => by rcases (show j = 0 ∨ j = 1 ∨ j = 2 ∨ j = 3 by omega) with rfl | rfl | rfl | rfl <;> rfl) (by omega) (by omega) dL_law_0 ?_
  refine g_dup hX dL_law_3 rfl ?_
  refine g_callI [.ref x] hX (as := []) (ct_init hX.st (T := cxT X) (D := cxD X) (N := fun _ => none) (o := x)) cw_X1_init rfl im_X1_init lk_L_48 ⟨by omega, by omega⟩ ⟨by omega, by omega⟩ (Nat.le_of_ble_eq_true rfl) rfl dL_law_4 rfl (fun v5 M5 z5 hp5 hz5 hd5 => ?_)
  obtain ⟨rfl, rfl, rfl⟩ := hp5
  refine g_astore_n (L' := [(1, .ref x), (0, .ref bs)]) hX dL_law_7 (by decide) rfl ?_
  refine g_new (ci := 2) (fs := [.int 0, .int 0, .int 0, .null, .null, .int 0, .int 0, .null, .null, .null, .null, .null, .int 0, .null]) hX rfl fld_X2 cl_L_49 ins_NestedFramesModel ini_NestedFramesModel (fun j hj => by rcases (show j = 0 ∨ j = 1 ∨ j = 2 ∨ j = 3 ∨ j = 4 ∨ j = 5 ∨ j = 6 ∨ j = 7 ∨ j = 8 ∨ j = 9 ∨ j = 10 ∨ j = 11 ∨ j = 12 ∨ j = 13 by omega) with rfl | rfl | rfl | rfl | rfl | rfl | rfl | rfl | rfl | rfl | rfl | rfl | rfl | rfl <;> rfl) (by omega) (by omega) dL_law_8 ?_
  refine g_dup hX dL_law_11 rfl ?_
  refine g_callI [.ref (x + 4)] hX (as := []) (cr_init hX.st (T := cxT X) (D := cxD X) (N := ov (cxT X) (ovF (cxT X) (fun _ => none) (iF x)) (iP x)) (o := x + 4)) cw_X2_init rfl im_X2_init lk_L_51 ⟨by omega, by omega⟩ ⟨by omega, by omega⟩ (Nat.le_of_ble_eq_true rfl) rfl dL_law_12 rfl (fun v6 M6 z6 hp6 hz6 hd6 => ?_)
  obtain ⟨rfl, rfl, rfl⟩ := hp6
  refine g_astore_n (L' := [(2, .ref (x + 4)), (1, .ref x), (0, .ref bs)]) hX dL_law_15 (by decide) rfl ?_
  refine g_iconst (v := 1) hX dL_law_16 (by decide) ?_
  refine g_newL hX ac_long 1 rfl (by decide) (by omega) (by omega) dL_law_17 ?_
  refine g_astore_n (L' := [(3, .ref (x + 13)), (2, .ref (x + 4)), (1, .ref x), (0, .ref bs)]) hX dL_law_19 (by decide) rfl ?_
  refine g_iconst (v := 0) hX dL_law_20 (by decide) ?_
  refine g_istore (L' := [(4, .int 0), (3, .ref (x + 13)), (2, .ref (x + 4)), (1, .ref x), (0, .ref bs)]) hX dL_law_21 (by decide) rfl ?_
  refine g_sub [4, 3, 2, 1, 0] rfl ?_
  obtain ⟨hW, hg⟩ := Wd_start (cxT X) x
  exact law_loop hX hT hS hn (x := x) hend 512 0 (x + 14) _ _ _ (by omega) (by omega) ⟨iP x, iF x, iR, _, _, _, 0, fun _ => 0, hW, hg, Inv.start x⟩ (by omega) (by omega)
set_option maxHeartbeats 4000000 in
set_option maxRecDepth 100000 in
/-- from the entry, for every script of at most 2560 ints, the law comes to its end with true -/
theorem whole_start {p : Program} {e : Env} {s : State} {m : MethodId} {below : List Frame} {meth : Method} {c : Code} (l : Launch) (hflags : l.flags = flags0) {b L : Nat} {xs : Nat → Int32} (hL : L ≤ 2560) (C0 : lw_At p s m meth c b L xs) : W p l e room_1 s m #[Value.ref b] below meth c s.heap [] 0 0 (lw_Z below #[Value.ref b] s) (entryFrame m ([Value.ref b] : List Value).toArray 9) := by
  obtain ⟨hx, hb, hr, hml, hown, hts, hX, hbl, hlocks, hgv⟩ := id C0
  have hst : l.stackTraces = false := by unfold Launch.stackTraces; rw [hflags]; decide
  have hTW : TW s := fun w hw ho => okw_any ho (hts w hw)
  have hs := flat_of_before _ hgv
  obtain ⟨c0, iS0, hKn0⟩ := u_known (C := RX0) (T := TX0) (N := 9) (n := 9) hts (fun w hw => (fin_X0 w hw).1) (hts _ ins_NestedFrames_Piece)
  obtain ⟨c1, iS1, hKn1⟩ := u_known (C := RX1) (T := TX1) (N := 4) (n := 4) hts (fun w hw => (fin_X1 w hw).1) (hts _ ins_NestedFrames)
  obtain ⟨c2, iS2, hKn2⟩ := u_known (C := RX2) (T := TX2) (N := 14) (n := 14) hts (fun w hw => (fin_X2 w hw).1) (hts _ ins_NestedFramesModel)
  obtain ⟨dC, dI, hKc⟩ : ∃ (dC : Nat → ClassId) (dI : Nat → Nat → Nat), ∀ (k : Nat) (q : vw_C), vwCl[k]? = some q → u_Kn s q.1 q.2.1 q.2.2 (dC k) (dI k) := by
    refine ⟨fun k => if k = 0 then c0 else if k = 1 then c1 else c2, fun k => if k = 0 then iS0 else if k = 1 then iS1 else iS2, ?_⟩
    intro k q hq
    match k, hq with
    | 0, hq => cases hq; exact hKn0
    | 1, hq => cases hq; exact hKn1
    | 2, hq => cases hq; exact hKn2
    | k + 3, hq => simp [vwCl] at hq
  obtain ⟨a0, k0, p0, q1, q2, q3⟩ := Cond.arrayClass_spec (hts _ ac_int)
  obtain ⟨a2, k2, p2, t1, t2, t3⟩ := Cond.arrayClass_spec (hts _ ac_long)
  obtain ⟨comp, a1, k1, r1, r2, r3, r4, r5⟩ := Cond.arrayOver_spec (hts _ ao_P)
  have hK : va_K (dC, dI) vwCl (tyG (a0, a1, a2)) s := by
    refine ⟨hKc, fun k q hq => ?_⟩
    match k, hq with
    | 0, hq => cases hq; exact ⟨fun n z => ⟨fun k h => (by cases h), k0, q2, p0, q3⟩, q1⟩
    | 1, hq => cases hq; exact ⟨fun n z => ⟨fun k h => (by cases h), k1, r3, comp, r4⟩, ⟨k1, comp, r3, r4, r1, r5⟩⟩
    | 2, hq => cases hq; exact ⟨fun n z => ⟨fun k h => (by cases h), k2, t2, p2, t3⟩, t1⟩
    | k + 3, hq => simp [tyG] at hq
  have hE : EW s := fun args w hw h1 h2 => va_tabs h1 rfl (hts w hw)
  have hXS : XS s := fun k t hm => by
    obtain ⟨-, -, -, sa, -, -, -, -, -, hev⟩ := Cond.stringRef_spec hKn1.2.1 (hts _ hm)
    exact ⟨sa, vk_R.of (hts _ hm) hev⟩
  have hZ : XZ (fun q => s.heap.size ≤ q) s s.heap := ⟨vx_Zqof (hts (Cond.laysStatic Bundle.tN "UNASSIGNED_STACK" Bundle.steD) (List.mem_append_right _ (List.mem_of_getElem? (i := 195) (by decide +kernel)))) (hts _ ini_java_lang_Throwable) (hs _ (by decide +kernel)) (fun a ha => Nat.not_le.mpr ha), vx_Zqof (hts (Cond.laysStatic Bundle.tN "SUPPRESSED_SENTINEL" Bundle.listD) (List.mem_append_right _ (List.mem_of_getElem? (i := 197) (by decide +kernel)))) (hts _ ini_java_lang_Throwable) (hs _ (by decide +kernel)) (fun a ha => Nat.not_le.mpr ha)⟩
  have hNC : NC s := ⟨va_Nc.of (hs (Cond.not (.castable "java/lang/IllegalStateException" "java/lang/IllegalArgumentException")) (by decide +kernel)), va_Nc.of (hs (Cond.not (.castable "java/lang/IllegalStateException" "java/lang/IndexOutOfBoundsException")) (by decide +kernel))⟩
  have hlen := lv_entry ([.ref b]) (n := 9) (Nat.le_of_ble_eq_true rfl)
  rw [lg_entry_eq]
  have hOk : Ok (p, l, e, room_1, s, m, #[Value.ref b], below, meth, c, lw_Z below #[Value.ref b] s, (fun q => s.heap.size ≤ q), (dC, dI), (a0, a1, a2)) (yLn meth.name) cL_law 9 2048 84000 630684 7204052 := ⟨hx, hb, hml, hown, hlocks, rfl, ⟨hK, hTW⟩, rfl, fun q h => h, hst⟩
  have hG := law_body hOk (show ThL (p, l, e, room_1, s, m, #[Value.ref b], below, meth, c, lw_Z below #[Value.ref b] s, (fun q => s.heap.size ≤ q), (dC, dI), (a0, a1, a2)) from ⟨hE, hXS, hZ, hNC⟩) (bs := b) (n := L) (xs := xs) (show ScX (p, l, e, room_1, s, m, #[Value.ref b], below, meth, c, lw_Z below #[Value.ref b] s, (fun q => s.heap.size ≤ q), (dC, dI), (a0, a1, a2)) b L xs from ⟨hX, hbl, rfl⟩) hL (lw_hend hx hb hr hlocks) s.heap.size
  exact hG s.heap [] _ rfl (fun q f h => absurd h (by simp)) va_S.rf hlen (fun q h => absurd rfl h)
