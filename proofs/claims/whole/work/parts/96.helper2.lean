/-! helpers with two rows: what the law knows more (NC), contracts over it, the second row, and the law's call of a helper -/
def NC (s : State) : Prop := va_Nc "java/lang/IllegalStateException" "java/lang/IllegalArgumentException" s ∧ va_Nc "java/lang/IllegalStateException" "java/lang/IndexOutOfBoundsException" s
theorem NC.moved {s U : State} (hW : s.WarmedH U.vm) (h : NC s) : NC U := ⟨va_Nc.moved hW.alike h.1, va_Nc.moved hW.alike h.2⟩
def PXN (T : CT3) (D : va_G) (M : AH) (sz : Nat) : State → Prop := fun U => PX T D M sz U ∧ NC U
def CtN (l : Launch) (T : CT3) (D : va_G) (y : MethodName) (cc : ByteArray) (nL : Nat) (ret : Option FieldType) (hh : List (Nat × Nat × Nat × Nat)) (fr lo mc ms : Nat) (as : List Value) (M : AH) (sz : Nat) (post : Option Value → AH → Nat → Prop) : Prop :=
  vx_Met l y [.codeWith y cc nL ret hh] { frames := fr, cells := mc, slots := ms, locals := lo } (va_Pc as (PXN T D M sz)) (QG D M sz post) (fun _ _ _ => False) mc ms (dm M sz)
theorem CtH.n {l : Launch} {T : CT3} {D : va_G} {y : MethodName} {cc : ByteArray} {nL : Nat} {ret : Option FieldType} {hh : List (Nat × Nat × Nat × Nat)} {fr lo mc ms : Nat} {as : List Value} {M : AH} {sz : Nat} {post : Option Value → AH → Nat → Prop} (h : CtH l T D y cc nL ret hh fr lo mc ms as M sz post) : CtN l T D y cc nL ret hh fr lo mc ms as M sz post :=
  fun p e ha hc hk s m args below hf happ hP ht => h p e ha hc hk s m args below hf happ ⟨hP.1, hP.2.1⟩ ht
def ThN (X : Cx) (M0 : AH) (sz0 : Nat) (hh : List (Nat × Nat × Nat × Nat)) : Prop := ThH X M0 sz0 hh ∧ match X with
  | (_, _, _, _, s, _, _, _, _, _, _, _, _, _) => NC s
set_option maxHeartbeats 4000000 in
theorem CtN.of {l : Launch} (hl : l.stackTraces = false) {T : CT3} {D : va_G} {y : MethodName} {cc : ByteArray} {nL : Nat} {ret : Option FieldType} {hh : List (Nat × Nat × Nat × Nat)} {fr lo mc ms : Nat} {as : List Value} {M : AH} {sz : Nat} {post : Option Value → AH → Nat → Prop}
    (hy : plainName y.cls = true) (hn : (lg_sl as).length ≤ nL)
    (body : ∀ X : Cx, cxl X = l → cxT X = T → cxD X = D → (∀ q e, M q = some e → q < sz) → Ok X y cc nL fr lo mc ms → ThN X M sz hh → Fnl X cc nL ret mc ms post → G X nL M sz 0 0 0 (lv_args 0 as) []) : CtN l T D y cc nL ret hh fr lo mc ms as M sz post := by
  refine vx_ofWH (cc := cc) (maxL := nL) (ret := ret) (hh := hh) hy rfl ?_
  intro p e s m args below meth c s₁ B hml hv
  have hword := atoms_spec (ws := [.codeWith y cc nL ret hh]) B.pre _ List.mem_cons_self
  obtain ⟨rfl, ⟨⟨hsz, hwd, hK⟩, hE, hS, hZ⟩, hNC⟩ := hv
  have hown : s.vm.findClass y.cls = some m.cls := findClass_of_methodNamed B.named
  have hM1 : ∀ q e, M q = some e → q < sz := fun q e hm => by rw [← hsz]; exact hwd.lt hm
  have hM0 : ∀ q, M q ≠ none → q < sz := by
    intro q hq
    cases hm : M q with
    | none => exact absurd hm hq
    | some e => exact hM1 q e hm
  have hlen := lv_entry as (n := nL) hn
  rw [lg_entry_eq]
  exact body (p, l, e, (headSpec [.codeWith y cc nL ret hh] { frames := fr, cells := mc, slots := ms, locals := lo }).room, s, m, as.toArray, below, meth, c, vx_MQ below (QG D M sz post) (fun _ _ _ => False) as.toArray s mc ms (dm M sz), dm M sz, D, T) rfl rfl rfl hM1
    ⟨B.exec, B.bytes, hml, hown, B.notSynchronized, (name_of_methodNamed B.named B.method).1, hK, rfl, fun q hq => Or.inr (by rw [← hsz]; exact hq), hl⟩
    ⟨⟨hE, hS, hZ, rfl, vx_table (x := y) B hword⟩, hNC⟩
    (fun v M' sz' a b pc L w h1 h2 h3 h4 h5 H locs ls g1 g2 g3 g4 g5 => vx_ret (fin_of (e := e) (R := (headSpec [.codeWith y cc nL ret hh] { frames := fr, cells := mc, slots := ms, locals := lo }).room) (T := T) B.exec B.bytes B.returns B.notSynchronized hsz hM0 v M' sz' a b pc L w h1 h2 h3 h4 h5 H locs ls g1 g2 g3 g4 g5)) s.heap [] _ hsz hwd va_S.rf hlen (fun q hq => Or.inl hq)
theorem blind_PXN {T : CT3} {D : va_G} {M : AH} {sz : Nat} {as : List Value} : FrameBlind (va_Pc as (PXN T D M sz)) := by
  intro a U g mk h
  obtain ⟨h1, h2, h3⟩ := h
  obtain ⟨h4, h5⟩ := blind_PX (T := T) (D := D) (M := M) (sz := sz) (as := as) a U g mk ⟨h1, h2⟩
  exact ⟨h4, h5, h3.moved (U := U.calling g mk a) (State.WarmedH.refl U)⟩
set_option maxHeartbeats 4000000 in
/-- a call that throws, past the first row, caught by the second -/
theorem g_callX2 {X : Cx} {y : MethodName} {cc : ByteArray} {nL fr lo mc ms : Nat} {M : AH} {sz a b pc : Nat} {L : List (Nat × Value)} {stk : List Value} (st : List Value) {y' : MethodName} {cc' : ByteArray} {nL' fr' lo' mc' ms' n idx : Nat} {ret' : Option FieldType} {as : List Value}
    (hX : Ok X y cc nL fr lo mc ms) {M0 : AH} {sz0 : Nat} {hh : List (Nat × Nat × Nat × Nat)} (hT : ThN X M0 sz0 hh) {E0 : String} {b0 : Nat} (hc : CtX (cxl X) (cxT X) (cxD X) y' cc' nL' ret' fr' lo' mc' ms' (.ref b0 :: as) M sz (fun _ _ _ => False) (fun E => E = E0)) (hw : CWd y' cc' nL' ret' n) (hv : CWv y') (hlk : Cond.methodLink y.cls idx y' ∈ lw_tbl) {ci : Nat} {fs : List Value} {q0 : vw_C} (hci : vwCl[ci]? = some q0) (hq0 : q0.1 = y'.cls) (hM : M b0 = some (.inr (ci, fs)))
    (hroom : fr' + 1 ≤ fr ∧ 8 + (nL' + 11) + lo' ≤ lo) (hcs : a + mc' ≤ mc ∧ b + ms' ≤ ms) (hcat : (st.map fun v => v.category).sum ≤ 8) (hn : as.length = n) (hdg : decode cc pc = .ok (.invokevirtual idx, 3)) (hstk : stk = as.reverse ++ .ref b0 :: st)
    {x x0 : ExceptionTableEntry} {suf : List ExceptionTableEntry} (hsplit : tableOf hh = x0 :: x :: suf) (h00 : x0.catchType ≠ 0) {nm : String} (hl0 : Cond.classLink y.cls x0.catchType nm ∈ lw_tbl) (hn0 : ∀ s : State, NC s → va_Nc E0 nm s) (hx : covers x pc = true) (h0 : x.catchType ≠ 0) (hlink : Cond.classLink y.cls x.catchType E0 ∈ lw_tbl) (hcast : Cond.castable E0 E0 ∈ lw_tbl) {hpc : Nat} (hpce : x.handlerPc = hpc)
    (kk : ∀ sz' q, sz ≤ sz' → G X nL M sz' (a + mc') (b + ms') hpc L [.ref q]) : G X nL M sz a b pc L stk := by
  obtain ⟨p, l, e, R, s, m, args, below, meth, c, Q, A, D, T⟩ := X
  obtain ⟨hexec, hb, hml, hown, hlocks, hname, hK, hR, hA, hst⟩ := hX
  obtain ⟨⟨hE, hS, ⟨hZ1, hZ2⟩, hAe, htab⟩, hNC⟩ := hT
  intro H locs ls hsz hwd hva hl hMA
  subst hstk
  have hdA : ∀ q, dm M sz q → A q := by
    intro q hq
    rcases hq with h | h
    · exact hMA q h
    · exact hA q (by rw [← hsz] at h; exact Nat.le_trans hva.1 h)
  have hrc := va_recv hK.1 (va_P_one hwd hM) hci (q0 := 0) rfl
  rw [hq0] at hrc
  have hdA0 : ∀ q, dm M sz q → dm M0 sz0 q := by rw [← hAe]; exact hdA
  have hva0 := hva
  rw [hAe] at hva0
  have hr := vx_runV (p := p) (l := l) (e := e) (R := R) (s := s) (m := m) (args := args) (below := below) (meth := meth) (c := c) (H := H) (locs := locs) (cells := a) (slots := b) (g := F0 m pc ls (as.reverse ++ .ref b0 :: st)) (rest := st) (As := as) (Ts := []) (own := y.cls) (C := y'.cls) (b := b0) ⟨hexec, hb, hml, hown, fun w hw => by cases hw⟩ hc ⟨cw_base hK hR hw hroom (hK.2.use hlk rfl), hK.2.use hv.1 rfl, hK.2.use hv.2 rfl⟩
    ⟨blind_PX, hrc, fun U hU hW => ⟨rfl, ⟨by rw [hU]; exact hsz, by rw [hU]; exact hwd, hK.moved hW⟩, hE.moved hW, hS.moved hW, by rw [hU]; exact vx_Zq.moved hW.alike ((hZ1.kept hva0.2.1).narrow hdA0), by rw [hU]; exact vx_Zq.moved hW.alike ((hZ2.kept hva0.2.1).narrow hdA0)⟩⟩ rfl hn hl.1 rfl (lv_room hcat) hdg (by rw [hR]; exact hcs)
  intro T0 hT0 X0
  rcases hr T0 hT0 X0 with ⟨v, st₀, t, T', L', e0, X', hL, e1, e2, hq, stp⟩ | ⟨q, st₀, t, T', L', E, ce, e0, X', hL, e1, e2, hxg, hce, hcv, hcl, stp⟩
  · obtain ⟨⟨v', M', hv', hp, -⟩, -⟩ := hq
    exact hp.elim
  · obtain ⟨hE0, hwd', hz, hk⟩ := hxg
    subst hE0
    rw [e0] at hz hk
    have hz' : sz ≤ t.heap.size := by rw [← hsz]; exact hz
    have hva' : va_S A s.heap T'.heap (locs ++ L') := by
      refine ⟨Nat.le_trans hva.1 (by rw [e1]; exact hz), fun q h1 h2 => ?_, fun q hq => ?_⟩
      · rw [e1, hk q (Nat.lt_of_lt_of_le h1 hva.1) (fun z => h2 (hdA q z))]
        exact hva.2.1 q h1 h2
      · rcases List.mem_append.mp hq with h | h
        · exact hva.2.2 q h
        · exact hdA _ (hL q h)
    have hk2 := kk t.heap.size q hz' T'.heap (locs ++ L') ls (by rw [e1]) (by rw [e1]; exact hwd') hva' hl hMA
    obtain ⟨t2, a1, b1⟩ := vx_catch (own := y.cls) (name := E) (E := E) (ce := ce) (q := q) (pc := pc) (rest := st) hown [x0] x suf (htab.trans hsplit) (fun z hz => by
      rw [List.mem_singleton.mp hz]
      exact Or.inr ⟨h00, nm, hE args _ hl0 rfl rfl, hn0 s hNC⟩) hx h0 (hE args _ hlink rfl rfl) (hE args _ hcast rfl rfl) (by rw [e1]; exact hce) hcv hcl (by rw [hpce]; exact hk2) T' rfl X'
    exact ⟨t2, stp.trans a1, b1⟩
/-- what the law knows as it calls -/
def ThL (X : Cx) : Prop := match X with
  | (_, _, _, _, s, _, _, _, _, _, _, A, _, _) => EW s ∧ XS s ∧ XZ A s s.heap ∧ NC s
set_option maxHeartbeats 4000000 in
/-- the law calls a helper -/
theorem g_callN {X : Cx} {y : MethodName} {cc : ByteArray} {nL fr lo mc ms : Nat} {M : AH} {sz a b pc : Nat} {L : List (Nat × Value)} {stk : List Value} (st : List Value) {y' : MethodName} {cc' : ByteArray} {nL' fr' lo' mc' ms' n idx : Nat} {ret' : Option FieldType} {as : List Value} {post' : Option Value → AH → Nat → Prop} {hh : List (Nat × Nat × Nat × Nat)}
    (hX : Ok X y cc nL fr lo mc ms) (hT : ThL X) (hc : CtN (cxl X) (cxT X) (cxD X) y' cc' nL' ret' hh fr' lo' mc' ms' as M sz post') (hw : Cond.codeWith y' cc' nL' ret' hh ∈ lw_tbl ∧ Cond.initialized y'.cls ∈ lw_tbl ∧ (y'.cls ≠ "java/lang/invoke/MethodHandle" ∧ y'.cls ≠ "java/lang/invoke/VarHandle") ∧ (parseMethodDescriptor y'.desc).map (fun d => d.parameters.length) = some n) (hs : Cond.static y' ∈ lw_tbl) (hlk : Cond.methodLink y.cls idx y' ∈ lw_tbl)
    (hroom : fr' + 1 ≤ fr ∧ 8 + (nL' + 11) + lo' ≤ lo) (hcs : a + mc' ≤ mc ∧ b + ms' ≤ ms) (hcat : (st.map fun v => v.category).sum ≤ 8) (hn : as.length = n) (hdg : decode cc pc = .ok (.invokestatic idx, 3)) (hstk : stk = as.reverse ++ st)
    (kk : ∀ v M' sz', post' v M' sz' → sz ≤ sz' → (∀ q, M' q ≠ none → dm M sz q) → G X nL M' sz' (a + mc') (b + ms') (pc + 3) L (v.toList ++ st)) : G X nL M sz a b pc L stk := by
  obtain ⟨p, l, e, R, s, m, args, below, meth, c, Q, A, D, T⟩ := X
  obtain ⟨hexec, hb, hml, hown, hlocks, hname, hK, hR, hA, hst⟩ := hX
  obtain ⟨hE, hS, ⟨hZ1, hZ2⟩, hNC⟩ := hT
  obtain ⟨w1, w2, w3, w4⟩ := hw
  intro H locs ls hsz hwd hva hl hMA
  subst hstk
  have hdA : ∀ q, dm M sz q → A q := by
    intro q hq
    rcases hq with h | h
    · exact hMA q h
    · exact hA q (by rw [← hsz] at h; exact Nat.le_trans hva.1 h)
  have hr := vx_runSX (p := p) (l := l) (e := e) (R := R) (s := s) (m := m) (args := args) (below := below) (meth := meth) (c := c) (H := H) (locs := locs) (cells := a) (slots := b) (g := F0 m pc ls (as.reverse ++ st)) (rest := st) (As := as) (Ts := []) (own := y.cls) (index := idx) (n := n) ⟨hexec, hb, hml, hown, fun w hw => by cases hw⟩ hc
    ⟨⟨rfl, rfl, by rw [hR]; exact hroom.1, by rw [hR]; exact hroom.2, fun w hw a' U hW => by
      rw [List.mem_singleton.mp hw]
      exact (hK.2.moved hW).use w1 rfl, List.mem_cons_self⟩, hK.2.use w1 rfl, hK.2.use w2 rfl, w3, fun sig h => by
      rw [h] at w4
      exact (Option.some.inj w4).symm, hK.2.use hlk rfl, hK.2.use hs rfl⟩
    ⟨blind_PXN, fun U hU hW => ⟨rfl, ⟨⟨by rw [hU]; exact hsz, by rw [hU]; exact hwd, hK.moved hW⟩, hE.moved hW, hS.moved hW, by rw [hU]; exact vx_Zq.moved hW.alike ((hZ1.kept hva.2.1).narrow hdA), by rw [hU]; exact vx_Zq.moved hW.alike ((hZ2.kept hva.2.1).narrow hdA)⟩, hNC.moved hW⟩⟩ rfl hn hl.1 rfl (lv_room hcat) hdg (by rw [hR]; exact hcs)
  intro T0 hT0 X0
  rcases hr T0 hT0 X0 with ⟨v, st₀, t, T', L', e0, X', hL, e1, e2, hq, stp⟩ | ⟨q, st₀, t, T', L', E, ce, e0, X', hL, e1, e2, hxg, hce, hcv, hcl, stp⟩
  · obtain ⟨⟨v', M', hv', hp, hwd', hdm⟩, hz, hk⟩ := hq
    cases hv'
    rw [e0] at hz hk
    have hz' : sz ≤ t.heap.size := by rw [← hsz]; exact hz
    have hva' : va_S A s.heap T'.heap (locs ++ L') := by
      refine ⟨Nat.le_trans hva.1 (by rw [e1]; exact hz), fun q h1 h2 => ?_, fun q hq => ?_⟩
      · rw [e1, hk q (Nat.lt_of_lt_of_le h1 hva.1) (fun z => h2 (hdA q z))]
        exact hva.2.1 q h1 h2
      · rcases List.mem_append.mp hq with h | h
        · exact hva.2.2 q h
        · exact hdA _ (hL q h)
    obtain ⟨t2, a1, b1⟩ := kk v M' _ hp hz' hdm T'.heap (locs ++ L') ls (by rw [e1]) (by rw [e1]; exact hwd') hva' hl (fun q hq => hdA q (hdm q hq)) T' rfl X'
    exact ⟨t2, stp t2 a1, b1⟩
  · exact hxg.elim
theorem ch_come : Cond.codeWith yL_come cL_come 7 (some .int) [(0, 14, 17, 13), (0, 14, 21, 15)] ∈ lw_tbl ∧ Cond.initialized yL_come.cls ∈ lw_tbl ∧ (yL_come.cls ≠ "java/lang/invoke/MethodHandle" ∧ yL_come.cls ≠ "java/lang/invoke/VarHandle") ∧ (parseMethodDescriptor yL_come.desc).map (fun d => d.parameters.length) = some 6 := ⟨List.mem_append_right _ (List.mem_of_getElem? (i := 158) (by decide +kernel)), List.mem_append_right _ (List.mem_of_getElem? (i := 0) (by decide +kernel)), by decide +kernel, by decide +kernel⟩
theorem ch_go : Cond.codeWith yL_go cL_go 4 (some .int) [(0, 9, 12, 21), (0, 9, 15, 15)] ∈ lw_tbl ∧ Cond.initialized yL_go.cls ∈ lw_tbl ∧ (yL_go.cls ≠ "java/lang/invoke/MethodHandle" ∧ yL_go.cls ≠ "java/lang/invoke/VarHandle") ∧ (parseMethodDescriptor yL_go.desc).map (fun d => d.parameters.length) = some 3 := ⟨List.mem_append_right _ (List.mem_of_getElem? (i := 332) (by decide +kernel)), List.mem_append_right _ (List.mem_of_getElem? (i := 0) (by decide +kernel)), by decide +kernel, by decide +kernel⟩
theorem ch_told : Cond.codeWith yL_told cL_told 5 (some .int) [(0, 10, 13, 21)] ∈ lw_tbl ∧ Cond.initialized yL_told.cls ∈ lw_tbl ∧ (yL_told.cls ≠ "java/lang/invoke/MethodHandle" ∧ yL_told.cls ≠ "java/lang/invoke/VarHandle") ∧ (parseMethodDescriptor yL_told.desc).map (fun d => d.parameters.length) = some 4 := ⟨List.mem_append_right _ (List.mem_of_getElem? (i := 364) (by decide +kernel)), List.mem_append_right _ (List.mem_of_getElem? (i := 0) (by decide +kernel)), by decide +kernel, by decide +kernel⟩
theorem ch_way : Cond.codeWith yL_way cL_way 5 (some .int) [(0, 10, 13, 21)] ∈ lw_tbl ∧ Cond.initialized yL_way.cls ∈ lw_tbl ∧ (yL_way.cls ≠ "java/lang/invoke/MethodHandle" ∧ yL_way.cls ≠ "java/lang/invoke/VarHandle") ∧ (parseMethodDescriptor yL_way.desc).map (fun d => d.parameters.length) = some 4 := ⟨List.mem_append_right _ (List.mem_of_getElem? (i := 375) (by decide +kernel)), List.mem_append_right _ (List.mem_of_getElem? (i := 0) (by decide +kernel)), by decide +kernel, by decide +kernel⟩
theorem ch_overlaps : Cond.codeWith yL_overlaps cL_overlaps 7 (some .int) [(0, 14, 17, 13)] ∈ lw_tbl ∧ Cond.initialized yL_overlaps.cls ∈ lw_tbl ∧ (yL_overlaps.cls ≠ "java/lang/invoke/MethodHandle" ∧ yL_overlaps.cls ≠ "java/lang/invoke/VarHandle") ∧ (parseMethodDescriptor yL_overlaps.desc).map (fun d => d.parameters.length) = some 6 := ⟨List.mem_append_right _ (List.mem_of_getElem? (i := 383) (by decide +kernel)), List.mem_append_right _ (List.mem_of_getElem? (i := 0) (by decide +kernel)), by decide +kernel, by decide +kernel⟩
theorem ch_looks : Cond.codeWith yL_looks cL_looks 7 (some .int) [(0, 14, 17, 13)] ∈ lw_tbl ∧ Cond.initialized yL_looks.cls ∈ lw_tbl ∧ (yL_looks.cls ≠ "java/lang/invoke/MethodHandle" ∧ yL_looks.cls ≠ "java/lang/invoke/VarHandle") ∧ (parseMethodDescriptor yL_looks.desc).map (fun d => d.parameters.length) = some 6 := ⟨List.mem_append_right _ (List.mem_of_getElem? (i := 390) (by decide +kernel)), List.mem_append_right _ (List.mem_of_getElem? (i := 0) (by decide +kernel)), by decide +kernel, by decide +kernel⟩
theorem ch_nearest : Cond.codeWith yL_nearest cL_nearest 5 (some .int) [(0, 10, 13, 13)] ∈ lw_tbl ∧ Cond.initialized yL_nearest.cls ∈ lw_tbl ∧ (yL_nearest.cls ≠ "java/lang/invoke/MethodHandle" ∧ yL_nearest.cls ≠ "java/lang/invoke/VarHandle") ∧ (parseMethodDescriptor yL_nearest.desc).map (fun d => d.parameters.length) = some 4 := ⟨List.mem_append_right _ (List.mem_of_getElem? (i := 400) (by decide +kernel)), List.mem_append_right _ (List.mem_of_getElem? (i := 0) (by decide +kernel)), by decide +kernel, by decide +kernel⟩
theorem ch_count : Cond.codeWith yL_count cL_count 4 (some .int) [(0, 9, 12, 21)] ∈ lw_tbl ∧ Cond.initialized yL_count.cls ∈ lw_tbl ∧ (yL_count.cls ≠ "java/lang/invoke/MethodHandle" ∧ yL_count.cls ≠ "java/lang/invoke/VarHandle") ∧ (parseMethodDescriptor yL_count.desc).map (fun d => d.parameters.length) = some 3 := ⟨List.mem_append_right _ (List.mem_of_getElem? (i := 412) (by decide +kernel)), List.mem_append_right _ (List.mem_of_getElem? (i := 0) (by decide +kernel)), by decide +kernel, by decide +kernel⟩
theorem ch_grows : Cond.codeWith yL_grows cL_grows 7 (some .int) [(0, 14, 17, 13)] ∈ lw_tbl ∧ Cond.initialized yL_grows.cls ∈ lw_tbl ∧ (yL_grows.cls ≠ "java/lang/invoke/MethodHandle" ∧ yL_grows.cls ≠ "java/lang/invoke/VarHandle") ∧ (parseMethodDescriptor yL_grows.desc).map (fun d => d.parameters.length) = some 6 := ⟨List.mem_append_right _ (List.mem_of_getElem? (i := 420) (by decide +kernel)), List.mem_append_right _ (List.mem_of_getElem? (i := 0) (by decide +kernel)), by decide +kernel, by decide +kernel⟩
theorem ch_splits : Cond.codeWith yL_splits cL_splits 7 (some .int) [(0, 14, 17, 13)] ∈ lw_tbl ∧ Cond.initialized yL_splits.cls ∈ lw_tbl ∧ (yL_splits.cls ≠ "java/lang/invoke/MethodHandle" ∧ yL_splits.cls ≠ "java/lang/invoke/VarHandle") ∧ (parseMethodDescriptor yL_splits.desc).map (fun d => d.parameters.length) = some 6 := ⟨List.mem_append_right _ (List.mem_of_getElem? (i := 427) (by decide +kernel)), List.mem_append_right _ (List.mem_of_getElem? (i := 0) (by decide +kernel)), by decide +kernel, by decide +kernel⟩
theorem nc_IAE (s : State) (h : NC s) : va_Nc "java/lang/IllegalStateException" "java/lang/IllegalArgumentException" s := h.1
theorem nc_IOB (s : State) (h : NC s) : va_Nc "java/lang/IllegalStateException" "java/lang/IndexOutOfBoundsException" s := h.2
set_option maxHeartbeats 1000000 in
set_option maxRecDepth 100000 in
theorem lh_come_no2 {l : Launch} (hl : l.stackTraces = false) {T : CT3} {D : va_G} {N : AH} {P : PS} {F : FS} (sz : Nat) (hwF : WfF P F) (x1 y1 x2 y2 : Int32) (hr : isR x1 y1 x2 y2 = true) (hc : fC F = 60) {qo : Nat} : CtN l T D yL_come cL_come 7 (some .int) [(0, 14, 17, 13), (0, 14, 21, 15)] 8 130 1 6 [.ref (fO F), .int x1, .int y1, .int x2, .int y2, .ref qo] (ov T (ovF T N F) P) sz (fun v M' z' => v = some (.int 2) ∧ M' = ov T (ovF T N F) P ∧ sz ≤ z') := by
  refine CtN.of hl (by decide) (Nat.le_of_ble_eq_true rfl) ?_
  intro X hl0 hT0 hD0 hlt hX hTh hF
  subst hl0; subst hT0; subst hD0
  show G X 7 (ov (cxT X) (ovF (cxT X) N F) P) sz 0 0 0 [(0, .ref (fO F)), (1, .int x1), (2, .int y1), (3, .int x2), (4, .int y2), (5, .ref qo)] []
  refine g_aload hX dL_come_0 5 rfl ?_
  refine g_iconst (v := 0) hX dL_come_2 (by decide) ?_
  refine g_aload_n hX dL_come_3 0 rfl ?_
  refine g_iload_n hX dL_come_4 1 rfl ?_
  refine g_iload_n hX dL_come_5 2 rfl ?_
  refine g_iload_n hX dL_come_6 3 rfl ?_
  refine g_iload hX dL_come_7 4 rfl ?_
  refine g_callX2 [.int 0, .ref qo] hX hTh (E0 := "java/lang/IllegalStateException") (as := [.int x1, .int y1, .int x2, .int y2]) (cx_come_no2 hX.st sz hwF x1 y1 x2 y2 hr hc) cw_X1_come cv_X1_come lk_L_7 (ci := 1) rfl rfl (ovF_o hwF) ⟨by omega, by omega⟩ ⟨by omega, by omega⟩ (Nat.le_of_ble_eq_true rfl) rfl dL_come_9 rfl rfl (by decide) cl_L_13 nc_IAE (by decide) (by decide) cl_L_15 cas_ISE (hpc := 21) rfl (fun z5 q5 hz5 => ?_)
  refine g_astore (L' := [(6, .ref q5), (0, .ref (fO F)), (1, .int x1), (2, .int y1), (3, .int x2), (4, .int y2), (5, .ref qo)]) hX dL_come_21 (by decide) rfl ?_
  refine g_iconst (v := 2) hX dL_come_23 (by decide) ?_
  exact hF (some (.int 2)) _ z5 _ _ _ _ .ireturn (⟨rfl, rfl, hz5⟩) (by omega) (by omega) ret_i dL_come_24
set_option maxHeartbeats 1000000 in
set_option maxRecDepth 100000 in
theorem lh_go_no2 {l : Launch} (hl : l.stackTraces = false) {T : CT3} {D : va_G} {N : AH} {P : PS} {F : FS} (sz : Nat) (hwF : WfF P F) (hal : Alok P F) (x : Int32) {g : Nat} (ha : alI F x = some g) (hg : pD P g = true) (hh : pH P g = none) {qo : Nat} : CtN l T D yL_go cL_go 4 (some .int) [(0, 9, 12, 21), (0, 9, 15, 15)] 8 130 1 6 [.ref (fO F), .int x, .ref qo] (ov T (ovF T N F) P) sz (fun v M' z' => v = some (.int 2) ∧ M' = ov T (ovF T N F) P ∧ sz ≤ z') := by
  refine CtN.of hl (by decide) (Nat.le_of_ble_eq_true rfl) ?_
  intro X hl0 hT0 hD0 hlt hX hTh hF
  subst hl0; subst hT0; subst hD0
  show G X 4 (ov (cxT X) (ovF (cxT X) N F) P) sz 0 0 0 [(0, .ref (fO F)), (1, .int x), (2, .ref qo)] []
  refine g_aload_n hX dL_go_0 2 rfl ?_
  refine g_iconst (v := 0) hX dL_go_1 (by decide) ?_
  refine g_aload_n hX dL_go_2 0 rfl ?_
  refine g_iload_n hX dL_go_3 1 rfl ?_
  refine g_callX2 [.int 0, .ref qo] hX hTh (E0 := "java/lang/IllegalStateException") (as := [.int x]) (cx_go_no2 hX.st sz hwF hal x ha hg hh) cw_X1_go cv_X1_go lk_L_17 (ci := 1) rfl rfl (ovF_o hwF) ⟨by omega, by omega⟩ ⟨by omega, by omega⟩ (Nat.le_of_ble_eq_true rfl) rfl dL_go_4 rfl rfl (by decide) cl_L_21 nc_IOB (by decide) (by decide) cl_L_15 cas_ISE (hpc := 15) rfl (fun z5 q5 hz5 => ?_)
  refine g_astore_n (L' := [(3, .ref q5), (0, .ref (fO F)), (1, .int x), (2, .ref qo)]) hX dL_go_15 (by decide) rfl ?_
  refine g_iconst (v := 2) hX dL_go_16 (by decide) ?_
  exact hF (some (.int 2)) _ z5 _ _ _ _ .ireturn (⟨rfl, rfl, hz5⟩) (by omega) (by omega) ret_i dL_go_17
