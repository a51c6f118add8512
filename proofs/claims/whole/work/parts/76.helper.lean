/-! the law's helpers: methods with an exception table, that return -/
def CtH (l : Launch) (T : CT3) (D : va_G) (y : MethodName) (cc : ByteArray) (nL : Nat) (ret : Option FieldType) (hh : List (Nat × Nat × Nat × Nat)) (fr lo mc ms : Nat) (as : List Value) (M : AH) (sz : Nat) (post : Option Value → AH → Nat → Prop) : Prop :=
  vx_Met l y [.codeWith y cc nL ret hh] { frames := fr, cells := mc, slots := ms, locals := lo } (va_Pc as (PX T D M sz)) (QG D M sz post) (fun _ _ _ => False) mc ms (dm M sz)
def ThH (X : Cx) (M0 : AH) (sz0 : Nat) (hh : List (Nat × Nat × Nat × Nat)) : Prop := match X with
  | (_, _, _, _, s, _, _, _, _, c, _, A, _, _) => EW s ∧ XS s ∧ XZ (dm M0 sz0) s s.heap ∧ A = dm M0 sz0 ∧ c.exceptionTable.toList = tableOf hh
set_option maxHeartbeats 4000000 in
theorem CtH.of {l : Launch} (hl : l.stackTraces = false) {T : CT3} {D : va_G} {y : MethodName} {cc : ByteArray} {nL : Nat} {ret : Option FieldType} {hh : List (Nat × Nat × Nat × Nat)} {fr lo mc ms : Nat} {as : List Value} {M : AH} {sz : Nat} {post : Option Value → AH → Nat → Prop}
    (hy : plainName y.cls = true) (hn : (lg_sl as).length ≤ nL)
    (body : ∀ X : Cx, cxl X = l → cxT X = T → cxD X = D → (∀ q e, M q = some e → q < sz) → Ok X y cc nL fr lo mc ms → ThH X M sz hh → Fnl X cc nL ret mc ms post → G X nL M sz 0 0 0 (lv_args 0 as) []) : CtH l T D y cc nL ret hh fr lo mc ms as M sz post := by
  refine vx_ofWH (cc := cc) (maxL := nL) (ret := ret) (hh := hh) hy rfl ?_
  intro p e s m args below meth c s₁ B hml hv
  have hword := atoms_spec (ws := [.codeWith y cc nL ret hh]) B.pre _ List.mem_cons_self
  obtain ⟨rfl, ⟨hsz, hwd, hK⟩, hE, hS, hZ⟩ := hv
  have hown : s.vm.findClass y.cls = some m.cls := findClass_of_methodNamed B.named
  have hM1 : ∀ q e, M q = some e → q < sz := fun q e hm => by rw [← hsz]; exact hwd.lt hm
  have hM0 : ∀ q, M q ≠ none → q < sz := by
    intro q hq
    cases hm : M q with
    | none => exact absurd hm hq
    | some e => exact hM1 q e hm
  have hlen := lv_entry as (n := nL) hn
  rw [lg_entry_eq]
  exact body (p, l, e, (headSpec [.codeWith y cc nL ret hh] { frames := fr, cells := mc, slots := ms, locals := lo }).room, s, m, as.toArray, below, meth, c, vx_MQ below (QG D M sz post) (fun _ _ _ => False) as.toArray s mc ms (dm M sz), dm M sz, D, T) rfl rfl rfl hM1
    ⟨B.exec, B.bytes, hml, hown, B.notSynchronized, (name_of_methodNamed B.named B.method).1, hK, rfl, fun q hq => Or.inr (by rw [← hsz]; exact hq), hl⟩
    ⟨hE, hS, hZ, rfl, vx_table (x := y) B hword⟩
    (fun v M' sz' a b pc L w h1 h2 h3 h4 h5 H locs ls g1 g2 g3 g4 g5 => vx_ret (fin_of (e := e) (R := (headSpec [.codeWith y cc nL ret hh] { frames := fr, cells := mc, slots := ms, locals := lo }).room) (T := T) B.exec B.bytes B.returns B.notSynchronized hsz hM0 v M' sz' a b pc L w h1 h2 h3 h4 h5 H locs ls g1 g2 g3 g4 g5)) s.heap [] _ hsz hwd va_S.rf hlen (fun q hq => Or.inl hq)
theorem blind_PX {T : CT3} {D : va_G} {M : AH} {sz : Nat} {as : List Value} : FrameBlind (va_Pc as (PX T D M sz)) := by
  intro a U g mk h
  obtain ⟨h1, ⟨h2, h3, h4⟩, h5, h6, h7, h8⟩ := h
  have hW : U.WarmedH (U.calling g mk a).vm := State.WarmedH.refl U
  exact ⟨h1, ⟨h2, h3, KN.vm (s := U) (U := U.calling g mk a) (by rfl) h4⟩, h5.moved hW, h6.moved hW, vx_Zq.moved (u := U) (U := U.calling g mk a) hW.alike h7, vx_Zq.moved (u := U) (U := U.calling g mk a) hW.alike h8⟩
set_option maxHeartbeats 4000000 in
/-- a call that throws, caught by the first row of the table -/
theorem g_callX {X : Cx} {y : MethodName} {cc : ByteArray} {nL fr lo mc ms : Nat} {M : AH} {sz a b pc : Nat} {L : List (Nat × Value)} {stk : List Value} (st : List Value) {y' : MethodName} {cc' : ByteArray} {nL' fr' lo' mc' ms' n idx : Nat} {ret' : Option FieldType} {as : List Value}
    (hX : Ok X y cc nL fr lo mc ms) {M0 : AH} {sz0 : Nat} {hh : List (Nat × Nat × Nat × Nat)} (hT : ThH X M0 sz0 hh) {E0 : String} {b0 : Nat} (hc : CtX (cxl X) (cxT X) (cxD X) y' cc' nL' ret' fr' lo' mc' ms' (.ref b0 :: as) M sz (fun _ _ _ => False) (fun E => E = E0)) (hw : CWd y' cc' nL' ret' n) (hv : CWv y') (hlk : Cond.methodLink y.cls idx y' ∈ lw_tbl) {ci : Nat} {fs : List Value} {q0 : vw_C} (hci : vwCl[ci]? = some q0) (hq0 : q0.1 = y'.cls) (hM : M b0 = some (.inr (ci, fs)))
    (hroom : fr' + 1 ≤ fr ∧ 8 + (nL' + 11) + lo' ≤ lo) (hcs : a + mc' ≤ mc ∧ b + ms' ≤ ms) (hcat : (st.map fun v => v.category).sum ≤ 8) (hn : as.length = n) (hdg : decode cc pc = .ok (.invokevirtual idx, 3)) (hstk : stk = as.reverse ++ .ref b0 :: st)
    {x : ExceptionTableEntry} {suf : List ExceptionTableEntry} (hsplit : tableOf hh = x :: suf) (hx : covers x pc = true) (h0 : x.catchType ≠ 0) (hlink : Cond.classLink y.cls x.catchType E0 ∈ lw_tbl) (hcast : Cond.castable E0 E0 ∈ lw_tbl) {hpc : Nat} (hpce : x.handlerPc = hpc)
    (kk : ∀ sz' q, sz ≤ sz' → G X nL M sz' (a + mc') (b + ms') hpc L [.ref q]) : G X nL M sz a b pc L stk := by
  obtain ⟨p, l, e, R, s, m, args, below, meth, c, Q, A, D, T⟩ := X
  obtain ⟨hexec, hb, hml, hown, hlocks, hname, hK, hR, hA, hst⟩ := hX
  obtain ⟨hE, hS, ⟨hZ1, hZ2⟩, hAe, htab⟩ := hT
  intro H locs ls hsz hwd hva hl hMA
  subst hstk
  have hdA : ∀ q, dm M sz q → A q := by
    intro q hq
    rcases hq with h | h
    · exact hMA q h
    · exact hA q (by rw [← hsz] at h; exact Nat.le_trans hva.1 h)
  have hrc := va_recv hK.1 (va_P_one hwd hM) hci (q0 := 0) rfl
  rw [hq0] at hrc
  have hdA0 : ∀ q, dm M sz q → dm M0 sz0 q := by rw [← hAe]; exact hdA
  have hva0 := hva
  rw [hAe] at hva0
  have hr := vx_runV (p := p) (l := l) (e := e) (R := R) (s := s) (m := m) (args := args) (below := below) (meth := meth) (c := c) (H := H) (locs := locs) (cells := a) (slots := b) (g := F0 m pc ls (as.reverse ++ .ref b0 :: st)) (rest := st) (As := as) (Ts := []) (own := y.cls) (C := y'.cls) (b := b0) ⟨hexec, hb, hml, hown, fun w hw => by cases hw⟩ hc ⟨cw_base hK hR hw hroom (hK.2.use hlk rfl), hK.2.use hv.1 rfl, hK.2.use hv.2 rfl⟩
    ⟨blind_PX, hrc, fun U hU hW => ⟨rfl, ⟨by rw [hU]; exact hsz, by rw [hU]; exact hwd, hK.moved hW⟩, hE.moved hW, hS.moved hW, by rw [hU]; exact vx_Zq.moved hW.alike ((hZ1.kept hva0.2.1).narrow hdA0), by rw [hU]; exact vx_Zq.moved hW.alike ((hZ2.kept hva0.2.1).narrow hdA0)⟩⟩ rfl hn hl.1 rfl (lv_room hcat) hdg (by rw [hR]; exact hcs)
  intro T0 hT0 X0
  rcases hr T0 hT0 X0 with ⟨v, st₀, t, T', L', e0, X', hL, e1, e2, hq, stp⟩ | ⟨q, st₀, t, T', L', E, ce, e0, X', hL, e1, e2, hxg, hce, hcv, hcl, stp⟩
  · obtain ⟨⟨v', M', hv', hp, -⟩, -⟩ := hq
    exact hp.elim
  · obtain ⟨hE0, hwd', hz, hk⟩ := hxg
    subst hE0
    rw [e0] at hz hk
    have hz' : sz ≤ t.heap.size := by rw [← hsz]; exact hz
    have hva' : va_S A s.heap T'.heap (locs ++ L') := by
      refine ⟨Nat.le_trans hva.1 (by rw [e1]; exact hz), fun q h1 h2 => ?_, fun q hq => ?_⟩
      · rw [e1, hk q (Nat.lt_of_lt_of_le h1 hva.1) (fun z => h2 (hdA q z))]
        exact hva.2.1 q h1 h2
      · rcases List.mem_append.mp hq with h | h
        · exact hva.2.2 q h
        · exact hdA _ (hL q h)
    have hk2 := kk t.heap.size q hz' T'.heap (locs ++ L') ls (by rw [e1]) (by rw [e1]; exact hwd') hva' hl hMA
    obtain ⟨t2, a1, b1⟩ := vx_catch (own := y.cls) (name := E) (E := E) (ce := ce) (q := q) (pc := pc) (rest := st) hown [] x suf (htab.trans hsplit) (fun z hz => by cases hz) hx h0 (hE args _ hlink rfl rfl) (hE args _ hcast rfl rfl) (by rw [e1]; exact hce) hcv hcl (by rw [hpce]; exact hk2) T' rfl X'
    exact ⟨t2, stp.trans a1, b1⟩
