abbrev cxl (X : Cx) : Launch := X.2.1
abbrev cxD (X : Cx) : va_G := X.2.2.2.2.2.2.2.2.2.2.2.2.1
theorem Ok.st {X : Cx} {y : MethodName} {cc : ByteArray} {nL fr lo mc ms : Nat} (hX : Ok X y cc nL fr lo mc ms) : (cxl X).stackTraces = false := by
  obtain ⟨p, l, e, R, s, m, args, below, meth, c, Q, A, D, T⟩ := X
  exact hX.2.2.2.2.2.2.2.2.2
/-- the words of a callee -/
def CWd (y' : MethodName) (cc' : ByteArray) (nL' : Nat) (ret' : Option FieldType) (n : Nat) : Prop := Cond.code y' cc' nL' ret' ∈ lw_tbl ∧ Cond.initialized y'.cls ∈ lw_tbl ∧ (y'.cls ≠ "java/lang/invoke/MethodHandle" ∧ y'.cls ≠ "java/lang/invoke/VarHandle") ∧ (parseMethodDescriptor y'.desc).map (fun d => d.parameters.length) = some n
def CWv (y' : MethodName) : Prop := Cond.instanceMethod y' ∈ lw_tbl ∧ Cond.selects y'.cls y' y' ∈ lw_tbl
theorem blind_PG {T : CT3} {D : va_G} {M : AH} {sz : Nat} {as : List Value} : FrameBlind (va_Pc as (PG T D M sz)) := by
  intro a U g mk h
  obtain ⟨h1, h2, h3, h4⟩ := h
  exact ⟨h1, h2, h3, KN.vm (s := U) (U := U.calling g mk a) (by rfl) h4⟩
section CallRows
variable {p : Program} {l : Launch} {e : Env} {R : Room} {s : State} {m : MethodId} {args : Array Value} {below : List Frame} {meth : Method} {c : Code} {Q : State → Prop} {A : Nat → Prop} {D : va_G} {T : CT3}
variable {y : MethodName} {cc : ByteArray} {nL fr lo mc ms : Nat} {M : AH} {sz a b pc : Nat} {L : List (Nat × Value)} {st stk : List Value}
variable {y' : MethodName} {cc' : ByteArray} {nL' fr' lo' mc' ms' n idx : Nat} {ret' : Option FieldType} {as : List Value} {post' : Option Value → AH → Nat → Prop}
theorem g_run {H : Heap} {locs : List Loc} {ls : Array Slot} {as' : Array Value} (hsz : H.size = sz) (hwd : wd D M H) (hS : va_S A s.heap H locs) (hl : lv_has ls nL L) (hMA : ∀ q, M q ≠ none → A q) (hA : ∀ q, s.heap.size ≤ q → A q)
    (hr : va_Run p l e R s m args below meth c H locs a b mc' ms' (F0 m pc ls stk) st (QG D M sz post' as') (dm M sz))
    (kk : ∀ v M' sz', post' v M' sz' → sz ≤ sz' → (∀ q, M' q ≠ none → dm M sz q) → G (p, l, e, R, s, m, args, below, meth, c, Q, A, D, T) nL M' sz' (a + mc') (b + ms') (pc + 3) L (v.toList ++ st)) :
    W p l e R s m args below meth c H locs a b Q (F0 m pc ls stk) := by
  have hdA : ∀ q, dm M sz q → A q := by
    intro q hq
    rcases hq with h | h
    · exact hMA q h
    · exact hA q (by rw [← hsz] at h; exact Nat.le_trans hS.1 h)
  intro T0 hT X0
  obtain ⟨v, st₀, t, T', L', h0, X', hL, e1, e2, ⟨⟨v', M', hv, hp, hwd', hdm⟩, hz, hk⟩, stp⟩ := hr T0 hT X0
  cases hv
  rw [h0] at hz hk
  have hz' : sz ≤ t.heap.size := by rw [← hsz]; exact hz
  have hS' : va_S A s.heap T'.heap (locs ++ L') := by
    refine ⟨Nat.le_trans hS.1 (by rw [e1]; exact hz), fun q h1 h2 => ?_, fun q hq => ?_⟩
    · rw [e1, hk q (Nat.lt_of_lt_of_le h1 hS.1) (fun z => h2 (hdA q z))]
      exact hS.2.1 q h1 h2
    · rcases List.mem_append.mp hq with h | h
      · exact hS.2.2 q h
      · exact hdA _ (hL q h)
  obtain ⟨t2, a1, b1⟩ := kk v M' _ hp hz' hdm T'.heap (locs ++ L') ls (by rw [e1]) (by rw [e1]; exact hwd') hS' hl (fun q hq => hdA q (hdm q hq)) T' rfl X'
  exact ⟨t2, stp t2 a1, b1⟩
theorem cw_base (hK : KN T D s) (hR : R = { frames := fr, cells := mc, slots := ms, locals := lo }) (hw : CWd y' cc' nL' ret' n) {own : String} (hroom : fr' + 1 ≤ fr ∧ 8 + (nL' + 11) + lo' ≤ lo) (hl : (Cond.methodLink own idx y').before args s = true) :
    CallB R s args own idx y' cc' nL' ret' [.code y' cc' nL' ret'] { frames := fr', cells := mc', slots := ms', locals := lo' } mc' ms' n := by
  obtain ⟨w1, w2, w3, w4⟩ := hw
  refine ⟨rfl, rfl, by rw [hR]; exact hroom.1, by rw [hR]; exact hroom.2, ?_, List.mem_cons_self, hK.2.use w1 rfl, hK.2.use w2 rfl, w3, ?_, hl⟩
  · intro w hw a' U hW
    rw [List.mem_singleton.mp hw]
    exact (hK.2.moved hW).use w1 rfl
  · intro sig h
    rw [h] at w4
    exact (Option.some.inj w4).symm
theorem cw_baseN (hK : KN T D s) (hR : R = { frames := fr, cells := mc, slots := ms, locals := lo }) (hw : CWd y' cc' nL' ret' n) {own host : String} (hroom : fr' + 1 ≤ fr ∧ 8 + (nL' + 11) + lo' ≤ lo) (hl : (Cond.methodLinkNest own idx y' host).before args s = true) :
    va_CN R s args own idx y' host cc' nL' ret' [.code y' cc' nL' ret'] { frames := fr', cells := mc', slots := ms', locals := lo' } mc' ms' n := by
  obtain ⟨w1, w2, w3, w4⟩ := hw
  refine ⟨⟨rfl, rfl, by rw [hR]; exact hroom.1, by rw [hR]; exact hroom.2, ?_, List.mem_cons_self⟩, hK.2.use w1 rfl, hK.2.use w2 rfl, w3, ?_, hl⟩
  · intro w hw a' U hW
    rw [List.mem_singleton.mp hw]
    exact (hK.2.moved hW).use w1 rfl
  · intro sig h
    rw [h] at w4
    exact (Option.some.inj w4).symm
end CallRows
section CallRows2
variable {X : Cx} {y : MethodName} {cc : ByteArray} {nL fr lo mc ms : Nat} {M : AH} {sz a b pc : Nat} {L : List (Nat × Value)} {stk : List Value} (st : List Value)
variable {y' : MethodName} {cc' : ByteArray} {nL' fr' lo' mc' ms' n idx : Nat} {ret' : Option FieldType} {as : List Value} {post' : Option Value → AH → Nat → Prop}
set_option maxHeartbeats 1000000 in
theorem g_callV (hX : Ok X y cc nL fr lo mc ms) {b0 : Nat} (hc : Ct (cxl X) (cxT X) (cxD X) y' cc' nL' ret' fr' lo' mc' ms' (.ref b0 :: as) M sz post') (hw : CWd y' cc' nL' ret' n) (hv : CWv y') (hlk : Cond.methodLink y.cls idx y' ∈ lw_tbl) {ci : Nat} {fs : List Value} {q0 : vw_C} (hci : vwCl[ci]? = some q0) (hq0 : q0.1 = y'.cls) (hM : M b0 = some (.inr (ci, fs)))
    (hroom : fr' + 1 ≤ fr ∧ 8 + (nL' + 11) + lo' ≤ lo) (hcs : a + mc' ≤ mc ∧ b + ms' ≤ ms) (hcat : (st.map fun v => v.category).sum ≤ 8) (hn : as.length = n) (hdg : decode cc pc = .ok (.invokevirtual idx, 3)) (hstk : stk = as.reverse ++ .ref b0 :: st)
    (kk : ∀ v M' sz', post' v M' sz' → sz ≤ sz' → (∀ q, M' q ≠ none → dm M sz q) → G X nL M' sz' (a + mc') (b + ms') (pc + 3) L (v.toList ++ st)) : G X nL M sz a b pc L stk := by
  obtain ⟨p, l, e, R, s, m, args, below, meth, c, Q, A, D, T⟩ := X
  obtain ⟨hexec, hb, hml, hown, hlocks, hname, hK, hR, hA, hst⟩ := hX
  intro H locs ls hsz hwd hS hl hMA
  subst hstk
  refine g_run (T := T) (as' := (Value.ref b0 :: as).toArray) hsz hwd hS hl hMA hA ?_ kk
  refine va_runV (As := as) (Ts := []) (own := y.cls) (C := y'.cls) (b := b0) ⟨hexec, hb, hml, hown, fun w hw => by cases hw⟩ hc ⟨cw_base hK hR hw hroom (hK.2.use hlk rfl), hK.2.use hv.1 rfl, hK.2.use hv.2 rfl⟩ ⟨blind_PG, ?_, fun U hU hW => ⟨rfl, by rw [hU]; exact hsz, by rw [hU]; exact hwd, hK.moved hW⟩⟩ rfl hn hl.1 rfl (lv_room hcat) hdg (by rw [hR]; exact hcs)
  have h := va_recv hK.1 (va_P_one hwd hM) hci (q0 := 0) rfl
  rw [hq0] at h
  exact h
set_option maxHeartbeats 1000000 in
theorem g_callVN (hX : Ok X y cc nL fr lo mc ms) {b0 : Nat} (hc : Ct (cxl X) (cxT X) (cxD X) y' cc' nL' ret' fr' lo' mc' ms' (.ref b0 :: as) M sz post') (hw : CWd y' cc' nL' ret' n) (hv : CWv y') {host : String} (hlk : Cond.methodLinkNest y.cls idx y' host ∈ lw_tbl) {ci : Nat} {fs : List Value} {q0 : vw_C} (hci : vwCl[ci]? = some q0) (hq0 : q0.1 = y'.cls) (hM : M b0 = some (.inr (ci, fs)))
    (hroom : fr' + 1 ≤ fr ∧ 8 + (nL' + 11) + lo' ≤ lo) (hcs : a + mc' ≤ mc ∧ b + ms' ≤ ms) (hcat : (st.map fun v => v.category).sum ≤ 8) (hn : as.length = n) (hdg : decode cc pc = .ok (.invokevirtual idx, 3)) (hstk : stk = as.reverse ++ .ref b0 :: st)
    (kk : ∀ v M' sz', post' v M' sz' → sz ≤ sz' → (∀ q, M' q ≠ none → dm M sz q) → G X nL M' sz' (a + mc') (b + ms') (pc + 3) L (v.toList ++ st)) : G X nL M sz a b pc L stk := by
  obtain ⟨p, l, e, R, s, m, args, below, meth, c, Q, A, D, T⟩ := X
  obtain ⟨hexec, hb, hml, hown, hlocks, hname, hK, hR, hA, hst⟩ := hX
  intro H locs ls hsz hwd hS hl hMA
  subst hstk
  refine g_run (T := T) (as' := (Value.ref b0 :: as).toArray) hsz hwd hS hl hMA hA ?_ kk
  refine va_runVN (As := as) (Ts := []) (own := y.cls) (C := y'.cls) (b := b0) ⟨hexec, hb, hml, hown, fun w hw => by cases hw⟩ hc ⟨cw_baseN hK hR hw hroom (hK.2.use hlk rfl), hK.2.use hv.1 rfl, hK.2.use hv.2 rfl⟩ ⟨blind_PG, ?_, fun U hU hW => ⟨rfl, by rw [hU]; exact hsz, by rw [hU]; exact hwd, hK.moved hW⟩⟩ rfl hn hl.1 rfl (lv_room hcat) hdg (by rw [hR]; exact hcs)
  have h := va_recv hK.1 (va_P_one hwd hM) hci (q0 := 0) rfl
  rw [hq0] at h
  exact h
set_option maxHeartbeats 1000000 in
theorem g_callS (hX : Ok X y cc nL fr lo mc ms) (hc : Ct (cxl X) (cxT X) (cxD X) y' cc' nL' ret' fr' lo' mc' ms' as M sz post') (hw : CWd y' cc' nL' ret' n) (hs : Cond.static y' ∈ lw_tbl) (hlk : Cond.methodLink y.cls idx y' ∈ lw_tbl)
    (hroom : fr' + 1 ≤ fr ∧ 8 + (nL' + 11) + lo' ≤ lo) (hcs : a + mc' ≤ mc ∧ b + ms' ≤ ms) (hcat : (st.map fun v => v.category).sum ≤ 8) (hn : as.length = n) (hdg : decode cc pc = .ok (.invokestatic idx, 3)) (hstk : stk = as.reverse ++ st)
    (kk : ∀ v M' sz', post' v M' sz' → sz ≤ sz' → (∀ q, M' q ≠ none → dm M sz q) → G X nL M' sz' (a + mc') (b + ms') (pc + 3) L (v.toList ++ st)) : G X nL M sz a b pc L stk := by
  obtain ⟨p, l, e, R, s, m, args, below, meth, c, Q, A, D, T⟩ := X
  obtain ⟨hexec, hb, hml, hown, hlocks, hname, hK, hR, hA, hst⟩ := hX
  intro H locs ls hsz hwd hS hl hMA
  subst hstk
  refine g_run (T := T) (as' := as.toArray) hsz hwd hS hl hMA hA ?_ kk
  exact va_runS (As := as) (Ts := []) (own := y.cls) ⟨hexec, hb, hml, hown, fun w hw => by cases hw⟩ hc ⟨cw_base hK hR hw hroom (hK.2.use hlk rfl), hK.2.use hs rfl⟩ ⟨blind_PG, fun U hU hW => ⟨rfl, by rw [hU]; exact hsz, by rw [hU]; exact hwd, hK.moved hW⟩⟩ rfl hn hl.1 rfl (lv_room hcat) hdg (by rw [hR]; exact hcs)
set_option maxHeartbeats 1000000 in
theorem g_callI (hX : Ok X y cc nL fr lo mc ms) {b0 : Nat} (hc : Ct (cxl X) (cxT X) (cxD X) y' cc' nL' none fr' lo' mc' ms' (.ref b0 :: as) M sz post') (hw : CWd y' cc' nL' none n) (hyn : y'.name = "<init>") (hi : Cond.instanceMethod y' ∈ lw_tbl) (hlk : Cond.methodLink y.cls idx y' ∈ lw_tbl)
    (hroom : fr' + 1 ≤ fr ∧ 8 + (nL' + 11) + lo' ≤ lo) (hcs : a + mc' ≤ mc ∧ b + ms' ≤ ms) (hcat : (st.map fun v => v.category).sum ≤ 8) (hn : as.length = n) (hdg : decode cc pc = .ok (.invokespecial idx, 3)) (hstk : stk = as.reverse ++ .ref b0 :: st)
    (kk : ∀ v M' sz', post' v M' sz' → sz ≤ sz' → (∀ q, M' q ≠ none → dm M sz q) → G X nL M' sz' (a + mc') (b + ms') (pc + 3) L (v.toList ++ st)) : G X nL M sz a b pc L stk := by
  obtain ⟨p, l, e, R, s, m, args, below, meth, c, Q, A, D, T⟩ := X
  obtain ⟨hexec, hb, hml, hown, hlocks, hname, hK, hR, hA, hst⟩ := hX
  intro H locs ls hsz hwd hS hl hMA
  subst hstk
  refine g_run (T := T) (as' := (Value.ref b0 :: as).toArray) hsz hwd hS hl hMA hA ?_ kk
  exact va_runI (As := as) (Ts := []) (own := y.cls) (b := b0) ⟨hexec, hb, hml, hown, fun w hw => by cases hw⟩ hc ⟨cw_base hK hR hw hroom (hK.2.use hlk rfl), hyn, hK.2.use hi rfl⟩ ⟨blind_PG, fun U hU hW => ⟨rfl, by rw [hU]; exact hsz, by rw [hU]; exact hwd, hK.moved hW⟩⟩ rfl hn hl.1 rfl (lv_room hcat) hdg (by rw [hR]; exact hcs)
set_option maxHeartbeats 1000000 in
theorem g_callIN (hX : Ok X y cc nL fr lo mc ms) {b0 : Nat} (hc : Ct (cxl X) (cxT X) (cxD X) y' cc' nL' none fr' lo' mc' ms' (.ref b0 :: as) M sz post') (hw : CWd y' cc' nL' none n) (hyn : y'.name = "<init>") (hi : Cond.instanceMethod y' ∈ lw_tbl) {host : String} (hlk : Cond.methodLinkNest y.cls idx y' host ∈ lw_tbl)
    (hroom : fr' + 1 ≤ fr ∧ 8 + (nL' + 11) + lo' ≤ lo) (hcs : a + mc' ≤ mc ∧ b + ms' ≤ ms) (hcat : (st.map fun v => v.category).sum ≤ 8) (hn : as.length = n) (hdg : decode cc pc = .ok (.invokespecial idx, 3)) (hstk : stk = as.reverse ++ .ref b0 :: st)
    (kk : ∀ v M' sz', post' v M' sz' → sz ≤ sz' → (∀ q, M' q ≠ none → dm M sz q) → G X nL M' sz' (a + mc') (b + ms') (pc + 3) L (v.toList ++ st)) : G X nL M sz a b pc L stk := by
  obtain ⟨p, l, e, R, s, m, args, below, meth, c, Q, A, D, T⟩ := X
  obtain ⟨hexec, hb, hml, hown, hlocks, hname, hK, hR, hA, hst⟩ := hX
  intro H locs ls hsz hwd hS hl hMA
  subst hstk
  refine g_run (T := T) (as' := (Value.ref b0 :: as).toArray) hsz hwd hS hl hMA hA ?_ kk
  exact va_runIN (As := as) (Ts := []) (own := y.cls) (b := b0) ⟨hexec, hb, hml, hown, fun w hw => by cases hw⟩ hc ⟨cw_baseN hK hR hw hroom (hK.2.use hlk rfl), hyn, hK.2.use hi rfl⟩ ⟨blind_PG, fun U hU hW => ⟨rfl, by rw [hU]; exact hsz, by rw [hU]; exact hwd, hK.moved hW⟩⟩ rfl hn hl.1 rfl (lv_room hcat) hdg (by rw [hR]; exact hcs)
set_option maxHeartbeats 1000000 in
theorem g_objInit (hX : Ok X y cc nL fr lo mc ms) {b0 : Nat} (hlk : Cond.methodLink y.cls idx Lib.objectInit ∈ lw_tbl) (hi : Cond.instanceMethod Lib.objectInit ∈ lw_tbl) (hcd : Cond.code Lib.objectInit ⟨#[0xb1]⟩ 1 none ∈ lw_tbl) (hfr : 1 ≤ fr) (hlo : 20 ≤ lo) (hcat : (st.map fun v => v.category).sum ≤ 8) (hdg : decode cc pc = .ok (.invokespecial idx, 3))
    (kk : G X nL M sz a b (pc + 3) L st) : G X nL M sz a b pc L (.ref b0 :: st) := by
  obtain ⟨p, l, e, R, s, m, args, below, meth, c, Q, A, D, T⟩ := X
  obtain ⟨hexec, hb, hml, hown, hlocks, hname, hK, hR, hA, hst⟩ := hX
  intro H locs ls hsz hwd hS hl hMA
  refine W.objInit hexec hb hown (hK.2.use hlk rfl) (hK.2.use hi rfl) (hK.2.use hcd rfl) rfl (by rw [hml]; exact hl.1) rfl hdg (by rw [hR]; exact hfr) ?_ (kk H locs ls hsz hwd hS hl hMA)
  rw [hR]
  have := lv_room (m := m) (pc := pc) (ls := ls) (rest := .ref b0 :: st) hcat
  show _ + 12 ≤ lo
  omega
set_option maxHeartbeats 1000000 in
theorem g_max (hX : Ok X y cc nL fr lo mc ms) (hlk : Cond.methodLink y.cls idx Lib.Math.max.name ∈ lw_tbl) (h2 : Cond.static Lib.Math.max.name ∈ lw_tbl) (h3 : Cond.initialized "java/lang/Math" ∈ lw_tbl) (h4 : Cond.code Lib.Math.max.name Lib.Math.max.code 2 (some .int) ∈ lw_tbl) (hfr : 1 ≤ fr) (hlo : 21 ≤ lo) (hcat : (st.map fun v => v.category).sum ≤ 8) (hab : a ≤ mc ∧ b ≤ ms) {x z : Int32} (hdg : decode cc pc = .ok (.invokestatic idx, 3))
    (kk : G X nL M sz a b (pc + 3) L (.int (if x < z then z else x) :: st)) : G X nL M sz a b pc L (.int z :: .int x :: st) := by
  obtain ⟨p, l, e, R, s, m, args, below, meth, c, Q, A, D, T⟩ := X
  obtain ⟨hexec, hb, hml, hown, hlocks, hname, hK, hR, hA, hst⟩ := hX
  intro H locs ls hsz hwd hS hl hMA
  exact va_mmax hexec hb (by rw [hml]; exact hl.1.symm) hown (hK.2.use hlk rfl) (hK.2.use h2 rfl) (hK.2.use h3 rfl) (hK.2.use h4 rfl) (by rw [hR]; exact hfr) (by rw [hR]; show _ ≤ lo; omega) (by rw [hR]; exact hab.1) (by rw [hR]; exact hab.2) hdg (kk H locs ls hsz hwd hS hl hMA)
set_option maxHeartbeats 1000000 in
theorem g_min (hX : Ok X y cc nL fr lo mc ms) (hlk : Cond.methodLink y.cls idx Lib.Math.min.name ∈ lw_tbl) (h2 : Cond.static Lib.Math.min.name ∈ lw_tbl) (h3 : Cond.initialized "java/lang/Math" ∈ lw_tbl) (h4 : Cond.code Lib.Math.min.name Lib.Math.min.code 2 (some .int) ∈ lw_tbl) (hfr : 1 ≤ fr) (hlo : 21 ≤ lo) (hcat : (st.map fun v => v.category).sum ≤ 8) (hab : a ≤ mc ∧ b ≤ ms) {x z : Int32} (hdg : decode cc pc = .ok (.invokestatic idx, 3))
    (kk : G X nL M sz a b (pc + 3) L (.int (if z < x then z else x) :: st)) : G X nL M sz a b pc L (.int z :: .int x :: st) := by
  obtain ⟨p, l, e, R, s, m, args, below, meth, c, Q, A, D, T⟩ := X
  obtain ⟨hexec, hb, hml, hown, hlocks, hname, hK, hR, hA, hst⟩ := hX
  intro H locs ls hsz hwd hS hl hMA
  exact va_mmin hexec hb (by rw [hml]; exact hl.1.symm) hown (hK.2.use hlk rfl) (hK.2.use h2 rfl) (hK.2.use h3 rfl) (hK.2.use h4 rfl) (by rw [hR]; exact hfr) (by rw [hR]; show _ ≤ lo; omega) (by rw [hR]; exact hab.1) (by rw [hR]; exact hab.2) hdg (kk H locs ls hsz hwd hS hl hMA)
end CallRows2
