/-! methods that throw: what they need of the state (words EW, texts XS, two statics XZ), their contract CtX, and the rule g_throwS -/
abbrev exN : List String := ["java/lang/RuntimeException", "java/lang/Exception"]
def exok (w : Cond) : Bool := w.onTables && w.keepsFace && vx_ot w && decide (w ∈ lw_tbl)
set_option maxRecDepth 100000 in
theorem at_IAE : (vx_atS RX1 30 "java/lang/IllegalArgumentException" exN).all exok = true := by decide +kernel
set_option maxRecDepth 100000 in
theorem at_ISE : (vx_atS RX1 41 "java/lang/IllegalStateException" exN).all exok = true := by decide +kernel
set_option maxRecDepth 100000 in
theorem at_IOB : (vx_atS RX1 67 "java/lang/IndexOutOfBoundsException" exN).all exok = true := by decide +kernel
def EW (s : State) : Prop := ∀ (args : Array Value) (w : Cond), w ∈ lw_tbl → w.onTables = true → w.keepsFace = true → w.before args s = true
theorem EW.moved {s U : State} (hW : s.WarmedH U.vm) (h : EW s) : EW U := by
  intro args w hw h1 h2
  have h3 := Cond.before_shiftedFace (State.Shifted.of_warmed hW) w h2 (h args w hw h1 h2)
  rw [Cond.onTables_vm (A' := args) (U' := U) U.vm w h1] at h3
  exact h3
def XS (s : State) : Prop := ∀ (k : Nat) (t : String), Cond.stringRef RX1 k t ∈ lw_tbl → ∃ sa, vk_R RX1 k t sa s
theorem XS.moved {s U : State} (hW : s.WarmedH U.vm) (h : XS s) : XS U := fun k t hm => by
  obtain ⟨sa, h1⟩ := h k t hm
  exact ⟨sa, vk_R.warm hW h1⟩
def XZ (A : Nat → Prop) (U : State) (H : Heap) : Prop := vx_Zq Bundle.tN "UNASSIGNED_STACK" Bundle.steD A U H ∧ vx_Zq Bundle.tN "SUPPRESSED_SENTINEL" Bundle.listD A U H
def PX (T : CT3) (D : va_G) (M : AH) (sz : Nat) : State → Prop := fun U => PG T D M sz U ∧ EW U ∧ XS U ∧ XZ (dm M sz) U U.heap
def XG (D : va_G) (M0 : AH) (sz0 : Nat) (xp : String → Prop) : String → State → State → Prop := fun E st t => xp E ∧ wd D M0 t.heap ∧ va_F (dm M0 sz0) st t
def CtX (l : Launch) (T : CT3) (D : va_G) (y : MethodName) (cc : ByteArray) (nL : Nat) (ret : Option FieldType) (fr lo mc ms : Nat) (as : List Value) (M : AH) (sz : Nat) (post : Option Value → AH → Nat → Prop) (xp : String → Prop) : Prop :=
  vx_Met l y [.code y cc nL ret] { frames := fr, cells := mc, slots := ms, locals := lo } (va_Pc as (PX T D M sz)) (QG D M sz post) (XG D M sz xp) mc ms (dm M sz)
def ThX (X : Cx) (M0 : AH) (sz0 mc ms : Nat) (xp : String → Prop) : Prop := match X with
  | (_, _, _, _, s, _, args, below, _, c, Q, A, D, _) => EW s ∧ XS s ∧ XZ (dm M0 sz0) s s.heap ∧ A = dm M0 sz0 ∧ (∀ x ∈ c.exceptionTable.toList, False) ∧ ∃ Qc, Q = vx_MQ below Qc (XG D M0 sz0 xp) args s mc ms (dm M0 sz0)
set_option maxHeartbeats 4000000 in
theorem CtX.of {l : Launch} (hl : l.stackTraces = false) {T : CT3} {D : va_G} {y : MethodName} {cc : ByteArray} {nL : Nat} {ret : Option FieldType} {fr lo mc ms : Nat} {as : List Value} {M : AH} {sz : Nat} {post : Option Value → AH → Nat → Prop} {xp : String → Prop}
    (hy : plainName y.cls = true) (hn : (lg_sl as).length ≤ nL)
    (body : ∀ X : Cx, cxl X = l → cxT X = T → cxD X = D → (∀ q e, M q = some e → q < sz) → Ok X y cc nL fr lo mc ms → ThX X M sz mc ms xp → Fnl X cc nL ret mc ms post → G X nL M sz 0 0 0 (lv_args 0 as) []) : CtX l T D y cc nL ret fr lo mc ms as M sz post xp := by
  refine vx_ofW (cc := cc) (maxL := nL) (ret := ret) hy rfl ?_
  intro p e s m args below meth c s₁ B hml hxt hv
  obtain ⟨rfl, ⟨hsz, hwd, hK⟩, hE, hS, hZ⟩ := hv
  have hown : s.vm.findClass y.cls = some m.cls := findClass_of_methodNamed B.named
  have hM1 : ∀ q e, M q = some e → q < sz := fun q e hm => by rw [← hsz]; exact hwd.lt hm
  have hM0 : ∀ q, M q ≠ none → q < sz := by
    intro q hq
    cases hm : M q with
    | none => exact absurd hm hq
    | some e => exact hM1 q e hm
  have hlen := lv_entry as (n := nL) hn
  rw [lg_entry_eq]
  exact body (p, l, e, (headSpec [.code y cc nL ret] { frames := fr, cells := mc, slots := ms, locals := lo }).room, s, m, as.toArray, below, meth, c, vx_MQ below (QG D M sz post) (XG D M sz xp) as.toArray s mc ms (dm M sz), dm M sz, D, T) rfl rfl rfl hM1
    ⟨B.exec, B.bytes, hml, hown, B.notSynchronized, (name_of_methodNamed B.named B.method).1, hK, rfl, fun q hq => Or.inr (by rw [← hsz]; exact hq), hl⟩
    ⟨hE, hS, hZ, rfl, hxt, _, rfl⟩
    (fun v M' sz' a b pc L w h1 h2 h3 h4 h5 H locs ls g1 g2 g3 g4 g5 => vx_ret (fin_of (e := e) (R := (headSpec [.code y cc nL ret] { frames := fr, cells := mc, slots := ms, locals := lo }).room) (T := T) B.exec B.bytes B.returns B.notSynchronized hsz hM0 v M' sz' a b pc L w h1 h2 h3 h4 h5 H locs ls g1 g2 g3 g4 g5)) s.heap [] _ hsz hwd va_S.rf hlen (fun q hq => Or.inl hq)
set_option maxHeartbeats 4000000 in
theorem g_throwS {X : Cx} {y : MethodName} {cc : ByteArray} {nL fr lo mc ms : Nat} (hX : Ok X y cc nL fr lo mc ms) {M0 : AH} {sz0 : Nat} {xp : String → Prop} (hT : ThX X M0 sz0 mc ms xp) {cls text : String} {ik is ic : Nat} (hy : y.cls = RX1) (hxp : xp cls) (hfit : Bundle.fit cls = true) (hk : Cond.classLink RX1 ik cls ∈ lw_tbl) (hini : Cond.initialized cls ∈ lw_tbl) (hstr : Cond.stringRef RX1 is text ∈ lw_tbl) (hat : (vx_atS RX1 ic cls exN).all exok = true)
    {a b pc sz : Nat} {L : List (Nat × Value)} (d0 : decode cc pc = .ok (.new ik, 3)) (d3 : decode cc (pc + 3) = .ok (.dup, 1)) (d4 : decode cc (pc + 4) = .ok (.ldc is, 2)) (d6 : decode cc (pc + 6) = .ok (.invokespecial ic, 3)) (d9 : decode cc (pc + 9) = .ok (.athrow, 1))
    (hfr : 5 < fr) (hlo : 82 ≤ lo) (hc : a + 1 ≤ mc) (hs : b + 6 ≤ ms) : G X nL M0 sz a b pc L [] := by
  obtain ⟨p, l, e, R, s, m, args, below, meth, c, Q, A, D, T⟩ := X
  obtain ⟨hexec, hb, hml, hown, hlocks, hname, hK, hR, hA, hst⟩ := hX
  obtain ⟨hE, hS, hZ, hAe, hxt, Qc, hQ⟩ := hT
  subst hAe
  subst hQ
  intro H locs ls hsz hwd hva hlv hMA
  obtain ⟨sa, hsa⟩ := hS is text hstr
  rw [hy] at hown
  have hall : ∀ w ∈ vx_atS RX1 ic cls exN, w.onTables = true ∧ w.keepsFace = true ∧ vx_ot w = true ∧ w ∈ lw_tbl := by
    intro w hw
    have h1 := List.all_eq_true.mp hat w hw
    simp only [exok, Bool.and_eq_true, decide_eq_true_eq] at h1
    exact ⟨h1.1.1.1, h1.1.1.2, h1.1.2, h1.2⟩
  refine vx_throwS (A := dm M0 sz0) (names := exN) (cls := cls) (text := text) (own := RX1) (ik := ik) (is := is) (ic := ic) (sa := sa) hexec hb hst hown hfit (by decide +kernel) (hE args _ hk rfl rfl) (hE args _ hini rfl rfl) hsa (fun w hw => hE args w (hall w hw).2.2.2 (hall w hw).1 (hall w hw).2.1) ?_ hZ.1 hZ.2 hva (by rw [hml]; exact hlv.1) d0 d3 d4 d6 d9 (fun x hx => (hxt x hx).elim) (by rw [hR]; exact hfr) (by rw [hR]; show 0 + _ ≤ lo; exact Nat.le_trans (by decide) hlo) (by rw [hR]; exact hc) (by rw [hR]; exact hs) hlocks ?_ hva.2.2 hc hs
  · intro w hw
    rcases List.mem_cons.mp hw with rfl | hw
    · rfl
    rcases List.mem_cons.mp hw with rfl | hw
    · rfl
    exact (hall w hw).2.2.1
  · intro t hal hsz2 hsame
    refine ⟨hxp, fun q f hq => (hwd q f hq).kept (hsame q (hwd.lt hq)), Nat.le_trans hva.1 hsz2, fun q h1 h2 => ?_⟩
    rw [hsame q (Nat.lt_of_lt_of_le h1 hva.1)]
    exact hva.2.1 q h1 h2
