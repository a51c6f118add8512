set_option maxHeartbeats 4000000 in
/-- a method's contract out of a walk of its body; the launch and the tables are the walk's own -/
theorem Ct.ofX {l : Launch} (hl : l.stackTraces = false) {T : CT3} {D : va_G} {y : MethodName} {cc : ByteArray} {nL : Nat} {ret : Option FieldType} {fr lo mc ms : Nat} {as : List Value} {M : AH} {sz : Nat} {post : Option Value → AH → Nat → Prop}
    (hy : plainName y.cls = true) (hn : (lg_sl as).length ≤ nL)
    (body : ∀ X : Cx, cxl X = l → cxT X = T → cxD X = D → (∀ q e, M q = some e → q < sz) → Ok X y cc nL fr lo mc ms → Fnl X cc nL ret mc ms post → G X nL M sz 0 0 0 (lv_args 0 as) []) : Ct l T D y cc nL ret fr lo mc ms as M sz post := by
  refine Met.ofW (cc := cc) (maxL := nL) (ret := ret) hy rfl ?_
  intro p e s m args below meth c s₁ B hml hv
  obtain ⟨rfl, hsz, hwd, hK⟩ := hv
  have hown : s.vm.findClass y.cls = some m.cls := findClass_of_methodNamed B.named
  have hM1 : ∀ q e, M q = some e → q < sz := fun q e hm => by rw [← hsz]; exact hwd.lt hm
  have hM0 : ∀ q, M q ≠ none → q < sz := by
    intro q hq
    cases hm : M q with
    | none => exact absurd hm hq
    | some e => exact hM1 q e hm
  have hlen := lv_entry as (n := nL) hn
  rw [lg_entry_eq]
  exact body (p, l, e, (headSpec [.code y cc nL ret] { frames := fr, cells := mc, slots := ms, locals := lo }).room, s, m, as.toArray, below, meth, c, MQ below (QG D M sz post) as.toArray s mc ms (dm M sz), dm M sz, D, T) rfl rfl rfl hM1
    ⟨B.exec, B.bytes, hml, hown, B.notSynchronized, (name_of_methodNamed B.named B.method).1, hK, rfl, fun q hq => Or.inr (by rw [← hsz]; exact hq), hl⟩
    (fin_of B.exec B.bytes B.returns B.notSynchronized hsz hM0) s.heap [] _ hsz hwd va_S.rf hlen (fun q hq => Or.inl hq)
theorem ret_v : retI none none .return_ := Or.inl ⟨rfl, rfl, rfl⟩
theorem ret_i {x : Int32} : retI (some .int) (some (.int x)) .ireturn := Or.inr (Or.inl ⟨x, rfl, rfl, rfl⟩)
theorem ret_b {x : Int32} (h : x = 0 ∨ x = 1) : retI (some .boolean) (some (.int x)) .ireturn := Or.inr (Or.inr (Or.inl ⟨x, rfl, rfl, h, rfl⟩))
theorem ret_l {x : Int64} : retI (some .long) (some (.long x)) .lreturn := Or.inr (Or.inr (Or.inr (Or.inl ⟨x, rfl, rfl, rfl⟩)))
theorem ret_d {x : UInt64} : retI (some .double) (some (.double x)) .dreturn := Or.inr (Or.inr (Or.inr (Or.inr (Or.inl ⟨x, rfl, rfl, rfl⟩))))
theorem ret_a {C : String} {r : Option Nat} : retI (some (.object C)) (some (va_rf r)) .areturn := Or.inr (Or.inr (Or.inr (Or.inr (Or.inr ⟨C, r, rfl, rfl, rfl⟩))))
def minI (x z : Int32) : Int32 := if z < x then z else x
def maxI (x z : Int32) : Int32 := if x < z then z else x
def areaI (x1 y1 x2 y2 : Int32) : Int32 := (x2 - x1 + 1) * (y2 - y1 + 1)
def meetI (a1 b1 a2 b2 c1 d1 c2 d2 : Int32) : Bool := decide (a1 ≤ c2) && (decide (c1 ≤ a2) && (decide (b1 ≤ d2) && decide (d1 ≤ b2)))
def bI (b : Bool) : Int32 := if b then 1 else 0
theorem bI_or (b : Bool) : bI b = 0 ∨ bI b = 1 := by cases b <;> simp [bI]
/-- how a hedge with edges h grows, to have all of a rectangle r too -/
def growI (h r : Nat → Int32) : Int32 := areaI (minI (h 0) (r 0)) (minI (h 1) (r 1)) (maxI (h 2) (r 2)) (maxI (h 3) (r 3)) - areaI (h 0) (h 1) (h 2) (h 3)
abbrev arB (P : PS) (q : Nat) : Int32 := areaI (pB P q 0) (pB P q 1) (pB P q 2) (pB P q 3)
abbrev mtB (P : PS) (q r : Nat) : Bool := meetI (pB P q 0) (pB P q 1) (pB P q 2) (pB P q 3) (pB P r 0) (pB P r 1) (pB P r 2) (pB P r 3)
def grB (P : PS) (q r : Nat) : Int32 := if arB P q = 0 then arB P r else growI (pB P q) (pB P r)
def offI (x lo hi : Int32) : Int32 := maxI 0 (maxI (lo - x) (x - hi))
def sdI (b : Nat → Int32) (x y : Int32) : Int32 := offI x (b 0) (b 2) * offI x (b 0) (b 2) + offI y (b 1) (b 3) * offI y (b 1) (b 3)
def sBx (P : PS) (q : Nat) (bx : Nat → Int32) : PS := (pD P, pN P, pL P, pH P, pS P, va_up (pB P) q bx, pA P, pW P)
theorem g_maxI {X : Cx} {y : MethodName} {cc : ByteArray} {nL fr lo mc ms : Nat} {M : AH} {sz a b pc idx : Nat} {L : List (Nat × Value)} (st : List Value) (hX : Ok X y cc nL fr lo mc ms) (hlk : Cond.methodLink y.cls idx Lib.Math.max.name ∈ lw_tbl) (hfr : 1 ≤ fr) (hlo : 21 ≤ lo) (hcat : (st.map fun v => v.category).sum ≤ 8) (hab : a ≤ mc ∧ b ≤ ms) {x z : Int32} (hdg : decode cc pc = .ok (.invokestatic idx, 3))
    (kk : G X nL M sz a b (pc + 3) L (.int (maxI x z) :: st)) : G X nL M sz a b pc L (.int z :: .int x :: st) :=
  g_max st hX hlk stt_Lib_Math_max_name ini_java_lang_Math cd_Lib_Math_max_name hfr hlo hcat hab hdg kk
theorem g_minI {X : Cx} {y : MethodName} {cc : ByteArray} {nL fr lo mc ms : Nat} {M : AH} {sz a b pc idx : Nat} {L : List (Nat × Value)} (st : List Value) (hX : Ok X y cc nL fr lo mc ms) (hlk : Cond.methodLink y.cls idx Lib.Math.min.name ∈ lw_tbl) (hfr : 1 ≤ fr) (hlo : 21 ≤ lo) (hcat : (st.map fun v => v.category).sum ≤ 8) (hab : a ≤ mc ∧ b ≤ ms) {x z : Int32} (hdg : decode cc pc = .ok (.invokestatic idx, 3))
    (kk : G X nL M sz a b (pc + 3) L (.int (minI x z) :: st)) : G X nL M sz a b pc L (.int z :: .int x :: st) :=
  g_min st hX hlk stt_Lib_Math_min_name ini_java_lang_Math cd_Lib_Math_min_name hfr hlo hcat hab hdg kk
theorem meet_1 {a1 b1 a2 b2 c1 d1 c2 d2 : Int32} (h : c2 < a1) : meetI a1 b1 a2 b2 c1 d1 c2 d2 = false := by simp [meetI, Int32.not_le.mpr h]
theorem meet_2 {a1 b1 a2 b2 c1 d1 c2 d2 : Int32} (h : a2 < c1) : meetI a1 b1 a2 b2 c1 d1 c2 d2 = false := by simp [meetI, decide_eq_false (Int32.not_le.mpr h)]
theorem meet_3 {a1 b1 a2 b2 c1 d1 c2 d2 : Int32} (h : d2 < b1) : meetI a1 b1 a2 b2 c1 d1 c2 d2 = false := by simp [meetI, decide_eq_false (Int32.not_le.mpr h)]
theorem meet_4 {a1 b1 a2 b2 c1 d1 c2 d2 : Int32} (h : b2 < d1) : meetI a1 b1 a2 b2 c1 d1 c2 d2 = false := by simp [meetI, decide_eq_false (Int32.not_le.mpr h)]
theorem meet_t {a1 b1 a2 b2 c1 d1 c2 d2 : Int32} (h1 : ¬ c2 < a1) (h2 : ¬ a2 < c1) (h3 : ¬ d2 < b1) (h4 : ¬ b2 < d1) : meetI a1 b1 a2 b2 c1 d1 c2 d2 = true := by simp [meetI, Int32.not_lt.mp h1, Int32.not_lt.mp h2, Int32.not_lt.mp h3, Int32.not_lt.mp h4]
