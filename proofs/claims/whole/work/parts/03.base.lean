/-! the layer of this proof: an abstract heap M (a partial map from addresses to cells), a world predicate wd, the words of the tables TW, contracts Ct, and goals G over them -/
abbrev AH : Type := Nat → Option va_E
def wd (D : va_G) (M : AH) (H : Heap) : Prop := ∀ (q : Nat) (e : va_E), M q = some e → va_at D vwCl (q, e) H
/-- what a method may write: the cells of its world, and those that it makes -/
def dm (M : AH) (sz : Nat) : Nat → Prop := fun q => M q ≠ none ∨ sz ≤ q
/-- words that go along with a call -/
def okw : Cond → Bool
  | .fieldLinkNest _ _ _ _ _ _ => true
  | .methodLinkNest _ _ _ _ => true
  | .arrayOver (.object _) => true
  | .arrayClass _ => true
  | w => w.onTables && w.keeps
theorem okw_any {w : Cond} (h : okw w = true) {A A' : Array Value} {U : State} (hb : w.before A U = true) : w.before A' U = true := by
  have gen : w.onTables = true → w.before A' U = true := fun h1 => va_tabs h1 rfl hb
  cases w
  case arrayClass ty => exact hb
  case arrayOver ty =>
    cases ty
    case object C => exact hb
    all_goals (simp [okw, Cond.onTables] at h; done)
  all_goals first | exact gen rfl | (simp [okw, Cond.onTables] at h; done)
def TW (s : State) : Prop := ∀ w ∈ lw_tbl, okw w = true → va_Nw w s
theorem TW.moved {s U : State} (hW : s.WarmedH U.vm) (h : TW s) : TW U := by
  intro w hw ho
  have h1 := h w hw ho
  have key : ∀ w : Cond, okw w = true → va_Nw w s → va_Nw w U := by
    intro w ho h1
    have gen : (w.onTables && w.keeps) = true ∨ (∃ ty, w = .arrayClass ty) → va_Nw w U := fun hg => word_at hW hg h1
    cases w
    case fieldLinkNest => exact va_Nw.warmF hW h1
    case methodLinkNest => exact va_Nw.warmM hW h1
    case arrayClass ty => exact gen (Or.inr ⟨_, rfl⟩)
    case arrayOver ty =>
      cases ty
      case object C => exact va_AO.moved hW.alike h1
      all_goals exact gen (Or.inl ho)
    all_goals exact gen (Or.inl ho)
  exact key w ho h1
abbrev CT3 : Type := ClassId × ClassId × ClassId
abbrev tyG (T : CT3) : List (ClassId × FieldType) := [(T.1, .int), (T.2.1, .object RX0), (T.2.2, .long)]
def KN (T : CT3) (D : va_G) (s : State) : Prop := va_K D vwCl (tyG T) s ∧ TW s
theorem KN.moved {T : CT3} {D : va_G} {s U : State} (hW : s.WarmedH U.vm) (h : KN T D s) : KN T D U := ⟨va_K.moved hW.alike h.1, h.2.moved hW⟩
theorem KN.vm {T : CT3} {D : va_G} {s U : State} (hv : U.vm = s.vm) (h : KN T D s) : KN T D U := KN.moved (by rw [hv]; exact State.WarmedH.refl s) h
/-- a contract: from the world M (heap of size sz) the method returns v, in a world M' -/
def QG (D : va_G) (M0 : AH) (sz0 : Nat) (post : Option Value → AH → Nat → Prop) : Array Value → State → Outcome → State → Prop := fun _ st o t =>
  (∃ (v : Option Value) (M' : AH), o = .returned v ∧ post v M' t.heap.size ∧ wd D M' t.heap ∧ ∀ q, M' q ≠ none → dm M0 sz0 q) ∧ va_F (dm M0 sz0) st t
def PG (T : CT3) (D : va_G) (M : AH) (sz : Nat) : State → Prop := fun U => U.heap.size = sz ∧ wd D M U.heap ∧ KN T D U
def Ct (l : Launch) (T : CT3) (D : va_G) (y : MethodName) (cc : ByteArray) (nL : Nat) (ret : Option FieldType) (fr lo mc ms : Nat) (as : List Value) (M : AH) (sz : Nat) (post : Option Value → AH → Nat → Prop) : Prop :=
  Met l y [.code y cc nL ret] { frames := fr, cells := mc, slots := ms, locals := lo } (va_Pc as (PG T D M sz)) (QG D M sz post) mc ms (dm M sz)
abbrev Cx : Type := Program × Launch × Env × Room × State × MethodId × Array Value × List Frame × Method × Code × (State → Prop) × (Nat → Prop) × va_G × CT3
abbrev cxT (X : Cx) : CT3 := X.2.2.2.2.2.2.2.2.2.2.2.2.2
abbrev eI (T : CT3) (n : Nat) (f : Nat → Int32) : va_E := .inl (T.1, n, .inl f)
abbrev eR (T : CT3) (n : Nat) (f : Nat → Option Nat) : va_E := .inl (T.2.1, n, .inr (.inr (.inr (.inr f))))
abbrev eL (T : CT3) (n : Nat) (f : Nat → Int64) : va_E := .inl (T.2.2, n, .inr (.inl f))
def G (X : Cx) (nL : Nat) (M : AH) (sz a b pc : Nat) (L : List (Nat × Value)) (st : List Value) : Prop := match X with
  | (p, l, e, R, s, m, args, below, meth, c, Q, A, D, _) => ∀ (H : Heap) (locs : List Loc) (ls : Array Slot), H.size = sz → wd D M H → va_S A s.heap H locs → lv_has ls nL L → (∀ q, M q ≠ none → A q) → W p l e R s m args below meth c H locs a b Q (F0 m pc ls st)
/-- the frame of a walk: the machine, the method, the tables -/
def Ok (X : Cx) (y : MethodName) (cc : ByteArray) (nL : Nat) (fr lo mc ms : Nat) : Prop := match X with
  | (p, l, _, R, s, m, args, _, meth, c, _, A, D, T) => p.tables.exec = Jvm.exec ∧ c.code = cc ∧ c.maxLocals = nL ∧ s.vm.findClass y.cls = some m.cls ∧ meth.locks = false ∧ meth.name = y.name ∧ KN T D s ∧ R = { frames := fr, cells := mc, slots := ms, locals := lo } ∧ (∀ q, s.heap.size ≤ q → A q) ∧ l.stackTraces = false
/-- the ends of a walk -/
def retI (ret : Option FieldType) (v : Option Value) (w : Instr) : Prop :=
  (ret = none ∧ v = none ∧ w = .return_) ∨ (∃ x : Int32, ret = some .int ∧ v = some (.int x) ∧ w = .ireturn) ∨ (∃ x : Int32, ret = some .boolean ∧ v = some (.int x) ∧ (x = 0 ∨ x = 1) ∧ w = .ireturn) ∨ (∃ x : Int64, ret = some .long ∧ v = some (.long x) ∧ w = .lreturn) ∨ (∃ x : UInt64, ret = some .double ∧ v = some (.double x) ∧ w = .dreturn) ∨ (∃ (C : String) (r : Option Nat), ret = some (.object C) ∧ v = some (va_rf r) ∧ w = .areturn)
def Fnl (X : Cx) (cc : ByteArray) (nL : Nat) (ret : Option FieldType) (mc ms : Nat) (post : Option Value → AH → Nat → Prop) : Prop :=
  ∀ (v : Option Value) (M : AH) (sz a b pc : Nat) (L : List (Nat × Value)) (w : Instr), post v M sz → a ≤ mc → b ≤ ms → retI ret v w → decode cc pc = .ok (w, 1) → G X nL M sz a b pc L v.toList
