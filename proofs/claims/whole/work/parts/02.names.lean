/-! ===== BEGIN words of one list among another's, by their places ===== -/
theorem goodIn_r {big : List Cond} (ws : List Cond) (ps : List Nat) (hp : ws = ps.filterMap (fun i => big[i]?)) (h : ws.all goodWord = true) : GoodIn big ws := by
  intro w hw
  have h1 := List.all_eq_true.mp h w hw
  rw [hp] at hw
  obtain ⟨i, -, hi⟩ := List.mem_filterMap.mp hw
  have hm : w ∈ big := by first | exact List.mem_of_getElem? hi | exact List.getElem?_mem hi
  exact ⟨hm, good_of_word h1⟩
theorem goodIn_app {big a b : List Cond} (ha : GoodIn big a) (hb : GoodIn big b) : GoodIn big (a ++ b) := fun w h => (List.mem_append.mp h).elim (ha w) (hb w)
theorem goodIn_ca {big a b : List Cond} {c : Cond} (ha : GoodIn big (c :: a)) (hb : GoodIn big b) : GoodIn big (c :: (a ++ b)) := fun w h => (List.mem_cons.mp h).elim (fun e => ha w (List.mem_cons.mpr (Or.inl e))) (fun h => (List.mem_append.mp h).elim (fun h => ha w (List.mem_cons.mpr (Or.inr h))) (hb w))
theorem goodIn_sub {big ws : List Cond} (hm : ∀ w ∈ ws, w ∈ big) (h : ws.all goodWord = true) : GoodIn big ws := fun w hw => ⟨hm w hw, good_of_word (List.all_eq_true.mp h w hw)⟩
/-! ===== END ===== -/

/-! ===== BEGIN exceptions that leave a method, and their catching by the caller (launches without stack traces) ===== -/
section VXA
/-! The laws vx_back, vx_callV, vx_callS, vx_callSW, vx_throw0, vx_throwS follow proofs of the library, with one case more: JvmDerived/Free/Laws.lean (Back.of_free), Shelf42/LK1.lean (callV, callS), Shelf/KitTraced.lean (throwNew0V, throwNewS). -/
/-- where a method has thrown q: the class by its name, the cell, what was written, the world -/
def vx_T (XC : String → State → State → Prop) (st : State) (q : Addr) (t : State) (mc ms : Nat) (free : Addr → Prop) : Prop :=
  ∃ (E : String) (ce : Cell) (L : List Loc), XC E st t ∧ t.heap[q]? = some ce ∧ ce.vm = .none ∧ st.vm.findClass E = some ce.cls ∧ st.WarmedH t.vm ∧ st.sameButNew ({ t with vm := st.vm } : State) L mc ms ∧ ∀ z ∈ L, free z.base
def vx_Q (Qc : Array Value → State → Outcome → State → Prop) (XC : String → State → State → Prop) (mc ms : Nat) (free : Addr → Prop) : Array Value → State → Outcome → State → Prop := fun a st o t =>
  (Qc a st o t ∧ ∃ L, FrameEnd st o t L mc ms ∧ ∀ q ∈ L, free q.base) ∨ ∃ q, o = .threw q ∧ vx_T XC st q t mc ms free
/-- a callee that returns or throws -/
def vx_Met (l : Launch) (y : MethodName) (ws : List Cond) (rm : Room) (Pc : Array Value → State → Prop) (Qc : Array Value → State → Outcome → State → Prop) (XC : String → State → State → Prop) (mc ms : Nat) (free : Addr → Prop) : Prop :=
  MetFree l y (headSpec ws rm) Pc (fun _ _ _ _ _ => True) (vx_Q Qc XC mc ms free)
def vx_Post (XC : String → State → State → Prop) (mc ms : Nat) (free : Addr → Prop) : Pt → Array Value → Addr → Pt → Prop := fun A a q B =>
  ∃ (g : JFrame) (mk : MethodId) (t : State) (L : List Loc) (E : String) (ce : Cell), B.U.heap = t.heap ∧ B.U.vm = t.vm ∧ XC E (A.U.calling g mk a) t ∧ t.heap[q]? = some ce ∧ ce.vm = .none ∧ A.U.vm.findClass E = some ce.cls ∧ B.locs = A.locs ++ L ∧ (∀ z ∈ L, free z.base) ∧ B.cells = A.cells + mc ∧ B.slots = A.slots + ms
def vx_Back (l : Launch) (R : Room) (p : Program) (e : Env) (below : List Frame) (s : State) (sargs : Array Value) (y : MethodName) (len W9 : Nat)
    (Pre : Pt → Array Value → Prop) (Post : Pt → Array Value → Option Value → Pt → Prop) (PostX : Pt → Array Value → Addr → Pt → Prop) : Prop :=
  ∀ (m : MethodId) (meth : Method) (c : Code) (A : Pt) (g : JFrame) (ig : Instr) (mk : MethodId) (a : Array Value),
    Stand p l e R s m sargs below meth c A.U A.locs A.cells A.slots → g.method = m → g.locals.size = c.maxLocals → decode c.code g.pc = .ok (ig, len) →
    2 * g.monitorRoom + (g.stack.map fun v => v.category).sum ≤ W9 → A.U.methodNamed? y = some mk → Pre A a →
    (∃ (v : Option Value) (B : Pt), Stand p l e R s m sargs below meth c B.U B.locs B.cells B.slots ∧ Post A a v B ∧
      Steps p.tables e below (doInvoke e (A.U.setTop g) [] mk a).1 (B.U.setTop { g with pc := g.pc + len, stack := v.toList ++ g.stack })) ∨
    (∃ (q : Addr) (B : Pt), Stand p l e R s m sargs below meth c B.U B.locs B.cells B.slots ∧ PostX A a q B ∧
      Steps p.tables e below (doInvoke e (A.U.setTop g) [] mk a).1 ((B.U.setTop g).pushFrame (.throwing q)))
section Payer
variable {l : Launch} {R : Room} {p : Program} {e : Env} {below : List Frame} {s : State} {sargs : Array Value} {y : MethodName} {len W9 : Nat}
theorem vx_back {ws : List Cond} {rm : Room} {Pc : Array Value → State → Prop} {Qc : Array Value → State → Outcome → State → Prop} {XC : String → State → State → Prop} {mc ms : Nat} {free : Addr → Prop} {bytes : ByteArray} {maxL : Nat} {ret : Option FieldType}
    (hM : vx_Met l y ws rm Pc Qc XC mc ms free) (hblind : FrameBlind Pc) (hrc : rm.cells = mc) (hrs : rm.slots = ms)
    (hframes : rm.frames + 1 ≤ R.frames) (hlocals : W9 + (maxL + 11) + rm.locals ≤ R.locals)
    (hws : ∀ w ∈ ws, ∀ a' U, s.WarmedH U.vm → w.before a' U = true) (hcode : Cond.code y bytes maxL ret ∈ ws) (hinit : ∀ a' U, s.WarmedH U.vm → (Cond.initialized y.cls).before a' U = true) :
    vx_Back l R p e below s sargs y len W9 (PreOf R mc ms Pc) (PostOf Qc mc ms free) (vx_Post XC mc ms free) := by
  intro m meth c A g ig mk a X hg hsize hdg hW hn hp
  have h1 : (headSpec ws rm).pre.before a A.U = true := atoms_intro fun w hw => hws w hw _ _ X.warmed
  have h2 : (Cond.code y bytes maxL ret).before a A.U = true := hws _ hcode _ _ X.warmed
  have h3 : (Cond.initialized y.cls).before a A.U = true := hinit _ _ X.warmed
  have h4 : A.cells + (headSpec ws rm).room.cells ≤ R.cells := by rw [show (headSpec ws rm).room.cells = mc from hrc]; exact hp.1
  have h5 : A.slots + (headSpec ws rm).room.slots ≤ R.slots := by rw [show (headSpec ws rm).room.slots = ms from hrs]; exact hp.2.1
  have hPc : Pc a (A.U.calling g mk a) := hblind _ _ _ _ hp.2.2
  obtain ⟨U, Ls, c0, s0⟩ := A
  dsimp only [Pt.U, Pt.locs, Pt.cells, Pt.slots] at h1 h2 h3 h4 h5 X hn hPc ⊢
  obtain ⟨methY, cY, hmY, hcY, -, hlY, -, -, -, -⟩ := Cond.code_spec hn h2
  obtain ⟨kY, hkY, -⟩ := className_of_methodNamed hn
  have hinitY : kY.init = .initialized := Cond.initialized_spec (findClass_of_methodNamed hn) hkY h3
  have h : At U g.method c below := by rw [hg]; exact X.here
  have hlocals9 : W9 + (maxL + 11) + (headSpec ws rm).room.locals ≤ R.locals := hlocals
  have happ : (headSpec ws rm).appliesLoose y e.platform (U.calling g mk a) = true :=
    Spec.appliesLoose_calling (g := g) h hdg hn hkY hinitY
      (X.room_calling (g := g) (R' := (headSpec ws rm).room) hsize hmY hcY hframes (by rw [hlY]; omega) h4 h5) h1
  obtain ⟨mid, hmid⟩ := h.above
  have hfr : (U.setTop g).frames = (.java g :: mid) ++ below := by rw [State.frames_setTop' g h.top, hmid]; rfl
  obtain ⟨o, s₂, hsteps, -, hend, hq⟩ := Steps.callFree hM p X.admits X.cas X.clock (acts := []) hfr happ hPc trivial
  have hq' : vx_Q Qc XC mc ms free a (U.calling g mk a) o s₂ := hq
  rw [State.frames_setTop' g h.top] at hend
  obtain ⟨g₀, hg0⟩ := Option.isSome_iff_exists.mp h.top
  obtain ⟨r, hr⟩ := State.topJava?_eq_some.mp hg0
  have hr' : (({ U with heap := s₂.heap, slotsUsed := s₂.slotsUsed } : State).setVm s₂.vm).frames = .java g₀ :: r := hr
  rcases hq' with ⟨hqc, L, hfe, hL⟩ | ⟨q, rfl, E, ce, L, hx, hce, hcv, hcl, hW₂, hsm, hL⟩
  · obtain ⟨⟨v, rfl⟩, hW₂, e2, q2, q3, q4, q5, q6⟩ := id hfe
    have e3 : s₂ = ({ (U.calling g mk a).setFrames s₂.frames with heap := s₂.heap, slotsUsed := s₂.slotsUsed } : State).setVm s₂.vm := by
      have : s₂ = ({ s₂ with vm := (U.calling g mk a).vm } : State).setVm s₂.vm := rfl
      rw [e2] at this
      exact this
    obtain ⟨c₂, i₂, len₂, hc₂, hd₂, hf₂⟩ := hend
    have hW' : U.WarmedH s₂.vm := hW₂
    have hcc : c₂ = c := by
      have h1 : s₂.code? g.method = U.code? g.method := by
        rw [State.code?_eq, State.code?_eq, hW'.alike.method?]
      exact Option.some.inj (hc₂.symm.trans (h1.trans h.code))
    subst hcc
    have hlen : len₂ = len := by rw [hdg] at hd₂; cases hd₂; rfl
    subst hlen
    have hs₂ : s₂ = (({ U with heap := s₂.heap, slotsUsed := s₂.slotsUsed } : State).setVm s₂.vm).setTop { g with pc := g.pc + len₂, stack := v.toList ++ g.stack } := by
      refine e3.trans ?_
      rw [hf₂, State.calling_eq h.top, State.setFrames_setFrames, State.setTop_of_frames _ hr', hr]
      rfl
    have hsame : U.sameButNew ({ U with heap := s₂.heap, slotsUsed := s₂.slotsUsed } : State) L mc ms := by
      refine ⟨?_, q2, q3, q4, q5, q6⟩
      obtain ⟨t, ht, -⟩ := State.frames_cons hr
      show ({ U with heap := s₂.heap, slotsUsed := s₂.slotsUsed } : State) = { U.setFrames U.frames with heap := s₂.heap, slotsUsed := s₂.slotsUsed }
      rw [State.setFrames_self ht]
    subst hg
    refine Or.inl ⟨v, ⟨(({ U with heap := s₂.heap, slotsUsed := s₂.slotsUsed } : State).setVm s₂.vm), Ls ++ L, c0 + mc, s0 + ms⟩,
      ⟨X.admits, X.cas, X.clock, X.frames, X.room, X.hears, X.method, X.code, (X.here.setHeapUsed s₂.heap s₂.slotsUsed).setVm hW'.alike, X.tail, State.WarmedH.trans X.warmed hW', X.limits, X.bytes, X.same.trans (hsame.setVm s.vm)⟩,
      ⟨g, mk, s₂, L, rfl, rfl, hqc, rfl, hL, rfl, rfl⟩, ?_⟩
    show Steps p.tables e below _ ((({ U with heap := s₂.heap, slotsUsed := s₂.slotsUsed } : State).setVm s₂.vm).setTop { g with pc := g.pc + len₂, stack := v.toList ++ g.stack })
    rw [← hs₂]
    exact hsteps
  · obtain ⟨e2, q2, q3, q4, q5, q6⟩ := id hsm
    have e3 : s₂ = ({ (U.calling g mk a).setFrames s₂.frames with heap := s₂.heap, slotsUsed := s₂.slotsUsed } : State).setVm s₂.vm := by
      have : s₂ = ({ s₂ with vm := (U.calling g mk a).vm } : State).setVm s₂.vm := rfl
      rw [e2] at this
      exact this
    have hf₂ : s₂.frames = .throwing q :: .java g :: U.frames.tail := hend
    have hW' : U.WarmedH s₂.vm := hW₂
    have hs₂ : s₂ = ((({ U with heap := s₂.heap, slotsUsed := s₂.slotsUsed } : State).setVm s₂.vm).setTop g).pushFrame (.throwing q) := by
      refine e3.trans ?_
      rw [hf₂, State.calling_eq h.top, State.setFrames_setFrames, State.pushFrame, State.frames_setTop _ hr', State.setTop_of_frames _ hr', State.setFrames_setFrames, hr]
      rfl
    have hsame : U.sameButNew ({ U with heap := s₂.heap, slotsUsed := s₂.slotsUsed } : State) L mc ms := by
      refine ⟨?_, q2, q3, q4, q5, q6⟩
      obtain ⟨t, ht, -⟩ := State.frames_cons hr
      show ({ U with heap := s₂.heap, slotsUsed := s₂.slotsUsed } : State) = { U.setFrames U.frames with heap := s₂.heap, slotsUsed := s₂.slotsUsed }
      rw [State.setFrames_self ht]
    subst hg
    refine Or.inr ⟨q, ⟨(({ U with heap := s₂.heap, slotsUsed := s₂.slotsUsed } : State).setVm s₂.vm), Ls ++ L, c0 + mc, s0 + ms⟩,
      ⟨X.admits, X.cas, X.clock, X.frames, X.room, X.hears, X.method, X.code, (X.here.setHeapUsed s₂.heap s₂.slotsUsed).setVm hW'.alike, X.tail, State.WarmedH.trans X.warmed hW', X.limits, X.bytes, X.same.trans (hsame.setVm s.vm)⟩,
      ⟨g, mk, s₂, L, E, ce, rfl, rfl, hx, hce, hcv, hcl, rfl, hL, rfl, rfl⟩, ?_⟩
    show Steps p.tables e below _ (((({ U with heap := s₂.heap, slotsUsed := s₂.slotsUsed } : State).setVm s₂.vm).setTop g).pushFrame (.throwing q))
    rw [← hs₂]
    exact hsteps
end Payer
section Calls
variable {p : Program} {l : Launch} {e : Env} {R : Room} {s : State} {m : MethodId} {args : Array Value} {below : List Frame} {meth : Method} {c : Code} {T : State} {locs : List Loc} {cells slots : Nat}
theorem vx_callV (X : Stand p l e R s m args below meth c T locs cells slots) (hexec : p.tables.exec = Jvm.exec) {own C : String} {index : Nat} {y : MethodName} {bytes : ByteArray} {maxL : Nat} {ret : Option FieldType}
    (hown : s.vm.findClass own = some m.cls) (hlink : (Cond.methodLink own index y).before args s = true) (hinst : (Cond.instanceMethod y).before args s = true) (hsel : (Cond.selects C y y).before args s = true)
    (hcode : (Cond.code y bytes maxL ret).before args s = true) (hy : y.cls ≠ "java/lang/invoke/MethodHandle" ∧ y.cls ≠ "java/lang/invoke/VarHandle")
    {W9 : Nat} {Pre : Pt → Array Value → Prop} {Post : Pt → Array Value → Option Value → Pt → Prop} {PostX : Pt → Array Value → Addr → Pt → Prop} (hK : vx_Back l R p e below s args y 3 W9 Pre Post PostX)
    {b : Addr} {cellB : Cell} (hcell : T.heap[b]? = some cellB) (hobj : cellB.vm.isStatics = false) (hcls : s.vm.findClass C = some cellB.cls)
    {g : JFrame} (hg : g.method = m) (hsize : g.locals.size = c.maxLocals) {argsL rest : List Value} (hlen : ∀ sig, parseMethodDescriptor y.desc = some sig → argsL.length = sig.parameters.length)
    (hstack : g.stack = argsL.reverse ++ .ref b :: rest) (hW : 2 * g.monitorRoom + (rest.map fun v => v.category).sum ≤ W9) (hdg : decode c.code g.pc = .ok (.invokevirtual index, 3))
    (hpre : ∀ vm₁, s.WarmedH vm₁ → Pre ⟨T.setVm vm₁, locs, cells, slots⟩ (Value.ref b :: argsL).toArray) :
    (∃ (v : Option Value) (vm₁ : Vm) (B : Pt), s.WarmedH vm₁ ∧ Stand p l e R s m args below meth c B.U B.locs B.cells B.slots ∧ Post ⟨T.setVm vm₁, locs, cells, slots⟩ (Value.ref b :: argsL).toArray v B ∧
      ∀ target, Steps p.tables e below (B.U.setTop { g with pc := g.pc + 3, stack := v.toList ++ rest }) target → Steps p.tables e below (T.setTop g) target) ∨
    (∃ (q : Addr) (vm₁ : Vm) (B : Pt), s.WarmedH vm₁ ∧ Stand p l e R s m args below meth c B.U B.locs B.cells B.slots ∧ PostX ⟨T.setVm vm₁, locs, cells, slots⟩ (Value.ref b :: argsL).toArray q B ∧
      Steps p.tables e below (T.setTop g) ((B.U.setTop { g with stack := rest }).pushFrame (.throwing q))) := by
  obtain ⟨mk, methM, hnamed, hmethM, hstM, habM⟩ := Cond.instanceMethod_spec hinst
  obtain ⟨methM', cM, hmethM', -, -, -, -, -, -, hsigM⟩ := Cond.code_spec hnamed hcode
  cases hmethM.symm.trans hmethM'
  obtain ⟨c2, r2, m2, q1, q2, q3, q4, kP, hkP, hkPi⟩ := Cond.selects_spec hsel
  cases hcls.symm.trans q1
  cases (State.methodFound?_of_named hnamed hy).symm.trans q2
  cases hnamed.symm.trans q3
  have hselP : selectMethod e.platform s.vm cellB.cls mk = .method mk := by rw [Launch.admits_selectMethod X.admits]; exact q4
  obtain ⟨vm₁, X₁, hstep₁⟩ := X.invokevirtual hexec hown hlink hnamed hmethM hstM hkP hkPi hy (a := b) (cell := cellB) hcell
    (fun z h => by rw [h] at hobj; cases hobj) hselP hmethM habM hkP hkPi (g := g) hg (argsL := argsL) (rest := rest) (hlen _ hsigM) hstack hdg
  rcases hK m meth c ⟨T.setVm vm₁, locs, cells, slots⟩ { g with stack := rest } (.invokevirtual index) mk (Value.ref b :: argsL).toArray X₁ hg hsize hdg hW (X₁.named hnamed) (hpre vm₁ X₁.warmed) with ⟨v, B, X', hpost, hsteps⟩ | ⟨q, B, X', hpost, hsteps⟩
  · exact Or.inl ⟨v, vm₁, B, X₁.warmed, X', hpost, fun target h => hstep₁ _ fun acts => by rw [doInvoke_state]; exact hsteps.trans h⟩
  · exact Or.inr ⟨q, vm₁, B, X₁.warmed, X', hpost, hstep₁ _ fun acts => by rw [doInvoke_state]; exact hsteps⟩
theorem vx_callS (X : Stand p l e R s m args below meth c T locs cells slots) (hexec : p.tables.exec = Jvm.exec) {own : String} {index : Nat} {y : MethodName} {bytes : ByteArray} {maxL : Nat} {ret : Option FieldType}
    (hown : s.vm.findClass own = some m.cls) (hlink : (Cond.methodLink own index y).before args s = true) (hstat : (Cond.static y).before args s = true) (hinit : (Cond.initialized y.cls).before args s = true)
    (hcode : (Cond.code y bytes maxL ret).before args s = true) (hy : y.cls ≠ "java/lang/invoke/MethodHandle" ∧ y.cls ≠ "java/lang/invoke/VarHandle")
    {W9 : Nat} {Pre : Pt → Array Value → Prop} {Post : Pt → Array Value → Option Value → Pt → Prop} {PostX : Pt → Array Value → Addr → Pt → Prop} (hK : vx_Back l R p e below s args y 3 W9 Pre Post PostX)
    {g : JFrame} (hg : g.method = m) (hsize : g.locals.size = c.maxLocals) {argsL rest : List Value} (hlen : ∀ sig, parseMethodDescriptor y.desc = some sig → argsL.length = sig.parameters.length)
    (hstack : g.stack = argsL.reverse ++ rest) (hW : 2 * g.monitorRoom + (rest.map fun v => v.category).sum ≤ W9) (hdg : decode c.code g.pc = .ok (.invokestatic index, 3))
    (hpre : ∀ vm₁, s.WarmedH vm₁ → Pre ⟨T.setVm vm₁, locs, cells, slots⟩ argsL.toArray) :
    (∃ (v : Option Value) (vm₁ : Vm) (B : Pt), s.WarmedH vm₁ ∧ Stand p l e R s m args below meth c B.U B.locs B.cells B.slots ∧ Post ⟨T.setVm vm₁, locs, cells, slots⟩ argsL.toArray v B ∧
      ∀ target, Steps p.tables e below (B.U.setTop { g with pc := g.pc + 3, stack := v.toList ++ rest }) target → Steps p.tables e below (T.setTop g) target) ∨
    (∃ (q : Addr) (vm₁ : Vm) (B : Pt), s.WarmedH vm₁ ∧ Stand p l e R s m args below meth c B.U B.locs B.cells B.slots ∧ PostX ⟨T.setVm vm₁, locs, cells, slots⟩ argsL.toArray q B ∧
      Steps p.tables e below (T.setTop g) ((B.U.setTop { g with stack := rest }).pushFrame (.throwing q))) := by
  obtain ⟨mk, hnamed⟩ := Cond.code_named hcode
  obtain ⟨methM, cM, hmethM, -, -, -, -, -, -, hsigM⟩ := Cond.code_spec hnamed hcode
  have hstatic : methM.isStatic = true := Cond.static_spec hnamed hmethM hstat
  obtain ⟨kP, hkP, -⟩ := className_of_methodNamed hnamed
  have hinitP : kP.init = .initialized := Cond.initialized_spec (findClass_of_methodNamed hnamed) hkP hinit
  obtain ⟨vm₁, X₁, hstep₁⟩ := X.invokestatic hexec hown hlink hnamed hmethM hstatic hkP hinitP hy (g := g) hg (argsL := argsL) (rest := rest) (hlen _ hsigM) hstack hdg
  rcases hK m meth c ⟨T.setVm vm₁, locs, cells, slots⟩ { g with stack := rest } (.invokestatic index) mk argsL.toArray X₁ hg hsize hdg hW (X₁.named hnamed) (hpre vm₁ X₁.warmed) with ⟨v, B, X', hpost, hsteps⟩ | ⟨q, B, X', hpost, hsteps⟩
  · exact Or.inl ⟨v, vm₁, B, X₁.warmed, X', hpost, fun target h => hstep₁ _ fun acts => by rw [doInvoke_state]; exact hsteps.trans h⟩
  · exact Or.inr ⟨q, vm₁, B, X₁.warmed, X', hpost, hstep₁ _ fun acts => by rw [doInvoke_state]; exact hsteps⟩
end Calls
theorem vx_cls {s : State} {T : State} {vm₁ : Vm} {E : String} {k : ClassId} (hW : s.WarmedH vm₁) (h : (T.setVm vm₁).vm.findClass E = some k) : s.vm.findClass E = some k := by
  have h1 : vm₁.findClass E = some k := h
  rw [hW.alike.findClass] at h1
  exact h1
/-- the method's frame g, with q thrown over it -/
def vx_W (p : Program) (l : Launch) (e : Env) (R : Room) (s : State) (m : MethodId) (args : Array Value) (below : List Frame) (meth : Method) (c : Code) (H : Heap) (locs : List Loc) (cells slots : Nat) (Q : State → Prop) (g : JFrame) (q : Addr) : Prop :=
  ∀ T : State, T.heap = H → Stand p l e R s m args below meth c T locs cells slots → ∃ t, Steps p.tables e below ((T.setTop g).pushFrame (.throwing q)) t ∧ Q t
def vx_Run (p : Program) (l : Launch) (e : Env) (R : Room) (s : State) (m : MethodId) (args : Array Value) (below : List Frame) (meth : Method) (c : Code) (H : Heap) (locs : List Loc) (cells slots mc ms : Nat) (g : JFrame) (rest : List Value) (Qa : State → Outcome → State → Prop) (XC : String → State → State → Prop) (free : Addr → Prop) : Prop :=
  ∀ T : State, T.heap = H → Stand p l e R s m args below meth c T locs cells slots →
    (∃ (v : Option Value) (st₀ t T' : State) (L : List Loc), st₀.heap = H ∧ Stand p l e R s m args below meth c T' (locs ++ L) (cells + mc) (slots + ms) ∧ (∀ q ∈ L, free q.base) ∧ T'.heap = t.heap ∧ T'.vm = t.vm ∧ Qa st₀ (.returned v) t ∧
      Goes p e below T g T' { g with pc := g.pc + 3, stack := v.toList ++ rest }) ∨
    (∃ (q : Addr) (st₀ t T' : State) (L : List Loc) (E : String) (ce : Cell), st₀.heap = H ∧ Stand p l e R s m args below meth c T' (locs ++ L) (cells + mc) (slots + ms) ∧ (∀ z ∈ L, free z.base) ∧ T'.heap = t.heap ∧ T'.vm = t.vm ∧ XC E st₀ t ∧ t.heap[q]? = some ce ∧ ce.vm = .none ∧ s.vm.findClass E = some ce.cls ∧
      Steps p.tables e below (T.setTop g) ((T'.setTop { g with stack := rest }).pushFrame (.throwing q)))
def vx_X {S : Type} (px : S → Prop) (B : String → S → State → Prop) (A : Nat → Prop) : String → State → State → Prop := fun E st t => ∃ u : S, px u ∧ B E u t ∧ va_F A st t
section Runs
variable {p : Program} {l : Launch} {e : Env} {R : Room} {s : State} {m : MethodId} {args : Array Value} {below : List Frame} {meth : Method} {c : Code} {H : Heap} {locs : List Loc} {cells slots : Nat}
variable {y : MethodName} {bytes cc : ByteArray} {maxL nL mc ms n index : Nat} {ret : Option FieldType} {ws : List Cond} {rm : Room} {Pc : Array Value → State → Prop} {Qc : Array Value → State → Outcome → State → Prop} {XC : String → State → State → Prop} {free : Addr → Prop} {Ts : List Cond} {own C : String} {b : Addr} {As rest : List Value} {g : JFrame}
theorem vx_callBack (cb : CallB R s args own index y bytes maxL ret ws rm mc ms n) (hM : vx_Met l y ws rm Pc Qc XC mc ms free) (hbl : FrameBlind Pc) : vx_Back l R p e below s args y 3 8 (PreOf R mc ms Pc) (PostOf Qc mc ms free) (vx_Post XC mc ms free) := by
  obtain ⟨hrc, hrs, hfr, hlo, hws, hcw, -, hini, -⟩ := cb
  exact vx_back (bytes := bytes) (maxL := maxL) (ret := ret) hM hbl hrc hrs hfr hlo hws hcw (fun a' U hW => word_at hW (Or.inl (by first | rfl | simp [Cond.onTables, Cond.keeps, Cond.steady])) hini)
theorem vx_runV (S : CallFix p m c cc nL s args Ts own) (hM : vx_Met l y ws rm Pc Qc XC mc ms free) (cw : CallW R s args own C index y bytes maxL ret ws rm mc ms n) (hp : PreV s H C b Pc As)
    (hg : g.method = m) (hn : As.length = n) (hsize : g.locals.size = nL) (hstack : g.stack = As.reverse ++ .ref b :: rest) (hW : 2 * g.monitorRoom + (rest.map fun v => v.category).sum ≤ 8) (hdg : decode cc g.pc = .ok (.invokevirtual index, 3)) (hf : cells + mc ≤ R.cells ∧ slots + ms ≤ R.slots) :
    vx_Run p l e R s m args below meth c H locs cells slots mc ms g rest (Qc (Value.ref b :: As).toArray) XC free := by
  have hK : vx_Back l R p e below s args y 3 8 (PreOf R mc ms Pc) (PostOf Qc mc ms free) (vx_Post XC mc ms free) := vx_callBack cw.1 hM hp.1
  obtain ⟨⟨-, -, -, -, -, -, hcode, -, hy, hlen, hl⟩, hin, hse⟩ := cw
  obtain ⟨hx, hb, hml, ho, -⟩ := S
  obtain ⟨-, ⟨cellB, hcB, hoB, hclB⟩, hPc⟩ := hp
  intro T hT X
  rcases vx_callV X hx (C := C) (bytes := bytes) (maxL := maxL) (ret := ret) ho hl hin hse hcode hy hK (by rw [hT]; exact hcB) hoB hclB hg (hsize.trans hml.symm) (argsL := As) (rest := rest) (fun sig h => hn.trans (hlen sig h)) hstack hW (by rw [hb]; exact hdg)
    (fun vm₁ hW₁ => ⟨hf.1, hf.2, hPc (T.setVm vm₁) hT hW₁⟩) with ⟨v, vm₁, ⟨U', l2, c2, s2⟩, hW₁, X', ⟨g', mk, t, L, e1, e2, hq, h1, hL, h2, h3⟩, st⟩ | ⟨q, vm₁, ⟨U', l2, c2, s2⟩, hW₁, X', ⟨g', mk, t, L, E, ce, e1, e2, hq, hce, hcv, hcl, h1, hL, h2, h3⟩, st⟩
  · dsimp only [Pt.U, Pt.locs, Pt.cells, Pt.slots] at X' e1 e2 h1 h2 h3 st
    subst h1; subst h2; subst h3
    exact Or.inl ⟨v, (T.setVm vm₁).calling g' mk (Value.ref b :: As).toArray, t, U', L, hT, X', hL, e1, e2, hq, st⟩
  · dsimp only [Pt.U, Pt.locs, Pt.cells, Pt.slots] at X' e1 e2 h1 h2 h3 st hcl
    subst h1; subst h2; subst h3
    exact Or.inr ⟨q, (T.setVm vm₁).calling g' mk (Value.ref b :: As).toArray, t, U', L, E, ce, hT, X', hL, e1, e2, hq, hce, hcv, vx_cls hW₁ hcl, st⟩
theorem vx_runS (S : CallFix p m c cc nL s args Ts own) (hM : vx_Met l y ws rm Pc Qc XC mc ms free) (cw : CallB R s args own index y bytes maxL ret ws rm mc ms n ∧ (Cond.static y).before args s = true) (hp : PreS s H Pc As)
    (hg : g.method = m) (hn : As.length = n) (hsize : g.locals.size = nL) (hstack : g.stack = As.reverse ++ rest) (hW : 2 * g.monitorRoom + (rest.map fun v => v.category).sum ≤ 8) (hdg : decode cc g.pc = .ok (.invokestatic index, 3)) (hf : cells + mc ≤ R.cells ∧ slots + ms ≤ R.slots) :
    vx_Run p l e R s m args below meth c H locs cells slots mc ms g rest (Qc As.toArray) XC free := by
  have hK : vx_Back l R p e below s args y 3 8 (PreOf R mc ms Pc) (PostOf Qc mc ms free) (vx_Post XC mc ms free) := vx_callBack cw.1 hM hp.1
  obtain ⟨⟨-, -, -, -, -, -, hcode, hini, hy, hlen, hl⟩, hstt⟩ := cw
  obtain ⟨hx, hb, hml, ho, -⟩ := S
  intro T hT X
  rcases vx_callS X hx (bytes := bytes) (maxL := maxL) (ret := ret) ho hl hstt hini hcode hy hK hg (hsize.trans hml.symm) (argsL := As) (rest := rest) (fun sig h => hn.trans (hlen sig h)) hstack hW (by rw [hb]; exact hdg)
    (fun vm₁ hW₁ => ⟨hf.1, hf.2, hp.2 (T.setVm vm₁) hT hW₁⟩) with ⟨v, vm₁, ⟨U', l2, c2, s2⟩, hW₁, X', ⟨g', mk, t, L, e1, e2, hq, h1, hL, h2, h3⟩, st⟩ | ⟨q, vm₁, ⟨U', l2, c2, s2⟩, hW₁, X', ⟨g', mk, t, L, E, ce, e1, e2, hq, hce, hcv, hcl, h1, hL, h2, h3⟩, st⟩
  · dsimp only [Pt.U, Pt.locs, Pt.cells, Pt.slots] at X' e1 e2 h1 h2 h3 st
    subst h1; subst h2; subst h3
    exact Or.inl ⟨v, (T.setVm vm₁).calling g' mk As.toArray, t, U', L, hT, X', hL, e1, e2, hq, st⟩
  · dsimp only [Pt.U, Pt.locs, Pt.cells, Pt.slots] at X' e1 e2 h1 h2 h3 st hcl
    subst h1; subst h2; subst h3
    exact Or.inr ⟨q, (T.setVm vm₁).calling g' mk As.toArray, t, U', L, E, ce, hT, X', hL, e1, e2, hq, hce, hcv, vx_cls hW₁ hcl, st⟩
end Runs
section Rows
variable {p : Program} {l : Launch} {e : Env} {R : Room} {s : State} {m : MethodId} {args : Array Value} {below : List Frame} {meth : Method} {c : Code} {H : Heap} {locs : List Loc} {cells slots : Nat} {Q : State → Prop}
variable {mc ms : Nat} {free : Addr → Prop} {A0 A1 : Nat → Prop} {H0 : Heap} {a : Array Value} {pc : Nat} {ls : Array Slot} {st0 rest : List Value}
theorem vx_keep {st₀ t T' : State} {L : List Loc} (h0 : st₀.heap = H) (e1 : T'.heap = t.heap) (hS : va_S A0 H0 H locs) (hA : ∀ q, q < H.size → A1 q → A0 q) (hf : ∀ q, free q → A0 q) (hL : ∀ q ∈ L, free q.base) (hF : va_F A1 st₀ t) :
    H.size ≤ T'.heap.size ∧ (∀ q : Nat, q < H.size → ¬ A1 q → T'.heap[q]? = H[q]?) ∧ va_S A0 H0 T'.heap (locs ++ L) := by
  obtain ⟨hz, hk⟩ := hF
  rw [h0] at hz hk
  exact ⟨by rw [e1]; exact hz, fun q h1 h2 => by rw [e1]; exact hk q h1 h2,
    ⟨Nat.le_trans hS.1 (by rw [e1]; exact hz), fun q h1 h2 => by rw [e1, hk q (Nat.lt_of_lt_of_le h1 hS.1) (fun z => h2 (hA q (Nat.lt_of_lt_of_le h1 hS.1) z))]; exact hS.2.1 q h1 h2, fun q hq => by
      rcases List.mem_append.mp hq with h | h
      · exact hS.2.2 q h
      · exact hf _ (hL q h)⟩⟩
theorem vx_calli {S SX : Type} {post : Int32 → S → Prop} {px : SX → Prop} {B : S → State → Prop} {BX : String → SX → State → Prop} {AX : Nat → Prop} (hr : vx_Run p l e R s m args below meth c H locs cells slots mc ms (F0 m pc ls st0) rest (va_Qi post B A1 a) (vx_X px BX AX) free) (hS : va_S A0 H0 H locs) (hA : ∀ q, q < H.size → A1 q → A0 q) (hf : ∀ q, free q → A0 q) (hAX : ∀ q, q < H.size → AX q → A0 q)
    (kx : ∀ (E : String) (ce : Cell) (q9 : Addr) (u : SX) (t : State) (H1 : Heap) (locs1 : List Loc), t.heap = H1 → s.vm.Alike t.vm → px u → BX E u t → H.size ≤ H1.size → (∀ q : Nat, q < H.size → ¬ AX q → H1[q]? = H[q]?) → va_S A0 H0 H1 locs1 → H1[q9]? = some ce → ce.vm = .none → s.vm.findClass E = some ce.cls → vx_W p l e R s m args below meth c H1 locs1 (cells + mc) (slots + ms) Q (F0 m pc ls rest) q9)
    (kk : ∀ (r : Int32) (u : S) (t : State) (H1 : Heap) (locs1 : List Loc), t.heap = H1 → s.vm.Alike t.vm → post r u → B u t → H.size ≤ H1.size → (∀ q : Nat, q < H.size → ¬ A1 q → H1[q]? = H[q]?) → va_S A0 H0 H1 locs1 → W p l e R s m args below meth c H1 locs1 (cells + mc) (slots + ms) Q (F0 m (pc + 3) ls (.int r :: rest))) : W p l e R s m args below meth c H locs cells slots Q (F0 m pc ls st0) := by
  intro T hT X
  rcases hr T hT X with ⟨v, st₀, t, T', L, h0, X', hL, e1, e2, ⟨⟨r, u, hv, hp, hb⟩, hF⟩, st⟩ | ⟨q, st₀, t, T', L, E, ce, h0, X', hL, e1, e2, ⟨u, hp, hb, hF⟩, hce, hcv, hcl, st⟩
  · cases hv
    obtain ⟨k1, k2, k3⟩ := vx_keep h0 e1 hS hA hf hL hF
    obtain ⟨t2, a1, b1⟩ := kk r u t T'.heap (locs ++ L) e1.symm (by rw [← e2]; exact X'.warmed.alike) hp hb k1 k2 k3 T' rfl X'
    exact ⟨t2, st t2 a1, b1⟩
  · obtain ⟨k1, k2, k3⟩ := vx_keep h0 e1 hS hAX hf hL hF
    obtain ⟨t2, a1, b1⟩ := kx E ce q u t T'.heap (locs ++ L) e1.symm (by rw [← e2]; exact X'.warmed.alike) hp hb k1 k2 k3 (by rw [e1]; exact hce) hcv hcl T' rfl X'
    exact ⟨t2, st.trans a1, b1⟩
theorem vx_calll {S SX : Type} {post : Int64 → S → Prop} {px : SX → Prop} {B : S → State → Prop} {BX : String → SX → State → Prop} {AX : Nat → Prop} (hr : vx_Run p l e R s m args below meth c H locs cells slots mc ms (F0 m pc ls st0) rest (va_Ql post B A1 a) (vx_X px BX AX) free) (hS : va_S A0 H0 H locs) (hA : ∀ q, q < H.size → A1 q → A0 q) (hf : ∀ q, free q → A0 q) (hAX : ∀ q, q < H.size → AX q → A0 q)
    (kx : ∀ (E : String) (ce : Cell) (q9 : Addr) (u : SX) (t : State) (H1 : Heap) (locs1 : List Loc), t.heap = H1 → s.vm.Alike t.vm → px u → BX E u t → H.size ≤ H1.size → (∀ q : Nat, q < H.size → ¬ AX q → H1[q]? = H[q]?) → va_S A0 H0 H1 locs1 → H1[q9]? = some ce → ce.vm = .none → s.vm.findClass E = some ce.cls → vx_W p l e R s m args below meth c H1 locs1 (cells + mc) (slots + ms) Q (F0 m pc ls rest) q9)
    (kk : ∀ (r : Int64) (u : S) (t : State) (H1 : Heap) (locs1 : List Loc), t.heap = H1 → s.vm.Alike t.vm → post r u → B u t → H.size ≤ H1.size → (∀ q : Nat, q < H.size → ¬ A1 q → H1[q]? = H[q]?) → va_S A0 H0 H1 locs1 → W p l e R s m args below meth c H1 locs1 (cells + mc) (slots + ms) Q (F0 m (pc + 3) ls (.long r :: rest))) : W p l e R s m args below meth c H locs cells slots Q (F0 m pc ls st0) := by
  intro T hT X
  rcases hr T hT X with ⟨v, st₀, t, T', L, h0, X', hL, e1, e2, ⟨⟨r, u, hv, hp, hb⟩, hF⟩, st⟩ | ⟨q, st₀, t, T', L, E, ce, h0, X', hL, e1, e2, ⟨u, hp, hb, hF⟩, hce, hcv, hcl, st⟩
  · cases hv
    obtain ⟨k1, k2, k3⟩ := vx_keep h0 e1 hS hA hf hL hF
    obtain ⟨t2, a1, b1⟩ := kk r u t T'.heap (locs ++ L) e1.symm (by rw [← e2]; exact X'.warmed.alike) hp hb k1 k2 k3 T' rfl X'
    exact ⟨t2, st t2 a1, b1⟩
  · obtain ⟨k1, k2, k3⟩ := vx_keep h0 e1 hS hAX hf hL hF
    obtain ⟨t2, a1, b1⟩ := kx E ce q u t T'.heap (locs ++ L) e1.symm (by rw [← e2]; exact X'.warmed.alike) hp hb k1 k2 k3 (by rw [e1]; exact hce) hcv hcl T' rfl X'
    exact ⟨t2, st.trans a1, b1⟩
theorem vx_callf {S SX : Type} {post : UInt32 → S → Prop} {px : SX → Prop} {B : S → State → Prop} {BX : String → SX → State → Prop} {AX : Nat → Prop} (hr : vx_Run p l e R s m args below meth c H locs cells slots mc ms (F0 m pc ls st0) rest (va_Qf post B A1 a) (vx_X px BX AX) free) (hS : va_S A0 H0 H locs) (hA : ∀ q, q < H.size → A1 q → A0 q) (hf : ∀ q, free q → A0 q) (hAX : ∀ q, q < H.size → AX q → A0 q)
    (kx : ∀ (E : String) (ce : Cell) (q9 : Addr) (u : SX) (t : State) (H1 : Heap) (locs1 : List Loc), t.heap = H1 → s.vm.Alike t.vm → px u → BX E u t → H.size ≤ H1.size → (∀ q : Nat, q < H.size → ¬ AX q → H1[q]? = H[q]?) → va_S A0 H0 H1 locs1 → H1[q9]? = some ce → ce.vm = .none → s.vm.findClass E = some ce.cls → vx_W p l e R s m args below meth c H1 locs1 (cells + mc) (slots + ms) Q (F0 m pc ls rest) q9)
    (kk : ∀ (r : UInt32) (u : S) (t : State) (H1 : Heap) (locs1 : List Loc), t.heap = H1 → s.vm.Alike t.vm → post r u → B u t → H.size ≤ H1.size → (∀ q : Nat, q < H.size → ¬ A1 q → H1[q]? = H[q]?) → va_S A0 H0 H1 locs1 → W p l e R s m args below meth c H1 locs1 (cells + mc) (slots + ms) Q (F0 m (pc + 3) ls (.float r :: rest))) : W p l e R s m args below meth c H locs cells slots Q (F0 m pc ls st0) := by
  intro T hT X
  rcases hr T hT X with ⟨v, st₀, t, T', L, h0, X', hL, e1, e2, ⟨⟨r, u, hv, hp, hb⟩, hF⟩, st⟩ | ⟨q, st₀, t, T', L, E, ce, h0, X', hL, e1, e2, ⟨u, hp, hb, hF⟩, hce, hcv, hcl, st⟩
  · cases hv
    obtain ⟨k1, k2, k3⟩ := vx_keep h0 e1 hS hA hf hL hF
    obtain ⟨t2, a1, b1⟩ := kk r u t T'.heap (locs ++ L) e1.symm (by rw [← e2]; exact X'.warmed.alike) hp hb k1 k2 k3 T' rfl X'
    exact ⟨t2, st t2 a1, b1⟩
  · obtain ⟨k1, k2, k3⟩ := vx_keep h0 e1 hS hAX hf hL hF
    obtain ⟨t2, a1, b1⟩ := kx E ce q u t T'.heap (locs ++ L) e1.symm (by rw [← e2]; exact X'.warmed.alike) hp hb k1 k2 k3 (by rw [e1]; exact hce) hcv hcl T' rfl X'
    exact ⟨t2, st.trans a1, b1⟩
theorem vx_calld {S SX : Type} {post : UInt64 → S → Prop} {px : SX → Prop} {B : S → State → Prop} {BX : String → SX → State → Prop} {AX : Nat → Prop} (hr : vx_Run p l e R s m args below meth c H locs cells slots mc ms (F0 m pc ls st0) rest (va_Qd post B A1 a) (vx_X px BX AX) free) (hS : va_S A0 H0 H locs) (hA : ∀ q, q < H.size → A1 q → A0 q) (hf : ∀ q, free q → A0 q) (hAX : ∀ q, q < H.size → AX q → A0 q)
    (kx : ∀ (E : String) (ce : Cell) (q9 : Addr) (u : SX) (t : State) (H1 : Heap) (locs1 : List Loc), t.heap = H1 → s.vm.Alike t.vm → px u → BX E u t → H.size ≤ H1.size → (∀ q : Nat, q < H.size → ¬ AX q → H1[q]? = H[q]?) → va_S A0 H0 H1 locs1 → H1[q9]? = some ce → ce.vm = .none → s.vm.findClass E = some ce.cls → vx_W p l e R s m args below meth c H1 locs1 (cells + mc) (slots + ms) Q (F0 m pc ls rest) q9)
    (kk : ∀ (r : UInt64) (u : S) (t : State) (H1 : Heap) (locs1 : List Loc), t.heap = H1 → s.vm.Alike t.vm → post r u → B u t → H.size ≤ H1.size → (∀ q : Nat, q < H.size → ¬ A1 q → H1[q]? = H[q]?) → va_S A0 H0 H1 locs1 → W p l e R s m args below meth c H1 locs1 (cells + mc) (slots + ms) Q (F0 m (pc + 3) ls (.double r :: rest))) : W p l e R s m args below meth c H locs cells slots Q (F0 m pc ls st0) := by
  intro T hT X
  rcases hr T hT X with ⟨v, st₀, t, T', L, h0, X', hL, e1, e2, ⟨⟨r, u, hv, hp, hb⟩, hF⟩, st⟩ | ⟨q, st₀, t, T', L, E, ce, h0, X', hL, e1, e2, ⟨u, hp, hb, hF⟩, hce, hcv, hcl, st⟩
  · cases hv
    obtain ⟨k1, k2, k3⟩ := vx_keep h0 e1 hS hA hf hL hF
    obtain ⟨t2, a1, b1⟩ := kk r u t T'.heap (locs ++ L) e1.symm (by rw [← e2]; exact X'.warmed.alike) hp hb k1 k2 k3 T' rfl X'
    exact ⟨t2, st t2 a1, b1⟩
  · obtain ⟨k1, k2, k3⟩ := vx_keep h0 e1 hS hAX hf hL hF
    obtain ⟨t2, a1, b1⟩ := kx E ce q u t T'.heap (locs ++ L) e1.symm (by rw [← e2]; exact X'.warmed.alike) hp hb k1 k2 k3 (by rw [e1]; exact hce) hcv hcl T' rfl X'
    exact ⟨t2, st.trans a1, b1⟩
theorem vx_callv {S SX : Type} {post : S → Prop} {px : SX → Prop} {B : S → State → Prop} {BX : String → SX → State → Prop} {AX : Nat → Prop} (hr : vx_Run p l e R s m args below meth c H locs cells slots mc ms (F0 m pc ls st0) rest (va_Qv post B A1 a) (vx_X px BX AX) free) (hS : va_S A0 H0 H locs) (hA : ∀ q, q < H.size → A1 q → A0 q) (hf : ∀ q, free q → A0 q) (hAX : ∀ q, q < H.size → AX q → A0 q)
    (kx : ∀ (E : String) (ce : Cell) (q9 : Addr) (u : SX) (t : State) (H1 : Heap) (locs1 : List Loc), t.heap = H1 → s.vm.Alike t.vm → px u → BX E u t → H.size ≤ H1.size → (∀ q : Nat, q < H.size → ¬ AX q → H1[q]? = H[q]?) → va_S A0 H0 H1 locs1 → H1[q9]? = some ce → ce.vm = .none → s.vm.findClass E = some ce.cls → vx_W p l e R s m args below meth c H1 locs1 (cells + mc) (slots + ms) Q (F0 m pc ls rest) q9)
    (kk : ∀ (u : S) (t : State) (H1 : Heap) (locs1 : List Loc), t.heap = H1 → s.vm.Alike t.vm → post u → B u t → H.size ≤ H1.size → (∀ q : Nat, q < H.size → ¬ A1 q → H1[q]? = H[q]?) → va_S A0 H0 H1 locs1 → W p l e R s m args below meth c H1 locs1 (cells + mc) (slots + ms) Q (F0 m (pc + 3) ls (rest))) : W p l e R s m args below meth c H locs cells slots Q (F0 m pc ls st0) := by
  intro T hT X
  rcases hr T hT X with ⟨v, st₀, t, T', L, h0, X', hL, e1, e2, ⟨⟨u, hv, hp, hb⟩, hF⟩, st⟩ | ⟨q, st₀, t, T', L, E, ce, h0, X', hL, e1, e2, ⟨u, hp, hb, hF⟩, hce, hcv, hcl, st⟩
  · cases hv
    obtain ⟨k1, k2, k3⟩ := vx_keep h0 e1 hS hA hf hL hF
    obtain ⟨t2, a1, b1⟩ := kk u t T'.heap (locs ++ L) e1.symm (by rw [← e2]; exact X'.warmed.alike) hp hb k1 k2 k3 T' rfl X'
    exact ⟨t2, st t2 a1, b1⟩
  · obtain ⟨k1, k2, k3⟩ := vx_keep h0 e1 hS hAX hf hL hF
    obtain ⟨t2, a1, b1⟩ := kx E ce q u t T'.heap (locs ++ L) e1.symm (by rw [← e2]; exact X'.warmed.alike) hp hb k1 k2 k3 (by rw [e1]; exact hce) hcv hcl T' rfl X'
    exact ⟨t2, st.trans a1, b1⟩
/-- caught by the row x of this method's table; the rows ahead don't take it -/
theorem vx_catch {own name : String} {E : String} {ce : Cell} {q : Addr} (hown : s.vm.findClass own = some m.cls) (pre : List ExceptionTableEntry) (x : ExceptionTableEntry) (suf : List ExceptionTableEntry) (hsplit : c.exceptionTable.toList = pre ++ x :: suf)
    (hpass : ∀ z ∈ pre, covers z pc = false ∨ (z.catchType ≠ 0 ∧ ∃ nm : String, (Cond.classLink own z.catchType nm).before args s = true ∧ va_Nc E nm s)) (hx : covers x pc = true) (h0 : x.catchType ≠ 0)
    (hlink : (Cond.classLink own x.catchType name).before args s = true) (hcast : (Cond.castable E name).before args s = true) (hcell : H[q]? = some ce) (hv : ce.vm = .none) (hcl : s.vm.findClass E = some ce.cls)
    (kk : W p l e R s m args below meth c H locs cells slots Q (F0 m x.handlerPc ls [.ref q])) : vx_W p l e R s m args below meth c H locs cells slots Q (F0 m pc ls rest) q := by
  intro T hT X
  have hpl : e.platform.magicAccessors = ({} : Platform).magicAccessors := by rw [X.admits.platform]
  obtain ⟨c3, c4, hc3, hc4, hasg⟩ := Cond.castable_spec hcast
  cases Option.some.inj (hc3.symm.trans hcl)
  obtain ⟨c5, hc5, hcl5⟩ := Cond.classLink_spec hown hlink e.platform hpl
  cases Option.some.inj (hc4.symm.trans hc5)
  obtain ⟨vm', X', st⟩ := X.thenCaughtThrough q (g := F0 m pc ls rest) rfl (Steps.refl _) (by rw [hT]; exact hcell) (by rw [hv]; rfl) (by obtain ⟨k9, h9, -⟩ := Vm.findClass_spec hcl; exact ⟨k9, h9⟩) pre x suf hsplit
    (fun z hz => by
      rcases hpass z hz with h | ⟨hz0, nm, hl1, hn1⟩
      · exact Or.inl h
      · obtain ⟨c6, hc6, hcl6⟩ := Cond.classLink_spec hown hl1 e.platform hpl
        obtain ⟨a8, b8, h1, h2, h3⟩ := hn1
        cases Option.some.inj (h1.symm.trans hcl)
        cases Option.some.inj (h2.symm.trans hc6)
        exact Or.inr ⟨hz0, _, hcl6, h3⟩) hx (Or.inr ⟨h0, c4, hcl5, hasg⟩)
  obtain ⟨t, a1, b1⟩ := kk (T.setVm vm') hT X'
  exact ⟨t, st.trans a1, b1⟩
end Rows
section Ends
variable {p : Program} {l : Launch} {e : Env} {R : Room} {s : State} {m : MethodId} {args : Array Value} {below : List Frame} {meth : Method} {c : Code} {H : Heap} {locs : List Loc} {cells slots : Nat} {Q : State → Prop}
variable {mc ms : Nat} {free : Addr → Prop} {A0 A1 : Nat → Prop} {H0 : Heap} {a : Array Value} {ls : Array Slot} {st0 rest : List Value}
variable {Qc : Array Value → State → Outcome → State → Prop} {XC : String → State → State → Prop}
/-- what a body that may throw owes at its end -/
def vx_MQ (below : List Frame) (Qc : Array Value → State → Outcome → State → Prop) (XC : String → State → State → Prop) (a : Array Value) (s : State) (mc ms : Nat) (free : Addr → Prop) : State → Prop := fun t =>
  ∃ o, t.status = .running ∧ Ended t below o ∧ vx_Q Qc XC mc ms free a s o t
theorem vx_ret {g : JFrame} {mc ms : Nat} (k : W p l e R s m args below meth c H locs cells slots (MQ below Qc args s mc ms free) g) : W p l e R s m args below meth c H locs cells slots (vx_MQ below Qc XC args s mc ms free) g := by
  intro T hT X
  obtain ⟨t, a1, o, b1, b2, b3, b4⟩ := k T hT X
  exact ⟨t, a1, o, b1, b2, Or.inl ⟨b3, b4⟩⟩
/-- not caught here: it goes on to the caller -/
theorem vx_widen {g : JFrame} {q : Addr} {k n : Nat} (h1 : cells ≤ k) (h2 : slots ≤ n) (kk : vx_W p l e R s m args below meth c H locs k n Q g q) : vx_W p l e R s m args below meth c H locs cells slots Q g q := fun T hT X => kk T hT (stand_widen X h1 h2)
theorem vx_out {pc : Nat} {E : String} {ce : Cell} {q : Addr} {mc ms : Nat} (hout : ∀ x ∈ c.exceptionTable.toList, covers x pc = false) (hlocks : meth.locks = false) (hcell : H[q]? = some ce) (hv : ce.vm = .none) (hcl : s.vm.findClass E = some ce.cls)
    (hx : ∀ t : State, t.heap = H → s.vm.Alike t.vm → XC E s t) (hf : ∀ z ∈ locs, free z.base) (hc : cells ≤ mc) (hs : slots ≤ ms) :
    vx_W p l e R s m args below meth c H locs cells slots (vx_MQ below Qc XC args s mc ms free) (F0 m pc ls rest) q := by
  intro T hT X
  obtain ⟨st1, hrun, hend, hW, hsm⟩ := X.leaveThrown q (g := F0 m pc ls rest) rfl rfl rfl hout hlocks
  have hcell9 : (T.setFrames (.throwing q :: below)).heap[q]? = some ce := by
    show T.heap[q]? = some ce
    rw [hT]; exact hcell
  exact ⟨_, st1, .threw q, hrun, hend, Or.inr ⟨q, rfl, E, ce, locs, hx _ hT hW.alike, hcell9, hv, hcl, hW, hsm.mono hc hs, hf⟩⟩
theorem vx_frame {U : State} {k n : Nat} (h : s.sameButNew ({ U with vm := s.vm } : State) locs k n) : s.heap.size ≤ U.heap.size ∧ ∀ q : Nat, q < s.heap.size → (∀ z ∈ locs, z.base ≠ q) → U.heap[q]? = s.heap[q]? := by
  obtain ⟨-, h2, -, -, -, h6⟩ := h
  refine ⟨h2, fun q hq hz => ?_⟩
  obtain ⟨c9, e1, e2, e3, e4⟩ := h6 q _ (Array.getElem?_eq_getElem hq)
  have hs : c9.slots = (s.heap[q]).slots := Array.ext_getElem? fun i => e4 i fun hm => hz _ hm rfl
  have h9 : c9 = s.heap[q] := by
    rw [hs] at e2
    exact e2
  have e5 : U.heap[q]? = some c9 := e1
  rw [e5, h9, Array.getElem?_eq_getElem hq]
/-- the words of a throw but the four that speak of the heap -/
def vx_no (w : Cond) : Bool := decide (w ≠ .isRef (.static Bundle.tN "UNASSIGNED_STACK" Bundle.steD)) && decide (w ≠ .isRef (.static Bundle.tN "SUPPRESSED_SENTINEL" Bundle.listD)) && decide (w ≠ .laysStatic Bundle.tN "UNASSIGNED_STACK" Bundle.steD) && decide (w ≠ .laysStatic Bundle.tN "SUPPRESSED_SENTINEL" Bundle.listD)
def vx_at0 (own : String) (ic : Nat) (X : String) (names : List String) : List Cond := (Bundle.ownAtoms0 own ic X names).filter vx_no
def vx_atS (own : String) (ic : Nat) (X : String) (names : List String) : List Cond := (Bundle.ownAtoms own ic X names).filter vx_no
/-- a word that the tables alone decide, or a good one -/
def vx_ot (w : Cond) : Bool := w.onTables || goodWord w
theorem vx_ot_at {args a' : Array Value} {s U : State} {w : Cond} (hW : s.WarmedH U.vm) (hvm : s.vm = U.vm) (hg : vx_ot w = true) (h : w.before args s = true) : w.before a' U = true := by
  simp only [vx_ot, Bool.or_eq_true] at hg
  rcases hg with hg | hg
  · exact va_tabs hg hvm h
  · exact word_at hW (good_of_word hg) h
/-- a list's words: the good ones out of the method's own list, the others by premises of their own -/
theorem vx_hat {args : Array Value} {s : State} {L B : List Cond} (h1 : ∀ w ∈ L.filter goodWord, w.before args s = true) (h2 : ∀ w ∈ L.filter (fun w => !goodWord w), w ∈ B) (h3 : ∀ w ∈ B, w.before args s = true) : ∀ w ∈ L, w.before args s = true := by
  intro w hw
  by_cases g : goodWord w = true
  · exact h1 w (List.mem_filter.mpr ⟨hw, g⟩)
  · refine h3 w (h2 w (List.mem_filter.mpr ⟨hw, ?_⟩))
    show (!goodWord w) = true
    cases hgw : goodWord w
    · rfl
    · exact absurd hgw g
theorem vx_c {args : Array Value} {s : State} {w : Cond} {B : List Cond} (h : w.before args s = true) (t : ∀ w ∈ B, w.before args s = true) : ∀ w' ∈ w :: B, w'.before args s = true := fun w' h' => (List.mem_cons.mp h').elim (fun e => by rw [e]; exact h) (t w')
theorem vx_n {args : Array Value} {s : State} : ∀ w ∈ ([] : List Cond), w.before args s = true := fun _ h => nomatch h
theorem vx_own {args : Array Value} {s : State} {L : List Cond} (h1 : ∀ w ∈ L.filter vx_no, w.before args s = true)
    (hU : (Cond.isRef (.static Bundle.tN "UNASSIGNED_STACK" Bundle.steD)).before args s = true) (hN : (Cond.isRef (.static Bundle.tN "SUPPRESSED_SENTINEL" Bundle.listD)).before args s = true)
    (lU : (Cond.laysStatic Bundle.tN "UNASSIGNED_STACK" Bundle.steD).before args s = true) (lN : (Cond.laysStatic Bundle.tN "SUPPRESSED_SENTINEL" Bundle.listD).before args s = true) : ∀ w ∈ L, w.before args s = true := by
  intro w hw
  by_cases e1 : w = .isRef (.static Bundle.tN "UNASSIGNED_STACK" Bundle.steD)
  · rw [e1]; exact hU
  · by_cases e2 : w = .isRef (.static Bundle.tN "SUPPRESSED_SENTINEL" Bundle.listD)
    · rw [e2]; exact hN
    · by_cases e3 : w = .laysStatic Bundle.tN "UNASSIGNED_STACK" Bundle.steD
      · rw [e3]; exact lU
      · by_cases e4 : w = .laysStatic Bundle.tN "SUPPRESSED_SENTINEL" Bundle.listD
        · rw [e4]; exact lN
        · exact h1 w (List.mem_filter.mpr ⟨hw, by unfold vx_no; rw [decide_eq_true e1, decide_eq_true e2, decide_eq_true e3, decide_eq_true e4]; rfl⟩)
/-- where a static field lies, its class's statics cell in H -/
def vx_L (C n d : String) (A : Nat → Prop) (U : State) (H : Heap) : Prop := ∃ (c : ClassId) (k : Class) (i : Nat) (f : Field) (a : Nat) (cell : Cell), U.vm.findClass C = some c ∧ U.fieldFound? C n d = some (c, k, i, f) ∧ f.isStatic = true ∧ k.statics = some a ∧ H[a]? = some cell ∧ cell.vm.isStatics = true ∧ cell.cls = c ∧ f.slot < cell.slots.size ∧ k.staticTypes[f.slot]? = some f.type ∧ ¬ A a
theorem vx_L.moved {C n d : String} {A : Nat → Prop} {u U : State} {H : Heap} (hvm : u.vm.Alike U.vm) (h : vx_L C n d A u H) : vx_L C n d A U H := by
  obtain ⟨c, k, i, f, a, cell, h1, h2, h3, h4, h5, h6, h7, h8, h9, h10⟩ := h
  obtain ⟨k', hi', he⟩ := State.fieldFound?_setVm hvm h2
  exact ⟨c, k', i, f, a, cell, by rw [hvm.findClass]; exact h1, hi', h3, by rw [he]; exact h4, h5, h6, h7, h8, by rw [he]; exact h9, h10⟩
theorem vx_L.kept {C n d : String} {A : Nat → Prop} {U : State} {H H1 : Heap} (h : vx_L C n d A U H) (hq : ∀ a : Nat, a < H.size → ¬ A a → H1[a]? = H[a]?) : vx_L C n d A U H1 := by
  obtain ⟨c, k, i, f, a, cell, h1, h2, h3, h4, h5, h6, h7, h8, h9, h10⟩ := h
  exact ⟨c, k, i, f, a, cell, h1, h2, h3, h4, by rw [hq a (Array.getElem?_eq_some_iff.mp h5).1 h10]; exact h5, h6, h7, h8, h9, h10⟩
theorem vx_L.narrow {C n d : String} {A B : Nat → Prop} {U : State} {H : Heap} (h : vx_L C n d A U H) (hAB : ∀ q, B q → A q) : vx_L C n d B U H := by
  obtain ⟨c, k, i, f, a, cell, h1, h2, h3, h4, h5, h6, h7, h8, h9, h10⟩ := h
  exact ⟨c, k, i, f, a, cell, h1, h2, h3, h4, h5, h6, h7, h8, h9, fun z => h10 (hAB _ z)⟩
theorem vx_L.word {C n d : String} {A : Nat → Prop} {s : State} {args : Array Value} (h : vx_L C n d A s s.heap) : (Cond.laysStatic C n d).before args s = true := by
  obtain ⟨c, k, i, f, a, cell, h1, h2, h3, h4, h5, h6, h7, h8, h9, -⟩ := h
  show (Cond.laysStatic C n d).holds args s none s [] = true
  exact Cond.laysStatic_of h1 h2 h3 h4 h5 h6 h7 h8 h9
/-- .. and what it holds: null or some reference -/
def vx_Zq (C n d : String) (A : Nat → Prop) (U : State) (H : Heap) : Prop := va_Zq C n d A U H ∧ vx_L C n d A U H
theorem vx_Zq.moved {C n d : String} {A : Nat → Prop} {u U : State} {H : Heap} (hvm : u.vm.Alike U.vm) (h : vx_Zq C n d A u H) : vx_Zq C n d A U H := ⟨va_Zq.moved hvm h.1, vx_L.moved hvm h.2⟩
theorem vx_Zq.kept {C n d : String} {A : Nat → Prop} {U : State} {H H1 : Heap} (h : vx_Zq C n d A U H) (hq : ∀ a : Nat, a < H.size → ¬ A a → H1[a]? = H[a]?) : vx_Zq C n d A U H1 := ⟨va_Zq.kept h.1 hq, vx_L.kept h.2 hq⟩
theorem vx_Zq.narrow {C n d : String} {A B : Nat → Prop} {U : State} {H : Heap} (h : vx_Zq C n d A U H) (hAB : ∀ q, B q → A q) : vx_Zq C n d B U H := ⟨va_Zq.narrow h.1 hAB, vx_L.narrow h.2 hAB⟩
theorem vx_Zqof {args : Array Value} {s : State} {C n d : String} {A : Nat → Prop} (hl : (Cond.laysStatic C n d).before args s = true) (hini : (Cond.initialized C).before args s = true) (h : (Cond.isRef (.static C n d)).before args s = true) (hA : ∀ a : Nat, a < s.heap.size → ¬ A a) : vx_Zq C n d A s s.heap := by
  refine ⟨va_Zqof hl hini h hA, ?_⟩
  obtain ⟨c, k, i, f, a, cell, h1, h2, h3, h4, h5, h6, h7, h8, h9⟩ := Cond.laysStatic_spec hl
  exact ⟨c, k, i, f, a, cell, h1, h2, h3, h4, h5, h6, h7, h8, h9, hA a (Array.getElem?_eq_some_iff.mp h5).1⟩
theorem vx_isRef {C n d : String} {v : Value} {A : Nat → Prop} {s : State} {args : Array Value} (h : va_Z C n d v A s s.heap) (hv : v.isRef = true) : (Cond.isRef (.static C n d)).before args s = true := by
  obtain ⟨cf, kf, fi, f, a, cell, h1, h2, h3, h4, h5, h6, h7, -⟩ := h
  have he : (Term.static C n d).eval args s none [] s = some v := by
    simp [Term.eval, State.fieldNamed?, h1, h2, h4, h5, h6, h7]
  simp only [Cond.before, Cond.holds, Cond.value, he]
  cases v <;> simp_all [Value.isRef]
theorem vx_isRefq {C n d : String} {A : Nat → Prop} {s : State} {args : Array Value} (h : va_Zq C n d A s s.heap) : (Cond.isRef (.static C n d)).before args s = true := by
  rcases h with h | ⟨t, h⟩
  · exact vx_isRef h rfl
  · exact vx_isRef h rfl
/-- the same frame, seen from here: as if the method were called anew in this heap -/
theorem vx_rebase {T : State} (X : Stand p l e R s m args below meth c T locs cells slots) {R' : Room} (hf : R'.frames ≤ R.frames) (hl : R'.locals ≤ R.locals) (hc : cells + R'.cells ≤ R.cells) (hs : slots + R'.slots ≤ R.slots) :
    Stand p l e R' ((T.setVm s.vm).setFrames (.invoking m args :: below)) m args below meth c T [] 0 0 := by
  have htop : (T.setVm s.vm).topJava?.isSome := X.here.top
  have hF : ((T.setVm s.vm).setFrames (.invoking m args :: below)).frames = .invoking m args :: below := State.frames_setFrames _ (State.cur_lt_of_top htop)
  obtain ⟨g₀, hg0⟩ := Option.isSome_iff_exists.mp htop
  obtain ⟨r, hr⟩ := State.topJava?_eq_some.mp hg0
  have hl9 : e.platform.stackLimits (T.setVm s.vm).me = e.platform.stackLimits s.me := X.limits
  have hb9 : (T.setVm s.vm).me.stackBytes = s.me.stackBytes := X.bytes
  refine ⟨X.admits, X.cas, X.clock, hF, ?_, X.hears, X.method, X.code, X.here, X.tail, X.warmed, ?_, ?_, ?_⟩
  · have h := X.room
    have hU : ((T.setVm s.vm).setFrames (.invoking m args :: below)).localsInUse = s.localsInUse := by
      rw [State.localsInUse_invoking hF (meth := meth) (c := c) X.method X.code, State.localsInUse_invoking X.frames X.method X.code]
    simp only [State.hasRoom, Bool.and_eq_true, decide_eq_true_eq] at h ⊢
    obtain ⟨⟨⟨⟨h1, h2, h3, h4, h5, h6⟩, h7⟩, h8⟩, h9⟩ := h
    rw [X.frames, List.length_cons] at h2 h3
    have q1 := X.heapSize
    have q2 := X.used
    simp only [hF, hU, List.length_cons, State.stackLimits_setFrames, State.stackBytes_setFrames, hl9, hb9]
    refine ⟨⟨⟨⟨by omega, by omega, by omega, by omega, by omega, h6⟩, ?_⟩, ?_⟩, X.book⟩
    · show T.heap.size + R'.cells ≤ e.platform.maxCells
      omega
    · show T.slotsUsed + R'.slots ≤ e.platform.maxSlots
      omega
  · rw [State.stackLimits_setFrames]; rfl
  · rw [State.stackBytes_setFrames]; rfl
  · refine ⟨?_, Nat.le_refl _, Nat.le_refl _, ?_, ?_, fun a c9 h9 => ⟨c9, h9, rfl, rfl, fun _ _ => rfl⟩⟩
    · obtain ⟨t, ht, -⟩ := State.frames_cons hr
      show T.setVm s.vm = { ((T.setVm s.vm).setFrames (.invoking m args :: below)).setFrames (T.setVm s.vm).frames with heap := T.heap, slotsUsed := T.slotsUsed }
      rw [State.setFrames_setFrames, State.setFrames_self ht]
      rfl
    · show T.slotsUsed = T.slotsUsed + ((T.heap.toList.drop T.heap.size).map (·.slots.size)).sum
      rw [List.drop_eq_nil_of_le (Nat.le_of_eq Array.length_toList)]
      rfl
    · show ((T.heap.toList.drop T.heap.size).map (·.slots.size)).sum ≤ 0
      rw [List.drop_eq_nil_of_le (Nat.le_of_eq Array.length_toList)]
      exact Nat.le_refl _
/-- 'throw new E()': new; dup; invokespecial; athrow -/
theorem vx_throw0 {cc : ByteArray} {pc : Nat} (hexec : p.tables.exec = Jvm.exec) (hb : c.code = cc) (hl : l.stackTraces = false) {own cls : String} {names : List String} {ik ic mc ms : Nat} {A : Nat → Prop}
    (hown : s.vm.findClass own = some m.cls) (hcls : Bundle.fit cls = true) (hnames : ∀ n ∈ names, Bundle.fit n = true)
    (hk : (Cond.classLink own ik cls).before args s = true) (hini : (Cond.initialized cls).before args s = true) (hat : ∀ w ∈ vx_at0 own ic cls names, w.before args s = true)
    (hgood : ∀ w ∈ Cond.classLink own ik cls :: Cond.initialized cls :: vx_at0 own ic cls names, vx_ot w = true)
    (hU : vx_Zq Bundle.tN "UNASSIGNED_STACK" Bundle.steD A s s.heap) (hN : vx_Zq Bundle.tN "SUPPRESSED_SENTINEL" Bundle.listD A s s.heap) (hS : va_S A s.heap H locs) (hsize : ls.size = c.maxLocals)
    (d0 : decode cc pc = .ok (.new ik, 3)) (d3 : decode cc (pc + 3) = .ok (.dup, 1)) (d4 : decode cc (pc + 4) = .ok (.invokespecial ic, 3)) (d7 : decode cc (pc + 7) = .ok (.athrow, 1))
    (hout : ∀ x ∈ c.exceptionTable.toList, covers x (pc + 7) = false)
    (hRframes : names.length + 3 < R.frames) (hRlocals : (rest.map fun v => v.category).sum + (13 * (names.length + 1) + 42) ≤ R.locals) (hRcells : cells + 1 ≤ R.cells) (hRslots : slots + 6 ≤ R.slots) (hlocks : meth.locks = false)
    (hx : ∀ t : State, s.vm.Alike t.vm → H.size ≤ t.heap.size → (∀ q : Nat, q < H.size → t.heap[q]? = H[q]?) → XC cls s t)
    (hf : ∀ z ∈ locs, free z.base) (hc : cells + 1 ≤ mc) (hs : slots + 6 ≤ ms) :
    W p l e R s m args below meth c H locs cells slots (vx_MQ below Qc XC args s mc ms free) (F0 m pc ls rest) := by
  intro T hT X
  have htr : e.platform.stackTraces = false := (show e.platform.stackTraces = l.stackTraces by rw [X.admits.platform]).trans hl
  have Y := vx_rebase X (R' := { frames := R.frames, locals := R.locals, cells := 1, slots := 6 }) (Nat.le_refl _) (Nat.le_refl _) hRcells hRslots
  obtain ⟨s', hA⟩ : ∃ z, z = (T.setVm s.vm).setFrames (.invoking m args :: below) := ⟨_, rfl⟩
  rw [← hA] at Y
  have hvm : s'.vm = s.vm := by rw [hA]; rfl
  have hhp : s'.heap = H := by rw [hA]; exact hT
  have hW0 : s.WarmedH s'.vm := by rw [hvm]; exact State.WarmedH.refl s
  have hat' : ∀ w ∈ vx_at0 own ic cls names, w.before args s' = true := fun w hw => vx_ot_at hW0 hvm.symm (hgood w (List.mem_cons_of_mem _ (List.mem_cons_of_mem _ hw))) (hat w hw)
  have hk' : (Cond.classLink own ik cls).before args s' = true := vx_ot_at hW0 hvm.symm (hgood _ List.mem_cons_self) hk
  have hini' : (Cond.initialized cls).before args s' = true := vx_ot_at hW0 hvm.symm (hgood _ (List.mem_cons_of_mem _ List.mem_cons_self)) hini
  have hU' : vx_Zq Bundle.tN "UNASSIGNED_STACK" Bundle.steD A s' s'.heap := by rw [hhp]; exact vx_Zq.moved hW0.alike (hU.kept hS.2.1)
  have hN' : vx_Zq Bundle.tN "SUPPRESSED_SENTINEL" Bundle.listD A s' s'.heap := by rw [hhp]; exact vx_Zq.moved hW0.alike (hN.kept hS.2.1)
  have h : ∀ w ∈ Bundle.ownAtoms0 own ic cls names, w.before args s' = true := vx_own hat' (vx_isRefq hU'.1) (vx_isRefq hN'.1) hU'.2.word hN'.2.word
  have hown' : s'.vm.findClass own = some m.cls := by rw [hvm]; exact hown
  have hins : (Cond.instantiable cls 6).before args s' = true := h _ (by simp [Bundle.ownAtoms0])
  obtain ⟨vm₁, cX, kX, hfX, hkX, -, -, X₁, st1⟩ := Y.newCold hexec (own := own) (C := cls) (index := ik) (n := 6) hown' hk' hins hini'
    (g := F0 m pc ls rest) rfl (by rw [hb]; exact d0) (Nat.le_refl _) (Nat.le_refl _)
  generalize hT1 : (T.setVm vm₁).pushCell { cls := cX, slots := kX.instanceTypes.map defaultValue, vm := .none } = T1 at X₁ st1
  have hcat : (Value.ref T.heap.size).category = 1 := rfl
  have hcellA : T1.heap[T.heap.size]? = some (freshCell cX kX) := by rw [← hT1]; exact State.heap_pushCell_size _ _
  have d3' : decode c.code (pc + 3) = .ok (.dup, 1) := by rw [hb]; exact d3
  obtain ⟨U, hsteps, hrun, hend, hW, hsame, ce, hce, hO⟩ := X₁.ctorThrow0 hexec htr (own := own) (cls := cls) (names := names) (ic := ic) hown' hcls hnames h (fun x hx => nomatch hx) hfX hkX hcellA (by rw [hhp, hT]; exact Nat.le_refl _)
    (g := { method := m, pc := pc + 4, locals := ls, stack := .ref T.heap.size :: .ref T.heap.size :: rest, locked := none }) rfl hsize rfl rfl (rest := rest) rfl
    (by rw [hb]; exact d4) (by rw [hb]; exact d7) hout hRframes (by simp only [List.map_cons, List.sum_cons, hcat]; omega) hlocks
  obtain ⟨f1, f2⟩ := vx_frame hsame
  rw [hhp] at f1 f2
  have hWs : s.WarmedH U.vm := State.WarmedH.trans hW0 hW
  have hcl : s.vm.findClass cls = some ce.cls := by
    have h9 := hO.cls
    rw [hvm] at h9
    exact h9
  have hall : s.sameButNew ({ U with vm := s.vm } : State) locs mc ms := by
    subst hA
    obtain ⟨e1, e2⟩ := hsame
    rw [State.setFrames_setFrames] at e1
    have h2 : (T.setVm s.vm).sameButNew ({ U with vm := s.vm } : State) [] (0 + 1) (0 + 6) := ⟨e1, e2⟩
    have h3 := X.same.trans h2
    rw [List.append_nil] at h3
    exact h3.mono hc hs
  refine ⟨U, ?_, .threw T.heap.size, hrun, hend, Or.inr ⟨T.heap.size, rfl, cls, ce, locs, hx U hWs.alike f1 (fun q hq => f2 q hq (fun z hz => nomatch hz)), hce, hO.vm, hcl, hWs, hall, hf⟩⟩
  refine st1 _ ?_
  show Steps p.tables e below (T1.setTop { method := m, pc := pc + 3, locals := ls, stack := .ref T.heap.size :: rest, locked := none }) _
  jvm_step X₁.here [X₁.here.top, hexec, d3', Value.category]
  exact hsteps
/-- 'throw new E("text")': new; dup; ldc; invokespecial; athrow -/
theorem vx_throwS {cc : ByteArray} {pc : Nat} (hexec : p.tables.exec = Jvm.exec) (hb : c.code = cc) (hl : l.stackTraces = false) {own cls text : String} {names : List String} {ik is ic mc ms sa : Nat} {A : Nat → Prop}
    (hown : s.vm.findClass own = some m.cls) (hcls : Bundle.fit cls = true) (hnames : ∀ n ∈ names, Bundle.fit n = true)
    (hk : (Cond.classLink own ik cls).before args s = true) (hini : (Cond.initialized cls).before args s = true) (hstr : vk_R own is text sa s) (hat : ∀ w ∈ vx_atS own ic cls names, w.before args s = true)
    (hgood : ∀ w ∈ Cond.classLink own ik cls :: Cond.initialized cls :: vx_atS own ic cls names, vx_ot w = true)
    (hU : vx_Zq Bundle.tN "UNASSIGNED_STACK" Bundle.steD A s s.heap) (hN : vx_Zq Bundle.tN "SUPPRESSED_SENTINEL" Bundle.listD A s s.heap) (hS : va_S A s.heap H locs) (hsize : ls.size = c.maxLocals)
    (d0 : decode cc pc = .ok (.new ik, 3)) (d3 : decode cc (pc + 3) = .ok (.dup, 1)) (d4 : decode cc (pc + 4) = .ok (.ldc is, 2)) (d6 : decode cc (pc + 6) = .ok (.invokespecial ic, 3)) (d9 : decode cc (pc + 9) = .ok (.athrow, 1))
    (hout : ∀ x ∈ c.exceptionTable.toList, covers x (pc + 9) = false)
    (hRframes : names.length + 3 < R.frames) (hRlocals : (rest.map fun v => v.category).sum + (13 * (names.length + 1) + 43) ≤ R.locals) (hRcells : cells + 1 ≤ R.cells) (hRslots : slots + 6 ≤ R.slots) (hlocks : meth.locks = false)
    (hx : ∀ t : State, s.vm.Alike t.vm → H.size ≤ t.heap.size → (∀ q : Nat, q < H.size → t.heap[q]? = H[q]?) → XC cls s t)
    (hf : ∀ z ∈ locs, free z.base) (hc : cells + 1 ≤ mc) (hs : slots + 6 ≤ ms) :
    W p l e R s m args below meth c H locs cells slots (vx_MQ below Qc XC args s mc ms free) (F0 m pc ls rest) := by
  intro T hT X
  have htr : e.platform.stackTraces = false := (show e.platform.stackTraces = l.stackTraces by rw [X.admits.platform]).trans hl
  have Y := vx_rebase X (R' := { frames := R.frames, locals := R.locals, cells := 1, slots := 6 }) (Nat.le_refl _) (Nat.le_refl _) hRcells hRslots
  obtain ⟨s', hA⟩ : ∃ z, z = (T.setVm s.vm).setFrames (.invoking m args :: below) := ⟨_, rfl⟩
  rw [← hA] at Y
  have hvm : s'.vm = s.vm := by rw [hA]; rfl
  have hhp : s'.heap = H := by rw [hA]; exact hT
  have hW0 : s.WarmedH s'.vm := by rw [hvm]; exact State.WarmedH.refl s
  have hat' : ∀ w ∈ vx_atS own ic cls names, w.before args s' = true := fun w hw => vx_ot_at hW0 hvm.symm (hgood w (List.mem_cons_of_mem _ (List.mem_cons_of_mem _ hw))) (hat w hw)
  have hk' : (Cond.classLink own ik cls).before args s' = true := vx_ot_at hW0 hvm.symm (hgood _ List.mem_cons_self) hk
  have hini' : (Cond.initialized cls).before args s' = true := vx_ot_at hW0 hvm.symm (hgood _ (List.mem_cons_of_mem _ List.mem_cons_self)) hini
  have hU' : vx_Zq Bundle.tN "UNASSIGNED_STACK" Bundle.steD A s' s'.heap := by rw [hhp]; exact vx_Zq.moved hW0.alike (hU.kept hS.2.1)
  have hN' : vx_Zq Bundle.tN "SUPPRESSED_SENTINEL" Bundle.listD A s' s'.heap := by rw [hhp]; exact vx_Zq.moved hW0.alike (hN.kept hS.2.1)
  have h : ∀ w ∈ Bundle.ownAtoms own ic cls names, w.before args s' = true := vx_own hat' (vx_isRefq hU'.1) (vx_isRefq hN'.1) hU'.2.word hN'.2.word
  have hown' : s'.vm.findClass own = some m.cls := by rw [hvm]; exact hown
  have hins : (Cond.instantiable cls 6).before args s' = true := h _ (by simp [Bundle.ownAtoms])
  obtain ⟨vm₁, cX, kX, hfX, hkX, -, -, X₁, st1⟩ := Y.newCold hexec (own := own) (C := cls) (index := ik) (n := 6) hown' hk' hins hini'
    (g := F0 m pc ls rest) rfl (by rw [hb]; exact d0) (Nat.le_refl _) (Nat.le_refl _)
  generalize hT1 : (T.setVm vm₁).pushCell { cls := cX, slots := kX.instanceTypes.map defaultValue, vm := .none } = T1 at X₁ st1
  have hcat : (Value.ref T.heap.size).category = 1 := rfl
  have hcellA : T1.heap[T.heap.size]? = some (freshCell cX kX) := by rw [← hT1]; exact State.heap_pushCell_size _ _
  have d3' : decode c.code (pc + 3) = .ok (.dup, 1) := by rw [hb]; exact d3
  have d4' : decode c.code (pc + 4) = .ok (.ldc is, 2) := by rw [hb]; exact d4
  have hstr' : vk_R own is text sa s' := vk_R.warm hW0 hstr
  obtain ⟨U, hsteps, hrun, hend, hW, hsame, ce, hce, hO⟩ := X₁.ctorThrowS hexec htr (own := own) (cls := cls) (names := names) (ic := ic) hown' hcls hnames h (fun x hx => nomatch hx) hfX hkX hcellA (by rw [hhp, hT]; exact Nat.le_refl _) (msg := .ref sa) rfl
    (g := { method := m, pc := pc + 6, locals := ls, stack := .ref sa :: .ref T.heap.size :: .ref T.heap.size :: rest, locked := none }) rfl hsize rfl rfl (rest := rest) rfl
    (by rw [hb]; exact d6) (by rw [hb]; exact d9) hout hRframes (by simp only [List.map_cons, List.sum_cons, hcat]; omega) hlocks
  obtain ⟨f1, f2⟩ := vx_frame hsame
  rw [hhp] at f1 f2
  have hWs : s.WarmedH U.vm := State.WarmedH.trans hW0 hW
  have hcl : s.vm.findClass cls = some ce.cls := by
    have h9 := hO.cls
    rw [hvm] at h9
    exact h9
  have hall : s.sameButNew ({ U with vm := s.vm } : State) locs mc ms := by
    subst hA
    obtain ⟨e1, e2⟩ := hsame
    rw [State.setFrames_setFrames] at e1
    have h2 : (T.setVm s.vm).sameButNew ({ U with vm := s.vm } : State) [] (0 + 1) (0 + 6) := ⟨e1, e2⟩
    have h3 := X.same.trans h2
    rw [List.append_nil] at h3
    exact h3.mono hc hs
  refine ⟨U, ?_, .threw T.heap.size, hrun, hend, Or.inr ⟨T.heap.size, rfl, cls, ce, locs, hx U hWs.alike f1 (fun q hq => f2 q hq (fun z hz => nomatch hz)), hce, hO.vm, hcl, hWs, hall, hf⟩⟩
  refine st1 _ ?_
  show Steps p.tables e below (T1.setTop { method := m, pc := pc + 3, locals := ls, stack := .ref T.heap.size :: rest, locked := none }) _
  jvm_step X₁.here [X₁.here.top, hexec, d3', Value.category]
  exact X₁.ldcString hexec (own := own) (text := text) (index := is) (a := sa) hown' hstr'.1 hstr'.2
    (g := { method := m, pc := pc + 4, locals := ls, stack := .ref T.heap.size :: .ref T.heap.size :: rest, locked := none }) rfl d4' _ hsteps
/-- 'throw new E("text")', the text by a wide index -/
theorem vx_throwSW {cc : ByteArray} {pc : Nat} (hexec : p.tables.exec = Jvm.exec) (hb : c.code = cc) (hl : l.stackTraces = false) {own cls text : String} {names : List String} {ik is ic mc ms sa : Nat} {A : Nat → Prop}
    (hown : s.vm.findClass own = some m.cls) (hcls : Bundle.fit cls = true) (hnames : ∀ n ∈ names, Bundle.fit n = true)
    (hk : (Cond.classLink own ik cls).before args s = true) (hini : (Cond.initialized cls).before args s = true) (hstr : vk_R own is text sa s) (hat : ∀ w ∈ vx_atS own ic cls names, w.before args s = true)
    (hgood : ∀ w ∈ Cond.classLink own ik cls :: Cond.initialized cls :: vx_atS own ic cls names, vx_ot w = true)
    (hU : vx_Zq Bundle.tN "UNASSIGNED_STACK" Bundle.steD A s s.heap) (hN : vx_Zq Bundle.tN "SUPPRESSED_SENTINEL" Bundle.listD A s s.heap) (hS : va_S A s.heap H locs) (hsize : ls.size = c.maxLocals)
    (d0 : decode cc pc = .ok (.new ik, 3)) (d3 : decode cc (pc + 3) = .ok (.dup, 1)) (d4 : decode cc (pc + 4) = .ok (.ldc_w is, 3)) (d7 : decode cc (pc + 7) = .ok (.invokespecial ic, 3)) (d10 : decode cc (pc + 10) = .ok (.athrow, 1))
    (hout : ∀ x ∈ c.exceptionTable.toList, covers x (pc + 10) = false)
    (hRframes : names.length + 3 < R.frames) (hRlocals : (rest.map fun v => v.category).sum + (13 * (names.length + 1) + 43) ≤ R.locals) (hRcells : cells + 1 ≤ R.cells) (hRslots : slots + 6 ≤ R.slots) (hlocks : meth.locks = false)
    (hx : ∀ t : State, s.vm.Alike t.vm → H.size ≤ t.heap.size → (∀ q : Nat, q < H.size → t.heap[q]? = H[q]?) → XC cls s t)
    (hf : ∀ z ∈ locs, free z.base) (hc : cells + 1 ≤ mc) (hs : slots + 6 ≤ ms) :
    W p l e R s m args below meth c H locs cells slots (vx_MQ below Qc XC args s mc ms free) (F0 m pc ls rest) := by
  intro T hT X
  have htr : e.platform.stackTraces = false := (show e.platform.stackTraces = l.stackTraces by rw [X.admits.platform]).trans hl
  have Y := vx_rebase X (R' := { frames := R.frames, locals := R.locals, cells := 1, slots := 6 }) (Nat.le_refl _) (Nat.le_refl _) hRcells hRslots
  obtain ⟨s', hA⟩ : ∃ z, z = (T.setVm s.vm).setFrames (.invoking m args :: below) := ⟨_, rfl⟩
  rw [← hA] at Y
  have hvm : s'.vm = s.vm := by rw [hA]; rfl
  have hhp : s'.heap = H := by rw [hA]; exact hT
  have hW0 : s.WarmedH s'.vm := by rw [hvm]; exact State.WarmedH.refl s
  have hat' : ∀ w ∈ vx_atS own ic cls names, w.before args s' = true := fun w hw => vx_ot_at hW0 hvm.symm (hgood w (List.mem_cons_of_mem _ (List.mem_cons_of_mem _ hw))) (hat w hw)
  have hk' : (Cond.classLink own ik cls).before args s' = true := vx_ot_at hW0 hvm.symm (hgood _ List.mem_cons_self) hk
  have hini' : (Cond.initialized cls).before args s' = true := vx_ot_at hW0 hvm.symm (hgood _ (List.mem_cons_of_mem _ List.mem_cons_self)) hini
  have hU' : vx_Zq Bundle.tN "UNASSIGNED_STACK" Bundle.steD A s' s'.heap := by rw [hhp]; exact vx_Zq.moved hW0.alike (hU.kept hS.2.1)
  have hN' : vx_Zq Bundle.tN "SUPPRESSED_SENTINEL" Bundle.listD A s' s'.heap := by rw [hhp]; exact vx_Zq.moved hW0.alike (hN.kept hS.2.1)
  have h : ∀ w ∈ Bundle.ownAtoms own ic cls names, w.before args s' = true := vx_own hat' (vx_isRefq hU'.1) (vx_isRefq hN'.1) hU'.2.word hN'.2.word
  have hown' : s'.vm.findClass own = some m.cls := by rw [hvm]; exact hown
  have hins : (Cond.instantiable cls 6).before args s' = true := h _ (by simp [Bundle.ownAtoms])
  obtain ⟨vm₁, cX, kX, hfX, hkX, -, -, X₁, st1⟩ := Y.newCold hexec (own := own) (C := cls) (index := ik) (n := 6) hown' hk' hins hini'
    (g := F0 m pc ls rest) rfl (by rw [hb]; exact d0) (Nat.le_refl _) (Nat.le_refl _)
  generalize hT1 : (T.setVm vm₁).pushCell { cls := cX, slots := kX.instanceTypes.map defaultValue, vm := .none } = T1 at X₁ st1
  have hcat : (Value.ref T.heap.size).category = 1 := rfl
  have hcellA : T1.heap[T.heap.size]? = some (freshCell cX kX) := by rw [← hT1]; exact State.heap_pushCell_size _ _
  have d3' : decode c.code (pc + 3) = .ok (.dup, 1) := by rw [hb]; exact d3
  have d4' : decode c.code (pc + 4) = .ok (.ldc_w is, 3) := by rw [hb]; exact d4
  have hstr' : vk_R own is text sa s' := vk_R.warm hW0 hstr
  obtain ⟨U, hsteps, hrun, hend, hW, hsame, ce, hce, hO⟩ := X₁.ctorThrowS hexec htr (own := own) (cls := cls) (names := names) (ic := ic) hown' hcls hnames h (fun x hx => nomatch hx) hfX hkX hcellA (by rw [hhp, hT]; exact Nat.le_refl _) (msg := .ref sa) rfl
    (g := { method := m, pc := pc + 7, locals := ls, stack := .ref sa :: .ref T.heap.size :: .ref T.heap.size :: rest, locked := none }) rfl hsize rfl rfl (rest := rest) rfl
    (by rw [hb]; exact d7) (by rw [hb]; exact d10) hout hRframes (by simp only [List.map_cons, List.sum_cons, hcat]; omega) hlocks
  obtain ⟨f1, f2⟩ := vx_frame hsame
  rw [hhp] at f1 f2
  have hWs : s.WarmedH U.vm := State.WarmedH.trans hW0 hW
  have hcl : s.vm.findClass cls = some ce.cls := by
    have h9 := hO.cls
    rw [hvm] at h9
    exact h9
  have hall : s.sameButNew ({ U with vm := s.vm } : State) locs mc ms := by
    subst hA
    obtain ⟨e1, e2⟩ := hsame
    rw [State.setFrames_setFrames] at e1
    have h2 : (T.setVm s.vm).sameButNew ({ U with vm := s.vm } : State) [] (0 + 1) (0 + 6) := ⟨e1, e2⟩
    have h3 := X.same.trans h2
    rw [List.append_nil] at h3
    exact h3.mono hc hs
  refine ⟨U, ?_, .threw T.heap.size, hrun, hend, Or.inr ⟨T.heap.size, rfl, cls, ce, locs, hx U hWs.alike f1 (fun q hq => f2 q hq (fun z hz => nomatch hz)), hce, hO.vm, hcl, hWs, hall, hf⟩⟩
  refine st1 _ ?_
  show Steps p.tables e below (T1.setTop { method := m, pc := pc + 3, locals := ls, stack := .ref T.heap.size :: rest, locked := none }) _
  jvm_step X₁.here [X₁.here.top, hexec, d3', Value.category]
  exact X₁.ldcStringW hexec (own := own) (text := text) (index := is) (a := sa) hown' hstr'.1 hstr'.2
    (g := { method := m, pc := pc + 4, locals := ls, stack := .ref T.heap.size :: .ref T.heap.size :: rest, locked := none }) rfl d4' _ hsteps
end Ends
section Bodies
variable {l : Launch}
theorem vx_ofW {y : MethodName} {ws ws' : List Cond} {rm : Room} {Pc : Array Value → State → Prop} {Qc : Array Value → State → Outcome → State → Prop} {XC : String → State → State → Prop} {mc ms : Nat} {free : Addr → Prop} {cc : ByteArray} {maxL : Nat} {ret : Option FieldType}
    (hy : plainName y.cls = true) (hw : ws = Cond.code y cc maxL ret :: ws')
    (body : ∀ p e s m args below meth c s₁, BodyLoose p l y (headSpec ws rm) cc maxL ret e s m args below meth c s₁ → c.maxLocals = maxL → (∀ x ∈ c.exceptionTable.toList, False) → Pc args s →
      W p l e (headSpec ws rm).room s m args below meth c s.heap [] 0 0 (vx_MQ below Qc XC args s mc ms free) (entryFrame m args maxL)) : vx_Met l y ws rm Pc Qc XC mc ms free := by
  refine MetFree.of_bodyS (code := cc) (maxLocals := maxL) (ret := ret) hy ?_ ?_
  · intro args s m h hn
    obtain ⟨meth, c, h1, h2, h3, h4, h5, h6, -, -⟩ := Cond.code_spec hn (atoms_spec (ws := ws) h _ (by rw [hw]; exact List.mem_cons_self))
    exact ⟨meth, c, h1, h2, h3, h4, h5, h6⟩
  · intro p e s m args below meth c s₁ B hml hP _
    have hh0 : s₁.heap = s.heap := by rw [B.state]; rfl
    have ht : ∀ x ∈ c.exceptionTable.toList, False := by
      obtain ⟨meth9, c9, h1, h2, -, -, -, -, h7, -⟩ := Cond.code_spec B.named (atoms_spec (ws := ws) B.pre _ (by rw [hw]; exact List.mem_cons_self))
      cases Option.some.inj (h1.symm.trans B.method)
      cases Option.some.inj (h2.symm.trans (Stand.of_body B).code)
      intro x hx
      rw [Array.isEmpty_iff.mp h7] at hx
      cases hx
    obtain ⟨t, a1, o, b1, b2, b3⟩ := body p e s m args below meth c s₁ B hml ht hP s₁ hh0 (Stand.of_body B)
    exact ⟨t, o, a1, b1, b2, b3⟩
/-- the table of a body with handlers -/
theorem vx_table {p : Program} {x y : MethodName} {S : Spec} {cc bytes : ByteArray} {maxL maxL' : Nat} {ret ret' : Option FieldType} {e : Env} {s s₁ : State} {m : MethodId} {args : Array Value} {below : List Frame} {meth : Method} {c : Code} {hh : List (Nat × Nat × Nat × Nat)}
    (B : BodyLoose p l y S cc maxL ret e s m args below meth c s₁) (h : (Cond.codeWith y bytes maxL' ret' hh).before args s = true) : c.exceptionTable.toList = tableOf hh := by
  obtain ⟨m9, meth9, c9, hn9, h1, h2, -, -, h6, -⟩ := Cond.codeWith_spec h
  cases Option.some.inj (hn9.symm.trans B.named)
  cases Option.some.inj (h1.symm.trans B.method)
  cases Option.some.inj (h2.symm.trans (Stand.of_body B).code)
  rw [← h6, table_eq]
end Bodies
end VXA
/-! ===== END ===== -/
/-! ===== BEGIN a static call of a method with an exception table ===== -/
section VXS
variable {p : Program} {l : Launch} {e : Env} {R : Room} {s : State} {m : MethodId} {args : Array Value} {below : List Frame} {meth : Method} {c : Code} {T : State} {H : Heap} {locs : List Loc} {cells slots : Nat}
abbrev vx_CSW (R : Room) (s : State) (args : Array Value) (own : String) (index : Nat) (y : MethodName) (bytes : ByteArray) (maxL : Nat) (ret : Option FieldType) (hh : List (Nat × Nat × Nat × Nat)) (ws : List Cond) (rm : Room) (mc ms n : Nat) : Prop :=
  (rm.cells = mc ∧ rm.slots = ms ∧ rm.frames + 1 ≤ R.frames ∧ 8 + (maxL + 11) + rm.locals ≤ R.locals ∧ (∀ w ∈ ws, ∀ (a' : Array Value) (U : State), s.WarmedH U.vm → w.before a' U = true) ∧ Cond.codeWith y bytes maxL ret hh ∈ ws) ∧
  (Cond.codeWith y bytes maxL ret hh).before args s = true ∧ (Cond.initialized y.cls).before args s = true ∧ (y.cls ≠ "java/lang/invoke/MethodHandle" ∧ y.cls ≠ "java/lang/invoke/VarHandle") ∧
  (∀ sig, parseMethodDescriptor y.desc = some sig → n = sig.parameters.length) ∧ (Cond.methodLink own index y).before args s = true ∧ (Cond.static y).before args s = true
theorem vx_cwSW {own : String} {index maxL mc ms : Nat} {y : MethodName} {bytes : ByteArray} {ret : Option FieldType} {hh : List (Nat × Nat × Nat × Nat)} {Ts ws ws' : List Cond} {rm : Room} (n : Nat) (ht : ∀ w ∈ Ts, w.before args s = true) (hT : GoodIn Ts (va_wsS own index y ws)) (hw : ws = Cond.codeWith y bytes maxL ret hh :: ws') (hrc : rm.cells = mc) (hrs : rm.slots = ms)
    (hd : y.cls ≠ "java/lang/invoke/MethodHandle" ∧ y.cls ≠ "java/lang/invoke/VarHandle" ∧ (parseMethodDescriptor y.desc).map (fun d => d.parameters.length) = some n) (hR : rm.frames + 1 ≤ R.frames ∧ 8 + (maxL + 11) + rm.locals ≤ R.locals) :
    vx_CSW R s args own index y bytes maxL ret hh ws rm mc ms n := by
  have ok : ∀ w ∈ va_wsS own index y ws, w.before args s = true := fun w h => ht w (hT w h).1
  have hG : GoodIn Ts ws := fun w h => hT w (by unfold va_wsS; exact List.mem_append_right _ h)
  have hc : Cond.codeWith y bytes maxL ret hh ∈ ws := by rw [hw]; exact List.mem_cons_self
  refine ⟨⟨hrc, hrs, hR.1, hR.2, pay_in ht hG, hc⟩, ht _ (hG _ hc).1, ok _ (by simp [va_wsS]), ⟨hd.1, hd.2.1⟩, fun sig h => ?_, ok _ (by simp [va_wsS]), ok _ (by simp [va_wsS])⟩
  have h2 := hd.2.2
  rw [h] at h2
  exact (Option.some.inj h2).symm
theorem vx_callSW (X : Stand p l e R s m args below meth c T locs cells slots) (hexec : p.tables.exec = Jvm.exec) {own : String} {index : Nat} {y : MethodName} {bytes : ByteArray} {maxL : Nat} {ret : Option FieldType} {hh : List (Nat × Nat × Nat × Nat)}
    (hown : s.vm.findClass own = some m.cls) (hlink : (Cond.methodLink own index y).before args s = true) (hstat : (Cond.static y).before args s = true) (hinit : (Cond.initialized y.cls).before args s = true)
    (hcode : (Cond.codeWith y bytes maxL ret hh).before args s = true) (hy : y.cls ≠ "java/lang/invoke/MethodHandle" ∧ y.cls ≠ "java/lang/invoke/VarHandle")
    {W9 : Nat} {Pre : Pt → Array Value → Prop} {Post : Pt → Array Value → Option Value → Pt → Prop} (hK : Back l R p e below s args y 3 W9 Pre Post)
    {g : JFrame} (hg : g.method = m) (hsize : g.locals.size = c.maxLocals) {argsL rest : List Value} (hlen : ∀ sig, parseMethodDescriptor y.desc = some sig → argsL.length = sig.parameters.length)
    (hstack : g.stack = argsL.reverse ++ rest) (hW : 2 * g.monitorRoom + (rest.map fun v => v.category).sum ≤ W9) (hdg : decode c.code g.pc = .ok (.invokestatic index, 3))
    (hpre : ∀ vm₁, s.WarmedH vm₁ → Pre ⟨T.setVm vm₁, locs, cells, slots⟩ argsL.toArray) :
    ∃ (v : Option Value) (vm₁ : Vm) (B : Pt), s.WarmedH vm₁ ∧ Stand p l e R s m args below meth c B.U B.locs B.cells B.slots ∧ Post ⟨T.setVm vm₁, locs, cells, slots⟩ argsL.toArray v B ∧
      ∀ target, Steps p.tables e below (B.U.setTop { g with pc := g.pc + 3, stack := v.toList ++ rest }) target → Steps p.tables e below (T.setTop g) target := by
  obtain ⟨mk, methM, cM, hnamed, hmethM, -, -, -, -, -, -, hsigM⟩ := Cond.codeWith_spec hcode
  have hstatic : methM.isStatic = true := Cond.static_spec hnamed hmethM hstat
  obtain ⟨kP, hkP, -⟩ := className_of_methodNamed hnamed
  have hinitP : kP.init = .initialized := Cond.initialized_spec (findClass_of_methodNamed hnamed) hkP hinit
  obtain ⟨vm₁, X₁, hstep₁⟩ := X.invokestatic hexec hown hlink hnamed hmethM hstatic hkP hinitP hy (g := g) hg (argsL := argsL) (rest := rest) (hlen _ hsigM) hstack hdg
  obtain ⟨v, B, X', hpost, hsteps⟩ := hK m meth c ⟨T.setVm vm₁, locs, cells, slots⟩ { g with stack := rest } (.invokestatic index) mk argsL.toArray X₁ hg hsize hdg hW (X₁.named hnamed) (hpre vm₁ X₁.warmed)
  exact ⟨v, vm₁, B, X₁.warmed, X', hpost, fun target h => hstep₁ _ fun acts => by rw [doInvoke_state]; exact hsteps.trans h⟩
theorem vx_runSW {y : MethodName} {bytes cc : ByteArray} {maxL nL mc ms n index : Nat} {ret : Option FieldType} {hh : List (Nat × Nat × Nat × Nat)} {ws : List Cond} {rm : Room} {Pc : Array Value → State → Prop} {Qc : Array Value → State → Outcome → State → Prop} {free : Addr → Prop} {Ts : List Cond} {own : String} {As rest : List Value} {g : JFrame}
    (S : CallFix p m c cc nL s args Ts own) (hM : Met l y ws rm Pc Qc mc ms free) (cw : vx_CSW R s args own index y bytes maxL ret hh ws rm mc ms n) (hp : PreS s H Pc As)
    (hg : g.method = m) (hn : As.length = n) (hsize : g.locals.size = nL) (hstack : g.stack = As.reverse ++ rest) (hW : 2 * g.monitorRoom + (rest.map fun v => v.category).sum ≤ 8) (hdg : decode cc g.pc = .ok (.invokestatic index, 3)) (hf : cells + mc ≤ R.cells ∧ slots + ms ≤ R.slots) :
    va_Run p l e R s m args below meth c H locs cells slots mc ms g rest (Qc As.toArray) (free) := by
  obtain ⟨⟨hrc, hrs, hfr, hlo, hws, hcw⟩, hcode, hini, hy, hlen, hl, hstt⟩ := cw
  have hK : Back l R p e below s args y 3 8 (PreOf R mc ms Pc) (PostOf Qc mc ms free) := va_backW (hh := hh) (bytes := bytes) (maxL := maxL) (ret := ret) hM hp.1 hrc hrs hfr hlo hws hcw (fun a' U hW => word_at hW (Or.inl (by first | rfl | simp [Cond.onTables, Cond.keeps, Cond.steady])) hini)
  obtain ⟨hx, hb, hml, ho, -⟩ := S
  intro T hT X
  obtain ⟨v, vm₁, ⟨U', l2, c2, s2⟩, hW₁, X', ⟨g', mk, t, L, e1, e2, hq, h1, hL, h2, h3⟩, st⟩ := vx_callSW X hx (hh := hh) (bytes := bytes) (maxL := maxL) (ret := ret) ho hl hstt hini hcode hy hK hg (hsize.trans hml.symm) (argsL := As) (rest := rest) (fun sig h => hn.trans (hlen sig h)) hstack hW (by rw [hb]; exact hdg)
    (fun vm₁ hW₁ => ⟨hf.1, hf.2, hp.2 (T.setVm vm₁) hT hW₁⟩)
  dsimp only [Pt.U, Pt.locs, Pt.cells, Pt.slots] at X' e1 e2 h1 h2 h3 st
  subst h1; subst h2; subst h3
  exact ⟨v, (T.setVm vm₁).calling g' mk As.toArray, t, U', L, hT, X', hL, e1, e2, hq, st⟩
/-- not caught here, past rows that name other classes: it goes on to the caller -/
theorem vx_outP {p : Program} {l : Launch} {e : Env} {R : Room} {s : State} {m : MethodId} {args : Array Value} {below : List Frame} {meth : Method} {c : Code} {H : Heap} {locs : List Loc} {cells slots : Nat} {free : Addr → Prop} {ls : Array Slot} {rest : List Value} {Qc : Array Value → State → Outcome → State → Prop} {XC : String → State → State → Prop}
    {pc : Nat} {own E : String} {ce : Cell} {q : Addr} {mc ms : Nat} (hown : s.vm.findClass own = some m.cls) (hlocks : meth.locks = false)
    (hpass : ∀ z ∈ c.exceptionTable.toList, covers z pc = false ∨ (z.catchType ≠ 0 ∧ ∃ nm : String, (Cond.classLink own z.catchType nm).before args s = true ∧ va_Nc E nm s)) (hcell : H[q]? = some ce) (hv : ce.vm = .none) (hcl : s.vm.findClass E = some ce.cls)
    (hx : ∀ t : State, t.heap = H → s.vm.Alike t.vm → XC E s t) (hf : ∀ z ∈ locs, free z.base) (hc : cells ≤ mc) (hs : slots ≤ ms) :
    vx_W p l e R s m args below meth c H locs cells slots (vx_MQ below Qc XC args s mc ms free) (F0 m pc ls rest) q := by
  intro T hT X
  have hpl : e.platform.magicAccessors = ({} : Platform).magicAccessors := by rw [X.admits.platform]
  obtain ⟨vm', hW', X', st⟩ := X.outThrough hlocks q (g := F0 m pc ls rest) rfl rfl rfl (cell := ce) (by rw [hT]; exact hcell) (by rw [hv]; rfl)
    (by obtain ⟨k9, h9, -⟩ := Vm.findClass_spec hcl; exact ⟨k9, h9⟩) (fun z hz => by
      rcases hpass z hz with h | ⟨hz0, nm, hl1, hn1⟩
      · exact Or.inl h
      · obtain ⟨c6, hc6, hcl6⟩ := Cond.classLink_spec hown hl1 e.platform hpl
        obtain ⟨a8, b8, h1, h2, h3⟩ := hn1
        cases Option.some.inj (h1.symm.trans hcl)
        cases Option.some.inj (h2.symm.trans hc6)
        exact Or.inr ⟨hz0, _, hcl6, h3⟩)
  obtain ⟨g₀, hfr⟩ := X'.frames_eq
  have hcell9 : ((T.setVm vm').setFrames (.throwing q :: below)).heap[q]? = some ce := by
    show T.heap[q]? = some ce
    rw [hT]; exact hcell
  have hend : Ended ((T.setVm vm').setFrames (.throwing q :: below)) below (.threw q) := State.frames_setFrames _ (State.cur_lt_of_frames hfr)
  refine ⟨(T.setVm vm').setFrames (.throwing q :: below), ?_, .threw q, X'.here.running, hend, Or.inr ⟨q, rfl, E, ce, locs, hx _ hT (X'.ends _).1.alike, hcell9, hv, hcl, (X'.ends _).1, (X'.ends _).2.mono hc hs, hf⟩⟩
  rw [X.pushThrowing_eq]
  exact st
/-- a thing of a world lies in the heap -/
theorem vx_lt {D : va_G} {cl : List vw_C} {ws : va_W} {H1 : Heap} (h : va_P D cl ws H1) {k : Nat} {q : Nat × va_E} (hk : ws[k]? = some q) : q.1 < H1.size := (h k q hk).lt
end VXS
/-! ===== END ===== -/
/-! ===== BEGIN methods with a table of their own: called by a name, returning or throwing ===== -/
section VXH
/-! vx_backW, vx_callVX, vx_callSX, vx_callVW, vx_runVW, vx_runVX, vx_runSX, vx_ofWH follow the same proofs as their sisters above (Free/Laws.lean, Shelf42/LK1.lean); vx_outP calls Shelf42/NT130.lean (outThrough). -/
section
variable {l : Launch} {R : Room} {p : Program} {e : Env} {below : List Frame} {s : State} {sargs : Array Value} {y : MethodName} {len W9 : Nat}
theorem vx_backW {ws : List Cond} {rm : Room} {Pc : Array Value → State → Prop} {Qc : Array Value → State → Outcome → State → Prop} {XC : String → State → State → Prop} {mc ms : Nat} {free : Addr → Prop} {bytes : ByteArray} {maxL : Nat} {ret : Option FieldType} {hh : List (Nat × Nat × Nat × Nat)}
    (hM : vx_Met l y ws rm Pc Qc XC mc ms free) (hblind : FrameBlind Pc) (hrc : rm.cells = mc) (hrs : rm.slots = ms)
    (hframes : rm.frames + 1 ≤ R.frames) (hlocals : W9 + (maxL + 11) + rm.locals ≤ R.locals)
    (hws : ∀ w ∈ ws, ∀ a' U, s.WarmedH U.vm → w.before a' U = true) (hcode : Cond.codeWith y bytes maxL ret hh ∈ ws) (hinit : ∀ a' U, s.WarmedH U.vm → (Cond.initialized y.cls).before a' U = true) :
    vx_Back l R p e below s sargs y len W9 (PreOf R mc ms Pc) (PostOf Qc mc ms free) (vx_Post XC mc ms free) := by
  intro m meth c A g ig mk a X hg hsize hdg hW hn hp
  have h1 : (headSpec ws rm).pre.before a A.U = true := atoms_intro fun w hw => hws w hw _ _ X.warmed
  have h2 : (Cond.codeWith y bytes maxL ret hh).before a A.U = true := hws _ hcode _ _ X.warmed
  have h3 : (Cond.initialized y.cls).before a A.U = true := hinit _ _ X.warmed
  have h4 : A.cells + (headSpec ws rm).room.cells ≤ R.cells := by rw [show (headSpec ws rm).room.cells = mc from hrc]; exact hp.1
  have h5 : A.slots + (headSpec ws rm).room.slots ≤ R.slots := by rw [show (headSpec ws rm).room.slots = ms from hrs]; exact hp.2.1
  have hPc : Pc a (A.U.calling g mk a) := hblind _ _ _ _ hp.2.2
  obtain ⟨U, Ls, c0, s0⟩ := A
  dsimp only [Pt.U, Pt.locs, Pt.cells, Pt.slots] at h1 h2 h3 h4 h5 X hn hPc ⊢
  obtain ⟨m9, methY, cY, hn9, hmY, hcY, -, hlY, -⟩ := Cond.codeWith_spec h2
  cases Option.some.inj (hn9.symm.trans hn)
  obtain ⟨kY, hkY, -⟩ := className_of_methodNamed hn
  have hinitY : kY.init = .initialized := Cond.initialized_spec (findClass_of_methodNamed hn) hkY h3
  have h : At U g.method c below := by rw [hg]; exact X.here
  have hlocals9 : W9 + (maxL + 11) + (headSpec ws rm).room.locals ≤ R.locals := hlocals
  have happ : (headSpec ws rm).appliesLoose y e.platform (U.calling g mk a) = true :=
    Spec.appliesLoose_calling (g := g) h hdg hn hkY hinitY
      (X.room_calling (g := g) (R' := (headSpec ws rm).room) hsize hmY hcY hframes (by rw [hlY]; omega) h4 h5) h1
  obtain ⟨mid, hmid⟩ := h.above
  have hfr : (U.setTop g).frames = (.java g :: mid) ++ below := by rw [State.frames_setTop' g h.top, hmid]; rfl
  obtain ⟨o, s₂, hsteps, -, hend, hq⟩ := Steps.callFree hM p X.admits X.cas X.clock (acts := []) hfr happ hPc trivial
  have hq' : vx_Q Qc XC mc ms free a (U.calling g mk a) o s₂ := hq
  rw [State.frames_setTop' g h.top] at hend
  obtain ⟨g₀, hg0⟩ := Option.isSome_iff_exists.mp h.top
  obtain ⟨r, hr⟩ := State.topJava?_eq_some.mp hg0
  have hr' : (({ U with heap := s₂.heap, slotsUsed := s₂.slotsUsed } : State).setVm s₂.vm).frames = .java g₀ :: r := hr
  rcases hq' with ⟨hqc, L, hfe, hL⟩ | ⟨q, rfl, E, ce, L, hx, hce, hcv, hcl, hW₂, hsm, hL⟩
  · obtain ⟨⟨v, rfl⟩, hW₂, e2, q2, q3, q4, q5, q6⟩ := id hfe
    have e3 : s₂ = ({ (U.calling g mk a).setFrames s₂.frames with heap := s₂.heap, slotsUsed := s₂.slotsUsed } : State).setVm s₂.vm := by
      have : s₂ = ({ s₂ with vm := (U.calling g mk a).vm } : State).setVm s₂.vm := rfl
      rw [e2] at this
      exact this
    obtain ⟨c₂, i₂, len₂, hc₂, hd₂, hf₂⟩ := hend
    have hW' : U.WarmedH s₂.vm := hW₂
    have hcc : c₂ = c := by
      have h1 : s₂.code? g.method = U.code? g.method := by
        rw [State.code?_eq, State.code?_eq, hW'.alike.method?]
      exact Option.some.inj (hc₂.symm.trans (h1.trans h.code))
    subst hcc
    have hlen : len₂ = len := by rw [hdg] at hd₂; cases hd₂; rfl
    subst hlen
    have hs₂ : s₂ = (({ U with heap := s₂.heap, slotsUsed := s₂.slotsUsed } : State).setVm s₂.vm).setTop { g with pc := g.pc + len₂, stack := v.toList ++ g.stack } := by
      refine e3.trans ?_
      rw [hf₂, State.calling_eq h.top, State.setFrames_setFrames, State.setTop_of_frames _ hr', hr]
      rfl
    have hsame : U.sameButNew ({ U with heap := s₂.heap, slotsUsed := s₂.slotsUsed } : State) L mc ms := by
      refine ⟨?_, q2, q3, q4, q5, q6⟩
      obtain ⟨t, ht, -⟩ := State.frames_cons hr
      show ({ U with heap := s₂.heap, slotsUsed := s₂.slotsUsed } : State) = { U.setFrames U.frames with heap := s₂.heap, slotsUsed := s₂.slotsUsed }
      rw [State.setFrames_self ht]
    subst hg
    refine Or.inl ⟨v, ⟨(({ U with heap := s₂.heap, slotsUsed := s₂.slotsUsed } : State).setVm s₂.vm), Ls ++ L, c0 + mc, s0 + ms⟩,
      ⟨X.admits, X.cas, X.clock, X.frames, X.room, X.hears, X.method, X.code, (X.here.setHeapUsed s₂.heap s₂.slotsUsed).setVm hW'.alike, X.tail, State.WarmedH.trans X.warmed hW', X.limits, X.bytes, X.same.trans (hsame.setVm s.vm)⟩,
      ⟨g, mk, s₂, L, rfl, rfl, hqc, rfl, hL, rfl, rfl⟩, ?_⟩
    show Steps p.tables e below _ ((({ U with heap := s₂.heap, slotsUsed := s₂.slotsUsed } : State).setVm s₂.vm).setTop { g with pc := g.pc + len₂, stack := v.toList ++ g.stack })
    rw [← hs₂]
    exact hsteps
  · obtain ⟨e2, q2, q3, q4, q5, q6⟩ := id hsm
    have e3 : s₂ = ({ (U.calling g mk a).setFrames s₂.frames with heap := s₂.heap, slotsUsed := s₂.slotsUsed } : State).setVm s₂.vm := by
      have : s₂ = ({ s₂ with vm := (U.calling g mk a).vm } : State).setVm s₂.vm := rfl
      rw [e2] at this
      exact this
    have hf₂ : s₂.frames = .throwing q :: .java g :: U.frames.tail := hend
    have hW' : U.WarmedH s₂.vm := hW₂
    have hs₂ : s₂ = ((({ U with heap := s₂.heap, slotsUsed := s₂.slotsUsed } : State).setVm s₂.vm).setTop g).pushFrame (.throwing q) := by
      refine e3.trans ?_
      rw [hf₂, State.calling_eq h.top, State.setFrames_setFrames, State.pushFrame, State.frames_setTop _ hr', State.setTop_of_frames _ hr', State.setFrames_setFrames, hr]
      rfl
    have hsame : U.sameButNew ({ U with heap := s₂.heap, slotsUsed := s₂.slotsUsed } : State) L mc ms := by
      refine ⟨?_, q2, q3, q4, q5, q6⟩
      obtain ⟨t, ht, -⟩ := State.frames_cons hr
      show ({ U with heap := s₂.heap, slotsUsed := s₂.slotsUsed } : State) = { U.setFrames U.frames with heap := s₂.heap, slotsUsed := s₂.slotsUsed }
      rw [State.setFrames_self ht]
    subst hg
    refine Or.inr ⟨q, ⟨(({ U with heap := s₂.heap, slotsUsed := s₂.slotsUsed } : State).setVm s₂.vm), Ls ++ L, c0 + mc, s0 + ms⟩,
      ⟨X.admits, X.cas, X.clock, X.frames, X.room, X.hears, X.method, X.code, (X.here.setHeapUsed s₂.heap s₂.slotsUsed).setVm hW'.alike, X.tail, State.WarmedH.trans X.warmed hW', X.limits, X.bytes, X.same.trans (hsame.setVm s.vm)⟩,
      ⟨g, mk, s₂, L, E, ce, rfl, rfl, hx, hce, hcv, hcl, rfl, hL, rfl, rfl⟩, ?_⟩
    show Steps p.tables e below _ (((({ U with heap := s₂.heap, slotsUsed := s₂.slotsUsed } : State).setVm s₂.vm).setTop g).pushFrame (.throwing q))
    rw [← hs₂]
    exact hsteps
end
variable {p : Program} {l : Launch} {e : Env} {R : Room} {s : State} {m : MethodId} {args : Array Value} {below : List Frame} {meth : Method} {c : Code} {T : State} {H : Heap} {locs : List Loc} {cells slots : Nat}
theorem vx_callVX (X : Stand p l e R s m args below meth c T locs cells slots) (hexec : p.tables.exec = Jvm.exec) {own C : String} {index : Nat} {y : MethodName} {bytes : ByteArray} {maxL : Nat} {ret : Option FieldType} {hh : List (Nat × Nat × Nat × Nat)}
    (hown : s.vm.findClass own = some m.cls) (hlink : (Cond.methodLink own index y).before args s = true) (hinst : (Cond.instanceMethod y).before args s = true) (hsel : (Cond.selects C y y).before args s = true)
    (hcode : (Cond.codeWith y bytes maxL ret hh).before args s = true) (hy : y.cls ≠ "java/lang/invoke/MethodHandle" ∧ y.cls ≠ "java/lang/invoke/VarHandle")
    {W9 : Nat} {Pre : Pt → Array Value → Prop} {Post : Pt → Array Value → Option Value → Pt → Prop} {PostX : Pt → Array Value → Addr → Pt → Prop} (hK : vx_Back l R p e below s args y 3 W9 Pre Post PostX)
    {b : Addr} {cellB : Cell} (hcell : T.heap[b]? = some cellB) (hobj : cellB.vm.isStatics = false) (hcls : s.vm.findClass C = some cellB.cls)
    {g : JFrame} (hg : g.method = m) (hsize : g.locals.size = c.maxLocals) {argsL rest : List Value} (hlen : ∀ sig, parseMethodDescriptor y.desc = some sig → argsL.length = sig.parameters.length)
    (hstack : g.stack = argsL.reverse ++ .ref b :: rest) (hW : 2 * g.monitorRoom + (rest.map fun v => v.category).sum ≤ W9) (hdg : decode c.code g.pc = .ok (.invokevirtual index, 3))
    (hpre : ∀ vm₁, s.WarmedH vm₁ → Pre ⟨T.setVm vm₁, locs, cells, slots⟩ (Value.ref b :: argsL).toArray) :
    (∃ (v : Option Value) (vm₁ : Vm) (B : Pt), s.WarmedH vm₁ ∧ Stand p l e R s m args below meth c B.U B.locs B.cells B.slots ∧ Post ⟨T.setVm vm₁, locs, cells, slots⟩ (Value.ref b :: argsL).toArray v B ∧
      ∀ target, Steps p.tables e below (B.U.setTop { g with pc := g.pc + 3, stack := v.toList ++ rest }) target → Steps p.tables e below (T.setTop g) target) ∨
    (∃ (q : Addr) (vm₁ : Vm) (B : Pt), s.WarmedH vm₁ ∧ Stand p l e R s m args below meth c B.U B.locs B.cells B.slots ∧ PostX ⟨T.setVm vm₁, locs, cells, slots⟩ (Value.ref b :: argsL).toArray q B ∧
      Steps p.tables e below (T.setTop g) ((B.U.setTop { g with stack := rest }).pushFrame (.throwing q))) := by
  obtain ⟨mk, methM, hnamed, hmethM, hstM, habM⟩ := Cond.instanceMethod_spec hinst
  obtain ⟨m8, methM', cM, hn8, hmethM', -, -, -, -, -, -, hsigM⟩ := Cond.codeWith_spec hcode
  cases Option.some.inj (hn8.symm.trans hnamed)
  cases hmethM.symm.trans hmethM'
  obtain ⟨c2, r2, m2, q1, q2, q3, q4, kP, hkP, hkPi⟩ := Cond.selects_spec hsel
  cases hcls.symm.trans q1
  cases (State.methodFound?_of_named hnamed hy).symm.trans q2
  cases hnamed.symm.trans q3
  have hselP : selectMethod e.platform s.vm cellB.cls mk = .method mk := by rw [Launch.admits_selectMethod X.admits]; exact q4
  obtain ⟨vm₁, X₁, hstep₁⟩ := X.invokevirtual hexec hown hlink hnamed hmethM hstM hkP hkPi hy (a := b) (cell := cellB) hcell
    (fun z h => by rw [h] at hobj; cases hobj) hselP hmethM habM hkP hkPi (g := g) hg (argsL := argsL) (rest := rest) (hlen _ hsigM) hstack hdg
  rcases hK m meth c ⟨T.setVm vm₁, locs, cells, slots⟩ { g with stack := rest } (.invokevirtual index) mk (Value.ref b :: argsL).toArray X₁ hg hsize hdg hW (X₁.named hnamed) (hpre vm₁ X₁.warmed) with ⟨v, B, X', hpost, hsteps⟩ | ⟨q, B, X', hpost, hsteps⟩
  · exact Or.inl ⟨v, vm₁, B, X₁.warmed, X', hpost, fun target h => hstep₁ _ fun acts => by rw [doInvoke_state]; exact hsteps.trans h⟩
  · exact Or.inr ⟨q, vm₁, B, X₁.warmed, X', hpost, hstep₁ _ fun acts => by rw [doInvoke_state]; exact hsteps⟩
theorem vx_callSX (X : Stand p l e R s m args below meth c T locs cells slots) (hexec : p.tables.exec = Jvm.exec) {own : String} {index : Nat} {y : MethodName} {bytes : ByteArray} {maxL : Nat} {ret : Option FieldType} {hh : List (Nat × Nat × Nat × Nat)}
    (hown : s.vm.findClass own = some m.cls) (hlink : (Cond.methodLink own index y).before args s = true) (hstat : (Cond.static y).before args s = true) (hinit : (Cond.initialized y.cls).before args s = true)
    (hcode : (Cond.codeWith y bytes maxL ret hh).before args s = true) (hy : y.cls ≠ "java/lang/invoke/MethodHandle" ∧ y.cls ≠ "java/lang/invoke/VarHandle")
    {W9 : Nat} {Pre : Pt → Array Value → Prop} {Post : Pt → Array Value → Option Value → Pt → Prop} {PostX : Pt → Array Value → Addr → Pt → Prop} (hK : vx_Back l R p e below s args y 3 W9 Pre Post PostX)
    {g : JFrame} (hg : g.method = m) (hsize : g.locals.size = c.maxLocals) {argsL rest : List Value} (hlen : ∀ sig, parseMethodDescriptor y.desc = some sig → argsL.length = sig.parameters.length)
    (hstack : g.stack = argsL.reverse ++ rest) (hW : 2 * g.monitorRoom + (rest.map fun v => v.category).sum ≤ W9) (hdg : decode c.code g.pc = .ok (.invokestatic index, 3))
    (hpre : ∀ vm₁, s.WarmedH vm₁ → Pre ⟨T.setVm vm₁, locs, cells, slots⟩ argsL.toArray) :
    (∃ (v : Option Value) (vm₁ : Vm) (B : Pt), s.WarmedH vm₁ ∧ Stand p l e R s m args below meth c B.U B.locs B.cells B.slots ∧ Post ⟨T.setVm vm₁, locs, cells, slots⟩ argsL.toArray v B ∧
      ∀ target, Steps p.tables e below (B.U.setTop { g with pc := g.pc + 3, stack := v.toList ++ rest }) target → Steps p.tables e below (T.setTop g) target) ∨
    (∃ (q : Addr) (vm₁ : Vm) (B : Pt), s.WarmedH vm₁ ∧ Stand p l e R s m args below meth c B.U B.locs B.cells B.slots ∧ PostX ⟨T.setVm vm₁, locs, cells, slots⟩ argsL.toArray q B ∧
      Steps p.tables e below (T.setTop g) ((B.U.setTop { g with stack := rest }).pushFrame (.throwing q))) := by
  obtain ⟨mk, methM, cM, hnamed, hmethM, -, -, -, -, -, -, hsigM⟩ := Cond.codeWith_spec hcode
  have hstatic : methM.isStatic = true := Cond.static_spec hnamed hmethM hstat
  obtain ⟨kP, hkP, -⟩ := className_of_methodNamed hnamed
  have hinitP : kP.init = .initialized := Cond.initialized_spec (findClass_of_methodNamed hnamed) hkP hinit
  obtain ⟨vm₁, X₁, hstep₁⟩ := X.invokestatic hexec hown hlink hnamed hmethM hstatic hkP hinitP hy (g := g) hg (argsL := argsL) (rest := rest) (hlen _ hsigM) hstack hdg
  rcases hK m meth c ⟨T.setVm vm₁, locs, cells, slots⟩ { g with stack := rest } (.invokestatic index) mk argsL.toArray X₁ hg hsize hdg hW (X₁.named hnamed) (hpre vm₁ X₁.warmed) with ⟨v, B, X', hpost, hsteps⟩ | ⟨q, B, X', hpost, hsteps⟩
  · exact Or.inl ⟨v, vm₁, B, X₁.warmed, X', hpost, fun target h => hstep₁ _ fun acts => by rw [doInvoke_state]; exact hsteps.trans h⟩
  · exact Or.inr ⟨q, vm₁, B, X₁.warmed, X', hpost, hstep₁ _ fun acts => by rw [doInvoke_state]; exact hsteps⟩
theorem vx_callVW (X : Stand p l e R s m args below meth c T locs cells slots) (hexec : p.tables.exec = Jvm.exec) {own C : String} {index : Nat} {y : MethodName} {bytes : ByteArray} {maxL : Nat} {ret : Option FieldType} {hh : List (Nat × Nat × Nat × Nat)}
    (hown : s.vm.findClass own = some m.cls) (hlink : (Cond.methodLink own index y).before args s = true) (hinst : (Cond.instanceMethod y).before args s = true) (hsel : (Cond.selects C y y).before args s = true)
    (hcode : (Cond.codeWith y bytes maxL ret hh).before args s = true) (hy : y.cls ≠ "java/lang/invoke/MethodHandle" ∧ y.cls ≠ "java/lang/invoke/VarHandle")
    {W9 : Nat} {Pre : Pt → Array Value → Prop} {Post : Pt → Array Value → Option Value → Pt → Prop} (hK : Back l R p e below s args y 3 W9 Pre Post)
    {b : Addr} {cellB : Cell} (hcell : T.heap[b]? = some cellB) (hobj : cellB.vm.isStatics = false) (hcls : s.vm.findClass C = some cellB.cls)
    {g : JFrame} (hg : g.method = m) (hsize : g.locals.size = c.maxLocals) {argsL rest : List Value} (hlen : ∀ sig, parseMethodDescriptor y.desc = some sig → argsL.length = sig.parameters.length)
    (hstack : g.stack = argsL.reverse ++ .ref b :: rest) (hW : 2 * g.monitorRoom + (rest.map fun v => v.category).sum ≤ W9) (hdg : decode c.code g.pc = .ok (.invokevirtual index, 3))
    (hpre : ∀ vm₁, s.WarmedH vm₁ → Pre ⟨T.setVm vm₁, locs, cells, slots⟩ (Value.ref b :: argsL).toArray) :
    ∃ (v : Option Value) (vm₁ : Vm) (B : Pt), s.WarmedH vm₁ ∧ Stand p l e R s m args below meth c B.U B.locs B.cells B.slots ∧ Post ⟨T.setVm vm₁, locs, cells, slots⟩ (Value.ref b :: argsL).toArray v B ∧
      ∀ target, Steps p.tables e below (B.U.setTop { g with pc := g.pc + 3, stack := v.toList ++ rest }) target → Steps p.tables e below (T.setTop g) target := by
  obtain ⟨mk, methM, hnamed, hmethM, hstM, habM⟩ := Cond.instanceMethod_spec hinst
  obtain ⟨m8, methM', cM, hn8, hmethM', -, -, -, -, -, -, hsigM⟩ := Cond.codeWith_spec hcode
  cases Option.some.inj (hn8.symm.trans hnamed)
  cases hmethM.symm.trans hmethM'
  obtain ⟨c2, r2, m2, q1, q2, q3, q4, kP, hkP, hkPi⟩ := Cond.selects_spec hsel
  cases hcls.symm.trans q1
  cases (State.methodFound?_of_named hnamed hy).symm.trans q2
  cases hnamed.symm.trans q3
  have hselP : selectMethod e.platform s.vm cellB.cls mk = .method mk := by rw [Launch.admits_selectMethod X.admits]; exact q4
  obtain ⟨vm₁, X₁, hstep₁⟩ := X.invokevirtual hexec hown hlink hnamed hmethM hstM hkP hkPi hy (a := b) (cell := cellB) hcell
    (fun z h => by rw [h] at hobj; cases hobj) hselP hmethM habM hkP hkPi (g := g) hg (argsL := argsL) (rest := rest) (hlen _ hsigM) hstack hdg
  obtain ⟨v, B, X', hpost, hsteps⟩ := hK m meth c ⟨T.setVm vm₁, locs, cells, slots⟩ { g with stack := rest } (.invokevirtual index) mk (Value.ref b :: argsL).toArray X₁ hg hsize hdg hW (X₁.named hnamed) (hpre vm₁ X₁.warmed)
  exact ⟨v, vm₁, B, X₁.warmed, X', hpost, fun target h => hstep₁ _ fun acts => by rw [doInvoke_state]; exact hsteps.trans h⟩
abbrev vx_CVW (R : Room) (s : State) (args : Array Value) (own C : String) (index : Nat) (y : MethodName) (bytes : ByteArray) (maxL : Nat) (ret : Option FieldType) (hh : List (Nat × Nat × Nat × Nat)) (ws : List Cond) (rm : Room) (mc ms n : Nat) : Prop :=
  (rm.cells = mc ∧ rm.slots = ms ∧ rm.frames + 1 ≤ R.frames ∧ 8 + (maxL + 11) + rm.locals ≤ R.locals ∧ (∀ w ∈ ws, ∀ (a' : Array Value) (U : State), s.WarmedH U.vm → w.before a' U = true) ∧ Cond.codeWith y bytes maxL ret hh ∈ ws) ∧
  (Cond.codeWith y bytes maxL ret hh).before args s = true ∧ (Cond.initialized y.cls).before args s = true ∧ (y.cls ≠ "java/lang/invoke/MethodHandle" ∧ y.cls ≠ "java/lang/invoke/VarHandle") ∧
  (∀ sig, parseMethodDescriptor y.desc = some sig → n = sig.parameters.length) ∧ (Cond.methodLink own index y).before args s = true ∧ (Cond.instanceMethod y).before args s = true ∧ (Cond.selects C y y).before args s = true
theorem vx_cwVW {own C : String} {index maxL mc ms : Nat} {y : MethodName} {bytes : ByteArray} {ret : Option FieldType} {hh : List (Nat × Nat × Nat × Nat)} {Ts ws ws' : List Cond} {rm : Room} (n : Nat) (ht : ∀ w ∈ Ts, w.before args s = true) (hT : GoodIn Ts (wsV own index C y ws)) (hw : ws = Cond.codeWith y bytes maxL ret hh :: ws') (hrc : rm.cells = mc) (hrs : rm.slots = ms)
    (hd : y.cls = C ∧ y.cls ≠ "java/lang/invoke/MethodHandle" ∧ y.cls ≠ "java/lang/invoke/VarHandle" ∧ (parseMethodDescriptor y.desc).map (fun d => d.parameters.length) = some n) (hR : rm.frames + 1 ≤ R.frames ∧ 8 + (maxL + 11) + rm.locals ≤ R.locals) :
    vx_CVW R s args own C index y bytes maxL ret hh ws rm mc ms n := by
  obtain ⟨hC, hd⟩ := hd
  subst hC
  have ok : ∀ w ∈ wsV own index y.cls y ws, w.before args s = true := fun w h => ht w (hT w h).1
  have hG : GoodIn Ts ws := fun w h => hT w (by unfold wsV; exact List.mem_append_right _ h)
  have hc : Cond.codeWith y bytes maxL ret hh ∈ ws := by rw [hw]; exact List.mem_cons_self
  refine ⟨⟨hrc, hrs, hR.1, hR.2, pay_in ht hG, hc⟩, ht _ (hG _ hc).1, ok _ (by simp [wsV]), ⟨hd.1, hd.2.1⟩, fun sig h => ?_, ok _ (by simp [wsV]), ok _ (by simp [wsV]), ok _ (by simp [wsV])⟩
  have h2 := hd.2.2
  rw [h] at h2
  exact (Option.some.inj h2).symm
theorem vx_runVW {y : MethodName} {bytes cc : ByteArray} {maxL nL mc ms n index : Nat} {ret : Option FieldType} {hh : List (Nat × Nat × Nat × Nat)} {ws : List Cond} {rm : Room} {Pc : Array Value → State → Prop} {Qc : Array Value → State → Outcome → State → Prop} {free : Addr → Prop} {Ts : List Cond} {own C : String} {b : Addr} {As rest : List Value} {g : JFrame}
    (S : CallFix p m c cc nL s args Ts own) (hM : Met l y ws rm Pc Qc mc ms free) (cw : vx_CVW R s args own C index y bytes maxL ret hh ws rm mc ms n) (hp : PreV s H C b Pc As)
    (hg : g.method = m) (hn : As.length = n) (hsize : g.locals.size = nL) (hstack : g.stack = As.reverse ++ .ref b :: rest) (hW : 2 * g.monitorRoom + (rest.map fun v => v.category).sum ≤ 8) (hdg : decode cc g.pc = .ok (.invokevirtual index, 3)) (hf : cells + mc ≤ R.cells ∧ slots + ms ≤ R.slots) :
    va_Run p l e R s m args below meth c H locs cells slots mc ms g rest (Qc (Value.ref b :: As).toArray) free := by
  obtain ⟨⟨hrc, hrs, hfr, hlo, hws, hcw⟩, hcode, hini, hy, hlen, hl, hin, hse⟩ := cw
  have hK : Back l R p e below s args y 3 8 (PreOf R mc ms Pc) (PostOf Qc mc ms free) := va_backW (hh := hh) (bytes := bytes) (maxL := maxL) (ret := ret) hM hp.1 hrc hrs hfr hlo hws hcw (fun a' U hW => word_at hW (Or.inl (by first | rfl | simp [Cond.onTables, Cond.keeps, Cond.steady])) hini)
  obtain ⟨hx, hb, hml, ho, -⟩ := S
  obtain ⟨-, ⟨cellB, hcB, hoB, hclB⟩, hPc⟩ := hp
  intro T hT X
  obtain ⟨v, vm₁, ⟨U', l2, c2, s2⟩, hW₁, X', ⟨g', mk, t, L, e1, e2, hq, h1, hL, h2, h3⟩, st⟩ := vx_callVW X hx (C := C) (hh := hh) (bytes := bytes) (maxL := maxL) (ret := ret) ho hl hin hse hcode hy hK (by rw [hT]; exact hcB) hoB hclB hg (hsize.trans hml.symm) (argsL := As) (rest := rest) (fun sig h => hn.trans (hlen sig h)) hstack hW (by rw [hb]; exact hdg)
    (fun vm₁ hW₁ => ⟨hf.1, hf.2, hPc (T.setVm vm₁) hT hW₁⟩)
  dsimp only [Pt.U, Pt.locs, Pt.cells, Pt.slots] at X' e1 e2 h1 h2 h3 st
  subst h1; subst h2; subst h3
  exact ⟨v, (T.setVm vm₁).calling g' mk (Value.ref b :: As).toArray, t, U', L, hT, X', hL, e1, e2, hq, st⟩
section
variable {y : MethodName} {bytes cc : ByteArray} {maxL nL mc ms n index : Nat} {ret : Option FieldType} {ws : List Cond} {rm : Room} {Pc : Array Value → State → Prop} {Qc : Array Value → State → Outcome → State → Prop} {XC : String → State → State → Prop} {free : Addr → Prop} {Ts : List Cond} {own C : String} {b : Addr} {As rest : List Value} {g : JFrame}
theorem vx_runVX {hh : List (Nat × Nat × Nat × Nat)} (S : CallFix p m c cc nL s args Ts own) (hM : vx_Met l y ws rm Pc Qc XC mc ms free) (cw : vx_CVW R s args own C index y bytes maxL ret hh ws rm mc ms n) (hp : PreV s H C b Pc As)
    (hg : g.method = m) (hn : As.length = n) (hsize : g.locals.size = nL) (hstack : g.stack = As.reverse ++ .ref b :: rest) (hW : 2 * g.monitorRoom + (rest.map fun v => v.category).sum ≤ 8) (hdg : decode cc g.pc = .ok (.invokevirtual index, 3)) (hf : cells + mc ≤ R.cells ∧ slots + ms ≤ R.slots) :
    vx_Run p l e R s m args below meth c H locs cells slots mc ms g rest (Qc (Value.ref b :: As).toArray) XC free := by
  obtain ⟨⟨hrc, hrs, hfr, hlo, hws, hcw⟩, hcode, hini, hy, hlen, hl, hin, hse⟩ := cw
  have hK : vx_Back l R p e below s args y 3 8 (PreOf R mc ms Pc) (PostOf Qc mc ms free) (vx_Post XC mc ms free) := vx_backW (hh := hh) (bytes := bytes) (maxL := maxL) (ret := ret) hM hp.1 hrc hrs hfr hlo hws hcw (fun a' U hW => word_at hW (Or.inl (by first | rfl | simp [Cond.onTables, Cond.keeps, Cond.steady])) hini)
  obtain ⟨hx, hb, hml, ho, -⟩ := S
  obtain ⟨-, ⟨cellB, hcB, hoB, hclB⟩, hPc⟩ := hp
  intro T hT X
  rcases vx_callVX X hx (C := C) (hh := hh) (bytes := bytes) (maxL := maxL) (ret := ret) ho hl hin hse hcode hy hK (by rw [hT]; exact hcB) hoB hclB hg (hsize.trans hml.symm) (argsL := As) (rest := rest) (fun sig h => hn.trans (hlen sig h)) hstack hW (by rw [hb]; exact hdg)
    (fun vm₁ hW₁ => ⟨hf.1, hf.2, hPc (T.setVm vm₁) hT hW₁⟩) with ⟨v, vm₁, ⟨U', l2, c2, s2⟩, hW₁, X', ⟨g', mk, t, L, e1, e2, hq, h1, hL, h2, h3⟩, st⟩ | ⟨q, vm₁, ⟨U', l2, c2, s2⟩, hW₁, X', ⟨g', mk, t, L, E, ce, e1, e2, hq, hce, hcv, hcl, h1, hL, h2, h3⟩, st⟩
  · dsimp only [Pt.U, Pt.locs, Pt.cells, Pt.slots] at X' e1 e2 h1 h2 h3 st
    subst h1; subst h2; subst h3
    exact Or.inl ⟨v, (T.setVm vm₁).calling g' mk (Value.ref b :: As).toArray, t, U', L, hT, X', hL, e1, e2, hq, st⟩
  · dsimp only [Pt.U, Pt.locs, Pt.cells, Pt.slots] at X' e1 e2 h1 h2 h3 st hcl
    subst h1; subst h2; subst h3
    exact Or.inr ⟨q, (T.setVm vm₁).calling g' mk (Value.ref b :: As).toArray, t, U', L, E, ce, hT, X', hL, e1, e2, hq, hce, hcv, vx_cls hW₁ hcl, st⟩
theorem vx_runSX {hh : List (Nat × Nat × Nat × Nat)} (S : CallFix p m c cc nL s args Ts own) (hM : vx_Met l y ws rm Pc Qc XC mc ms free) (cw : vx_CSW R s args own index y bytes maxL ret hh ws rm mc ms n) (hp : PreS s H Pc As)
    (hg : g.method = m) (hn : As.length = n) (hsize : g.locals.size = nL) (hstack : g.stack = As.reverse ++ rest) (hW : 2 * g.monitorRoom + (rest.map fun v => v.category).sum ≤ 8) (hdg : decode cc g.pc = .ok (.invokestatic index, 3)) (hf : cells + mc ≤ R.cells ∧ slots + ms ≤ R.slots) :
    vx_Run p l e R s m args below meth c H locs cells slots mc ms g rest (Qc As.toArray) XC free := by
  obtain ⟨⟨hrc, hrs, hfr, hlo, hws, hcw⟩, hcode, hini, hy, hlen, hl, hstt⟩ := cw
  have hK : vx_Back l R p e below s args y 3 8 (PreOf R mc ms Pc) (PostOf Qc mc ms free) (vx_Post XC mc ms free) := vx_backW (hh := hh) (bytes := bytes) (maxL := maxL) (ret := ret) hM hp.1 hrc hrs hfr hlo hws hcw (fun a' U hW => word_at hW (Or.inl (by first | rfl | simp [Cond.onTables, Cond.keeps, Cond.steady])) hini)
  obtain ⟨hx, hb, hml, ho, -⟩ := S
  intro T hT X
  rcases vx_callSX X hx (hh := hh) (bytes := bytes) (maxL := maxL) (ret := ret) ho hl hstt hini hcode hy hK hg (hsize.trans hml.symm) (argsL := As) (rest := rest) (fun sig h => hn.trans (hlen sig h)) hstack hW (by rw [hb]; exact hdg)
    (fun vm₁ hW₁ => ⟨hf.1, hf.2, hp.2 (T.setVm vm₁) hT hW₁⟩) with ⟨v, vm₁, ⟨U', l2, c2, s2⟩, hW₁, X', ⟨g', mk, t, L, e1, e2, hq, h1, hL, h2, h3⟩, st⟩ | ⟨q, vm₁, ⟨U', l2, c2, s2⟩, hW₁, X', ⟨g', mk, t, L, E, ce, e1, e2, hq, hce, hcv, hcl, h1, hL, h2, h3⟩, st⟩
  · dsimp only [Pt.U, Pt.locs, Pt.cells, Pt.slots] at X' e1 e2 h1 h2 h3 st
    subst h1; subst h2; subst h3
    exact Or.inl ⟨v, (T.setVm vm₁).calling g' mk As.toArray, t, U', L, hT, X', hL, e1, e2, hq, st⟩
  · dsimp only [Pt.U, Pt.locs, Pt.cells, Pt.slots] at X' e1 e2 h1 h2 h3 st hcl
    subst h1; subst h2; subst h3
    exact Or.inr ⟨q, (T.setVm vm₁).calling g' mk As.toArray, t, U', L, E, ce, hT, X', hL, e1, e2, hq, hce, hcv, vx_cls hW₁ hcl, st⟩
end
end VXH
theorem vx_ofWH {l : Launch} {y : MethodName} {ws ws' : List Cond} {rm : Room} {Pc : Array Value → State → Prop} {Qc : Array Value → State → Outcome → State → Prop} {XC : String → State → State → Prop} {mc ms : Nat} {free : Addr → Prop} {cc : ByteArray} {maxL : Nat} {ret : Option FieldType} {hh : List (Nat × Nat × Nat × Nat)}
    (hy : plainName y.cls = true) (hw : ws = Cond.codeWith y cc maxL ret hh :: ws')
    (body : ∀ p e s m args below meth c s₁, BodyLoose p l y (headSpec ws rm) cc maxL ret e s m args below meth c s₁ → c.maxLocals = maxL → Pc args s →
      W p l e (headSpec ws rm).room s m args below meth c s.heap [] 0 0 (vx_MQ below Qc XC args s mc ms free) (entryFrame m args maxL)) : vx_Met l y ws rm Pc Qc XC mc ms free := by
  refine MetFree.of_bodyS (code := cc) (maxLocals := maxL) (ret := ret) hy ?_ ?_
  · intro args s m h hn
    obtain ⟨m9, meth, c, hn9, h1, h2, h3, h4, -, h5, h6, -⟩ := Cond.codeWith_spec (atoms_spec (ws := ws) h _ (by rw [hw]; exact List.mem_cons_self))
    cases hn.symm.trans hn9
    exact ⟨meth, c, h1, h2, h3, h4, h5, h6⟩
  · intro p e s m args below meth c s₁ B hml hP _
    have hh0 : s₁.heap = s.heap := by rw [B.state]; rfl
    obtain ⟨t, a1, o, b1, b2, b3⟩ := body p e s m args below meth c s₁ B hml hP s₁ hh0 (Stand.of_body B)
    exact ⟨t, o, a1, b1, b2, b3⟩
/-! ===== END ===== -/

/-! ===== BEGIN printed: names, fields, word lists, decode rows ===== -/
def RX0 : String := "NestedFrames$Piece"
def TX0 : u_T := fun k => match k with
  | 0 => ("NestedFrames$Piece", "number", "I", true)
  | 1 => ("NestedFrames$Piece", "level", "I", true)
  | 2 => ("NestedFrames$Piece", "held", "[LNestedFrames$Piece;", true)
  | 3 => ("NestedFrames$Piece", "size", "I", false)
  | 4 => ("NestedFrames$Piece", "holder", "LNestedFrames$Piece;", false)
  | 5 => ("NestedFrames$Piece", "x1", "I", false)
  | 6 => ("NestedFrames$Piece", "y1", "I", false)
  | 7 => ("NestedFrames$Piece", "x2", "I", false)
  | _ => ("NestedFrames$Piece", "y2", "I", false)
def tyX0 : Nat → FieldType := fun k => match k with
  | 0 => .int
  | 1 => .int
  | 2 => .array (.object "NestedFrames$Piece")
  | 3 => .int
  | 4 => .object "NestedFrames$Piece"
  | 5 => .int
  | 6 => .int
  | 7 => .int
  | _ => .int
abbrev wsX00 : List Cond := u_ws RX0 TX0 9
theorem nmX0 : ∀ a, a < 9 → ∀ b, b < 9 → a ≠ b → (TX0 a).2.1 ≠ (TX0 b).2.1 := by decide +kernel
theorem tyX0_ok : ∀ k, k < 9 → parseFieldDescriptor (TX0 k).2.2.1 = some (tyX0 k) := by decide +kernel
abbrev cX0_init : ByteArray := prog_2_method_1_code
def yX0_init : MethodName := ⟨RX0, "<init>", "(IIIII)V"⟩
abbrev cX0_init_ : ByteArray := prog_2_method_2_code
def yX0_init_ : MethodName := ⟨RX0, "<init>", "(I)V"⟩
abbrev cX0_area : ByteArray := prog_2_method_3_code
def yX0_area : MethodName := ⟨RX0, "area", "()I"⟩
abbrev cX0_meets : ByteArray := prog_2_method_4_code
def yX0_meets : MethodName := ⟨RX0, "meets", "(LNestedFrames$Piece;)Z"⟩
abbrev cX0_growthFor : ByteArray := prog_2_method_5_code
def yX0_growthFor : MethodName := ⟨RX0, "growthFor", "(LNestedFrames$Piece;)I"⟩
abbrev cX0_squaredDistance : ByteArray := prog_2_method_6_code
def yX0_squaredDistance : MethodName := ⟨RX0, "squaredDistance", "(II)I"⟩
abbrev cX0_at : ByteArray := prog_2_method_7_code
def yX0_at : MethodName := ⟨RX0, "at", "(I)LNestedFrames$Piece;"⟩
abbrev cX0_placeOf : ByteArray := prog_2_method_8_code
def yX0_placeOf : MethodName := ⟨RX0, "placeOf", "(LNestedFrames$Piece;)I"⟩
abbrev cX0_insert : ByteArray := prog_2_method_9_code
def yX0_insert : MethodName := ⟨RX0, "insert", "(ILNestedFrames$Piece;)V"⟩
abbrev cX0_append : ByteArray := prog_2_method_10_code
def yX0_append : MethodName := ⟨RX0, "append", "(LNestedFrames$Piece;)V"⟩
abbrev cX0_takeOut : ByteArray := prog_2_method_11_code
def yX0_takeOut : MethodName := ⟨RX0, "takeOut", "(I)LNestedFrames$Piece;"⟩
abbrev cX0_tighten : ByteArray := prog_2_method_12_code
def yX0_tighten : MethodName := ⟨RX0, "tighten", "()V"⟩
abbrev cX0_widenTo : ByteArray := prog_2_method_13_code
def yX0_widenTo : MethodName := ⟨RX0, "widenTo", "(LNestedFrames$Piece;)V"⟩
abbrev cX0_lowerEdge : ByteArray := prog_2_method_14_code
def yX0_lowerEdge : MethodName := ⟨RX0, "lowerEdge", "(Z)I"⟩
abbrev cX0_lowerEdgeAt : ByteArray := prog_2_method_15_code
def yX0_lowerEdgeAt : MethodName := ⟨RX0, "lowerEdgeAt", "(IZ)I"⟩
abbrev cX0_spreadOfLowerEdges : ByteArray := prog_2_method_16_code
def yX0_spreadOfLowerEdges : MethodName := ⟨RX0, "spreadOfLowerEdges", "(Z)I"⟩
abbrev cX0_splitsAlongX : ByteArray := prog_2_method_17_code
def yX0_splitsAlongX : MethodName := ⟨RX0, "splitsAlongX", "()Z"⟩
abbrev cX0_sortByLowerEdges : ByteArray := prog_2_method_18_code
def yX0_sortByLowerEdges : MethodName := ⟨RX0, "sortByLowerEdges", "(Z)V"⟩
def RX1 : String := "NestedFrames"
def TX1 : u_T := fun k => match k with
  | 0 => ("NestedFrames", "allotments", "[LNestedFrames$Piece;", true)
  | 1 => ("NestedFrames", "came", "I", false)
  | 2 => ("NestedFrames", "splitsInAll", "I", false)
  | _ => ("NestedFrames", "top", "LNestedFrames$Piece;", false)
def tyX1 : Nat → FieldType := fun k => match k with
  | 0 => .array (.object "NestedFrames$Piece")
  | 1 => .int
  | 2 => .int
  | _ => .object "NestedFrames$Piece"
abbrev wsX10 : List Cond := u_ws RX1 TX1 4
theorem nmX1 : ∀ a, a < 4 → ∀ b, b < 4 → a ≠ b → (TX1 a).2.1 ≠ (TX1 b).2.1 := by decide +kernel
theorem tyX1_ok : ∀ k, k < 4 → parseFieldDescriptor (TX1 k).2.2.1 = some (tyX1 k) := by decide +kernel
abbrev cX1_init : ByteArray := prog_1_method_1_code
def yX1_init : MethodName := ⟨RX1, "<init>", "()V"⟩
abbrev cX1_come : ByteArray := prog_1_method_2_code
def yX1_come : MethodName := ⟨RX1, "come", "(IIII)I"⟩
abbrev cX1_go : ByteArray := prog_1_method_3_code
def yX1_go : MethodName := ⟨RX1, "go", "(I)I"⟩
abbrev cX1_told : ByteArray := prog_1_method_4_code
def yX1_told : MethodName := ⟨RX1, "told", "(II)I"⟩
abbrev cX1_way : ByteArray := prog_1_method_5_code
def yX1_way : MethodName := ⟨RX1, "way", "(II)I"⟩
abbrev cX1_overlaps : ByteArray := prog_1_method_6_code
def yX1_overlaps : MethodName := ⟨RX1, "overlaps", "(IIII)I"⟩
abbrev cX1_looks : ByteArray := prog_1_method_7_code
def yX1_looks : MethodName := ⟨RX1, "looks", "(IIII)I"⟩
abbrev cX1_nearest : ByteArray := prog_1_method_8_code
def yX1_nearest : MethodName := ⟨RX1, "nearest", "(II)I"⟩
abbrev cX1_count : ByteArray := prog_1_method_9_code
def yX1_count : MethodName := ⟨RX1, "count", "(I)I"⟩
abbrev cX1_grows : ByteArray := prog_1_method_10_code
def yX1_grows : MethodName := ⟨RX1, "grows", "(IIII)I"⟩
abbrev cX1_splits : ByteArray := prog_1_method_11_code
def yX1_splits : MethodName := ⟨RX1, "splits", "(IIII)I"⟩
abbrev cX1_mean : ByteArray := prog_1_method_12_code
def yX1_mean : MethodName := ⟨RX1, "mean", "()D"⟩
abbrev cX1_digest : ByteArray := prog_1_method_13_code
def yX1_digest : MethodName := ⟨RX1, "digest", "()J"⟩
abbrev cX1_isRectangle : ByteArray := prog_1_method_14_code
def yX1_isRectangle : MethodName := ⟨RX1, "isRectangle", "(IIII)Z"⟩
abbrev cX1_isQuestion : ByteArray := prog_1_method_15_code
def yX1_isQuestion : MethodName := ⟨RX1, "isQuestion", "(I)Z"⟩
abbrev cX1_allotmentOrNull : ByteArray := prog_1_method_16_code
def yX1_allotmentOrNull : MethodName := ⟨RX1, "allotmentOrNull", "(I)LNestedFrames$Piece;"⟩
abbrev cX1_heldOrNull : ByteArray := prog_1_method_17_code
def yX1_heldOrNull : MethodName := ⟨RX1, "heldOrNull", "(I)LNestedFrames$Piece;"⟩
abbrev cX1_frameFor : ByteArray := prog_1_method_18_code
def yX1_frameFor : MethodName := ⟨RX1, "frameFor", "(LNestedFrames$Piece;)LNestedFrames$Piece;"⟩
abbrev cX1_leastGrowing : ByteArray := prog_1_method_19_code
def yX1_leastGrowing : MethodName := ⟨RX1, "leastGrowing", "(LNestedFrames$Piece;LNestedFrames$Piece;)LNestedFrames$Piece;"⟩
abbrev cX1_isBetterFor : ByteArray := prog_1_method_20_code
def yX1_isBetterFor : MethodName := ⟨RX1, "isBetterFor", "(LNestedFrames$Piece;LNestedFrames$Piece;LNestedFrames$Piece;)Z"⟩
abbrev cX1_splitCrowdedAndTighten : ByteArray := prog_1_method_21_code
def yX1_splitCrowdedAndTighten : MethodName := ⟨RX1, "splitCrowdedAndTighten", "(LNestedFrames$Piece;)V"⟩
abbrev cX1_split : ByteArray := prog_1_method_22_code
def yX1_split : MethodName := ⟨RX1, "split", "(LNestedFrames$Piece;)V"⟩
abbrev cX1_raiseTop : ByteArray := prog_1_method_23_code
def yX1_raiseTop : MethodName := ⟨RX1, "raiseTop", "()V"⟩
abbrev cX1_dropEmptyAndTighten : ByteArray := prog_1_method_24_code
def yX1_dropEmptyAndTighten : MethodName := ⟨RX1, "dropEmptyAndTighten", "(LNestedFrames$Piece;)V"⟩
abbrev cX1_lowerTop : ByteArray := prog_1_method_25_code
def yX1_lowerTop : MethodName := ⟨RX1, "lowerTop", "()V"⟩
abbrev cX1_placeBesideOthers : ByteArray := prog_1_method_26_code
def yX1_placeBesideOthers : MethodName := ⟨RX1, "placeBesideOthers", "(LNestedFrames$Piece;)I"⟩
abbrev cX1_answerOf : ByteArray := prog_1_method_27_code
def yX1_answerOf : MethodName := ⟨RX1, "answerOf", "(LNestedFrames$Piece;I)I"⟩
abbrev cX1_othersThatMeet : ByteArray := prog_1_method_28_code
def yX1_othersThatMeet : MethodName := ⟨RX1, "othersThatMeet", "(LNestedFrames$Piece;)I"⟩
abbrev cX1_heldThatMeet : ByteArray := prog_1_method_29_code
def yX1_heldThatMeet : MethodName := ⟨RX1, "heldThatMeet", "(LNestedFrames$Piece;)I"⟩
abbrev cX1_counted : ByteArray := prog_1_method_30_code
def yX1_counted : MethodName := ⟨RX1, "counted", "(I)I"⟩
abbrev cX1_heldInAll : ByteArray := prog_1_method_31_code
def yX1_heldInAll : MethodName := ⟨RX1, "heldInAll", "()I"⟩
abbrev cX1_isBottom : ByteArray := prog_1_method_32_code
def yX1_isBottom : MethodName := ⟨RX1, "isBottom", "(LNestedFrames$Piece;I)Z"⟩
abbrev cX1_framesIn : ByteArray := prog_1_method_33_code
def yX1_framesIn : MethodName := ⟨RX1, "framesIn", "(LNestedFrames$Piece;I)I"⟩
abbrev cX1_hedgeAreasIn : ByteArray := prog_1_method_34_code
def yX1_hedgeAreasIn : MethodName := ⟨RX1, "hedgeAreasIn", "(LNestedFrames$Piece;I)I"⟩
abbrev cX1_meetingPairsIn : ByteArray := prog_1_method_35_code
def yX1_meetingPairsIn : MethodName := ⟨RX1, "meetingPairsIn", "(LNestedFrames$Piece;I)I"⟩
abbrev cX1_meetingsBehind : ByteArray := prog_1_method_36_code
def yX1_meetingsBehind : MethodName := ⟨RX1, "meetingsBehind", "(LNestedFrames$Piece;ILNestedFrames$Piece;)I"⟩
abbrev cX1_framesLookedAt : ByteArray := prog_1_method_37_code
def yX1_framesLookedAt : MethodName := ⟨RX1, "framesLookedAt", "(LNestedFrames$Piece;LNestedFrames$Piece;I)I"⟩
abbrev cX1_digestOfFrames : ByteArray := prog_1_method_38_code
def yX1_digestOfFrames : MethodName := ⟨RX1, "digestOfFrames", "(LNestedFrames$Piece;JI)J"⟩
abbrev cX1_digestOfFrame : ByteArray := prog_1_method_39_code
def yX1_digestOfFrame : MethodName := ⟨RX1, "digestOfFrame", "(LNestedFrames$Piece;J)J"⟩
def RX2 : String := "NestedFramesModel"
def TX2 : u_T := fun k => match k with
  | 0 => ("NestedFramesModel", "thrown", "I", false)
  | 1 => ("NestedFramesModel", "came", "I", false)
  | 2 => ("NestedFramesModel", "split", "I", false)
  | 3 => ("NestedFramesModel", "edges", "[I", true)
  | 4 => ("NestedFramesModel", "held", "[I", true)
  | 5 => ("NestedFramesModel", "made", "I", false)
  | 6 => ("NestedFramesModel", "top", "I", false)
  | 7 => ("NestedFramesModel", "many", "[I", true)
  | 8 => ("NestedFramesModel", "holds", "[I", true)
  | 9 => ("NestedFramesModel", "high", "[I", true)
  | 10 => ("NestedFramesModel", "way", "[I", true)
  | 11 => ("NestedFramesModel", "places", "[I", true)
  | 12 => ("NestedFramesModel", "steps", "I", false)
  | _ => ("NestedFramesModel", "rect", "[I", true)
def tyX2 : Nat → FieldType := fun k => match k with
  | 0 => .int
  | 1 => .int
  | 2 => .int
  | 3 => .array .int
  | 4 => .array .int
  | 5 => .int
  | 6 => .int
  | 7 => .array .int
  | 8 => .array .int
  | 9 => .array .int
  | 10 => .array .int
  | 11 => .array .int
  | 12 => .int
  | _ => .array .int
abbrev wsX20 : List Cond := u_ws RX2 TX2 14
theorem nmX2 : ∀ a, a < 14 → ∀ b, b < 14 → a ≠ b → (TX2 a).2.1 ≠ (TX2 b).2.1 := by decide +kernel
theorem tyX2_ok : ∀ k, k < 14 → parseFieldDescriptor (TX2 k).2.2.1 = some (tyX2 k) := by decide +kernel
abbrev cX2_init : ByteArray := prog_4_method_1_code
def yX2_init : MethodName := ⟨RX2, "<init>", "()V"⟩
abbrev cX2_thrown : ByteArray := prog_4_method_2_code
def yX2_thrown : MethodName := ⟨RX2, "thrown", "()I"⟩
abbrev cX2_no : ByteArray := prog_4_method_3_code
def yX2_no : MethodName := ⟨RX2, "no", "(I)I"⟩
abbrev cX2_isAllotment : ByteArray := prog_4_method_4_code
def yX2_isAllotment : MethodName := ⟨RX2, "isAllotment", "(I)Z"⟩
abbrev cX2_isRect : ByteArray := prog_4_method_5_code
def yX2_isRect : MethodName := ⟨RX2, "isRect", "(IIII)Z"⟩
abbrev cX2_take : ByteArray := prog_4_method_6_code
def yX2_take : MethodName := ⟨RX2, "take", "(IIII)V"⟩
abbrev cX2_held : ByteArray := prog_4_method_7_code
def yX2_held : MethodName := ⟨RX2, "held", "(II)I"⟩
abbrev cX2_edgeOf : ByteArray := prog_4_method_8_code
def yX2_edgeOf : MethodName := ⟨RX2, "edgeOf", "(III)I"⟩
abbrev cX2_edge : ByteArray := prog_4_method_9_code
def yX2_edge : MethodName := ⟨RX2, "edge", "(II)I"⟩
abbrev cX2_area : ByteArray := prog_4_method_10_code
def yX2_area : MethodName := ⟨RX2, "area", "(IIII)I"⟩
abbrev cX2_area_ : ByteArray := prog_4_method_11_code
def yX2_area_ : MethodName := ⟨RX2, "area", "(I)I"⟩
abbrev cX2_rectArea : ByteArray := prog_4_method_12_code
def yX2_rectArea : MethodName := ⟨RX2, "rectArea", "()I"⟩
abbrev cX2_growth : ByteArray := prog_4_method_13_code
def yX2_growth : MethodName := ⟨RX2, "growth", "(I)I"⟩
abbrev cX2_meets : ByteArray := prog_4_method_14_code
def yX2_meets : MethodName := ⟨RX2, "meets", "(IIII)Z"⟩
abbrev cX2_meetsAllotment : ByteArray := prog_4_method_15_code
def yX2_meetsAllotment : MethodName := ⟨RX2, "meetsAllotment", "(I)Z"⟩
abbrev cX2_meetsHedge : ByteArray := prog_4_method_16_code
def yX2_meetsHedge : MethodName := ⟨RX2, "meetsHedge", "(I)Z"⟩
abbrev cX2_goDown : ByteArray := prog_4_method_17_code
def yX2_goDown : MethodName := ⟨RX2, "goDown", "()V"⟩
abbrev cX2_put : ByteArray := prog_4_method_18_code
def yX2_put : MethodName := ⟨RX2, "put", "(III)V"⟩
abbrev cX2_spread : ByteArray := prog_4_method_19_code
def yX2_spread : MethodName := ⟨RX2, "spread", "(II)I"⟩
abbrev cX2_sort : ByteArray := prog_4_method_20_code
def yX2_sort : MethodName := ⟨RX2, "sort", "(II)V"⟩
abbrev cX2_splitOff : ByteArray := prog_4_method_21_code
def yX2_splitOff : MethodName := ⟨RX2, "splitOff", "(I)I"⟩
abbrev cX2_growTop : ByteArray := prog_4_method_22_code
def yX2_growTop : MethodName := ⟨RX2, "growTop", "()V"⟩
abbrev cX2_come : ByteArray := prog_4_method_23_code
def yX2_come : MethodName := ⟨RX2, "come", "(IIII)I"⟩
abbrev cX2_find : ByteArray := prog_4_method_24_code
def yX2_find : MethodName := ⟨RX2, "find", "(III)I"⟩
abbrev cX2_remove : ByteArray := prog_4_method_25_code
def yX2_remove : MethodName := ⟨RX2, "remove", "(II)V"⟩
abbrev cX2_areaOf : ByteArray := prog_4_method_26_code
def yX2_areaOf : MethodName := ⟨RX2, "areaOf", "(I)I"⟩
abbrev cX2_go : ByteArray := prog_4_method_27_code
def yX2_go : MethodName := ⟨RX2, "go", "(I)I"⟩
abbrev cX2_allotmentTold : ByteArray := prog_4_method_28_code
def yX2_allotmentTold : MethodName := ⟨RX2, "allotmentTold", "(II)I"⟩
abbrev cX2_told : ByteArray := prog_4_method_29_code
def yX2_told : MethodName := ⟨RX2, "told", "(II)I"⟩
abbrev cX2_way : ByteArray := prog_4_method_30_code
def yX2_way : MethodName := ⟨RX2, "way", "(II)I"⟩
abbrev cX2_all : ByteArray := prog_4_method_31_code
def yX2_all : MethodName := ⟨RX2, "all", "()I"⟩
abbrev cX2_overlaps : ByteArray := prog_4_method_32_code
def yX2_overlaps : MethodName := ⟨RX2, "overlaps", "(IIII)I"⟩
abbrev cX2_looksFrom : ByteArray := prog_4_method_33_code
def yX2_looksFrom : MethodName := ⟨RX2, "looksFrom", "(I)I"⟩
abbrev cX2_looks : ByteArray := prog_4_method_34_code
def yX2_looks : MethodName := ⟨RX2, "looks", "(IIII)I"⟩
abbrev cX2_off : ByteArray := prog_4_method_35_code
def yX2_off : MethodName := ⟨RX2, "off", "(III)I"⟩
abbrev cX2_farFrom : ByteArray := prog_4_method_36_code
def yX2_farFrom : MethodName := ⟨RX2, "farFrom", "(III)I"⟩
abbrev cX2_nearest : ByteArray := prog_4_method_37_code
def yX2_nearest : MethodName := ⟨RX2, "nearest", "(II)I"⟩
abbrev cX2_sum : ByteArray := prog_4_method_38_code
def yX2_sum : MethodName := ⟨RX2, "sum", "(II)I"⟩
abbrev cX2_heldNow : ByteArray := prog_4_method_39_code
def yX2_heldNow : MethodName := ⟨RX2, "heldNow", "()I"⟩
abbrev cX2_counted : ByteArray := prog_4_method_40_code
def yX2_counted : MethodName := ⟨RX2, "counted", "(I)I"⟩
abbrev cX2_count : ByteArray := prog_4_method_41_code
def yX2_count : MethodName := ⟨RX2, "count", "(I)I"⟩
abbrev cX2_grows : ByteArray := prog_4_method_42_code
def yX2_grows : MethodName := ⟨RX2, "grows", "(IIII)I"⟩
abbrev cX2_splits : ByteArray := prog_4_method_43_code
def yX2_splits : MethodName := ⟨RX2, "splits", "(IIII)I"⟩
abbrev cX2_mean : ByteArray := prog_4_method_44_code
def yX2_mean : MethodName := ⟨RX2, "mean", "()D"⟩
abbrev cX2_digestFrom : ByteArray := prog_4_method_45_code
def yX2_digestFrom : MethodName := ⟨RX2, "digestFrom", "(IJ)J"⟩
abbrev cX2_digest : ByteArray := prog_4_method_46_code
def yX2_digest : MethodName := ⟨RX2, "digest", "()J"⟩
def RJ9 : String := "java/lang/Math"
def TJ9 : u_T := fun k => match k with
  | _ => ("", "", "", false)
def tyJ9 : Nat → FieldType := fun k => match k with
  | _ => .int
abbrev wsJ90 : List Cond := u_ws RJ9 TJ9 0
theorem nmJ9 : ∀ a, a < 0 → ∀ b, b < 0 → a ≠ b → (TJ9 a).2.1 ≠ (TJ9 b).2.1 := by decide +kernel
theorem tyJ9_ok : ∀ k, k < 0 → parseFieldDescriptor (TJ9 k).2.2.1 = some (tyJ9 k) := by decide +kernel
abbrev cJ9_max_7cf53 : ByteArray := prog_9_method_65_code
def yJ9_max_7cf53 : MethodName := ⟨RJ9, "max", "(II)I"⟩
abbrev cJ9_min_7cf53 : ByteArray := prog_9_method_69_code
def yJ9_min_7cf53 : MethodName := ⟨RJ9, "min", "(II)I"⟩
def RJ0 : String := "java/lang/String"
def TJ0 : u_T := fun k => match k with
  | _ => ("", "", "", false)
def tyJ0 : Nat → FieldType := fun k => match k with
  | _ => .int
abbrev wsJ00 : List Cond := u_ws RJ0 TJ0 0
theorem nmJ0 : ∀ a, a < 0 → ∀ b, b < 0 → a ≠ b → (TJ0 a).2.1 ≠ (TJ0 b).2.1 := by decide +kernel
theorem tyJ0_ok : ∀ k, k < 0 → parseFieldDescriptor (TJ0 k).2.2.1 = some (tyJ0 k) := by decide +kernel
def RJ10 : String := "java/lang/System"
def TJ10 : u_T := fun k => match k with
  | _ => ("", "", "", false)
def tyJ10 : Nat → FieldType := fun k => match k with
  | _ => .int
abbrev wsJ100 : List Cond := u_ws RJ10 TJ10 0
theorem nmJ10 : ∀ a, a < 0 → ∀ b, b < 0 → a ≠ b → (TJ10 a).2.1 ≠ (TJ10 b).2.1 := by decide +kernel
theorem tyJ10_ok : ∀ k, k < 0 → parseFieldDescriptor (TJ10 k).2.2.1 = some (tyJ10 k) := by decide +kernel
def RL : String := "NestedFramesLaw"
abbrev cL_come : ByteArray := method_3_code
def yL_come : MethodName := ⟨RL, "come", "(LNestedFrames;IIII[J)I"⟩
abbrev cL_go : ByteArray := method_4_code
def yL_go : MethodName := ⟨RL, "go", "(LNestedFrames;I[J)I"⟩
abbrev cL_told : ByteArray := method_5_code
def yL_told : MethodName := ⟨RL, "told", "(LNestedFrames;II[J)I"⟩
abbrev cL_way : ByteArray := method_6_code
def yL_way : MethodName := ⟨RL, "way", "(LNestedFrames;II[J)I"⟩
abbrev cL_overlaps : ByteArray := method_7_code
def yL_overlaps : MethodName := ⟨RL, "overlaps", "(LNestedFrames;IIII[J)I"⟩
abbrev cL_looks : ByteArray := method_8_code
def yL_looks : MethodName := ⟨RL, "looks", "(LNestedFrames;IIII[J)I"⟩
abbrev cL_nearest : ByteArray := method_9_code
def yL_nearest : MethodName := ⟨RL, "nearest", "(LNestedFrames;II[J)I"⟩
abbrev cL_count : ByteArray := method_10_code
def yL_count : MethodName := ⟨RL, "count", "(LNestedFrames;I[J)I"⟩
abbrev cL_grows : ByteArray := method_11_code
def yL_grows : MethodName := ⟨RL, "grows", "(LNestedFrames;IIII[J)I"⟩
abbrev cL_splits : ByteArray := method_12_code
def yL_splits : MethodName := ⟨RL, "splits", "(LNestedFrames;IIII[J)I"⟩
abbrev cL_law : ByteArray := code
def yL_law : MethodName := ⟨RL, "law", "([I)Z"⟩
def wsJ9_max_7cf53 : List Cond := .code yJ9_max_7cf53 cJ9_max_7cf53 2 (some .int) :: ([])
def wsJ9_min_7cf53 : List Cond := .code yJ9_min_7cf53 cJ9_min_7cf53 2 (some .int) :: ([])
theorem inJ9 : ∀ w ∈ wsJ90, w ∈ lw_tbl := by decide +kernel
theorem inJ0 : ∀ w ∈ wsJ00, w ∈ lw_tbl := by decide +kernel
theorem inJ10 : ∀ w ∈ wsJ100, w ∈ lw_tbl := by decide +kernel
theorem dX0_init_0 : decode cX0_init 0 = .ok (.aload_n 0, 1) := by decide +kernel
theorem dX0_init_1 : decode cX0_init 1 = .ok (.invokespecial 3, 3) := by decide +kernel
theorem dX0_init_4 : decode cX0_init 4 = .ok (.aload_n 0, 1) := by decide +kernel
theorem dX0_init_5 : decode cX0_init 5 = .ok (.iload_n 1, 1) := by decide +kernel
theorem dX0_init_6 : decode cX0_init 6 = .ok (.putfield 9, 3) := by decide +kernel
theorem dX0_init_9 : decode cX0_init 9 = .ok (.aload_n 0, 1) := by decide +kernel
theorem dX0_init_10 : decode cX0_init 10 = .ok (.iconst 0, 1) := by decide +kernel
theorem dX0_init_11 : decode cX0_init 11 = .ok (.putfield 15, 3) := by decide +kernel
theorem dX0_init_14 : decode cX0_init 14 = .ok (.aload_n 0, 1) := by decide +kernel
theorem dX0_init_15 : decode cX0_init 15 = .ok (.iconst 0, 1) := by decide +kernel
theorem dX0_init_16 : decode cX0_init 16 = .ok (.anewarray 10, 3) := by decide +kernel
theorem dX0_init_19 : decode cX0_init 19 = .ok (.putfield 18, 3) := by decide +kernel
theorem dX0_init_22 : decode cX0_init 22 = .ok (.aload_n 0, 1) := by decide +kernel
theorem dX0_init_23 : decode cX0_init 23 = .ok (.iload_n 2, 1) := by decide +kernel
theorem dX0_init_24 : decode cX0_init 24 = .ok (.putfield 22, 3) := by decide +kernel
theorem dX0_init_27 : decode cX0_init 27 = .ok (.aload_n 0, 1) := by decide +kernel
theorem dX0_init_28 : decode cX0_init 28 = .ok (.iload_n 3, 1) := by decide +kernel
theorem dX0_init_29 : decode cX0_init 29 = .ok (.putfield 25, 3) := by decide +kernel
theorem dX0_init_32 : decode cX0_init 32 = .ok (.aload_n 0, 1) := by decide +kernel
theorem dX0_init_33 : decode cX0_init 33 = .ok (.iload 4, 2) := by decide +kernel
theorem dX0_init_35 : decode cX0_init 35 = .ok (.putfield 28, 3) := by decide +kernel
theorem dX0_init_38 : decode cX0_init 38 = .ok (.aload_n 0, 1) := by decide +kernel
theorem dX0_init_39 : decode cX0_init 39 = .ok (.iload 5, 2) := by decide +kernel
theorem dX0_init_41 : decode cX0_init 41 = .ok (.putfield 31, 3) := by decide +kernel
theorem dX0_init_44 : decode cX0_init 44 = .ok (.return_, 1) := by decide +kernel
theorem dX0_init__0 : decode cX0_init_ 0 = .ok (.aload_n 0, 1) := by decide +kernel
theorem dX0_init__1 : decode cX0_init_ 1 = .ok (.invokespecial 3, 3) := by decide +kernel
theorem dX0_init__4 : decode cX0_init_ 4 = .ok (.aload_n 0, 1) := by decide +kernel
theorem dX0_init__5 : decode cX0_init_ 5 = .ok (.iconst (-1), 1) := by decide +kernel
theorem dX0_init__6 : decode cX0_init_ 6 = .ok (.putfield 9, 3) := by decide +kernel
theorem dX0_init__9 : decode cX0_init_ 9 = .ok (.aload_n 0, 1) := by decide +kernel
theorem dX0_init__10 : decode cX0_init_ 10 = .ok (.iload_n 1, 1) := by decide +kernel
theorem dX0_init__11 : decode cX0_init_ 11 = .ok (.putfield 15, 3) := by decide +kernel
theorem dX0_init__14 : decode cX0_init_ 14 = .ok (.aload_n 0, 1) := by decide +kernel
theorem dX0_init__15 : decode cX0_init_ 15 = .ok (.iconst 5, 1) := by decide +kernel
theorem dX0_init__16 : decode cX0_init_ 16 = .ok (.anewarray 10, 3) := by decide +kernel
theorem dX0_init__19 : decode cX0_init_ 19 = .ok (.putfield 18, 3) := by decide +kernel
theorem dX0_init__22 : decode cX0_init_ 22 = .ok (.aload_n 0, 1) := by decide +kernel
theorem dX0_init__23 : decode cX0_init_ 23 = .ok (.iconst (-1), 1) := by decide +kernel
theorem dX0_init__24 : decode cX0_init_ 24 = .ok (.putfield 28, 3) := by decide +kernel
theorem dX0_init__27 : decode cX0_init_ 27 = .ok (.aload_n 0, 1) := by decide +kernel
theorem dX0_init__28 : decode cX0_init_ 28 = .ok (.iconst (-1), 1) := by decide +kernel
theorem dX0_init__29 : decode cX0_init_ 29 = .ok (.putfield 31, 3) := by decide +kernel
theorem dX0_init__32 : decode cX0_init_ 32 = .ok (.return_, 1) := by decide +kernel
theorem dX0_area_0 : decode cX0_area 0 = .ok (.aload_n 0, 1) := by decide +kernel
theorem dX0_area_1 : decode cX0_area 1 = .ok (.getfield 28, 3) := by decide +kernel
theorem dX0_area_4 : decode cX0_area 4 = .ok (.aload_n 0, 1) := by decide +kernel
theorem dX0_area_5 : decode cX0_area 5 = .ok (.getfield 22, 3) := by decide +kernel
theorem dX0_area_8 : decode cX0_area 8 = .ok (.isub, 1) := by decide +kernel
theorem dX0_area_9 : decode cX0_area 9 = .ok (.iconst 1, 1) := by decide +kernel
theorem dX0_area_10 : decode cX0_area 10 = .ok (.iadd, 1) := by decide +kernel
theorem dX0_area_11 : decode cX0_area 11 = .ok (.aload_n 0, 1) := by decide +kernel
theorem dX0_area_12 : decode cX0_area 12 = .ok (.getfield 31, 3) := by decide +kernel
theorem dX0_area_15 : decode cX0_area 15 = .ok (.aload_n 0, 1) := by decide +kernel
theorem dX0_area_16 : decode cX0_area 16 = .ok (.getfield 25, 3) := by decide +kernel
theorem dX0_area_19 : decode cX0_area 19 = .ok (.isub, 1) := by decide +kernel
theorem dX0_area_20 : decode cX0_area 20 = .ok (.iconst 1, 1) := by decide +kernel
theorem dX0_area_21 : decode cX0_area 21 = .ok (.iadd, 1) := by decide +kernel
theorem dX0_area_22 : decode cX0_area 22 = .ok (.imul, 1) := by decide +kernel
theorem dX0_area_23 : decode cX0_area 23 = .ok (.ireturn, 1) := by decide +kernel
theorem dX0_meets_0 : decode cX0_meets 0 = .ok (.aload_n 0, 1) := by decide +kernel
theorem dX0_meets_1 : decode cX0_meets 1 = .ok (.getfield 22, 3) := by decide +kernel
theorem dX0_meets_4 : decode cX0_meets 4 = .ok (.aload_n 1, 1) := by decide +kernel
theorem dX0_meets_5 : decode cX0_meets 5 = .ok (.getfield 28, 3) := by decide +kernel
theorem dX0_meets_8 : decode cX0_meets 8 = .ok (.if_icmp .gt 40, 3) := by decide +kernel
theorem dX0_meets_11 : decode cX0_meets 11 = .ok (.aload_n 1, 1) := by decide +kernel
theorem dX0_meets_12 : decode cX0_meets 12 = .ok (.getfield 22, 3) := by decide +kernel
theorem dX0_meets_15 : decode cX0_meets 15 = .ok (.aload_n 0, 1) := by decide +kernel
theorem dX0_meets_16 : decode cX0_meets 16 = .ok (.getfield 28, 3) := by decide +kernel
theorem dX0_meets_19 : decode cX0_meets 19 = .ok (.if_icmp .gt 29, 3) := by decide +kernel
theorem dX0_meets_22 : decode cX0_meets 22 = .ok (.aload_n 0, 1) := by decide +kernel
theorem dX0_meets_23 : decode cX0_meets 23 = .ok (.getfield 25, 3) := by decide +kernel
theorem dX0_meets_26 : decode cX0_meets 26 = .ok (.aload_n 1, 1) := by decide +kernel
theorem dX0_meets_27 : decode cX0_meets 27 = .ok (.getfield 31, 3) := by decide +kernel
theorem dX0_meets_30 : decode cX0_meets 30 = .ok (.if_icmp .gt 18, 3) := by decide +kernel
theorem dX0_meets_33 : decode cX0_meets 33 = .ok (.aload_n 1, 1) := by decide +kernel
theorem dX0_meets_34 : decode cX0_meets 34 = .ok (.getfield 25, 3) := by decide +kernel
theorem dX0_meets_37 : decode cX0_meets 37 = .ok (.aload_n 0, 1) := by decide +kernel
theorem dX0_meets_38 : decode cX0_meets 38 = .ok (.getfield 31, 3) := by decide +kernel
theorem dX0_meets_41 : decode cX0_meets 41 = .ok (.if_icmp .gt 7, 3) := by decide +kernel
theorem dX0_meets_44 : decode cX0_meets 44 = .ok (.iconst 1, 1) := by decide +kernel
theorem dX0_meets_45 : decode cX0_meets 45 = .ok (.goto 4, 3) := by decide +kernel
theorem dX0_meets_48 : decode cX0_meets 48 = .ok (.iconst 0, 1) := by decide +kernel
theorem dX0_meets_49 : decode cX0_meets 49 = .ok (.ireturn, 1) := by decide +kernel
theorem dX0_growthFor_0 : decode cX0_growthFor 0 = .ok (.aload_n 0, 1) := by decide +kernel
theorem dX0_growthFor_1 : decode cX0_growthFor 1 = .ok (.invokevirtual 34, 3) := by decide +kernel
theorem dX0_growthFor_4 : decode cX0_growthFor 4 = .ok (.ifCond .ne 8, 3) := by decide +kernel
theorem dX0_growthFor_7 : decode cX0_growthFor 7 = .ok (.aload_n 1, 1) := by decide +kernel
theorem dX0_growthFor_8 : decode cX0_growthFor 8 = .ok (.invokevirtual 34, 3) := by decide +kernel
theorem dX0_growthFor_11 : decode cX0_growthFor 11 = .ok (.ireturn, 1) := by decide +kernel
theorem dX0_growthFor_12 : decode cX0_growthFor 12 = .ok (.aload_n 0, 1) := by decide +kernel
theorem dX0_growthFor_13 : decode cX0_growthFor 13 = .ok (.getfield 28, 3) := by decide +kernel
theorem dX0_growthFor_16 : decode cX0_growthFor 16 = .ok (.aload_n 1, 1) := by decide +kernel
theorem dX0_growthFor_17 : decode cX0_growthFor 17 = .ok (.getfield 28, 3) := by decide +kernel
theorem dX0_growthFor_20 : decode cX0_growthFor 20 = .ok (.invokestatic 38, 3) := by decide +kernel
theorem dX0_growthFor_23 : decode cX0_growthFor 23 = .ok (.aload_n 0, 1) := by decide +kernel
theorem dX0_growthFor_24 : decode cX0_growthFor 24 = .ok (.getfield 22, 3) := by decide +kernel
theorem dX0_growthFor_27 : decode cX0_growthFor 27 = .ok (.aload_n 1, 1) := by decide +kernel
theorem dX0_growthFor_28 : decode cX0_growthFor 28 = .ok (.getfield 22, 3) := by decide +kernel
theorem dX0_growthFor_31 : decode cX0_growthFor 31 = .ok (.invokestatic 44, 3) := by decide +kernel
theorem dX0_growthFor_34 : decode cX0_growthFor 34 = .ok (.isub, 1) := by decide +kernel
theorem dX0_growthFor_35 : decode cX0_growthFor 35 = .ok (.iconst 1, 1) := by decide +kernel
theorem dX0_growthFor_36 : decode cX0_growthFor 36 = .ok (.iadd, 1) := by decide +kernel
theorem dX0_growthFor_37 : decode cX0_growthFor 37 = .ok (.istore_n 2, 1) := by decide +kernel
theorem dX0_growthFor_38 : decode cX0_growthFor 38 = .ok (.aload_n 0, 1) := by decide +kernel
theorem dX0_growthFor_39 : decode cX0_growthFor 39 = .ok (.getfield 31, 3) := by decide +kernel
theorem dX0_growthFor_42 : decode cX0_growthFor 42 = .ok (.aload_n 1, 1) := by decide +kernel
theorem dX0_growthFor_43 : decode cX0_growthFor 43 = .ok (.getfield 31, 3) := by decide +kernel
theorem dX0_growthFor_46 : decode cX0_growthFor 46 = .ok (.invokestatic 38, 3) := by decide +kernel
theorem dX0_growthFor_49 : decode cX0_growthFor 49 = .ok (.aload_n 0, 1) := by decide +kernel
theorem dX0_growthFor_50 : decode cX0_growthFor 50 = .ok (.getfield 25, 3) := by decide +kernel
theorem dX0_growthFor_53 : decode cX0_growthFor 53 = .ok (.aload_n 1, 1) := by decide +kernel
theorem dX0_growthFor_54 : decode cX0_growthFor 54 = .ok (.getfield 25, 3) := by decide +kernel
theorem dX0_growthFor_57 : decode cX0_growthFor 57 = .ok (.invokestatic 44, 3) := by decide +kernel
theorem dX0_growthFor_60 : decode cX0_growthFor 60 = .ok (.isub, 1) := by decide +kernel
theorem dX0_growthFor_61 : decode cX0_growthFor 61 = .ok (.iconst 1, 1) := by decide +kernel
theorem dX0_growthFor_62 : decode cX0_growthFor 62 = .ok (.iadd, 1) := by decide +kernel
theorem dX0_growthFor_63 : decode cX0_growthFor 63 = .ok (.istore_n 3, 1) := by decide +kernel
theorem dX0_growthFor_64 : decode cX0_growthFor 64 = .ok (.iload_n 2, 1) := by decide +kernel
theorem dX0_growthFor_65 : decode cX0_growthFor 65 = .ok (.iload_n 3, 1) := by decide +kernel
theorem dX0_growthFor_66 : decode cX0_growthFor 66 = .ok (.imul, 1) := by decide +kernel
theorem dX0_growthFor_67 : decode cX0_growthFor 67 = .ok (.aload_n 0, 1) := by decide +kernel
theorem dX0_growthFor_68 : decode cX0_growthFor 68 = .ok (.invokevirtual 34, 3) := by decide +kernel
theorem dX0_growthFor_71 : decode cX0_growthFor 71 = .ok (.isub, 1) := by decide +kernel
theorem dX0_growthFor_72 : decode cX0_growthFor 72 = .ok (.ireturn, 1) := by decide +kernel
theorem dX0_squaredDistance_0 : decode cX0_squaredDistance 0 = .ok (.iconst 0, 1) := by decide +kernel
theorem dX0_squaredDistance_1 : decode cX0_squaredDistance 1 = .ok (.aload_n 0, 1) := by decide +kernel
theorem dX0_squaredDistance_2 : decode cX0_squaredDistance 2 = .ok (.getfield 22, 3) := by decide +kernel
theorem dX0_squaredDistance_5 : decode cX0_squaredDistance 5 = .ok (.iload_n 1, 1) := by decide +kernel
theorem dX0_squaredDistance_6 : decode cX0_squaredDistance 6 = .ok (.isub, 1) := by decide +kernel
theorem dX0_squaredDistance_7 : decode cX0_squaredDistance 7 = .ok (.iload_n 1, 1) := by decide +kernel
theorem dX0_squaredDistance_8 : decode cX0_squaredDistance 8 = .ok (.aload_n 0, 1) := by decide +kernel
theorem dX0_squaredDistance_9 : decode cX0_squaredDistance 9 = .ok (.getfield 28, 3) := by decide +kernel
theorem dX0_squaredDistance_12 : decode cX0_squaredDistance 12 = .ok (.isub, 1) := by decide +kernel
theorem dX0_squaredDistance_13 : decode cX0_squaredDistance 13 = .ok (.invokestatic 38, 3) := by decide +kernel
theorem dX0_squaredDistance_16 : decode cX0_squaredDistance 16 = .ok (.invokestatic 38, 3) := by decide +kernel
theorem dX0_squaredDistance_19 : decode cX0_squaredDistance 19 = .ok (.istore_n 3, 1) := by decide +kernel
theorem dX0_squaredDistance_20 : decode cX0_squaredDistance 20 = .ok (.iconst 0, 1) := by decide +kernel
theorem dX0_squaredDistance_21 : decode cX0_squaredDistance 21 = .ok (.aload_n 0, 1) := by decide +kernel
theorem dX0_squaredDistance_22 : decode cX0_squaredDistance 22 = .ok (.getfield 25, 3) := by decide +kernel
theorem dX0_squaredDistance_25 : decode cX0_squaredDistance 25 = .ok (.iload_n 2, 1) := by decide +kernel
theorem dX0_squaredDistance_26 : decode cX0_squaredDistance 26 = .ok (.isub, 1) := by decide +kernel
theorem dX0_squaredDistance_27 : decode cX0_squaredDistance 27 = .ok (.iload_n 2, 1) := by decide +kernel
theorem dX0_squaredDistance_28 : decode cX0_squaredDistance 28 = .ok (.aload_n 0, 1) := by decide +kernel
theorem dX0_squaredDistance_29 : decode cX0_squaredDistance 29 = .ok (.getfield 31, 3) := by decide +kernel
theorem dX0_squaredDistance_32 : decode cX0_squaredDistance 32 = .ok (.isub, 1) := by decide +kernel
theorem dX0_squaredDistance_33 : decode cX0_squaredDistance 33 = .ok (.invokestatic 38, 3) := by decide +kernel
theorem dX0_squaredDistance_36 : decode cX0_squaredDistance 36 = .ok (.invokestatic 38, 3) := by decide +kernel
theorem dX0_squaredDistance_39 : decode cX0_squaredDistance 39 = .ok (.istore 4, 2) := by decide +kernel
theorem dX0_squaredDistance_41 : decode cX0_squaredDistance 41 = .ok (.iload_n 3, 1) := by decide +kernel
theorem dX0_squaredDistance_42 : decode cX0_squaredDistance 42 = .ok (.iload_n 3, 1) := by decide +kernel
theorem dX0_squaredDistance_43 : decode cX0_squaredDistance 43 = .ok (.imul, 1) := by decide +kernel
theorem dX0_squaredDistance_44 : decode cX0_squaredDistance 44 = .ok (.iload 4, 2) := by decide +kernel
theorem dX0_squaredDistance_46 : decode cX0_squaredDistance 46 = .ok (.iload 4, 2) := by decide +kernel
theorem dX0_squaredDistance_48 : decode cX0_squaredDistance 48 = .ok (.imul, 1) := by decide +kernel
theorem dX0_squaredDistance_49 : decode cX0_squaredDistance 49 = .ok (.iadd, 1) := by decide +kernel
theorem dX0_squaredDistance_50 : decode cX0_squaredDistance 50 = .ok (.ireturn, 1) := by decide +kernel
theorem dX0_at_0 : decode cX0_at 0 = .ok (.iload_n 1, 1) := by decide +kernel
theorem dX0_at_1 : decode cX0_at 1 = .ok (.ifCond .lt 29, 3) := by decide +kernel
theorem dX0_at_4 : decode cX0_at 4 = .ok (.iload_n 1, 1) := by decide +kernel
theorem dX0_at_5 : decode cX0_at 5 = .ok (.aload_n 0, 1) := by decide +kernel
theorem dX0_at_6 : decode cX0_at 6 = .ok (.getfield 47, 3) := by decide +kernel
theorem dX0_at_9 : decode cX0_at 9 = .ok (.if_icmp .ge 21, 3) := by decide +kernel
theorem dX0_at_12 : decode cX0_at 12 = .ok (.iload_n 1, 1) := by decide +kernel
theorem dX0_at_13 : decode cX0_at 13 = .ok (.aload_n 0, 1) := by decide +kernel
theorem dX0_at_14 : decode cX0_at 14 = .ok (.getfield 18, 3) := by decide +kernel
theorem dX0_at_17 : decode cX0_at 17 = .ok (.arraylength, 1) := by decide +kernel
theorem dX0_at_18 : decode cX0_at 18 = .ok (.if_icmp .ge 12, 3) := by decide +kernel
theorem dX0_at_21 : decode cX0_at 21 = .ok (.aload_n 0, 1) := by decide +kernel
theorem dX0_at_22 : decode cX0_at 22 = .ok (.getfield 18, 3) := by decide +kernel
theorem dX0_at_25 : decode cX0_at 25 = .ok (.iload_n 1, 1) := by decide +kernel
theorem dX0_at_26 : decode cX0_at 26 = .ok (.aaload, 1) := by decide +kernel
theorem dX0_at_27 : decode cX0_at 27 = .ok (.goto 4, 3) := by decide +kernel
theorem dX0_at_30 : decode cX0_at 30 = .ok (.aconst_null, 1) := by decide +kernel
theorem dX0_at_31 : decode cX0_at 31 = .ok (.areturn, 1) := by decide +kernel
theorem dX0_placeOf_0 : decode cX0_placeOf 0 = .ok (.iconst 0, 1) := by decide +kernel
theorem dX0_placeOf_1 : decode cX0_placeOf 1 = .ok (.istore_n 2, 1) := by decide +kernel
theorem dX0_placeOf_2 : decode cX0_placeOf 2 = .ok (.iload_n 2, 1) := by decide +kernel
theorem dX0_placeOf_3 : decode cX0_placeOf 3 = .ok (.aload_n 0, 1) := by decide +kernel
theorem dX0_placeOf_4 : decode cX0_placeOf 4 = .ok (.getfield 47, 3) := by decide +kernel
theorem dX0_placeOf_7 : decode cX0_placeOf 7 = .ok (.if_icmp .ge 20, 3) := by decide +kernel
theorem dX0_placeOf_10 : decode cX0_placeOf 10 = .ok (.aload_n 0, 1) := by decide +kernel
theorem dX0_placeOf_11 : decode cX0_placeOf 11 = .ok (.iload_n 2, 1) := by decide +kernel
theorem dX0_placeOf_12 : decode cX0_placeOf 12 = .ok (.invokevirtual 50, 3) := by decide +kernel
theorem dX0_placeOf_15 : decode cX0_placeOf 15 = .ok (.aload_n 1, 1) := by decide +kernel
theorem dX0_placeOf_16 : decode cX0_placeOf 16 = .ok (.if_acmp .ne 5, 3) := by decide +kernel
theorem dX0_placeOf_19 : decode cX0_placeOf 19 = .ok (.iload_n 2, 1) := by decide +kernel
theorem dX0_placeOf_20 : decode cX0_placeOf 20 = .ok (.ireturn, 1) := by decide +kernel
theorem dX0_placeOf_21 : decode cX0_placeOf 21 = .ok (.iinc 2 1, 3) := by decide +kernel
theorem dX0_placeOf_24 : decode cX0_placeOf 24 = .ok (.goto (-22), 3) := by decide +kernel
theorem dX0_placeOf_27 : decode cX0_placeOf 27 = .ok (.iconst (-1), 1) := by decide +kernel
theorem dX0_placeOf_28 : decode cX0_placeOf 28 = .ok (.ireturn, 1) := by decide +kernel
theorem dX0_insert_0 : decode cX0_insert 0 = .ok (.iload_n 1, 1) := by decide +kernel
theorem dX0_insert_1 : decode cX0_insert 1 = .ok (.ifCond .lt 23, 3) := by decide +kernel
theorem dX0_insert_4 : decode cX0_insert 4 = .ok (.iload_n 1, 1) := by decide +kernel
theorem dX0_insert_5 : decode cX0_insert 5 = .ok (.aload_n 0, 1) := by decide +kernel
theorem dX0_insert_6 : decode cX0_insert 6 = .ok (.getfield 47, 3) := by decide +kernel
theorem dX0_insert_9 : decode cX0_insert 9 = .ok (.if_icmp .gt 15, 3) := by decide +kernel
theorem dX0_insert_12 : decode cX0_insert 12 = .ok (.aload_n 0, 1) := by decide +kernel
theorem dX0_insert_13 : decode cX0_insert 13 = .ok (.getfield 47, 3) := by decide +kernel
theorem dX0_insert_16 : decode cX0_insert 16 = .ok (.aload_n 0, 1) := by decide +kernel
theorem dX0_insert_17 : decode cX0_insert 17 = .ok (.getfield 18, 3) := by decide +kernel
theorem dX0_insert_20 : decode cX0_insert 20 = .ok (.arraylength, 1) := by decide +kernel
theorem dX0_insert_21 : decode cX0_insert 21 = .ok (.if_icmp .lt 4, 3) := by decide +kernel
theorem dX0_insert_24 : decode cX0_insert 24 = .ok (.return_, 1) := by decide +kernel
theorem dX0_insert_25 : decode cX0_insert 25 = .ok (.aload_n 0, 1) := by decide +kernel
theorem dX0_insert_26 : decode cX0_insert 26 = .ok (.getfield 47, 3) := by decide +kernel
theorem dX0_insert_29 : decode cX0_insert 29 = .ok (.istore_n 3, 1) := by decide +kernel
theorem dX0_insert_30 : decode cX0_insert 30 = .ok (.iload_n 3, 1) := by decide +kernel
theorem dX0_insert_31 : decode cX0_insert 31 = .ok (.iload_n 1, 1) := by decide +kernel
theorem dX0_insert_32 : decode cX0_insert 32 = .ok (.if_icmp .le 23, 3) := by decide +kernel
theorem dX0_insert_35 : decode cX0_insert 35 = .ok (.aload_n 0, 1) := by decide +kernel
theorem dX0_insert_36 : decode cX0_insert 36 = .ok (.getfield 18, 3) := by decide +kernel
theorem dX0_insert_39 : decode cX0_insert 39 = .ok (.iload_n 3, 1) := by decide +kernel
theorem dX0_insert_40 : decode cX0_insert 40 = .ok (.aload_n 0, 1) := by decide +kernel
theorem dX0_insert_41 : decode cX0_insert 41 = .ok (.getfield 18, 3) := by decide +kernel
theorem dX0_insert_44 : decode cX0_insert 44 = .ok (.iload_n 3, 1) := by decide +kernel
theorem dX0_insert_45 : decode cX0_insert 45 = .ok (.iconst 1, 1) := by decide +kernel
theorem dX0_insert_46 : decode cX0_insert 46 = .ok (.isub, 1) := by decide +kernel
theorem dX0_insert_47 : decode cX0_insert 47 = .ok (.aaload, 1) := by decide +kernel
theorem dX0_insert_48 : decode cX0_insert 48 = .ok (.aastore, 1) := by decide +kernel
theorem dX0_insert_49 : decode cX0_insert 49 = .ok (.iinc 3 (-1), 3) := by decide +kernel
theorem dX0_insert_52 : decode cX0_insert 52 = .ok (.goto (-22), 3) := by decide +kernel
theorem dX0_insert_55 : decode cX0_insert 55 = .ok (.aload_n 0, 1) := by decide +kernel
theorem dX0_insert_56 : decode cX0_insert 56 = .ok (.getfield 18, 3) := by decide +kernel
theorem dX0_insert_59 : decode cX0_insert 59 = .ok (.iload_n 1, 1) := by decide +kernel
theorem dX0_insert_60 : decode cX0_insert 60 = .ok (.aload_n 2, 1) := by decide +kernel
theorem dX0_insert_61 : decode cX0_insert 61 = .ok (.aastore, 1) := by decide +kernel
theorem dX0_insert_62 : decode cX0_insert 62 = .ok (.aload_n 2, 1) := by decide +kernel
theorem dX0_insert_63 : decode cX0_insert 63 = .ok (.aload_n 0, 1) := by decide +kernel
theorem dX0_insert_64 : decode cX0_insert 64 = .ok (.putfield 54, 3) := by decide +kernel
theorem dX0_insert_67 : decode cX0_insert 67 = .ok (.aload_n 0, 1) := by decide +kernel
theorem dX0_insert_68 : decode cX0_insert 68 = .ok (.dup, 1) := by decide +kernel
theorem dX0_insert_69 : decode cX0_insert 69 = .ok (.getfield 47, 3) := by decide +kernel
theorem dX0_insert_72 : decode cX0_insert 72 = .ok (.iconst 1, 1) := by decide +kernel
theorem dX0_insert_73 : decode cX0_insert 73 = .ok (.iadd, 1) := by decide +kernel
theorem dX0_insert_74 : decode cX0_insert 74 = .ok (.putfield 47, 3) := by decide +kernel
theorem dX0_insert_77 : decode cX0_insert 77 = .ok (.return_, 1) := by decide +kernel
theorem dX0_append_0 : decode cX0_append 0 = .ok (.aload_n 0, 1) := by decide +kernel
theorem dX0_append_1 : decode cX0_append 1 = .ok (.aload_n 0, 1) := by decide +kernel
theorem dX0_append_2 : decode cX0_append 2 = .ok (.getfield 47, 3) := by decide +kernel
theorem dX0_append_5 : decode cX0_append 5 = .ok (.aload_n 1, 1) := by decide +kernel
theorem dX0_append_6 : decode cX0_append 6 = .ok (.invokevirtual 58, 3) := by decide +kernel
theorem dX0_append_9 : decode cX0_append 9 = .ok (.return_, 1) := by decide +kernel
theorem dX0_takeOut_0 : decode cX0_takeOut 0 = .ok (.aload_n 0, 1) := by decide +kernel
theorem dX0_takeOut_1 : decode cX0_takeOut 1 = .ok (.iload_n 1, 1) := by decide +kernel
theorem dX0_takeOut_2 : decode cX0_takeOut 2 = .ok (.invokevirtual 50, 3) := by decide +kernel
theorem dX0_takeOut_5 : decode cX0_takeOut 5 = .ok (.astore_n 2, 1) := by decide +kernel
theorem dX0_takeOut_6 : decode cX0_takeOut 6 = .ok (.aload_n 2, 1) := by decide +kernel
theorem dX0_takeOut_7 : decode cX0_takeOut 7 = .ok (.ifnonnull 5, 3) := by decide +kernel
theorem dX0_takeOut_10 : decode cX0_takeOut 10 = .ok (.aconst_null, 1) := by decide +kernel
theorem dX0_takeOut_11 : decode cX0_takeOut 11 = .ok (.areturn, 1) := by decide +kernel
theorem dX0_takeOut_12 : decode cX0_takeOut 12 = .ok (.iload_n 1, 1) := by decide +kernel
theorem dX0_takeOut_13 : decode cX0_takeOut 13 = .ok (.iconst 1, 1) := by decide +kernel
theorem dX0_takeOut_14 : decode cX0_takeOut 14 = .ok (.iadd, 1) := by decide +kernel
theorem dX0_takeOut_15 : decode cX0_takeOut 15 = .ok (.istore_n 3, 1) := by decide +kernel
theorem dX0_takeOut_16 : decode cX0_takeOut 16 = .ok (.iload_n 3, 1) := by decide +kernel
theorem dX0_takeOut_17 : decode cX0_takeOut 17 = .ok (.aload_n 0, 1) := by decide +kernel
theorem dX0_takeOut_18 : decode cX0_takeOut 18 = .ok (.getfield 47, 3) := by decide +kernel
theorem dX0_takeOut_21 : decode cX0_takeOut 21 = .ok (.if_icmp .ge 32, 3) := by decide +kernel
theorem dX0_takeOut_24 : decode cX0_takeOut 24 = .ok (.iload_n 3, 1) := by decide +kernel
theorem dX0_takeOut_25 : decode cX0_takeOut 25 = .ok (.aload_n 0, 1) := by decide +kernel
theorem dX0_takeOut_26 : decode cX0_takeOut 26 = .ok (.getfield 18, 3) := by decide +kernel
theorem dX0_takeOut_29 : decode cX0_takeOut 29 = .ok (.arraylength, 1) := by decide +kernel
theorem dX0_takeOut_30 : decode cX0_takeOut 30 = .ok (.if_icmp .ge 23, 3) := by decide +kernel
theorem dX0_takeOut_33 : decode cX0_takeOut 33 = .ok (.aload_n 0, 1) := by decide +kernel
theorem dX0_takeOut_34 : decode cX0_takeOut 34 = .ok (.getfield 18, 3) := by decide +kernel
theorem dX0_takeOut_37 : decode cX0_takeOut 37 = .ok (.iload_n 3, 1) := by decide +kernel
theorem dX0_takeOut_38 : decode cX0_takeOut 38 = .ok (.iconst 1, 1) := by decide +kernel
theorem dX0_takeOut_39 : decode cX0_takeOut 39 = .ok (.isub, 1) := by decide +kernel
theorem dX0_takeOut_40 : decode cX0_takeOut 40 = .ok (.aload_n 0, 1) := by decide +kernel
theorem dX0_takeOut_41 : decode cX0_takeOut 41 = .ok (.getfield 18, 3) := by decide +kernel
theorem dX0_takeOut_44 : decode cX0_takeOut 44 = .ok (.iload_n 3, 1) := by decide +kernel
theorem dX0_takeOut_45 : decode cX0_takeOut 45 = .ok (.aaload, 1) := by decide +kernel
theorem dX0_takeOut_46 : decode cX0_takeOut 46 = .ok (.aastore, 1) := by decide +kernel
theorem dX0_takeOut_47 : decode cX0_takeOut 47 = .ok (.iinc 3 1, 3) := by decide +kernel
theorem dX0_takeOut_50 : decode cX0_takeOut 50 = .ok (.goto (-34), 3) := by decide +kernel
theorem dX0_takeOut_53 : decode cX0_takeOut 53 = .ok (.aload_n 0, 1) := by decide +kernel
theorem dX0_takeOut_54 : decode cX0_takeOut 54 = .ok (.dup, 1) := by decide +kernel
theorem dX0_takeOut_55 : decode cX0_takeOut 55 = .ok (.getfield 47, 3) := by decide +kernel
theorem dX0_takeOut_58 : decode cX0_takeOut 58 = .ok (.iconst 1, 1) := by decide +kernel
theorem dX0_takeOut_59 : decode cX0_takeOut 59 = .ok (.isub, 1) := by decide +kernel
theorem dX0_takeOut_60 : decode cX0_takeOut 60 = .ok (.putfield 47, 3) := by decide +kernel
theorem dX0_takeOut_63 : decode cX0_takeOut 63 = .ok (.aload_n 0, 1) := by decide +kernel
theorem dX0_takeOut_64 : decode cX0_takeOut 64 = .ok (.getfield 47, 3) := by decide +kernel
theorem dX0_takeOut_67 : decode cX0_takeOut 67 = .ok (.aload_n 0, 1) := by decide +kernel
theorem dX0_takeOut_68 : decode cX0_takeOut 68 = .ok (.getfield 18, 3) := by decide +kernel
theorem dX0_takeOut_71 : decode cX0_takeOut 71 = .ok (.arraylength, 1) := by decide +kernel
theorem dX0_takeOut_72 : decode cX0_takeOut 72 = .ok (.if_icmp .ge 13, 3) := by decide +kernel
theorem dX0_takeOut_75 : decode cX0_takeOut 75 = .ok (.aload_n 0, 1) := by decide +kernel
theorem dX0_takeOut_76 : decode cX0_takeOut 76 = .ok (.getfield 18, 3) := by decide +kernel
theorem dX0_takeOut_79 : decode cX0_takeOut 79 = .ok (.aload_n 0, 1) := by decide +kernel
theorem dX0_takeOut_80 : decode cX0_takeOut 80 = .ok (.getfield 47, 3) := by decide +kernel
theorem dX0_takeOut_83 : decode cX0_takeOut 83 = .ok (.aconst_null, 1) := by decide +kernel
theorem dX0_takeOut_84 : decode cX0_takeOut 84 = .ok (.aastore, 1) := by decide +kernel
theorem dX0_takeOut_85 : decode cX0_takeOut 85 = .ok (.aload_n 2, 1) := by decide +kernel
theorem dX0_takeOut_86 : decode cX0_takeOut 86 = .ok (.aconst_null, 1) := by decide +kernel
theorem dX0_takeOut_87 : decode cX0_takeOut 87 = .ok (.putfield 54, 3) := by decide +kernel
theorem dX0_takeOut_90 : decode cX0_takeOut 90 = .ok (.aload_n 2, 1) := by decide +kernel
theorem dX0_takeOut_91 : decode cX0_takeOut 91 = .ok (.areturn, 1) := by decide +kernel
theorem dX0_tighten_0 : decode cX0_tighten 0 = .ok (.aload_n 0, 1) := by decide +kernel
theorem dX0_tighten_1 : decode cX0_tighten 1 = .ok (.iconst 0, 1) := by decide +kernel
theorem dX0_tighten_2 : decode cX0_tighten 2 = .ok (.invokevirtual 50, 3) := by decide +kernel
theorem dX0_tighten_5 : decode cX0_tighten 5 = .ok (.astore_n 1, 1) := by decide +kernel
theorem dX0_tighten_6 : decode cX0_tighten 6 = .ok (.aload_n 0, 1) := by decide +kernel
theorem dX0_tighten_7 : decode cX0_tighten 7 = .ok (.aload_n 1, 1) := by decide +kernel
theorem dX0_tighten_8 : decode cX0_tighten 8 = .ok (.ifnonnull 7, 3) := by decide +kernel
theorem dX0_tighten_11 : decode cX0_tighten 11 = .ok (.iconst 0, 1) := by decide +kernel
theorem dX0_tighten_12 : decode cX0_tighten 12 = .ok (.goto 7, 3) := by decide +kernel
theorem dX0_tighten_15 : decode cX0_tighten 15 = .ok (.aload_n 1, 1) := by decide +kernel
theorem dX0_tighten_16 : decode cX0_tighten 16 = .ok (.getfield 22, 3) := by decide +kernel
theorem dX0_tighten_19 : decode cX0_tighten 19 = .ok (.putfield 22, 3) := by decide +kernel
theorem dX0_tighten_22 : decode cX0_tighten 22 = .ok (.aload_n 0, 1) := by decide +kernel
theorem dX0_tighten_23 : decode cX0_tighten 23 = .ok (.aload_n 1, 1) := by decide +kernel
theorem dX0_tighten_24 : decode cX0_tighten 24 = .ok (.ifnonnull 7, 3) := by decide +kernel
theorem dX0_tighten_27 : decode cX0_tighten 27 = .ok (.iconst 0, 1) := by decide +kernel
theorem dX0_tighten_28 : decode cX0_tighten 28 = .ok (.goto 7, 3) := by decide +kernel
theorem dX0_tighten_31 : decode cX0_tighten 31 = .ok (.aload_n 1, 1) := by decide +kernel
theorem dX0_tighten_32 : decode cX0_tighten 32 = .ok (.getfield 25, 3) := by decide +kernel
theorem dX0_tighten_35 : decode cX0_tighten 35 = .ok (.putfield 25, 3) := by decide +kernel
theorem dX0_tighten_38 : decode cX0_tighten 38 = .ok (.aload_n 0, 1) := by decide +kernel
theorem dX0_tighten_39 : decode cX0_tighten 39 = .ok (.aload_n 1, 1) := by decide +kernel
theorem dX0_tighten_40 : decode cX0_tighten 40 = .ok (.ifnonnull 7, 3) := by decide +kernel
theorem dX0_tighten_43 : decode cX0_tighten 43 = .ok (.iconst (-1), 1) := by decide +kernel
theorem dX0_tighten_44 : decode cX0_tighten 44 = .ok (.goto 7, 3) := by decide +kernel
theorem dX0_tighten_47 : decode cX0_tighten 47 = .ok (.aload_n 1, 1) := by decide +kernel
theorem dX0_tighten_48 : decode cX0_tighten 48 = .ok (.getfield 28, 3) := by decide +kernel
theorem dX0_tighten_51 : decode cX0_tighten 51 = .ok (.putfield 28, 3) := by decide +kernel
theorem dX0_tighten_54 : decode cX0_tighten 54 = .ok (.aload_n 0, 1) := by decide +kernel
theorem dX0_tighten_55 : decode cX0_tighten 55 = .ok (.aload_n 1, 1) := by decide +kernel
theorem dX0_tighten_56 : decode cX0_tighten 56 = .ok (.ifnonnull 7, 3) := by decide +kernel
theorem dX0_tighten_59 : decode cX0_tighten 59 = .ok (.iconst (-1), 1) := by decide +kernel
theorem dX0_tighten_60 : decode cX0_tighten 60 = .ok (.goto 7, 3) := by decide +kernel
theorem dX0_tighten_63 : decode cX0_tighten 63 = .ok (.aload_n 1, 1) := by decide +kernel
theorem dX0_tighten_64 : decode cX0_tighten 64 = .ok (.getfield 31, 3) := by decide +kernel
theorem dX0_tighten_67 : decode cX0_tighten 67 = .ok (.putfield 31, 3) := by decide +kernel
theorem dX0_tighten_70 : decode cX0_tighten 70 = .ok (.iconst 1, 1) := by decide +kernel
theorem dX0_tighten_71 : decode cX0_tighten 71 = .ok (.istore_n 2, 1) := by decide +kernel
theorem dX0_tighten_72 : decode cX0_tighten 72 = .ok (.iload_n 2, 1) := by decide +kernel
theorem dX0_tighten_73 : decode cX0_tighten 73 = .ok (.aload_n 0, 1) := by decide +kernel
theorem dX0_tighten_74 : decode cX0_tighten 74 = .ok (.getfield 47, 3) := by decide +kernel
theorem dX0_tighten_77 : decode cX0_tighten 77 = .ok (.if_icmp .ge 24, 3) := by decide +kernel
theorem dX0_tighten_80 : decode cX0_tighten 80 = .ok (.aload_n 0, 1) := by decide +kernel
theorem dX0_tighten_81 : decode cX0_tighten 81 = .ok (.iload_n 2, 1) := by decide +kernel
theorem dX0_tighten_82 : decode cX0_tighten 82 = .ok (.invokevirtual 50, 3) := by decide +kernel
theorem dX0_tighten_85 : decode cX0_tighten 85 = .ok (.astore_n 3, 1) := by decide +kernel
theorem dX0_tighten_86 : decode cX0_tighten 86 = .ok (.aload_n 3, 1) := by decide +kernel
theorem dX0_tighten_87 : decode cX0_tighten 87 = .ok (.ifnull 8, 3) := by decide +kernel
theorem dX0_tighten_90 : decode cX0_tighten 90 = .ok (.aload_n 0, 1) := by decide +kernel
theorem dX0_tighten_91 : decode cX0_tighten 91 = .ok (.aload_n 3, 1) := by decide +kernel
theorem dX0_tighten_92 : decode cX0_tighten 92 = .ok (.invokevirtual 62, 3) := by decide +kernel
theorem dX0_tighten_95 : decode cX0_tighten 95 = .ok (.iinc 2 1, 3) := by decide +kernel
theorem dX0_tighten_98 : decode cX0_tighten 98 = .ok (.goto (-26), 3) := by decide +kernel
theorem dX0_tighten_101 : decode cX0_tighten 101 = .ok (.return_, 1) := by decide +kernel
theorem dX0_widenTo_0 : decode cX0_widenTo 0 = .ok (.aload_n 0, 1) := by decide +kernel
theorem dX0_widenTo_1 : decode cX0_widenTo 1 = .ok (.aload_n 0, 1) := by decide +kernel
theorem dX0_widenTo_2 : decode cX0_widenTo 2 = .ok (.getfield 22, 3) := by decide +kernel
theorem dX0_widenTo_5 : decode cX0_widenTo 5 = .ok (.aload_n 1, 1) := by decide +kernel
theorem dX0_widenTo_6 : decode cX0_widenTo 6 = .ok (.getfield 22, 3) := by decide +kernel
theorem dX0_widenTo_9 : decode cX0_widenTo 9 = .ok (.invokestatic 44, 3) := by decide +kernel
theorem dX0_widenTo_12 : decode cX0_widenTo 12 = .ok (.putfield 22, 3) := by decide +kernel
theorem dX0_widenTo_15 : decode cX0_widenTo 15 = .ok (.aload_n 0, 1) := by decide +kernel
theorem dX0_widenTo_16 : decode cX0_widenTo 16 = .ok (.aload_n 0, 1) := by decide +kernel
theorem dX0_widenTo_17 : decode cX0_widenTo 17 = .ok (.getfield 25, 3) := by decide +kernel
theorem dX0_widenTo_20 : decode cX0_widenTo 20 = .ok (.aload_n 1, 1) := by decide +kernel
theorem dX0_widenTo_21 : decode cX0_widenTo 21 = .ok (.getfield 25, 3) := by decide +kernel
theorem dX0_widenTo_24 : decode cX0_widenTo 24 = .ok (.invokestatic 44, 3) := by decide +kernel
theorem dX0_widenTo_27 : decode cX0_widenTo 27 = .ok (.putfield 25, 3) := by decide +kernel
theorem dX0_widenTo_30 : decode cX0_widenTo 30 = .ok (.aload_n 0, 1) := by decide +kernel
theorem dX0_widenTo_31 : decode cX0_widenTo 31 = .ok (.aload_n 0, 1) := by decide +kernel
theorem dX0_widenTo_32 : decode cX0_widenTo 32 = .ok (.getfield 28, 3) := by decide +kernel
theorem dX0_widenTo_35 : decode cX0_widenTo 35 = .ok (.aload_n 1, 1) := by decide +kernel
theorem dX0_widenTo_36 : decode cX0_widenTo 36 = .ok (.getfield 28, 3) := by decide +kernel
theorem dX0_widenTo_39 : decode cX0_widenTo 39 = .ok (.invokestatic 38, 3) := by decide +kernel
theorem dX0_widenTo_42 : decode cX0_widenTo 42 = .ok (.putfield 28, 3) := by decide +kernel
theorem dX0_widenTo_45 : decode cX0_widenTo 45 = .ok (.aload_n 0, 1) := by decide +kernel
theorem dX0_widenTo_46 : decode cX0_widenTo 46 = .ok (.aload_n 0, 1) := by decide +kernel
theorem dX0_widenTo_47 : decode cX0_widenTo 47 = .ok (.getfield 31, 3) := by decide +kernel
theorem dX0_widenTo_50 : decode cX0_widenTo 50 = .ok (.aload_n 1, 1) := by decide +kernel
theorem dX0_widenTo_51 : decode cX0_widenTo 51 = .ok (.getfield 31, 3) := by decide +kernel
theorem dX0_widenTo_54 : decode cX0_widenTo 54 = .ok (.invokestatic 38, 3) := by decide +kernel
theorem dX0_widenTo_57 : decode cX0_widenTo 57 = .ok (.putfield 31, 3) := by decide +kernel
theorem dX0_widenTo_60 : decode cX0_widenTo 60 = .ok (.return_, 1) := by decide +kernel
theorem dX0_lowerEdge_0 : decode cX0_lowerEdge 0 = .ok (.iload_n 1, 1) := by decide +kernel
theorem dX0_lowerEdge_1 : decode cX0_lowerEdge 1 = .ok (.ifCond .eq 10, 3) := by decide +kernel
theorem dX0_lowerEdge_4 : decode cX0_lowerEdge 4 = .ok (.aload_n 0, 1) := by decide +kernel
theorem dX0_lowerEdge_5 : decode cX0_lowerEdge 5 = .ok (.getfield 22, 3) := by decide +kernel
theorem dX0_lowerEdge_8 : decode cX0_lowerEdge 8 = .ok (.goto 7, 3) := by decide +kernel
theorem dX0_lowerEdge_11 : decode cX0_lowerEdge 11 = .ok (.aload_n 0, 1) := by decide +kernel
theorem dX0_lowerEdge_12 : decode cX0_lowerEdge 12 = .ok (.getfield 25, 3) := by decide +kernel
theorem dX0_lowerEdge_15 : decode cX0_lowerEdge 15 = .ok (.ireturn, 1) := by decide +kernel
theorem dX0_lowerEdgeAt_0 : decode cX0_lowerEdgeAt 0 = .ok (.aload_n 0, 1) := by decide +kernel
theorem dX0_lowerEdgeAt_1 : decode cX0_lowerEdgeAt 1 = .ok (.iload_n 1, 1) := by decide +kernel
theorem dX0_lowerEdgeAt_2 : decode cX0_lowerEdgeAt 2 = .ok (.invokevirtual 50, 3) := by decide +kernel
theorem dX0_lowerEdgeAt_5 : decode cX0_lowerEdgeAt 5 = .ok (.astore_n 3, 1) := by decide +kernel
theorem dX0_lowerEdgeAt_6 : decode cX0_lowerEdgeAt 6 = .ok (.aload_n 3, 1) := by decide +kernel
theorem dX0_lowerEdgeAt_7 : decode cX0_lowerEdgeAt 7 = .ok (.ifnonnull 7, 3) := by decide +kernel
theorem dX0_lowerEdgeAt_10 : decode cX0_lowerEdgeAt 10 = .ok (.iconst 0, 1) := by decide +kernel
theorem dX0_lowerEdgeAt_11 : decode cX0_lowerEdgeAt 11 = .ok (.goto 8, 3) := by decide +kernel
theorem dX0_lowerEdgeAt_14 : decode cX0_lowerEdgeAt 14 = .ok (.aload_n 3, 1) := by decide +kernel
theorem dX0_lowerEdgeAt_15 : decode cX0_lowerEdgeAt 15 = .ok (.iload_n 2, 1) := by decide +kernel
theorem dX0_lowerEdgeAt_16 : decode cX0_lowerEdgeAt 16 = .ok (.invokevirtual 66, 3) := by decide +kernel
theorem dX0_lowerEdgeAt_19 : decode cX0_lowerEdgeAt 19 = .ok (.ireturn, 1) := by decide +kernel
theorem dX0_spreadOfLowerEdges_0 : decode cX0_spreadOfLowerEdges 0 = .ok (.aload_n 0, 1) := by decide +kernel
theorem dX0_spreadOfLowerEdges_1 : decode cX0_spreadOfLowerEdges 1 = .ok (.iconst 0, 1) := by decide +kernel
theorem dX0_spreadOfLowerEdges_2 : decode cX0_spreadOfLowerEdges 2 = .ok (.iload_n 1, 1) := by decide +kernel
theorem dX0_spreadOfLowerEdges_3 : decode cX0_spreadOfLowerEdges 3 = .ok (.invokevirtual 70, 3) := by decide +kernel
theorem dX0_spreadOfLowerEdges_6 : decode cX0_spreadOfLowerEdges 6 = .ok (.istore_n 2, 1) := by decide +kernel
theorem dX0_spreadOfLowerEdges_7 : decode cX0_spreadOfLowerEdges 7 = .ok (.iload_n 2, 1) := by decide +kernel
theorem dX0_spreadOfLowerEdges_8 : decode cX0_spreadOfLowerEdges 8 = .ok (.istore_n 3, 1) := by decide +kernel
theorem dX0_spreadOfLowerEdges_9 : decode cX0_spreadOfLowerEdges 9 = .ok (.iconst 1, 1) := by decide +kernel
theorem dX0_spreadOfLowerEdges_10 : decode cX0_spreadOfLowerEdges 10 = .ok (.istore 4, 2) := by decide +kernel
theorem dX0_spreadOfLowerEdges_12 : decode cX0_spreadOfLowerEdges 12 = .ok (.iload 4, 2) := by decide +kernel
theorem dX0_spreadOfLowerEdges_14 : decode cX0_spreadOfLowerEdges 14 = .ok (.aload_n 0, 1) := by decide +kernel
theorem dX0_spreadOfLowerEdges_15 : decode cX0_spreadOfLowerEdges 15 = .ok (.getfield 47, 3) := by decide +kernel
theorem dX0_spreadOfLowerEdges_18 : decode cX0_spreadOfLowerEdges 18 = .ok (.if_icmp .ge 32, 3) := by decide +kernel
theorem dX0_spreadOfLowerEdges_21 : decode cX0_spreadOfLowerEdges 21 = .ok (.aload_n 0, 1) := by decide +kernel
theorem dX0_spreadOfLowerEdges_22 : decode cX0_spreadOfLowerEdges 22 = .ok (.iload 4, 2) := by decide +kernel
theorem dX0_spreadOfLowerEdges_24 : decode cX0_spreadOfLowerEdges 24 = .ok (.iload_n 1, 1) := by decide +kernel
theorem dX0_spreadOfLowerEdges_25 : decode cX0_spreadOfLowerEdges 25 = .ok (.invokevirtual 70, 3) := by decide +kernel
theorem dX0_spreadOfLowerEdges_28 : decode cX0_spreadOfLowerEdges 28 = .ok (.istore 5, 2) := by decide +kernel
theorem dX0_spreadOfLowerEdges_30 : decode cX0_spreadOfLowerEdges 30 = .ok (.iload_n 2, 1) := by decide +kernel
theorem dX0_spreadOfLowerEdges_31 : decode cX0_spreadOfLowerEdges 31 = .ok (.iload 5, 2) := by decide +kernel
theorem dX0_spreadOfLowerEdges_33 : decode cX0_spreadOfLowerEdges 33 = .ok (.invokestatic 44, 3) := by decide +kernel
theorem dX0_spreadOfLowerEdges_36 : decode cX0_spreadOfLowerEdges 36 = .ok (.istore_n 2, 1) := by decide +kernel
theorem dX0_spreadOfLowerEdges_37 : decode cX0_spreadOfLowerEdges 37 = .ok (.iload_n 3, 1) := by decide +kernel
theorem dX0_spreadOfLowerEdges_38 : decode cX0_spreadOfLowerEdges 38 = .ok (.iload 5, 2) := by decide +kernel
theorem dX0_spreadOfLowerEdges_40 : decode cX0_spreadOfLowerEdges 40 = .ok (.invokestatic 38, 3) := by decide +kernel
theorem dX0_spreadOfLowerEdges_43 : decode cX0_spreadOfLowerEdges 43 = .ok (.istore_n 3, 1) := by decide +kernel
theorem dX0_spreadOfLowerEdges_44 : decode cX0_spreadOfLowerEdges 44 = .ok (.iinc 4 1, 3) := by decide +kernel
theorem dX0_spreadOfLowerEdges_47 : decode cX0_spreadOfLowerEdges 47 = .ok (.goto (-35), 3) := by decide +kernel
theorem dX0_spreadOfLowerEdges_50 : decode cX0_spreadOfLowerEdges 50 = .ok (.iload_n 3, 1) := by decide +kernel
theorem dX0_spreadOfLowerEdges_51 : decode cX0_spreadOfLowerEdges 51 = .ok (.iload_n 2, 1) := by decide +kernel
theorem dX0_spreadOfLowerEdges_52 : decode cX0_spreadOfLowerEdges 52 = .ok (.isub, 1) := by decide +kernel
theorem dX0_spreadOfLowerEdges_53 : decode cX0_spreadOfLowerEdges 53 = .ok (.ireturn, 1) := by decide +kernel
theorem dX0_splitsAlongX_0 : decode cX0_splitsAlongX 0 = .ok (.aload_n 0, 1) := by decide +kernel
theorem dX0_splitsAlongX_1 : decode cX0_splitsAlongX 1 = .ok (.iconst 1, 1) := by decide +kernel
theorem dX0_splitsAlongX_2 : decode cX0_splitsAlongX 2 = .ok (.invokevirtual 74, 3) := by decide +kernel
theorem dX0_splitsAlongX_5 : decode cX0_splitsAlongX 5 = .ok (.aload_n 0, 1) := by decide +kernel
theorem dX0_splitsAlongX_6 : decode cX0_splitsAlongX 6 = .ok (.iconst 0, 1) := by decide +kernel
theorem dX0_splitsAlongX_7 : decode cX0_splitsAlongX 7 = .ok (.invokevirtual 74, 3) := by decide +kernel
theorem dX0_splitsAlongX_10 : decode cX0_splitsAlongX 10 = .ok (.if_icmp .lt 7, 3) := by decide +kernel
theorem dX0_splitsAlongX_13 : decode cX0_splitsAlongX 13 = .ok (.iconst 1, 1) := by decide +kernel
theorem dX0_splitsAlongX_14 : decode cX0_splitsAlongX 14 = .ok (.goto 4, 3) := by decide +kernel
theorem dX0_splitsAlongX_17 : decode cX0_splitsAlongX 17 = .ok (.iconst 0, 1) := by decide +kernel
theorem dX0_splitsAlongX_18 : decode cX0_splitsAlongX 18 = .ok (.ireturn, 1) := by decide +kernel
theorem dX0_sortByLowerEdges_0 : decode cX0_sortByLowerEdges 0 = .ok (.iconst 1, 1) := by decide +kernel
theorem dX0_sortByLowerEdges_1 : decode cX0_sortByLowerEdges 1 = .ok (.istore_n 2, 1) := by decide +kernel
theorem dX0_sortByLowerEdges_2 : decode cX0_sortByLowerEdges 2 = .ok (.iload_n 2, 1) := by decide +kernel
theorem dX0_sortByLowerEdges_3 : decode cX0_sortByLowerEdges 3 = .ok (.aload_n 0, 1) := by decide +kernel
theorem dX0_sortByLowerEdges_4 : decode cX0_sortByLowerEdges 4 = .ok (.getfield 47, 3) := by decide +kernel
theorem dX0_sortByLowerEdges_7 : decode cX0_sortByLowerEdges 7 = .ok (.if_icmp .ge 62, 3) := by decide +kernel
theorem dX0_sortByLowerEdges_10 : decode cX0_sortByLowerEdges 10 = .ok (.aload_n 0, 1) := by decide +kernel
theorem dX0_sortByLowerEdges_11 : decode cX0_sortByLowerEdges 11 = .ok (.iload_n 2, 1) := by decide +kernel
theorem dX0_sortByLowerEdges_12 : decode cX0_sortByLowerEdges 12 = .ok (.iload_n 1, 1) := by decide +kernel
theorem dX0_sortByLowerEdges_13 : decode cX0_sortByLowerEdges 13 = .ok (.invokevirtual 70, 3) := by decide +kernel
theorem dX0_sortByLowerEdges_16 : decode cX0_sortByLowerEdges 16 = .ok (.istore_n 3, 1) := by decide +kernel
theorem dX0_sortByLowerEdges_17 : decode cX0_sortByLowerEdges 17 = .ok (.iconst 0, 1) := by decide +kernel
theorem dX0_sortByLowerEdges_18 : decode cX0_sortByLowerEdges 18 = .ok (.istore 4, 2) := by decide +kernel
theorem dX0_sortByLowerEdges_20 : decode cX0_sortByLowerEdges 20 = .ok (.iload 4, 2) := by decide +kernel
theorem dX0_sortByLowerEdges_22 : decode cX0_sortByLowerEdges 22 = .ok (.iload_n 2, 1) := by decide +kernel
theorem dX0_sortByLowerEdges_23 : decode cX0_sortByLowerEdges 23 = .ok (.if_icmp .ge 20, 3) := by decide +kernel
theorem dX0_sortByLowerEdges_26 : decode cX0_sortByLowerEdges 26 = .ok (.aload_n 0, 1) := by decide +kernel
theorem dX0_sortByLowerEdges_27 : decode cX0_sortByLowerEdges 27 = .ok (.iload 4, 2) := by decide +kernel
theorem dX0_sortByLowerEdges_29 : decode cX0_sortByLowerEdges 29 = .ok (.iload_n 1, 1) := by decide +kernel
theorem dX0_sortByLowerEdges_30 : decode cX0_sortByLowerEdges 30 = .ok (.invokevirtual 70, 3) := by decide +kernel
theorem dX0_sortByLowerEdges_33 : decode cX0_sortByLowerEdges 33 = .ok (.iload_n 3, 1) := by decide +kernel
theorem dX0_sortByLowerEdges_34 : decode cX0_sortByLowerEdges 34 = .ok (.if_icmp .gt 9, 3) := by decide +kernel
theorem dX0_sortByLowerEdges_37 : decode cX0_sortByLowerEdges 37 = .ok (.iinc 4 1, 3) := by decide +kernel
theorem dX0_sortByLowerEdges_40 : decode cX0_sortByLowerEdges 40 = .ok (.goto (-20), 3) := by decide +kernel
theorem dX0_sortByLowerEdges_43 : decode cX0_sortByLowerEdges 43 = .ok (.aload_n 0, 1) := by decide +kernel
theorem dX0_sortByLowerEdges_44 : decode cX0_sortByLowerEdges 44 = .ok (.iload_n 2, 1) := by decide +kernel
theorem dX0_sortByLowerEdges_45 : decode cX0_sortByLowerEdges 45 = .ok (.invokevirtual 77, 3) := by decide +kernel
theorem dX0_sortByLowerEdges_48 : decode cX0_sortByLowerEdges 48 = .ok (.astore 5, 2) := by decide +kernel
theorem dX0_sortByLowerEdges_50 : decode cX0_sortByLowerEdges 50 = .ok (.aload 5, 2) := by decide +kernel
theorem dX0_sortByLowerEdges_52 : decode cX0_sortByLowerEdges 52 = .ok (.ifnull 11, 3) := by decide +kernel
theorem dX0_sortByLowerEdges_55 : decode cX0_sortByLowerEdges 55 = .ok (.aload_n 0, 1) := by decide +kernel
theorem dX0_sortByLowerEdges_56 : decode cX0_sortByLowerEdges 56 = .ok (.iload 4, 2) := by decide +kernel
theorem dX0_sortByLowerEdges_58 : decode cX0_sortByLowerEdges 58 = .ok (.aload 5, 2) := by decide +kernel
theorem dX0_sortByLowerEdges_60 : decode cX0_sortByLowerEdges 60 = .ok (.invokevirtual 58, 3) := by decide +kernel
theorem dX0_sortByLowerEdges_63 : decode cX0_sortByLowerEdges 63 = .ok (.iinc 2 1, 3) := by decide +kernel
theorem dX0_sortByLowerEdges_66 : decode cX0_sortByLowerEdges 66 = .ok (.goto (-64), 3) := by decide +kernel
theorem dX0_sortByLowerEdges_69 : decode cX0_sortByLowerEdges 69 = .ok (.return_, 1) := by decide +kernel
theorem dX1_init_0 : decode cX1_init 0 = .ok (.aload_n 0, 1) := by decide +kernel
theorem dX1_init_1 : decode cX1_init 1 = .ok (.invokespecial 1, 3) := by decide +kernel
theorem dX1_init_4 : decode cX1_init 4 = .ok (.aload_n 0, 1) := by decide +kernel
theorem dX1_init_5 : decode cX1_init 5 = .ok (.bipush 60, 2) := by decide +kernel
theorem dX1_init_7 : decode cX1_init 7 = .ok (.anewarray 9, 3) := by decide +kernel
theorem dX1_init_10 : decode cX1_init 10 = .ok (.putfield 11, 3) := by decide +kernel
theorem dX1_init_13 : decode cX1_init 13 = .ok (.aload_n 0, 1) := by decide +kernel
theorem dX1_init_14 : decode cX1_init 14 = .ok (.new 9, 3) := by decide +kernel
theorem dX1_init_17 : decode cX1_init 17 = .ok (.dup, 1) := by decide +kernel
theorem dX1_init_18 : decode cX1_init 18 = .ok (.iconst 1, 1) := by decide +kernel
theorem dX1_init_19 : decode cX1_init 19 = .ok (.invokespecial 15, 3) := by decide +kernel
theorem dX1_init_22 : decode cX1_init 22 = .ok (.putfield 18, 3) := by decide +kernel
theorem dX1_init_25 : decode cX1_init 25 = .ok (.return_, 1) := by decide +kernel
theorem dX1_come_0 : decode cX1_come 0 = .ok (.iload_n 1, 1) := by decide +kernel
theorem dX1_come_1 : decode cX1_come 1 = .ok (.iload_n 2, 1) := by decide +kernel
theorem dX1_come_2 : decode cX1_come 2 = .ok (.iload_n 3, 1) := by decide +kernel
theorem dX1_come_3 : decode cX1_come 3 = .ok (.iload 4, 2) := by decide +kernel
theorem dX1_come_5 : decode cX1_come 5 = .ok (.invokestatic 22, 3) := by decide +kernel
theorem dX1_come_8 : decode cX1_come 8 = .ok (.ifCond .ne 13, 3) := by decide +kernel
theorem dX1_come_11 : decode cX1_come 11 = .ok (.new 26, 3) := by decide +kernel
theorem dX1_come_14 : decode cX1_come 14 = .ok (.dup, 1) := by decide +kernel
theorem dX1_come_15 : decode cX1_come 15 = .ok (.ldc 28, 2) := by decide +kernel
theorem dX1_come_17 : decode cX1_come 17 = .ok (.invokespecial 30, 3) := by decide +kernel
theorem dX1_come_20 : decode cX1_come 20 = .ok (.athrow, 1) := by decide +kernel
theorem dX1_come_21 : decode cX1_come 21 = .ok (.aload_n 0, 1) := by decide +kernel
theorem dX1_come_22 : decode cX1_come 22 = .ok (.getfield 33, 3) := by decide +kernel
theorem dX1_come_25 : decode cX1_come 25 = .ok (.ifCond .lt 15, 3) := by decide +kernel
theorem dX1_come_28 : decode cX1_come 28 = .ok (.aload_n 0, 1) := by decide +kernel
theorem dX1_come_29 : decode cX1_come 29 = .ok (.getfield 33, 3) := by decide +kernel
theorem dX1_come_32 : decode cX1_come 32 = .ok (.aload_n 0, 1) := by decide +kernel
theorem dX1_come_33 : decode cX1_come 33 = .ok (.getfield 11, 3) := by decide +kernel
theorem dX1_come_36 : decode cX1_come 36 = .ok (.arraylength, 1) := by decide +kernel
theorem dX1_come_37 : decode cX1_come 37 = .ok (.if_icmp .lt 13, 3) := by decide +kernel
theorem dX1_come_40 : decode cX1_come 40 = .ok (.new 37, 3) := by decide +kernel
theorem dX1_come_43 : decode cX1_come 43 = .ok (.dup, 1) := by decide +kernel
theorem dX1_come_44 : decode cX1_come 44 = .ok (.ldc 39, 2) := by decide +kernel
theorem dX1_come_46 : decode cX1_come 46 = .ok (.invokespecial 41, 3) := by decide +kernel
theorem dX1_come_49 : decode cX1_come 49 = .ok (.athrow, 1) := by decide +kernel
theorem dX1_come_50 : decode cX1_come 50 = .ok (.new 9, 3) := by decide +kernel
theorem dX1_come_53 : decode cX1_come 53 = .ok (.dup, 1) := by decide +kernel
theorem dX1_come_54 : decode cX1_come 54 = .ok (.aload_n 0, 1) := by decide +kernel
theorem dX1_come_55 : decode cX1_come 55 = .ok (.getfield 33, 3) := by decide +kernel
theorem dX1_come_58 : decode cX1_come 58 = .ok (.iload_n 1, 1) := by decide +kernel
theorem dX1_come_59 : decode cX1_come 59 = .ok (.iload_n 2, 1) := by decide +kernel
theorem dX1_come_60 : decode cX1_come 60 = .ok (.iload_n 3, 1) := by decide +kernel
theorem dX1_come_61 : decode cX1_come 61 = .ok (.iload 4, 2) := by decide +kernel
theorem dX1_come_63 : decode cX1_come 63 = .ok (.invokespecial 42, 3) := by decide +kernel
theorem dX1_come_66 : decode cX1_come 66 = .ok (.astore 5, 2) := by decide +kernel
theorem dX1_come_68 : decode cX1_come 68 = .ok (.aload_n 0, 1) := by decide +kernel
theorem dX1_come_69 : decode cX1_come 69 = .ok (.getfield 11, 3) := by decide +kernel
theorem dX1_come_72 : decode cX1_come 72 = .ok (.aload_n 0, 1) := by decide +kernel
theorem dX1_come_73 : decode cX1_come 73 = .ok (.getfield 33, 3) := by decide +kernel
theorem dX1_come_76 : decode cX1_come 76 = .ok (.aload 5, 2) := by decide +kernel
theorem dX1_come_78 : decode cX1_come 78 = .ok (.aastore, 1) := by decide +kernel
theorem dX1_come_79 : decode cX1_come 79 = .ok (.aload_n 0, 1) := by decide +kernel
theorem dX1_come_80 : decode cX1_come 80 = .ok (.dup, 1) := by decide +kernel
theorem dX1_come_81 : decode cX1_come 81 = .ok (.getfield 33, 3) := by decide +kernel
theorem dX1_come_84 : decode cX1_come 84 = .ok (.iconst 1, 1) := by decide +kernel
theorem dX1_come_85 : decode cX1_come 85 = .ok (.iadd, 1) := by decide +kernel
theorem dX1_come_86 : decode cX1_come 86 = .ok (.putfield 33, 3) := by decide +kernel
theorem dX1_come_89 : decode cX1_come 89 = .ok (.aload_n 0, 1) := by decide +kernel
theorem dX1_come_90 : decode cX1_come 90 = .ok (.aload 5, 2) := by decide +kernel
theorem dX1_come_92 : decode cX1_come 92 = .ok (.invokevirtual 45, 3) := by decide +kernel
theorem dX1_come_95 : decode cX1_come 95 = .ok (.astore 6, 2) := by decide +kernel
theorem dX1_come_97 : decode cX1_come 97 = .ok (.aload 6, 2) := by decide +kernel
theorem dX1_come_99 : decode cX1_come 99 = .ok (.aload 5, 2) := by decide +kernel
theorem dX1_come_101 : decode cX1_come 101 = .ok (.invokevirtual 49, 3) := by decide +kernel
theorem dX1_come_104 : decode cX1_come 104 = .ok (.aload_n 0, 1) := by decide +kernel
theorem dX1_come_105 : decode cX1_come 105 = .ok (.aload 6, 2) := by decide +kernel
theorem dX1_come_107 : decode cX1_come 107 = .ok (.invokevirtual 53, 3) := by decide +kernel
theorem dX1_come_110 : decode cX1_come 110 = .ok (.aload 5, 2) := by decide +kernel
theorem dX1_come_112 : decode cX1_come 112 = .ok (.getfield 56, 3) := by decide +kernel
theorem dX1_come_115 : decode cX1_come 115 = .ok (.ireturn, 1) := by decide +kernel
theorem dX1_go_0 : decode cX1_go 0 = .ok (.aload_n 0, 1) := by decide +kernel
theorem dX1_go_1 : decode cX1_go 1 = .ok (.iload_n 1, 1) := by decide +kernel
theorem dX1_go_2 : decode cX1_go 2 = .ok (.invokevirtual 59, 3) := by decide +kernel
theorem dX1_go_5 : decode cX1_go 5 = .ok (.astore_n 2, 1) := by decide +kernel
theorem dX1_go_6 : decode cX1_go 6 = .ok (.aload_n 2, 1) := by decide +kernel
theorem dX1_go_7 : decode cX1_go 7 = .ok (.ifnonnull 13, 3) := by decide +kernel
theorem dX1_go_10 : decode cX1_go 10 = .ok (.new 63, 3) := by decide +kernel
theorem dX1_go_13 : decode cX1_go 13 = .ok (.dup, 1) := by decide +kernel
theorem dX1_go_14 : decode cX1_go 14 = .ok (.ldc 65, 2) := by decide +kernel
theorem dX1_go_16 : decode cX1_go 16 = .ok (.invokespecial 67, 3) := by decide +kernel
theorem dX1_go_19 : decode cX1_go 19 = .ok (.athrow, 1) := by decide +kernel
theorem dX1_go_20 : decode cX1_go 20 = .ok (.aload_n 2, 1) := by decide +kernel
theorem dX1_go_21 : decode cX1_go 21 = .ok (.getfield 68, 3) := by decide +kernel
theorem dX1_go_24 : decode cX1_go 24 = .ok (.astore_n 3, 1) := by decide +kernel
theorem dX1_go_25 : decode cX1_go 25 = .ok (.aload_n 3, 1) := by decide +kernel
theorem dX1_go_26 : decode cX1_go 26 = .ok (.ifnonnull 13, 3) := by decide +kernel
theorem dX1_go_29 : decode cX1_go 29 = .ok (.new 37, 3) := by decide +kernel
theorem dX1_go_32 : decode cX1_go 32 = .ok (.dup, 1) := by decide +kernel
theorem dX1_go_33 : decode cX1_go 33 = .ok (.ldc 71, 2) := by decide +kernel
theorem dX1_go_35 : decode cX1_go 35 = .ok (.invokespecial 41, 3) := by decide +kernel
theorem dX1_go_38 : decode cX1_go 38 = .ok (.athrow, 1) := by decide +kernel
theorem dX1_go_39 : decode cX1_go 39 = .ok (.aload_n 3, 1) := by decide +kernel
theorem dX1_go_40 : decode cX1_go 40 = .ok (.aload_n 3, 1) := by decide +kernel
theorem dX1_go_41 : decode cX1_go 41 = .ok (.aload_n 2, 1) := by decide +kernel
theorem dX1_go_42 : decode cX1_go 42 = .ok (.invokevirtual 73, 3) := by decide +kernel
theorem dX1_go_45 : decode cX1_go 45 = .ok (.invokevirtual 77, 3) := by decide +kernel
theorem dX1_go_48 : decode cX1_go 48 = .ok (.pop, 1) := by decide +kernel
theorem dX1_go_49 : decode cX1_go 49 = .ok (.aload_n 3, 1) := by decide +kernel
theorem dX1_go_50 : decode cX1_go 50 = .ok (.invokestatic 80, 3) := by decide +kernel
theorem dX1_go_53 : decode cX1_go 53 = .ok (.aload_n 0, 1) := by decide +kernel
theorem dX1_go_54 : decode cX1_go 54 = .ok (.invokevirtual 83, 3) := by decide +kernel
theorem dX1_go_57 : decode cX1_go 57 = .ok (.aload_n 2, 1) := by decide +kernel
theorem dX1_go_58 : decode cX1_go 58 = .ok (.invokevirtual 86, 3) := by decide +kernel
theorem dX1_go_61 : decode cX1_go 61 = .ok (.ireturn, 1) := by decide +kernel
theorem dX1_told_0 : decode cX1_told 0 = .ok (.aload_n 0, 1) := by decide +kernel
theorem dX1_told_1 : decode cX1_told 1 = .ok (.iload_n 1, 1) := by decide +kernel
theorem dX1_told_2 : decode cX1_told 2 = .ok (.invokevirtual 59, 3) := by decide +kernel
theorem dX1_told_5 : decode cX1_told 5 = .ok (.astore_n 3, 1) := by decide +kernel
theorem dX1_told_6 : decode cX1_told 6 = .ok (.aload_n 3, 1) := by decide +kernel
theorem dX1_told_7 : decode cX1_told 7 = .ok (.ifnull 10, 3) := by decide +kernel
theorem dX1_told_10 : decode cX1_told 10 = .ok (.iload_n 2, 1) := by decide +kernel
theorem dX1_told_11 : decode cX1_told 11 = .ok (.invokestatic 90, 3) := by decide +kernel
theorem dX1_told_14 : decode cX1_told 14 = .ok (.ifCond .ne 13, 3) := by decide +kernel
theorem dX1_told_17 : decode cX1_told 17 = .ok (.new 63, 3) := by decide +kernel
theorem dX1_told_20 : decode cX1_told 20 = .ok (.dup, 1) := by decide +kernel
theorem dX1_told_21 : decode cX1_told 21 = .ok (.ldc 94, 2) := by decide +kernel
theorem dX1_told_23 : decode cX1_told 23 = .ok (.invokespecial 67, 3) := by decide +kernel
theorem dX1_told_26 : decode cX1_told 26 = .ok (.athrow, 1) := by decide +kernel
theorem dX1_told_27 : decode cX1_told 27 = .ok (.aload_n 0, 1) := by decide +kernel
theorem dX1_told_28 : decode cX1_told 28 = .ok (.aload_n 3, 1) := by decide +kernel
theorem dX1_told_29 : decode cX1_told 29 = .ok (.iload_n 2, 1) := by decide +kernel
theorem dX1_told_30 : decode cX1_told 30 = .ok (.invokevirtual 96, 3) := by decide +kernel
theorem dX1_told_33 : decode cX1_told 33 = .ok (.ireturn, 1) := by decide +kernel
theorem dX1_way_0 : decode cX1_way 0 = .ok (.aload_n 0, 1) := by decide +kernel
theorem dX1_way_1 : decode cX1_way 1 = .ok (.iload_n 1, 1) := by decide +kernel
theorem dX1_way_2 : decode cX1_way 2 = .ok (.invokevirtual 59, 3) := by decide +kernel
theorem dX1_way_5 : decode cX1_way 5 = .ok (.astore_n 3, 1) := by decide +kernel
theorem dX1_way_6 : decode cX1_way 6 = .ok (.aload_n 3, 1) := by decide +kernel
theorem dX1_way_7 : decode cX1_way 7 = .ok (.ifnull 7, 3) := by decide +kernel
theorem dX1_way_10 : decode cX1_way 10 = .ok (.iload_n 2, 1) := by decide +kernel
theorem dX1_way_11 : decode cX1_way 11 = .ok (.ifCond .ge 13, 3) := by decide +kernel
theorem dX1_way_14 : decode cX1_way 14 = .ok (.new 63, 3) := by decide +kernel
theorem dX1_way_17 : decode cX1_way 17 = .ok (.dup, 1) := by decide +kernel
theorem dX1_way_18 : decode cX1_way 18 = .ok (.ldc 100, 2) := by decide +kernel
theorem dX1_way_20 : decode cX1_way 20 = .ok (.invokespecial 67, 3) := by decide +kernel
theorem dX1_way_23 : decode cX1_way 23 = .ok (.athrow, 1) := by decide +kernel
theorem dX1_way_24 : decode cX1_way 24 = .ok (.aload_n 0, 1) := by decide +kernel
theorem dX1_way_25 : decode cX1_way 25 = .ok (.getfield 18, 3) := by decide +kernel
theorem dX1_way_28 : decode cX1_way 28 = .ok (.getfield 102, 3) := by decide +kernel
theorem dX1_way_31 : decode cX1_way 31 = .ok (.iconst 1, 1) := by decide +kernel
theorem dX1_way_32 : decode cX1_way 32 = .ok (.isub, 1) := by decide +kernel
theorem dX1_way_33 : decode cX1_way 33 = .ok (.iload_n 2, 1) := by decide +kernel
theorem dX1_way_34 : decode cX1_way 34 = .ok (.isub, 1) := by decide +kernel
theorem dX1_way_35 : decode cX1_way 35 = .ok (.istore 4, 2) := by decide +kernel
theorem dX1_way_37 : decode cX1_way 37 = .ok (.iload 4, 2) := by decide +kernel
theorem dX1_way_39 : decode cX1_way 39 = .ok (.iconst 1, 1) := by decide +kernel
theorem dX1_way_40 : decode cX1_way 40 = .ok (.if_icmp .ge 5, 3) := by decide +kernel
theorem dX1_way_43 : decode cX1_way 43 = .ok (.iconst (-1), 1) := by decide +kernel
theorem dX1_way_44 : decode cX1_way 44 = .ok (.ireturn, 1) := by decide +kernel
theorem dX1_way_45 : decode cX1_way 45 = .ok (.aload_n 3, 1) := by decide +kernel
theorem dX1_way_46 : decode cX1_way 46 = .ok (.getfield 68, 3) := by decide +kernel
theorem dX1_way_49 : decode cX1_way 49 = .ok (.astore 5, 2) := by decide +kernel
theorem dX1_way_51 : decode cX1_way 51 = .ok (.aload 5, 2) := by decide +kernel
theorem dX1_way_53 : decode cX1_way 53 = .ok (.ifnull 23, 3) := by decide +kernel
theorem dX1_way_56 : decode cX1_way 56 = .ok (.aload 5, 2) := by decide +kernel
theorem dX1_way_58 : decode cX1_way 58 = .ok (.getfield 102, 3) := by decide +kernel
theorem dX1_way_61 : decode cX1_way 61 = .ok (.iload 4, 2) := by decide +kernel
theorem dX1_way_63 : decode cX1_way 63 = .ok (.if_icmp .ge 13, 3) := by decide +kernel
theorem dX1_way_66 : decode cX1_way 66 = .ok (.aload 5, 2) := by decide +kernel
theorem dX1_way_68 : decode cX1_way 68 = .ok (.getfield 68, 3) := by decide +kernel
theorem dX1_way_71 : decode cX1_way 71 = .ok (.astore 5, 2) := by decide +kernel
theorem dX1_way_73 : decode cX1_way 73 = .ok (.goto (-22), 3) := by decide +kernel
theorem dX1_way_76 : decode cX1_way 76 = .ok (.aload 5, 2) := by decide +kernel
theorem dX1_way_78 : decode cX1_way 78 = .ok (.invokestatic 105, 3) := by decide +kernel
theorem dX1_way_81 : decode cX1_way 81 = .ok (.ireturn, 1) := by decide +kernel
theorem dX1_overlaps_0 : decode cX1_overlaps 0 = .ok (.iload_n 1, 1) := by decide +kernel
theorem dX1_overlaps_1 : decode cX1_overlaps 1 = .ok (.iload_n 2, 1) := by decide +kernel
theorem dX1_overlaps_2 : decode cX1_overlaps 2 = .ok (.iload_n 3, 1) := by decide +kernel
theorem dX1_overlaps_3 : decode cX1_overlaps 3 = .ok (.iload 4, 2) := by decide +kernel
theorem dX1_overlaps_5 : decode cX1_overlaps 5 = .ok (.invokestatic 22, 3) := by decide +kernel
theorem dX1_overlaps_8 : decode cX1_overlaps 8 = .ok (.ifCond .ne 13, 3) := by decide +kernel
theorem dX1_overlaps_11 : decode cX1_overlaps 11 = .ok (.new 26, 3) := by decide +kernel
theorem dX1_overlaps_14 : decode cX1_overlaps 14 = .ok (.dup, 1) := by decide +kernel
theorem dX1_overlaps_15 : decode cX1_overlaps 15 = .ok (.ldc 28, 2) := by decide +kernel
theorem dX1_overlaps_17 : decode cX1_overlaps 17 = .ok (.invokespecial 30, 3) := by decide +kernel
theorem dX1_overlaps_20 : decode cX1_overlaps 20 = .ok (.athrow, 1) := by decide +kernel
theorem dX1_overlaps_21 : decode cX1_overlaps 21 = .ok (.aload_n 0, 1) := by decide +kernel
theorem dX1_overlaps_22 : decode cX1_overlaps 22 = .ok (.new 9, 3) := by decide +kernel
theorem dX1_overlaps_25 : decode cX1_overlaps 25 = .ok (.dup, 1) := by decide +kernel
theorem dX1_overlaps_26 : decode cX1_overlaps 26 = .ok (.iconst (-1), 1) := by decide +kernel
theorem dX1_overlaps_27 : decode cX1_overlaps 27 = .ok (.iload_n 1, 1) := by decide +kernel
theorem dX1_overlaps_28 : decode cX1_overlaps 28 = .ok (.iload_n 2, 1) := by decide +kernel
theorem dX1_overlaps_29 : decode cX1_overlaps 29 = .ok (.iload_n 3, 1) := by decide +kernel
theorem dX1_overlaps_30 : decode cX1_overlaps 30 = .ok (.iload 4, 2) := by decide +kernel
theorem dX1_overlaps_32 : decode cX1_overlaps 32 = .ok (.invokespecial 42, 3) := by decide +kernel
theorem dX1_overlaps_35 : decode cX1_overlaps 35 = .ok (.invokevirtual 108, 3) := by decide +kernel
theorem dX1_overlaps_38 : decode cX1_overlaps 38 = .ok (.ireturn, 1) := by decide +kernel
theorem dX1_looks_0 : decode cX1_looks 0 = .ok (.iload_n 1, 1) := by decide +kernel
theorem dX1_looks_1 : decode cX1_looks 1 = .ok (.iload_n 2, 1) := by decide +kernel
theorem dX1_looks_2 : decode cX1_looks 2 = .ok (.iload_n 3, 1) := by decide +kernel
theorem dX1_looks_3 : decode cX1_looks 3 = .ok (.iload 4, 2) := by decide +kernel
theorem dX1_looks_5 : decode cX1_looks 5 = .ok (.invokestatic 22, 3) := by decide +kernel
theorem dX1_looks_8 : decode cX1_looks 8 = .ok (.ifCond .ne 13, 3) := by decide +kernel
theorem dX1_looks_11 : decode cX1_looks 11 = .ok (.new 26, 3) := by decide +kernel
theorem dX1_looks_14 : decode cX1_looks 14 = .ok (.dup, 1) := by decide +kernel
theorem dX1_looks_15 : decode cX1_looks 15 = .ok (.ldc 28, 2) := by decide +kernel
theorem dX1_looks_17 : decode cX1_looks 17 = .ok (.invokespecial 30, 3) := by decide +kernel
theorem dX1_looks_20 : decode cX1_looks 20 = .ok (.athrow, 1) := by decide +kernel
theorem dX1_looks_21 : decode cX1_looks 21 = .ok (.aload_n 0, 1) := by decide +kernel
theorem dX1_looks_22 : decode cX1_looks 22 = .ok (.getfield 18, 3) := by decide +kernel
theorem dX1_looks_25 : decode cX1_looks 25 = .ok (.new 9, 3) := by decide +kernel
theorem dX1_looks_28 : decode cX1_looks 28 = .ok (.dup, 1) := by decide +kernel
theorem dX1_looks_29 : decode cX1_looks 29 = .ok (.iconst (-1), 1) := by decide +kernel
theorem dX1_looks_30 : decode cX1_looks 30 = .ok (.iload_n 1, 1) := by decide +kernel
theorem dX1_looks_31 : decode cX1_looks 31 = .ok (.iload_n 2, 1) := by decide +kernel
theorem dX1_looks_32 : decode cX1_looks 32 = .ok (.iload_n 3, 1) := by decide +kernel
theorem dX1_looks_33 : decode cX1_looks 33 = .ok (.iload 4, 2) := by decide +kernel
theorem dX1_looks_35 : decode cX1_looks 35 = .ok (.invokespecial 42, 3) := by decide +kernel
theorem dX1_looks_38 : decode cX1_looks 38 = .ok (.iconst 0, 1) := by decide +kernel
theorem dX1_looks_39 : decode cX1_looks 39 = .ok (.invokestatic 111, 3) := by decide +kernel
theorem dX1_looks_42 : decode cX1_looks 42 = .ok (.ireturn, 1) := by decide +kernel
theorem dX1_nearest_0 : decode cX1_nearest 0 = .ok (.iload_n 1, 1) := by decide +kernel
theorem dX1_nearest_1 : decode cX1_nearest 1 = .ok (.ifCond .lt 19, 3) := by decide +kernel
theorem dX1_nearest_4 : decode cX1_nearest 4 = .ok (.iload_n 2, 1) := by decide +kernel
theorem dX1_nearest_5 : decode cX1_nearest 5 = .ok (.ifCond .lt 15, 3) := by decide +kernel
theorem dX1_nearest_8 : decode cX1_nearest 8 = .ok (.iload_n 1, 1) := by decide +kernel
theorem dX1_nearest_9 : decode cX1_nearest 9 = .ok (.bipush 99, 2) := by decide +kernel
theorem dX1_nearest_11 : decode cX1_nearest 11 = .ok (.if_icmp .gt 9, 3) := by decide +kernel
theorem dX1_nearest_14 : decode cX1_nearest 14 = .ok (.iload_n 2, 1) := by decide +kernel
theorem dX1_nearest_15 : decode cX1_nearest 15 = .ok (.bipush 99, 2) := by decide +kernel
theorem dX1_nearest_17 : decode cX1_nearest 17 = .ok (.if_icmp .le 13, 3) := by decide +kernel
theorem dX1_nearest_20 : decode cX1_nearest 20 = .ok (.new 26, 3) := by decide +kernel
theorem dX1_nearest_23 : decode cX1_nearest 23 = .ok (.dup, 1) := by decide +kernel
theorem dX1_nearest_24 : decode cX1_nearest 24 = .ok (.ldc 115, 2) := by decide +kernel
theorem dX1_nearest_26 : decode cX1_nearest 26 = .ok (.invokespecial 30, 3) := by decide +kernel
theorem dX1_nearest_29 : decode cX1_nearest 29 = .ok (.athrow, 1) := by decide +kernel
theorem dX1_nearest_30 : decode cX1_nearest 30 = .ok (.aconst_null, 1) := by decide +kernel
theorem dX1_nearest_31 : decode cX1_nearest 31 = .ok (.astore_n 3, 1) := by decide +kernel
theorem dX1_nearest_32 : decode cX1_nearest 32 = .ok (.iconst 0, 1) := by decide +kernel
theorem dX1_nearest_33 : decode cX1_nearest 33 = .ok (.istore 4, 2) := by decide +kernel
theorem dX1_nearest_35 : decode cX1_nearest 35 = .ok (.iload 4, 2) := by decide +kernel
theorem dX1_nearest_37 : decode cX1_nearest 37 = .ok (.aload_n 0, 1) := by decide +kernel
theorem dX1_nearest_38 : decode cX1_nearest 38 = .ok (.getfield 33, 3) := by decide +kernel
theorem dX1_nearest_41 : decode cX1_nearest 41 = .ok (.if_icmp .ge 45, 3) := by decide +kernel
theorem dX1_nearest_44 : decode cX1_nearest 44 = .ok (.aload_n 0, 1) := by decide +kernel
theorem dX1_nearest_45 : decode cX1_nearest 45 = .ok (.iload 4, 2) := by decide +kernel
theorem dX1_nearest_47 : decode cX1_nearest 47 = .ok (.invokevirtual 117, 3) := by decide +kernel
theorem dX1_nearest_50 : decode cX1_nearest 50 = .ok (.astore 5, 2) := by decide +kernel
theorem dX1_nearest_52 : decode cX1_nearest 52 = .ok (.aload 5, 2) := by decide +kernel
theorem dX1_nearest_54 : decode cX1_nearest 54 = .ok (.ifnull 26, 3) := by decide +kernel
theorem dX1_nearest_57 : decode cX1_nearest 57 = .ok (.aload_n 3, 1) := by decide +kernel
theorem dX1_nearest_58 : decode cX1_nearest 58 = .ok (.ifnull 19, 3) := by decide +kernel
theorem dX1_nearest_61 : decode cX1_nearest 61 = .ok (.aload 5, 2) := by decide +kernel
theorem dX1_nearest_63 : decode cX1_nearest 63 = .ok (.iload_n 1, 1) := by decide +kernel
theorem dX1_nearest_64 : decode cX1_nearest 64 = .ok (.iload_n 2, 1) := by decide +kernel
theorem dX1_nearest_65 : decode cX1_nearest 65 = .ok (.invokevirtual 120, 3) := by decide +kernel
theorem dX1_nearest_68 : decode cX1_nearest 68 = .ok (.aload_n 3, 1) := by decide +kernel
theorem dX1_nearest_69 : decode cX1_nearest 69 = .ok (.iload_n 1, 1) := by decide +kernel
theorem dX1_nearest_70 : decode cX1_nearest 70 = .ok (.iload_n 2, 1) := by decide +kernel
theorem dX1_nearest_71 : decode cX1_nearest 71 = .ok (.invokevirtual 120, 3) := by decide +kernel
theorem dX1_nearest_74 : decode cX1_nearest 74 = .ok (.if_icmp .ge 6, 3) := by decide +kernel
theorem dX1_nearest_77 : decode cX1_nearest 77 = .ok (.aload 5, 2) := by decide +kernel
theorem dX1_nearest_79 : decode cX1_nearest 79 = .ok (.astore_n 3, 1) := by decide +kernel
theorem dX1_nearest_80 : decode cX1_nearest 80 = .ok (.iinc 4 1, 3) := by decide +kernel
theorem dX1_nearest_83 : decode cX1_nearest 83 = .ok (.goto (-48), 3) := by decide +kernel
theorem dX1_nearest_86 : decode cX1_nearest 86 = .ok (.aload_n 3, 1) := by decide +kernel
theorem dX1_nearest_87 : decode cX1_nearest 87 = .ok (.ifnonnull 7, 3) := by decide +kernel
theorem dX1_nearest_90 : decode cX1_nearest 90 = .ok (.iconst (-1), 1) := by decide +kernel
theorem dX1_nearest_91 : decode cX1_nearest 91 = .ok (.goto 7, 3) := by decide +kernel
theorem dX1_nearest_94 : decode cX1_nearest 94 = .ok (.aload_n 3, 1) := by decide +kernel
theorem dX1_nearest_95 : decode cX1_nearest 95 = .ok (.getfield 56, 3) := by decide +kernel
theorem dX1_nearest_98 : decode cX1_nearest 98 = .ok (.ireturn, 1) := by decide +kernel
theorem dX1_count_0 : decode cX1_count 0 = .ok (.iload_n 1, 1) := by decide +kernel
theorem dX1_count_1 : decode cX1_count 1 = .ok (.invokestatic 90, 3) := by decide +kernel
theorem dX1_count_4 : decode cX1_count 4 = .ok (.ifCond .ne 13, 3) := by decide +kernel
theorem dX1_count_7 : decode cX1_count 7 = .ok (.new 63, 3) := by decide +kernel
theorem dX1_count_10 : decode cX1_count 10 = .ok (.dup, 1) := by decide +kernel
theorem dX1_count_11 : decode cX1_count 11 = .ok (.ldc 124, 2) := by decide +kernel
theorem dX1_count_13 : decode cX1_count 13 = .ok (.invokespecial 67, 3) := by decide +kernel
theorem dX1_count_16 : decode cX1_count 16 = .ok (.athrow, 1) := by decide +kernel
theorem dX1_count_17 : decode cX1_count 17 = .ok (.aload_n 0, 1) := by decide +kernel
theorem dX1_count_18 : decode cX1_count 18 = .ok (.iload_n 1, 1) := by decide +kernel
theorem dX1_count_19 : decode cX1_count 19 = .ok (.invokevirtual 126, 3) := by decide +kernel
theorem dX1_count_22 : decode cX1_count 22 = .ok (.ireturn, 1) := by decide +kernel
theorem dX1_grows_0 : decode cX1_grows 0 = .ok (.iload_n 1, 1) := by decide +kernel
theorem dX1_grows_1 : decode cX1_grows 1 = .ok (.iload_n 2, 1) := by decide +kernel
theorem dX1_grows_2 : decode cX1_grows 2 = .ok (.iload_n 3, 1) := by decide +kernel
theorem dX1_grows_3 : decode cX1_grows 3 = .ok (.iload 4, 2) := by decide +kernel
theorem dX1_grows_5 : decode cX1_grows 5 = .ok (.invokestatic 22, 3) := by decide +kernel
theorem dX1_grows_8 : decode cX1_grows 8 = .ok (.ifCond .ne 13, 3) := by decide +kernel
theorem dX1_grows_11 : decode cX1_grows 11 = .ok (.new 26, 3) := by decide +kernel
theorem dX1_grows_14 : decode cX1_grows 14 = .ok (.dup, 1) := by decide +kernel
theorem dX1_grows_15 : decode cX1_grows 15 = .ok (.ldc 28, 2) := by decide +kernel
theorem dX1_grows_17 : decode cX1_grows 17 = .ok (.invokespecial 30, 3) := by decide +kernel
theorem dX1_grows_20 : decode cX1_grows 20 = .ok (.athrow, 1) := by decide +kernel
theorem dX1_grows_21 : decode cX1_grows 21 = .ok (.new 9, 3) := by decide +kernel
theorem dX1_grows_24 : decode cX1_grows 24 = .ok (.dup, 1) := by decide +kernel
theorem dX1_grows_25 : decode cX1_grows 25 = .ok (.iconst (-1), 1) := by decide +kernel
theorem dX1_grows_26 : decode cX1_grows 26 = .ok (.iload_n 1, 1) := by decide +kernel
theorem dX1_grows_27 : decode cX1_grows 27 = .ok (.iload_n 2, 1) := by decide +kernel
theorem dX1_grows_28 : decode cX1_grows 28 = .ok (.iload_n 3, 1) := by decide +kernel
theorem dX1_grows_29 : decode cX1_grows 29 = .ok (.iload 4, 2) := by decide +kernel
theorem dX1_grows_31 : decode cX1_grows 31 = .ok (.invokespecial 42, 3) := by decide +kernel
theorem dX1_grows_34 : decode cX1_grows 34 = .ok (.astore 5, 2) := by decide +kernel
theorem dX1_grows_36 : decode cX1_grows 36 = .ok (.iconst 0, 1) := by decide +kernel
theorem dX1_grows_37 : decode cX1_grows 37 = .ok (.istore 6, 2) := by decide +kernel
theorem dX1_grows_39 : decode cX1_grows 39 = .ok (.aload_n 0, 1) := by decide +kernel
theorem dX1_grows_40 : decode cX1_grows 40 = .ok (.aload 5, 2) := by decide +kernel
theorem dX1_grows_42 : decode cX1_grows 42 = .ok (.invokevirtual 45, 3) := by decide +kernel
theorem dX1_grows_45 : decode cX1_grows 45 = .ok (.astore 7, 2) := by decide +kernel
theorem dX1_grows_47 : decode cX1_grows 47 = .ok (.aload 7, 2) := by decide +kernel
theorem dX1_grows_49 : decode cX1_grows 49 = .ok (.ifnull 25, 3) := by decide +kernel
theorem dX1_grows_52 : decode cX1_grows 52 = .ok (.iload 6, 2) := by decide +kernel
theorem dX1_grows_54 : decode cX1_grows 54 = .ok (.aload 7, 2) := by decide +kernel
theorem dX1_grows_56 : decode cX1_grows 56 = .ok (.aload 5, 2) := by decide +kernel
theorem dX1_grows_58 : decode cX1_grows 58 = .ok (.invokevirtual 130, 3) := by decide +kernel
theorem dX1_grows_61 : decode cX1_grows 61 = .ok (.iadd, 1) := by decide +kernel
theorem dX1_grows_62 : decode cX1_grows 62 = .ok (.istore 6, 2) := by decide +kernel
theorem dX1_grows_64 : decode cX1_grows 64 = .ok (.aload 7, 2) := by decide +kernel
theorem dX1_grows_66 : decode cX1_grows 66 = .ok (.getfield 68, 3) := by decide +kernel
theorem dX1_grows_69 : decode cX1_grows 69 = .ok (.astore 7, 2) := by decide +kernel
theorem dX1_grows_71 : decode cX1_grows 71 = .ok (.goto (-24), 3) := by decide +kernel
theorem dX1_grows_74 : decode cX1_grows 74 = .ok (.iload 6, 2) := by decide +kernel
theorem dX1_grows_76 : decode cX1_grows 76 = .ok (.ireturn, 1) := by decide +kernel
theorem dX1_splits_0 : decode cX1_splits 0 = .ok (.iload_n 1, 1) := by decide +kernel
theorem dX1_splits_1 : decode cX1_splits 1 = .ok (.iload_n 2, 1) := by decide +kernel
theorem dX1_splits_2 : decode cX1_splits 2 = .ok (.iload_n 3, 1) := by decide +kernel
theorem dX1_splits_3 : decode cX1_splits 3 = .ok (.iload 4, 2) := by decide +kernel
theorem dX1_splits_5 : decode cX1_splits 5 = .ok (.invokestatic 22, 3) := by decide +kernel
theorem dX1_splits_8 : decode cX1_splits 8 = .ok (.ifCond .ne 13, 3) := by decide +kernel
theorem dX1_splits_11 : decode cX1_splits 11 = .ok (.new 26, 3) := by decide +kernel
theorem dX1_splits_14 : decode cX1_splits 14 = .ok (.dup, 1) := by decide +kernel
theorem dX1_splits_15 : decode cX1_splits 15 = .ok (.ldc 28, 2) := by decide +kernel
theorem dX1_splits_17 : decode cX1_splits 17 = .ok (.invokespecial 30, 3) := by decide +kernel
theorem dX1_splits_20 : decode cX1_splits 20 = .ok (.athrow, 1) := by decide +kernel
theorem dX1_splits_21 : decode cX1_splits 21 = .ok (.iconst 0, 1) := by decide +kernel
theorem dX1_splits_22 : decode cX1_splits 22 = .ok (.istore 5, 2) := by decide +kernel
theorem dX1_splits_24 : decode cX1_splits 24 = .ok (.aload_n 0, 1) := by decide +kernel
theorem dX1_splits_25 : decode cX1_splits 25 = .ok (.new 9, 3) := by decide +kernel
theorem dX1_splits_28 : decode cX1_splits 28 = .ok (.dup, 1) := by decide +kernel
theorem dX1_splits_29 : decode cX1_splits 29 = .ok (.iconst (-1), 1) := by decide +kernel
theorem dX1_splits_30 : decode cX1_splits 30 = .ok (.iload_n 1, 1) := by decide +kernel
theorem dX1_splits_31 : decode cX1_splits 31 = .ok (.iload_n 2, 1) := by decide +kernel
theorem dX1_splits_32 : decode cX1_splits 32 = .ok (.iload_n 3, 1) := by decide +kernel
theorem dX1_splits_33 : decode cX1_splits 33 = .ok (.iload 4, 2) := by decide +kernel
theorem dX1_splits_35 : decode cX1_splits 35 = .ok (.invokespecial 42, 3) := by decide +kernel
theorem dX1_splits_38 : decode cX1_splits 38 = .ok (.invokevirtual 45, 3) := by decide +kernel
theorem dX1_splits_41 : decode cX1_splits 41 = .ok (.astore 6, 2) := by decide +kernel
theorem dX1_splits_43 : decode cX1_splits 43 = .ok (.aload 6, 2) := by decide +kernel
theorem dX1_splits_45 : decode cX1_splits 45 = .ok (.ifnull 25, 3) := by decide +kernel
theorem dX1_splits_48 : decode cX1_splits 48 = .ok (.aload 6, 2) := by decide +kernel
theorem dX1_splits_50 : decode cX1_splits 50 = .ok (.getfield 133, 3) := by decide +kernel
theorem dX1_splits_53 : decode cX1_splits 53 = .ok (.iconst 4, 1) := by decide +kernel
theorem dX1_splits_54 : decode cX1_splits 54 = .ok (.if_icmp .lt 16, 3) := by decide +kernel
theorem dX1_splits_57 : decode cX1_splits 57 = .ok (.iinc 5 1, 3) := by decide +kernel
theorem dX1_splits_60 : decode cX1_splits 60 = .ok (.aload 6, 2) := by decide +kernel
theorem dX1_splits_62 : decode cX1_splits 62 = .ok (.getfield 68, 3) := by decide +kernel
theorem dX1_splits_65 : decode cX1_splits 65 = .ok (.astore 6, 2) := by decide +kernel
theorem dX1_splits_67 : decode cX1_splits 67 = .ok (.goto (-24), 3) := by decide +kernel
theorem dX1_splits_70 : decode cX1_splits 70 = .ok (.iload 5, 2) := by decide +kernel
theorem dX1_splits_72 : decode cX1_splits 72 = .ok (.ireturn, 1) := by decide +kernel
theorem dX1_mean_0 : decode cX1_mean 0 = .ok (.iconst 0, 1) := by decide +kernel
theorem dX1_mean_1 : decode cX1_mean 1 = .ok (.istore_n 1, 1) := by decide +kernel
theorem dX1_mean_2 : decode cX1_mean 2 = .ok (.iconst 0, 1) := by decide +kernel
theorem dX1_mean_3 : decode cX1_mean 3 = .ok (.istore_n 2, 1) := by decide +kernel
theorem dX1_mean_4 : decode cX1_mean 4 = .ok (.iconst 0, 1) := by decide +kernel
theorem dX1_mean_5 : decode cX1_mean 5 = .ok (.istore_n 3, 1) := by decide +kernel
theorem dX1_mean_6 : decode cX1_mean 6 = .ok (.iload_n 3, 1) := by decide +kernel
theorem dX1_mean_7 : decode cX1_mean 7 = .ok (.aload_n 0, 1) := by decide +kernel
theorem dX1_mean_8 : decode cX1_mean 8 = .ok (.getfield 33, 3) := by decide +kernel
theorem dX1_mean_11 : decode cX1_mean 11 = .ok (.if_icmp .ge 32, 3) := by decide +kernel
theorem dX1_mean_14 : decode cX1_mean 14 = .ok (.aload_n 0, 1) := by decide +kernel
theorem dX1_mean_15 : decode cX1_mean 15 = .ok (.iload_n 3, 1) := by decide +kernel
theorem dX1_mean_16 : decode cX1_mean 16 = .ok (.invokevirtual 117, 3) := by decide +kernel
theorem dX1_mean_19 : decode cX1_mean 19 = .ok (.astore 4, 2) := by decide +kernel
theorem dX1_mean_21 : decode cX1_mean 21 = .ok (.aload 4, 2) := by decide +kernel
theorem dX1_mean_23 : decode cX1_mean 23 = .ok (.ifnull 14, 3) := by decide +kernel
theorem dX1_mean_26 : decode cX1_mean 26 = .ok (.iinc 1 1, 3) := by decide +kernel
theorem dX1_mean_29 : decode cX1_mean 29 = .ok (.iload_n 2, 1) := by decide +kernel
theorem dX1_mean_30 : decode cX1_mean 30 = .ok (.aload 4, 2) := by decide +kernel
theorem dX1_mean_32 : decode cX1_mean 32 = .ok (.invokevirtual 86, 3) := by decide +kernel
theorem dX1_mean_35 : decode cX1_mean 35 = .ok (.iadd, 1) := by decide +kernel
theorem dX1_mean_36 : decode cX1_mean 36 = .ok (.istore_n 2, 1) := by decide +kernel
theorem dX1_mean_37 : decode cX1_mean 37 = .ok (.iinc 3 1, 3) := by decide +kernel
theorem dX1_mean_40 : decode cX1_mean 40 = .ok (.goto (-34), 3) := by decide +kernel
theorem dX1_mean_43 : decode cX1_mean 43 = .ok (.iload_n 1, 1) := by decide +kernel
theorem dX1_mean_44 : decode cX1_mean 44 = .ok (.ifCond .ne 7, 3) := by decide +kernel
theorem dX1_mean_47 : decode cX1_mean 47 = .ok (.dconst 0, 1) := by decide +kernel
theorem dX1_mean_48 : decode cX1_mean 48 = .ok (.goto 8, 3) := by decide +kernel
theorem dX1_mean_51 : decode cX1_mean 51 = .ok (.iload_n 2, 1) := by decide +kernel
theorem dX1_mean_52 : decode cX1_mean 52 = .ok (.i2d, 1) := by decide +kernel
theorem dX1_mean_53 : decode cX1_mean 53 = .ok (.iload_n 1, 1) := by decide +kernel
theorem dX1_mean_54 : decode cX1_mean 54 = .ok (.i2d, 1) := by decide +kernel
theorem dX1_mean_55 : decode cX1_mean 55 = .ok (.ddiv, 1) := by decide +kernel
theorem dX1_mean_56 : decode cX1_mean 56 = .ok (.dreturn, 1) := by decide +kernel
theorem dX1_digest_0 : decode cX1_digest 0 = .ok (.ldc2_w 136, 3) := by decide +kernel
theorem dX1_digest_3 : decode cX1_digest 3 = .ok (.lstore_n 1, 1) := by decide +kernel
theorem dX1_digest_4 : decode cX1_digest 4 = .ok (.iconst 0, 1) := by decide +kernel
theorem dX1_digest_5 : decode cX1_digest 5 = .ok (.istore_n 3, 1) := by decide +kernel
theorem dX1_digest_6 : decode cX1_digest 6 = .ok (.iload_n 3, 1) := by decide +kernel
theorem dX1_digest_7 : decode cX1_digest 7 = .ok (.bipush 8, 2) := by decide +kernel
theorem dX1_digest_9 : decode cX1_digest 9 = .ok (.if_icmp .gt 22, 3) := by decide +kernel
theorem dX1_digest_12 : decode cX1_digest 12 = .ok (.lload_n 1, 1) := by decide +kernel
theorem dX1_digest_13 : decode cX1_digest 13 = .ok (.ldc2_w 138, 3) := by decide +kernel
theorem dX1_digest_16 : decode cX1_digest 16 = .ok (.lmul, 1) := by decide +kernel
theorem dX1_digest_17 : decode cX1_digest 17 = .ok (.aload_n 0, 1) := by decide +kernel
theorem dX1_digest_18 : decode cX1_digest 18 = .ok (.iload_n 3, 1) := by decide +kernel
theorem dX1_digest_19 : decode cX1_digest 19 = .ok (.invokevirtual 126, 3) := by decide +kernel
theorem dX1_digest_22 : decode cX1_digest 22 = .ok (.i2l, 1) := by decide +kernel
theorem dX1_digest_23 : decode cX1_digest 23 = .ok (.ladd, 1) := by decide +kernel
theorem dX1_digest_24 : decode cX1_digest 24 = .ok (.lstore_n 1, 1) := by decide +kernel
theorem dX1_digest_25 : decode cX1_digest 25 = .ok (.iinc 3 1, 3) := by decide +kernel
theorem dX1_digest_28 : decode cX1_digest 28 = .ok (.goto (-22), 3) := by decide +kernel
theorem dX1_digest_31 : decode cX1_digest 31 = .ok (.iconst 0, 1) := by decide +kernel
theorem dX1_digest_32 : decode cX1_digest 32 = .ok (.istore_n 3, 1) := by decide +kernel
theorem dX1_digest_33 : decode cX1_digest 33 = .ok (.iload_n 3, 1) := by decide +kernel
theorem dX1_digest_34 : decode cX1_digest 34 = .ok (.aload_n 0, 1) := by decide +kernel
theorem dX1_digest_35 : decode cX1_digest 35 = .ok (.getfield 33, 3) := by decide +kernel
theorem dX1_digest_38 : decode cX1_digest 38 = .ok (.if_icmp .ge 53, 3) := by decide +kernel
theorem dX1_digest_41 : decode cX1_digest 41 = .ok (.aload_n 0, 1) := by decide +kernel
theorem dX1_digest_42 : decode cX1_digest 42 = .ok (.iload_n 3, 1) := by decide +kernel
theorem dX1_digest_43 : decode cX1_digest 43 = .ok (.invokevirtual 59, 3) := by decide +kernel
theorem dX1_digest_46 : decode cX1_digest 46 = .ok (.astore 4, 2) := by decide +kernel
theorem dX1_digest_48 : decode cX1_digest 48 = .ok (.iconst 0, 1) := by decide +kernel
theorem dX1_digest_49 : decode cX1_digest 49 = .ok (.istore 5, 2) := by decide +kernel
theorem dX1_digest_51 : decode cX1_digest 51 = .ok (.aload 4, 2) := by decide +kernel
theorem dX1_digest_53 : decode cX1_digest 53 = .ok (.ifnull 32, 3) := by decide +kernel
theorem dX1_digest_56 : decode cX1_digest 56 = .ok (.iload 5, 2) := by decide +kernel
theorem dX1_digest_58 : decode cX1_digest 58 = .ok (.bipush 8, 2) := by decide +kernel
theorem dX1_digest_60 : decode cX1_digest 60 = .ok (.if_icmp .gt 25, 3) := by decide +kernel
theorem dX1_digest_63 : decode cX1_digest 63 = .ok (.lload_n 1, 1) := by decide +kernel
theorem dX1_digest_64 : decode cX1_digest 64 = .ok (.ldc2_w 138, 3) := by decide +kernel
theorem dX1_digest_67 : decode cX1_digest 67 = .ok (.lmul, 1) := by decide +kernel
theorem dX1_digest_68 : decode cX1_digest 68 = .ok (.aload_n 0, 1) := by decide +kernel
theorem dX1_digest_69 : decode cX1_digest 69 = .ok (.aload 4, 2) := by decide +kernel
theorem dX1_digest_71 : decode cX1_digest 71 = .ok (.iload 5, 2) := by decide +kernel
theorem dX1_digest_73 : decode cX1_digest 73 = .ok (.invokevirtual 96, 3) := by decide +kernel
theorem dX1_digest_76 : decode cX1_digest 76 = .ok (.i2l, 1) := by decide +kernel
theorem dX1_digest_77 : decode cX1_digest 77 = .ok (.ladd, 1) := by decide +kernel
theorem dX1_digest_78 : decode cX1_digest 78 = .ok (.lstore_n 1, 1) := by decide +kernel
theorem dX1_digest_79 : decode cX1_digest 79 = .ok (.iinc 5 1, 3) := by decide +kernel
theorem dX1_digest_82 : decode cX1_digest 82 = .ok (.goto (-31), 3) := by decide +kernel
theorem dX1_digest_85 : decode cX1_digest 85 = .ok (.iinc 3 1, 3) := by decide +kernel
theorem dX1_digest_88 : decode cX1_digest 88 = .ok (.goto (-55), 3) := by decide +kernel
theorem dX1_digest_91 : decode cX1_digest 91 = .ok (.aload_n 0, 1) := by decide +kernel
theorem dX1_digest_92 : decode cX1_digest 92 = .ok (.getfield 18, 3) := by decide +kernel
theorem dX1_digest_95 : decode cX1_digest 95 = .ok (.lload_n 1, 1) := by decide +kernel
theorem dX1_digest_96 : decode cX1_digest 96 = .ok (.iconst 0, 1) := by decide +kernel
theorem dX1_digest_97 : decode cX1_digest 97 = .ok (.invokestatic 140, 3) := by decide +kernel
theorem dX1_digest_100 : decode cX1_digest 100 = .ok (.lreturn, 1) := by decide +kernel
theorem dX1_isRectangle_0 : decode cX1_isRectangle 0 = .ok (.iload_n 0, 1) := by decide +kernel
theorem dX1_isRectangle_1 : decode cX1_isRectangle 1 = .ok (.ifCond .lt 33, 3) := by decide +kernel
theorem dX1_isRectangle_4 : decode cX1_isRectangle 4 = .ok (.iload_n 1, 1) := by decide +kernel
theorem dX1_isRectangle_5 : decode cX1_isRectangle 5 = .ok (.ifCond .lt 29, 3) := by decide +kernel
theorem dX1_isRectangle_8 : decode cX1_isRectangle 8 = .ok (.iload_n 2, 1) := by decide +kernel
theorem dX1_isRectangle_9 : decode cX1_isRectangle 9 = .ok (.bipush 99, 2) := by decide +kernel
theorem dX1_isRectangle_11 : decode cX1_isRectangle 11 = .ok (.if_icmp .gt 23, 3) := by decide +kernel
theorem dX1_isRectangle_14 : decode cX1_isRectangle 14 = .ok (.iload_n 3, 1) := by decide +kernel
theorem dX1_isRectangle_15 : decode cX1_isRectangle 15 = .ok (.bipush 99, 2) := by decide +kernel
theorem dX1_isRectangle_17 : decode cX1_isRectangle 17 = .ok (.if_icmp .gt 17, 3) := by decide +kernel
theorem dX1_isRectangle_20 : decode cX1_isRectangle 20 = .ok (.iload_n 0, 1) := by decide +kernel
theorem dX1_isRectangle_21 : decode cX1_isRectangle 21 = .ok (.iload_n 2, 1) := by decide +kernel
theorem dX1_isRectangle_22 : decode cX1_isRectangle 22 = .ok (.if_icmp .gt 12, 3) := by decide +kernel
theorem dX1_isRectangle_25 : decode cX1_isRectangle 25 = .ok (.iload_n 1, 1) := by decide +kernel
theorem dX1_isRectangle_26 : decode cX1_isRectangle 26 = .ok (.iload_n 3, 1) := by decide +kernel
theorem dX1_isRectangle_27 : decode cX1_isRectangle 27 = .ok (.if_icmp .gt 7, 3) := by decide +kernel
theorem dX1_isRectangle_30 : decode cX1_isRectangle 30 = .ok (.iconst 1, 1) := by decide +kernel
theorem dX1_isRectangle_31 : decode cX1_isRectangle 31 = .ok (.goto 4, 3) := by decide +kernel
theorem dX1_isRectangle_34 : decode cX1_isRectangle 34 = .ok (.iconst 0, 1) := by decide +kernel
theorem dX1_isRectangle_35 : decode cX1_isRectangle 35 = .ok (.ireturn, 1) := by decide +kernel
theorem dX1_isQuestion_0 : decode cX1_isQuestion 0 = .ok (.iload_n 0, 1) := by decide +kernel
theorem dX1_isQuestion_1 : decode cX1_isQuestion 1 = .ok (.ifCond .lt 13, 3) := by decide +kernel
theorem dX1_isQuestion_4 : decode cX1_isQuestion 4 = .ok (.iload_n 0, 1) := by decide +kernel
theorem dX1_isQuestion_5 : decode cX1_isQuestion 5 = .ok (.bipush 8, 2) := by decide +kernel
theorem dX1_isQuestion_7 : decode cX1_isQuestion 7 = .ok (.if_icmp .gt 7, 3) := by decide +kernel
theorem dX1_isQuestion_10 : decode cX1_isQuestion 10 = .ok (.iconst 1, 1) := by decide +kernel
theorem dX1_isQuestion_11 : decode cX1_isQuestion 11 = .ok (.goto 4, 3) := by decide +kernel
theorem dX1_isQuestion_14 : decode cX1_isQuestion 14 = .ok (.iconst 0, 1) := by decide +kernel
theorem dX1_isQuestion_15 : decode cX1_isQuestion 15 = .ok (.ireturn, 1) := by decide +kernel
theorem dX1_allotmentOrNull_0 : decode cX1_allotmentOrNull 0 = .ok (.iload_n 1, 1) := by decide +kernel
theorem dX1_allotmentOrNull_1 : decode cX1_allotmentOrNull 1 = .ok (.ifCond .lt 29, 3) := by decide +kernel
theorem dX1_allotmentOrNull_4 : decode cX1_allotmentOrNull 4 = .ok (.iload_n 1, 1) := by decide +kernel
theorem dX1_allotmentOrNull_5 : decode cX1_allotmentOrNull 5 = .ok (.aload_n 0, 1) := by decide +kernel
theorem dX1_allotmentOrNull_6 : decode cX1_allotmentOrNull 6 = .ok (.getfield 33, 3) := by decide +kernel
theorem dX1_allotmentOrNull_9 : decode cX1_allotmentOrNull 9 = .ok (.if_icmp .ge 21, 3) := by decide +kernel
theorem dX1_allotmentOrNull_12 : decode cX1_allotmentOrNull 12 = .ok (.iload_n 1, 1) := by decide +kernel
theorem dX1_allotmentOrNull_13 : decode cX1_allotmentOrNull 13 = .ok (.aload_n 0, 1) := by decide +kernel
theorem dX1_allotmentOrNull_14 : decode cX1_allotmentOrNull 14 = .ok (.getfield 11, 3) := by decide +kernel
theorem dX1_allotmentOrNull_17 : decode cX1_allotmentOrNull 17 = .ok (.arraylength, 1) := by decide +kernel
theorem dX1_allotmentOrNull_18 : decode cX1_allotmentOrNull 18 = .ok (.if_icmp .ge 12, 3) := by decide +kernel
theorem dX1_allotmentOrNull_21 : decode cX1_allotmentOrNull 21 = .ok (.aload_n 0, 1) := by decide +kernel
theorem dX1_allotmentOrNull_22 : decode cX1_allotmentOrNull 22 = .ok (.getfield 11, 3) := by decide +kernel
theorem dX1_allotmentOrNull_25 : decode cX1_allotmentOrNull 25 = .ok (.iload_n 1, 1) := by decide +kernel
theorem dX1_allotmentOrNull_26 : decode cX1_allotmentOrNull 26 = .ok (.aaload, 1) := by decide +kernel
theorem dX1_allotmentOrNull_27 : decode cX1_allotmentOrNull 27 = .ok (.goto 4, 3) := by decide +kernel
theorem dX1_allotmentOrNull_30 : decode cX1_allotmentOrNull 30 = .ok (.aconst_null, 1) := by decide +kernel
theorem dX1_allotmentOrNull_31 : decode cX1_allotmentOrNull 31 = .ok (.areturn, 1) := by decide +kernel
theorem dX1_heldOrNull_0 : decode cX1_heldOrNull 0 = .ok (.aload_n 0, 1) := by decide +kernel
theorem dX1_heldOrNull_1 : decode cX1_heldOrNull 1 = .ok (.iload_n 1, 1) := by decide +kernel
theorem dX1_heldOrNull_2 : decode cX1_heldOrNull 2 = .ok (.invokevirtual 59, 3) := by decide +kernel
theorem dX1_heldOrNull_5 : decode cX1_heldOrNull 5 = .ok (.astore_n 2, 1) := by decide +kernel
theorem dX1_heldOrNull_6 : decode cX1_heldOrNull 6 = .ok (.aload_n 2, 1) := by decide +kernel
theorem dX1_heldOrNull_7 : decode cX1_heldOrNull 7 = .ok (.ifnull 10, 3) := by decide +kernel
theorem dX1_heldOrNull_10 : decode cX1_heldOrNull 10 = .ok (.aload_n 2, 1) := by decide +kernel
theorem dX1_heldOrNull_11 : decode cX1_heldOrNull 11 = .ok (.getfield 68, 3) := by decide +kernel
theorem dX1_heldOrNull_14 : decode cX1_heldOrNull 14 = .ok (.ifnonnull 7, 3) := by decide +kernel
theorem dX1_heldOrNull_17 : decode cX1_heldOrNull 17 = .ok (.aconst_null, 1) := by decide +kernel
theorem dX1_heldOrNull_18 : decode cX1_heldOrNull 18 = .ok (.goto 4, 3) := by decide +kernel
theorem dX1_heldOrNull_21 : decode cX1_heldOrNull 21 = .ok (.aload_n 2, 1) := by decide +kernel
theorem dX1_heldOrNull_22 : decode cX1_heldOrNull 22 = .ok (.areturn, 1) := by decide +kernel
theorem dX1_frameFor_0 : decode cX1_frameFor 0 = .ok (.aload_n 0, 1) := by decide +kernel
theorem dX1_frameFor_1 : decode cX1_frameFor 1 = .ok (.getfield 18, 3) := by decide +kernel
theorem dX1_frameFor_4 : decode cX1_frameFor 4 = .ok (.astore_n 2, 1) := by decide +kernel
theorem dX1_frameFor_5 : decode cX1_frameFor 5 = .ok (.iconst 0, 1) := by decide +kernel
theorem dX1_frameFor_6 : decode cX1_frameFor 6 = .ok (.istore_n 3, 1) := by decide +kernel
theorem dX1_frameFor_7 : decode cX1_frameFor 7 = .ok (.iload_n 3, 1) := by decide +kernel
theorem dX1_frameFor_8 : decode cX1_frameFor 8 = .ok (.bipush 40, 2) := by decide +kernel
theorem dX1_frameFor_10 : decode cX1_frameFor 10 = .ok (.if_icmp .ge 34, 3) := by decide +kernel
theorem dX1_frameFor_13 : decode cX1_frameFor 13 = .ok (.aload_n 2, 1) := by decide +kernel
theorem dX1_frameFor_14 : decode cX1_frameFor 14 = .ok (.getfield 102, 3) := by decide +kernel
theorem dX1_frameFor_17 : decode cX1_frameFor 17 = .ok (.iconst 1, 1) := by decide +kernel
theorem dX1_frameFor_18 : decode cX1_frameFor 18 = .ok (.if_icmp .le 26, 3) := by decide +kernel
theorem dX1_frameFor_21 : decode cX1_frameFor 21 = .ok (.aload_n 2, 1) := by decide +kernel
theorem dX1_frameFor_22 : decode cX1_frameFor 22 = .ok (.aload_n 1, 1) := by decide +kernel
theorem dX1_frameFor_23 : decode cX1_frameFor 23 = .ok (.invokestatic 144, 3) := by decide +kernel
theorem dX1_frameFor_26 : decode cX1_frameFor 26 = .ok (.astore 4, 2) := by decide +kernel
theorem dX1_frameFor_28 : decode cX1_frameFor 28 = .ok (.aload 4, 2) := by decide +kernel
theorem dX1_frameFor_30 : decode cX1_frameFor 30 = .ok (.ifnonnull 5, 3) := by decide +kernel
theorem dX1_frameFor_33 : decode cX1_frameFor 33 = .ok (.aload_n 2, 1) := by decide +kernel
theorem dX1_frameFor_34 : decode cX1_frameFor 34 = .ok (.areturn, 1) := by decide +kernel
theorem dX1_frameFor_35 : decode cX1_frameFor 35 = .ok (.aload 4, 2) := by decide +kernel
theorem dX1_frameFor_37 : decode cX1_frameFor 37 = .ok (.astore_n 2, 1) := by decide +kernel
theorem dX1_frameFor_38 : decode cX1_frameFor 38 = .ok (.iinc 3 1, 3) := by decide +kernel
theorem dX1_frameFor_41 : decode cX1_frameFor 41 = .ok (.goto (-34), 3) := by decide +kernel
theorem dX1_frameFor_44 : decode cX1_frameFor 44 = .ok (.aload_n 2, 1) := by decide +kernel
theorem dX1_frameFor_45 : decode cX1_frameFor 45 = .ok (.areturn, 1) := by decide +kernel
theorem dX1_leastGrowing_0 : decode cX1_leastGrowing 0 = .ok (.aconst_null, 1) := by decide +kernel
theorem dX1_leastGrowing_1 : decode cX1_leastGrowing 1 = .ok (.astore_n 2, 1) := by decide +kernel
theorem dX1_leastGrowing_2 : decode cX1_leastGrowing 2 = .ok (.iconst 0, 1) := by decide +kernel
theorem dX1_leastGrowing_3 : decode cX1_leastGrowing 3 = .ok (.istore_n 3, 1) := by decide +kernel
theorem dX1_leastGrowing_4 : decode cX1_leastGrowing 4 = .ok (.iload_n 3, 1) := by decide +kernel
theorem dX1_leastGrowing_5 : decode cX1_leastGrowing 5 = .ok (.aload_n 0, 1) := by decide +kernel
theorem dX1_leastGrowing_6 : decode cX1_leastGrowing 6 = .ok (.getfield 133, 3) := by decide +kernel
theorem dX1_leastGrowing_9 : decode cX1_leastGrowing 9 = .ok (.if_icmp .ge 38, 3) := by decide +kernel
theorem dX1_leastGrowing_12 : decode cX1_leastGrowing 12 = .ok (.aload_n 0, 1) := by decide +kernel
theorem dX1_leastGrowing_13 : decode cX1_leastGrowing 13 = .ok (.iload_n 3, 1) := by decide +kernel
theorem dX1_leastGrowing_14 : decode cX1_leastGrowing 14 = .ok (.invokevirtual 148, 3) := by decide +kernel
theorem dX1_leastGrowing_17 : decode cX1_leastGrowing 17 = .ok (.astore 4, 2) := by decide +kernel
theorem dX1_leastGrowing_19 : decode cX1_leastGrowing 19 = .ok (.aload 4, 2) := by decide +kernel
theorem dX1_leastGrowing_21 : decode cX1_leastGrowing 21 = .ok (.ifnull 20, 3) := by decide +kernel
theorem dX1_leastGrowing_24 : decode cX1_leastGrowing 24 = .ok (.aload_n 2, 1) := by decide +kernel
theorem dX1_leastGrowing_25 : decode cX1_leastGrowing 25 = .ok (.ifnull 13, 3) := by decide +kernel
theorem dX1_leastGrowing_28 : decode cX1_leastGrowing 28 = .ok (.aload_n 1, 1) := by decide +kernel
theorem dX1_leastGrowing_29 : decode cX1_leastGrowing 29 = .ok (.aload 4, 2) := by decide +kernel
theorem dX1_leastGrowing_31 : decode cX1_leastGrowing 31 = .ok (.aload_n 2, 1) := by decide +kernel
theorem dX1_leastGrowing_32 : decode cX1_leastGrowing 32 = .ok (.invokestatic 151, 3) := by decide +kernel
theorem dX1_leastGrowing_35 : decode cX1_leastGrowing 35 = .ok (.ifCond .eq 6, 3) := by decide +kernel
theorem dX1_leastGrowing_38 : decode cX1_leastGrowing 38 = .ok (.aload 4, 2) := by decide +kernel
theorem dX1_leastGrowing_40 : decode cX1_leastGrowing 40 = .ok (.astore_n 2, 1) := by decide +kernel
theorem dX1_leastGrowing_41 : decode cX1_leastGrowing 41 = .ok (.iinc 3 1, 3) := by decide +kernel
theorem dX1_leastGrowing_44 : decode cX1_leastGrowing 44 = .ok (.goto (-40), 3) := by decide +kernel
theorem dX1_leastGrowing_47 : decode cX1_leastGrowing 47 = .ok (.aload_n 2, 1) := by decide +kernel
theorem dX1_leastGrowing_48 : decode cX1_leastGrowing 48 = .ok (.areturn, 1) := by decide +kernel
theorem dX1_isBetterFor_0 : decode cX1_isBetterFor 0 = .ok (.aload_n 1, 1) := by decide +kernel
theorem dX1_isBetterFor_1 : decode cX1_isBetterFor 1 = .ok (.aload_n 0, 1) := by decide +kernel
theorem dX1_isBetterFor_2 : decode cX1_isBetterFor 2 = .ok (.invokevirtual 130, 3) := by decide +kernel
theorem dX1_isBetterFor_5 : decode cX1_isBetterFor 5 = .ok (.istore_n 3, 1) := by decide +kernel
theorem dX1_isBetterFor_6 : decode cX1_isBetterFor 6 = .ok (.aload_n 2, 1) := by decide +kernel
theorem dX1_isBetterFor_7 : decode cX1_isBetterFor 7 = .ok (.aload_n 0, 1) := by decide +kernel
theorem dX1_isBetterFor_8 : decode cX1_isBetterFor 8 = .ok (.invokevirtual 130, 3) := by decide +kernel
theorem dX1_isBetterFor_11 : decode cX1_isBetterFor 11 = .ok (.istore 4, 2) := by decide +kernel
theorem dX1_isBetterFor_13 : decode cX1_isBetterFor 13 = .ok (.iload_n 3, 1) := by decide +kernel
theorem dX1_isBetterFor_14 : decode cX1_isBetterFor 14 = .ok (.iload 4, 2) := by decide +kernel
theorem dX1_isBetterFor_16 : decode cX1_isBetterFor 16 = .ok (.if_icmp .lt 20, 3) := by decide +kernel
theorem dX1_isBetterFor_19 : decode cX1_isBetterFor 19 = .ok (.iload_n 3, 1) := by decide +kernel
theorem dX1_isBetterFor_20 : decode cX1_isBetterFor 20 = .ok (.iload 4, 2) := by decide +kernel
theorem dX1_isBetterFor_22 : decode cX1_isBetterFor 22 = .ok (.if_icmp .ne 18, 3) := by decide +kernel
theorem dX1_isBetterFor_25 : decode cX1_isBetterFor 25 = .ok (.aload_n 1, 1) := by decide +kernel
theorem dX1_isBetterFor_26 : decode cX1_isBetterFor 26 = .ok (.invokevirtual 86, 3) := by decide +kernel
theorem dX1_isBetterFor_29 : decode cX1_isBetterFor 29 = .ok (.aload_n 2, 1) := by decide +kernel
theorem dX1_isBetterFor_30 : decode cX1_isBetterFor 30 = .ok (.invokevirtual 86, 3) := by decide +kernel
theorem dX1_isBetterFor_33 : decode cX1_isBetterFor 33 = .ok (.if_icmp .ge 7, 3) := by decide +kernel
theorem dX1_isBetterFor_36 : decode cX1_isBetterFor 36 = .ok (.iconst 1, 1) := by decide +kernel
theorem dX1_isBetterFor_37 : decode cX1_isBetterFor 37 = .ok (.goto 4, 3) := by decide +kernel
theorem dX1_isBetterFor_40 : decode cX1_isBetterFor 40 = .ok (.iconst 0, 1) := by decide +kernel
theorem dX1_isBetterFor_41 : decode cX1_isBetterFor 41 = .ok (.ireturn, 1) := by decide +kernel
theorem dX1_splitCrowdedAndTighten_0 : decode cX1_splitCrowdedAndTighten 0 = .ok (.aload_n 1, 1) := by decide +kernel
theorem dX1_splitCrowdedAndTighten_1 : decode cX1_splitCrowdedAndTighten 1 = .ok (.astore_n 2, 1) := by decide +kernel
theorem dX1_splitCrowdedAndTighten_2 : decode cX1_splitCrowdedAndTighten 2 = .ok (.iconst 0, 1) := by decide +kernel
theorem dX1_splitCrowdedAndTighten_3 : decode cX1_splitCrowdedAndTighten 3 = .ok (.istore_n 3, 1) := by decide +kernel
theorem dX1_splitCrowdedAndTighten_4 : decode cX1_splitCrowdedAndTighten 4 = .ok (.iload_n 3, 1) := by decide +kernel
theorem dX1_splitCrowdedAndTighten_5 : decode cX1_splitCrowdedAndTighten 5 = .ok (.bipush 40, 2) := by decide +kernel
theorem dX1_splitCrowdedAndTighten_7 : decode cX1_splitCrowdedAndTighten 7 = .ok (.if_icmp .ge 35, 3) := by decide +kernel
theorem dX1_splitCrowdedAndTighten_10 : decode cX1_splitCrowdedAndTighten 10 = .ok (.aload_n 2, 1) := by decide +kernel
theorem dX1_splitCrowdedAndTighten_11 : decode cX1_splitCrowdedAndTighten 11 = .ok (.ifnull 31, 3) := by decide +kernel
theorem dX1_splitCrowdedAndTighten_14 : decode cX1_splitCrowdedAndTighten 14 = .ok (.aload_n 2, 1) := by decide +kernel
theorem dX1_splitCrowdedAndTighten_15 : decode cX1_splitCrowdedAndTighten 15 = .ok (.getfield 133, 3) := by decide +kernel
theorem dX1_splitCrowdedAndTighten_18 : decode cX1_splitCrowdedAndTighten 18 = .ok (.iconst 4, 1) := by decide +kernel
theorem dX1_splitCrowdedAndTighten_19 : decode cX1_splitCrowdedAndTighten 19 = .ok (.if_icmp .le 8, 3) := by decide +kernel
theorem dX1_splitCrowdedAndTighten_22 : decode cX1_splitCrowdedAndTighten 22 = .ok (.aload_n 0, 1) := by decide +kernel
theorem dX1_splitCrowdedAndTighten_23 : decode cX1_splitCrowdedAndTighten 23 = .ok (.aload_n 2, 1) := by decide +kernel
theorem dX1_splitCrowdedAndTighten_24 : decode cX1_splitCrowdedAndTighten 24 = .ok (.invokevirtual 155, 3) := by decide +kernel
theorem dX1_splitCrowdedAndTighten_27 : decode cX1_splitCrowdedAndTighten 27 = .ok (.aload_n 2, 1) := by decide +kernel
theorem dX1_splitCrowdedAndTighten_28 : decode cX1_splitCrowdedAndTighten 28 = .ok (.invokevirtual 158, 3) := by decide +kernel
theorem dX1_splitCrowdedAndTighten_31 : decode cX1_splitCrowdedAndTighten 31 = .ok (.aload_n 2, 1) := by decide +kernel
theorem dX1_splitCrowdedAndTighten_32 : decode cX1_splitCrowdedAndTighten 32 = .ok (.getfield 68, 3) := by decide +kernel
theorem dX1_splitCrowdedAndTighten_35 : decode cX1_splitCrowdedAndTighten 35 = .ok (.astore_n 2, 1) := by decide +kernel
theorem dX1_splitCrowdedAndTighten_36 : decode cX1_splitCrowdedAndTighten 36 = .ok (.iinc 3 1, 3) := by decide +kernel
theorem dX1_splitCrowdedAndTighten_39 : decode cX1_splitCrowdedAndTighten 39 = .ok (.goto (-35), 3) := by decide +kernel
theorem dX1_splitCrowdedAndTighten_42 : decode cX1_splitCrowdedAndTighten 42 = .ok (.return_, 1) := by decide +kernel
theorem dX1_split_0 : decode cX1_split 0 = .ok (.aload_n 1, 1) := by decide +kernel
theorem dX1_split_1 : decode cX1_split 1 = .ok (.getfield 68, 3) := by decide +kernel
theorem dX1_split_4 : decode cX1_split 4 = .ok (.ifnonnull 7, 3) := by decide +kernel
theorem dX1_split_7 : decode cX1_split 7 = .ok (.aload_n 0, 1) := by decide +kernel
theorem dX1_split_8 : decode cX1_split 8 = .ok (.invokevirtual 161, 3) := by decide +kernel
theorem dX1_split_11 : decode cX1_split 11 = .ok (.aload_n 1, 1) := by decide +kernel
theorem dX1_split_12 : decode cX1_split 12 = .ok (.getfield 68, 3) := by decide +kernel
theorem dX1_split_15 : decode cX1_split 15 = .ok (.astore_n 2, 1) := by decide +kernel
theorem dX1_split_16 : decode cX1_split 16 = .ok (.aload_n 2, 1) := by decide +kernel
theorem dX1_split_17 : decode cX1_split 17 = .ok (.ifnonnull 4, 3) := by decide +kernel
theorem dX1_split_20 : decode cX1_split 20 = .ok (.return_, 1) := by decide +kernel
theorem dX1_split_21 : decode cX1_split 21 = .ok (.aload_n 1, 1) := by decide +kernel
theorem dX1_split_22 : decode cX1_split 22 = .ok (.aload_n 1, 1) := by decide +kernel
theorem dX1_split_23 : decode cX1_split 23 = .ok (.invokevirtual 164, 3) := by decide +kernel
theorem dX1_split_26 : decode cX1_split 26 = .ok (.invokevirtual 168, 3) := by decide +kernel
theorem dX1_split_29 : decode cX1_split 29 = .ok (.new 9, 3) := by decide +kernel
theorem dX1_split_32 : decode cX1_split 32 = .ok (.dup, 1) := by decide +kernel
theorem dX1_split_33 : decode cX1_split 33 = .ok (.aload_n 1, 1) := by decide +kernel
theorem dX1_split_34 : decode cX1_split 34 = .ok (.getfield 102, 3) := by decide +kernel
theorem dX1_split_37 : decode cX1_split 37 = .ok (.invokespecial 15, 3) := by decide +kernel
theorem dX1_split_40 : decode cX1_split 40 = .ok (.astore_n 3, 1) := by decide +kernel
theorem dX1_split_41 : decode cX1_split 41 = .ok (.iconst 3, 1) := by decide +kernel
theorem dX1_split_42 : decode cX1_split 42 = .ok (.istore 4, 2) := by decide +kernel
theorem dX1_split_44 : decode cX1_split 44 = .ok (.iload 4, 2) := by decide +kernel
theorem dX1_split_46 : decode cX1_split 46 = .ok (.iconst 4, 1) := by decide +kernel
theorem dX1_split_47 : decode cX1_split 47 = .ok (.if_icmp .gt 27, 3) := by decide +kernel
theorem dX1_split_50 : decode cX1_split 50 = .ok (.aload_n 1, 1) := by decide +kernel
theorem dX1_split_51 : decode cX1_split 51 = .ok (.iconst 3, 1) := by decide +kernel
theorem dX1_split_52 : decode cX1_split 52 = .ok (.invokevirtual 77, 3) := by decide +kernel
theorem dX1_split_55 : decode cX1_split 55 = .ok (.astore 5, 2) := by decide +kernel
theorem dX1_split_57 : decode cX1_split 57 = .ok (.aload 5, 2) := by decide +kernel
theorem dX1_split_59 : decode cX1_split 59 = .ok (.ifnull 9, 3) := by decide +kernel
theorem dX1_split_62 : decode cX1_split 62 = .ok (.aload_n 3, 1) := by decide +kernel
theorem dX1_split_63 : decode cX1_split 63 = .ok (.aload 5, 2) := by decide +kernel
theorem dX1_split_65 : decode cX1_split 65 = .ok (.invokevirtual 49, 3) := by decide +kernel
theorem dX1_split_68 : decode cX1_split 68 = .ok (.iinc 4 1, 3) := by decide +kernel
theorem dX1_split_71 : decode cX1_split 71 = .ok (.goto (-27), 3) := by decide +kernel
theorem dX1_split_74 : decode cX1_split 74 = .ok (.aload_n 3, 1) := by decide +kernel
theorem dX1_split_75 : decode cX1_split 75 = .ok (.invokevirtual 158, 3) := by decide +kernel
theorem dX1_split_78 : decode cX1_split 78 = .ok (.aload_n 2, 1) := by decide +kernel
theorem dX1_split_79 : decode cX1_split 79 = .ok (.aload_n 2, 1) := by decide +kernel
theorem dX1_split_80 : decode cX1_split 80 = .ok (.aload_n 1, 1) := by decide +kernel
theorem dX1_split_81 : decode cX1_split 81 = .ok (.invokevirtual 73, 3) := by decide +kernel
theorem dX1_split_84 : decode cX1_split 84 = .ok (.iconst 1, 1) := by decide +kernel
theorem dX1_split_85 : decode cX1_split 85 = .ok (.iadd, 1) := by decide +kernel
theorem dX1_split_86 : decode cX1_split 86 = .ok (.aload_n 3, 1) := by decide +kernel
theorem dX1_split_87 : decode cX1_split 87 = .ok (.invokevirtual 172, 3) := by decide +kernel
theorem dX1_split_90 : decode cX1_split 90 = .ok (.aload_n 0, 1) := by decide +kernel
theorem dX1_split_91 : decode cX1_split 91 = .ok (.dup, 1) := by decide +kernel
theorem dX1_split_92 : decode cX1_split 92 = .ok (.getfield 176, 3) := by decide +kernel
theorem dX1_split_95 : decode cX1_split 95 = .ok (.iconst 1, 1) := by decide +kernel
theorem dX1_split_96 : decode cX1_split 96 = .ok (.iadd, 1) := by decide +kernel
theorem dX1_split_97 : decode cX1_split 97 = .ok (.putfield 176, 3) := by decide +kernel
theorem dX1_split_100 : decode cX1_split 100 = .ok (.return_, 1) := by decide +kernel
theorem dX1_raiseTop_0 : decode cX1_raiseTop 0 = .ok (.new 9, 3) := by decide +kernel
theorem dX1_raiseTop_3 : decode cX1_raiseTop 3 = .ok (.dup, 1) := by decide +kernel
theorem dX1_raiseTop_4 : decode cX1_raiseTop 4 = .ok (.aload_n 0, 1) := by decide +kernel
theorem dX1_raiseTop_5 : decode cX1_raiseTop 5 = .ok (.getfield 18, 3) := by decide +kernel
theorem dX1_raiseTop_8 : decode cX1_raiseTop 8 = .ok (.getfield 102, 3) := by decide +kernel
theorem dX1_raiseTop_11 : decode cX1_raiseTop 11 = .ok (.iconst 1, 1) := by decide +kernel
theorem dX1_raiseTop_12 : decode cX1_raiseTop 12 = .ok (.iadd, 1) := by decide +kernel
theorem dX1_raiseTop_13 : decode cX1_raiseTop 13 = .ok (.invokespecial 15, 3) := by decide +kernel
theorem dX1_raiseTop_16 : decode cX1_raiseTop 16 = .ok (.astore_n 1, 1) := by decide +kernel
theorem dX1_raiseTop_17 : decode cX1_raiseTop 17 = .ok (.aload_n 1, 1) := by decide +kernel
theorem dX1_raiseTop_18 : decode cX1_raiseTop 18 = .ok (.aload_n 0, 1) := by decide +kernel
theorem dX1_raiseTop_19 : decode cX1_raiseTop 19 = .ok (.getfield 18, 3) := by decide +kernel
theorem dX1_raiseTop_22 : decode cX1_raiseTop 22 = .ok (.invokevirtual 49, 3) := by decide +kernel
theorem dX1_raiseTop_25 : decode cX1_raiseTop 25 = .ok (.aload_n 0, 1) := by decide +kernel
theorem dX1_raiseTop_26 : decode cX1_raiseTop 26 = .ok (.aload_n 1, 1) := by decide +kernel
theorem dX1_raiseTop_27 : decode cX1_raiseTop 27 = .ok (.putfield 18, 3) := by decide +kernel
theorem dX1_raiseTop_30 : decode cX1_raiseTop 30 = .ok (.return_, 1) := by decide +kernel
theorem dX1_dropEmptyAndTighten_0 : decode cX1_dropEmptyAndTighten 0 = .ok (.aload_n 0, 1) := by decide +kernel
theorem dX1_dropEmptyAndTighten_1 : decode cX1_dropEmptyAndTighten 1 = .ok (.astore_n 1, 1) := by decide +kernel
theorem dX1_dropEmptyAndTighten_2 : decode cX1_dropEmptyAndTighten 2 = .ok (.aload_n 1, 1) := by decide +kernel
theorem dX1_dropEmptyAndTighten_3 : decode cX1_dropEmptyAndTighten 3 = .ok (.ifnull 41, 3) := by decide +kernel
theorem dX1_dropEmptyAndTighten_6 : decode cX1_dropEmptyAndTighten 6 = .ok (.aload_n 1, 1) := by decide +kernel
theorem dX1_dropEmptyAndTighten_7 : decode cX1_dropEmptyAndTighten 7 = .ok (.getfield 68, 3) := by decide +kernel
theorem dX1_dropEmptyAndTighten_10 : decode cX1_dropEmptyAndTighten 10 = .ok (.astore_n 2, 1) := by decide +kernel
theorem dX1_dropEmptyAndTighten_11 : decode cX1_dropEmptyAndTighten 11 = .ok (.aload_n 1, 1) := by decide +kernel
theorem dX1_dropEmptyAndTighten_12 : decode cX1_dropEmptyAndTighten 12 = .ok (.getfield 133, 3) := by decide +kernel
theorem dX1_dropEmptyAndTighten_15 : decode cX1_dropEmptyAndTighten 15 = .ok (.ifCond .ne 20, 3) := by decide +kernel
theorem dX1_dropEmptyAndTighten_18 : decode cX1_dropEmptyAndTighten 18 = .ok (.aload_n 2, 1) := by decide +kernel
theorem dX1_dropEmptyAndTighten_19 : decode cX1_dropEmptyAndTighten 19 = .ok (.ifnull 16, 3) := by decide +kernel
theorem dX1_dropEmptyAndTighten_22 : decode cX1_dropEmptyAndTighten 22 = .ok (.aload_n 2, 1) := by decide +kernel
theorem dX1_dropEmptyAndTighten_23 : decode cX1_dropEmptyAndTighten 23 = .ok (.aload_n 2, 1) := by decide +kernel
theorem dX1_dropEmptyAndTighten_24 : decode cX1_dropEmptyAndTighten 24 = .ok (.aload_n 1, 1) := by decide +kernel
theorem dX1_dropEmptyAndTighten_25 : decode cX1_dropEmptyAndTighten 25 = .ok (.invokevirtual 73, 3) := by decide +kernel
theorem dX1_dropEmptyAndTighten_28 : decode cX1_dropEmptyAndTighten 28 = .ok (.invokevirtual 77, 3) := by decide +kernel
theorem dX1_dropEmptyAndTighten_31 : decode cX1_dropEmptyAndTighten 31 = .ok (.pop, 1) := by decide +kernel
theorem dX1_dropEmptyAndTighten_32 : decode cX1_dropEmptyAndTighten 32 = .ok (.goto 7, 3) := by decide +kernel
theorem dX1_dropEmptyAndTighten_35 : decode cX1_dropEmptyAndTighten 35 = .ok (.aload_n 1, 1) := by decide +kernel
theorem dX1_dropEmptyAndTighten_36 : decode cX1_dropEmptyAndTighten 36 = .ok (.invokevirtual 158, 3) := by decide +kernel
theorem dX1_dropEmptyAndTighten_39 : decode cX1_dropEmptyAndTighten 39 = .ok (.aload_n 2, 1) := by decide +kernel
theorem dX1_dropEmptyAndTighten_40 : decode cX1_dropEmptyAndTighten 40 = .ok (.astore_n 1, 1) := by decide +kernel
theorem dX1_dropEmptyAndTighten_41 : decode cX1_dropEmptyAndTighten 41 = .ok (.goto (-39), 3) := by decide +kernel
theorem dX1_dropEmptyAndTighten_44 : decode cX1_dropEmptyAndTighten 44 = .ok (.return_, 1) := by decide +kernel
theorem dX1_lowerTop_0 : decode cX1_lowerTop 0 = .ok (.iconst 0, 1) := by decide +kernel
theorem dX1_lowerTop_1 : decode cX1_lowerTop 1 = .ok (.istore_n 1, 1) := by decide +kernel
theorem dX1_lowerTop_2 : decode cX1_lowerTop 2 = .ok (.iload_n 1, 1) := by decide +kernel
theorem dX1_lowerTop_3 : decode cX1_lowerTop 3 = .ok (.bipush 40, 2) := by decide +kernel
theorem dX1_lowerTop_5 : decode cX1_lowerTop 5 = .ok (.if_icmp .ge 50, 3) := by decide +kernel
theorem dX1_lowerTop_8 : decode cX1_lowerTop 8 = .ok (.aload_n 0, 1) := by decide +kernel
theorem dX1_lowerTop_9 : decode cX1_lowerTop 9 = .ok (.getfield 18, 3) := by decide +kernel
theorem dX1_lowerTop_12 : decode cX1_lowerTop 12 = .ok (.getfield 102, 3) := by decide +kernel
theorem dX1_lowerTop_15 : decode cX1_lowerTop 15 = .ok (.iconst 1, 1) := by decide +kernel
theorem dX1_lowerTop_16 : decode cX1_lowerTop 16 = .ok (.if_icmp .le 39, 3) := by decide +kernel
theorem dX1_lowerTop_19 : decode cX1_lowerTop 19 = .ok (.aload_n 0, 1) := by decide +kernel
theorem dX1_lowerTop_20 : decode cX1_lowerTop 20 = .ok (.getfield 18, 3) := by decide +kernel
theorem dX1_lowerTop_23 : decode cX1_lowerTop 23 = .ok (.getfield 133, 3) := by decide +kernel
theorem dX1_lowerTop_26 : decode cX1_lowerTop 26 = .ok (.iconst 1, 1) := by decide +kernel
theorem dX1_lowerTop_27 : decode cX1_lowerTop 27 = .ok (.if_icmp .ne 28, 3) := by decide +kernel
theorem dX1_lowerTop_30 : decode cX1_lowerTop 30 = .ok (.aload_n 0, 1) := by decide +kernel
theorem dX1_lowerTop_31 : decode cX1_lowerTop 31 = .ok (.getfield 18, 3) := by decide +kernel
theorem dX1_lowerTop_34 : decode cX1_lowerTop 34 = .ok (.iconst 0, 1) := by decide +kernel
theorem dX1_lowerTop_35 : decode cX1_lowerTop 35 = .ok (.invokevirtual 77, 3) := by decide +kernel
theorem dX1_lowerTop_38 : decode cX1_lowerTop 38 = .ok (.astore_n 2, 1) := by decide +kernel
theorem dX1_lowerTop_39 : decode cX1_lowerTop 39 = .ok (.aload_n 2, 1) := by decide +kernel
theorem dX1_lowerTop_40 : decode cX1_lowerTop 40 = .ok (.ifnonnull 4, 3) := by decide +kernel
theorem dX1_lowerTop_43 : decode cX1_lowerTop 43 = .ok (.return_, 1) := by decide +kernel
theorem dX1_lowerTop_44 : decode cX1_lowerTop 44 = .ok (.aload_n 0, 1) := by decide +kernel
theorem dX1_lowerTop_45 : decode cX1_lowerTop 45 = .ok (.aload_n 2, 1) := by decide +kernel
theorem dX1_lowerTop_46 : decode cX1_lowerTop 46 = .ok (.putfield 18, 3) := by decide +kernel
theorem dX1_lowerTop_49 : decode cX1_lowerTop 49 = .ok (.iinc 1 1, 3) := by decide +kernel
theorem dX1_lowerTop_52 : decode cX1_lowerTop 52 = .ok (.goto (-50), 3) := by decide +kernel
theorem dX1_lowerTop_55 : decode cX1_lowerTop 55 = .ok (.return_, 1) := by decide +kernel
theorem dX1_placeBesideOthers_0 : decode cX1_placeBesideOthers 0 = .ok (.aload_n 0, 1) := by decide +kernel
theorem dX1_placeBesideOthers_1 : decode cX1_placeBesideOthers 1 = .ok (.ifnull 10, 3) := by decide +kernel
theorem dX1_placeBesideOthers_4 : decode cX1_placeBesideOthers 4 = .ok (.aload_n 0, 1) := by decide +kernel
theorem dX1_placeBesideOthers_5 : decode cX1_placeBesideOthers 5 = .ok (.getfield 68, 3) := by decide +kernel
theorem dX1_placeBesideOthers_8 : decode cX1_placeBesideOthers 8 = .ok (.ifnonnull 5, 3) := by decide +kernel
theorem dX1_placeBesideOthers_11 : decode cX1_placeBesideOthers 11 = .ok (.iconst (-1), 1) := by decide +kernel
theorem dX1_placeBesideOthers_12 : decode cX1_placeBesideOthers 12 = .ok (.ireturn, 1) := by decide +kernel
theorem dX1_placeBesideOthers_13 : decode cX1_placeBesideOthers 13 = .ok (.aload_n 0, 1) := by decide +kernel
theorem dX1_placeBesideOthers_14 : decode cX1_placeBesideOthers 14 = .ok (.getfield 68, 3) := by decide +kernel
theorem dX1_placeBesideOthers_17 : decode cX1_placeBesideOthers 17 = .ok (.aload_n 0, 1) := by decide +kernel
theorem dX1_placeBesideOthers_18 : decode cX1_placeBesideOthers 18 = .ok (.invokevirtual 73, 3) := by decide +kernel
theorem dX1_placeBesideOthers_21 : decode cX1_placeBesideOthers 21 = .ok (.ireturn, 1) := by decide +kernel
theorem dX1_answerOf_0 : decode cX1_answerOf 0 = .ok (.aload_n 1, 1) := by decide +kernel
theorem dX1_answerOf_1 : decode cX1_answerOf 1 = .ok (.getfield 68, 3) := by decide +kernel
theorem dX1_answerOf_4 : decode cX1_answerOf 4 = .ok (.astore_n 3, 1) := by decide +kernel
theorem dX1_answerOf_5 : decode cX1_answerOf 5 = .ok (.iload_n 2, 1) := by decide +kernel
theorem dX1_answerOf_6 : decode cX1_answerOf 6 = .ok (.tableswitch 102 0 7 #[46, 51, 56, 61, 66, 71, 76, 89], 46) := by decide +kernel
theorem dX1_answerOf_52 : decode cX1_answerOf 52 = .ok (.aload_n 1, 1) := by decide +kernel
theorem dX1_answerOf_53 : decode cX1_answerOf 53 = .ok (.getfield 179, 3) := by decide +kernel
theorem dX1_answerOf_56 : decode cX1_answerOf 56 = .ok (.ireturn, 1) := by decide +kernel
theorem dX1_answerOf_57 : decode cX1_answerOf 57 = .ok (.aload_n 1, 1) := by decide +kernel
theorem dX1_answerOf_58 : decode cX1_answerOf 58 = .ok (.getfield 182, 3) := by decide +kernel
theorem dX1_answerOf_61 : decode cX1_answerOf 61 = .ok (.ireturn, 1) := by decide +kernel
theorem dX1_answerOf_62 : decode cX1_answerOf 62 = .ok (.aload_n 1, 1) := by decide +kernel
theorem dX1_answerOf_63 : decode cX1_answerOf 63 = .ok (.getfield 185, 3) := by decide +kernel
theorem dX1_answerOf_66 : decode cX1_answerOf 66 = .ok (.ireturn, 1) := by decide +kernel
theorem dX1_answerOf_67 : decode cX1_answerOf 67 = .ok (.aload_n 1, 1) := by decide +kernel
theorem dX1_answerOf_68 : decode cX1_answerOf 68 = .ok (.getfield 188, 3) := by decide +kernel
theorem dX1_answerOf_71 : decode cX1_answerOf 71 = .ok (.ireturn, 1) := by decide +kernel
theorem dX1_answerOf_72 : decode cX1_answerOf 72 = .ok (.aload_n 1, 1) := by decide +kernel
theorem dX1_answerOf_73 : decode cX1_answerOf 73 = .ok (.invokevirtual 86, 3) := by decide +kernel
theorem dX1_answerOf_76 : decode cX1_answerOf 76 = .ok (.ireturn, 1) := by decide +kernel
theorem dX1_answerOf_77 : decode cX1_answerOf 77 = .ok (.aload_n 1, 1) := by decide +kernel
theorem dX1_answerOf_78 : decode cX1_answerOf 78 = .ok (.invokestatic 105, 3) := by decide +kernel
theorem dX1_answerOf_81 : decode cX1_answerOf 81 = .ok (.ireturn, 1) := by decide +kernel
theorem dX1_answerOf_82 : decode cX1_answerOf 82 = .ok (.aload_n 3, 1) := by decide +kernel
theorem dX1_answerOf_83 : decode cX1_answerOf 83 = .ok (.ifnonnull 7, 3) := by decide +kernel
theorem dX1_answerOf_86 : decode cX1_answerOf 86 = .ok (.iconst (-1), 1) := by decide +kernel
theorem dX1_answerOf_87 : decode cX1_answerOf 87 = .ok (.goto 7, 3) := by decide +kernel
theorem dX1_answerOf_90 : decode cX1_answerOf 90 = .ok (.aload_n 3, 1) := by decide +kernel
theorem dX1_answerOf_91 : decode cX1_answerOf 91 = .ok (.getfield 133, 3) := by decide +kernel
theorem dX1_answerOf_94 : decode cX1_answerOf 94 = .ok (.ireturn, 1) := by decide +kernel
theorem dX1_answerOf_95 : decode cX1_answerOf 95 = .ok (.aload_n 3, 1) := by decide +kernel
theorem dX1_answerOf_96 : decode cX1_answerOf 96 = .ok (.ifnonnull 7, 3) := by decide +kernel
theorem dX1_answerOf_99 : decode cX1_answerOf 99 = .ok (.iconst (-1), 1) := by decide +kernel
theorem dX1_answerOf_100 : decode cX1_answerOf 100 = .ok (.goto 7, 3) := by decide +kernel
theorem dX1_answerOf_103 : decode cX1_answerOf 103 = .ok (.aload_n 3, 1) := by decide +kernel
theorem dX1_answerOf_104 : decode cX1_answerOf 104 = .ok (.invokevirtual 86, 3) := by decide +kernel
theorem dX1_answerOf_107 : decode cX1_answerOf 107 = .ok (.ireturn, 1) := by decide +kernel
theorem dX1_answerOf_108 : decode cX1_answerOf 108 = .ok (.aload_n 0, 1) := by decide +kernel
theorem dX1_answerOf_109 : decode cX1_answerOf 109 = .ok (.aload_n 1, 1) := by decide +kernel
theorem dX1_answerOf_110 : decode cX1_answerOf 110 = .ok (.invokevirtual 191, 3) := by decide +kernel
theorem dX1_answerOf_113 : decode cX1_answerOf 113 = .ok (.ireturn, 1) := by decide +kernel
theorem dX1_othersThatMeet_0 : decode cX1_othersThatMeet 0 = .ok (.aload_n 0, 1) := by decide +kernel
theorem dX1_othersThatMeet_1 : decode cX1_othersThatMeet 1 = .ok (.aload_n 1, 1) := by decide +kernel
theorem dX1_othersThatMeet_2 : decode cX1_othersThatMeet 2 = .ok (.invokevirtual 108, 3) := by decide +kernel
theorem dX1_othersThatMeet_5 : decode cX1_othersThatMeet 5 = .ok (.istore_n 2, 1) := by decide +kernel
theorem dX1_othersThatMeet_6 : decode cX1_othersThatMeet 6 = .ok (.aload_n 1, 1) := by decide +kernel
theorem dX1_othersThatMeet_7 : decode cX1_othersThatMeet 7 = .ok (.getfield 68, 3) := by decide +kernel
theorem dX1_othersThatMeet_10 : decode cX1_othersThatMeet 10 = .ok (.ifnonnull 7, 3) := by decide +kernel
theorem dX1_othersThatMeet_13 : decode cX1_othersThatMeet 13 = .ok (.iload_n 2, 1) := by decide +kernel
theorem dX1_othersThatMeet_14 : decode cX1_othersThatMeet 14 = .ok (.goto 6, 3) := by decide +kernel
theorem dX1_othersThatMeet_17 : decode cX1_othersThatMeet 17 = .ok (.iload_n 2, 1) := by decide +kernel
theorem dX1_othersThatMeet_18 : decode cX1_othersThatMeet 18 = .ok (.iconst 1, 1) := by decide +kernel
theorem dX1_othersThatMeet_19 : decode cX1_othersThatMeet 19 = .ok (.isub, 1) := by decide +kernel
theorem dX1_othersThatMeet_20 : decode cX1_othersThatMeet 20 = .ok (.ireturn, 1) := by decide +kernel
theorem dX1_heldThatMeet_0 : decode cX1_heldThatMeet 0 = .ok (.iconst 0, 1) := by decide +kernel
theorem dX1_heldThatMeet_1 : decode cX1_heldThatMeet 1 = .ok (.istore_n 2, 1) := by decide +kernel
theorem dX1_heldThatMeet_2 : decode cX1_heldThatMeet 2 = .ok (.iconst 0, 1) := by decide +kernel
theorem dX1_heldThatMeet_3 : decode cX1_heldThatMeet 3 = .ok (.istore_n 3, 1) := by decide +kernel
theorem dX1_heldThatMeet_4 : decode cX1_heldThatMeet 4 = .ok (.iload_n 3, 1) := by decide +kernel
theorem dX1_heldThatMeet_5 : decode cX1_heldThatMeet 5 = .ok (.aload_n 0, 1) := by decide +kernel
theorem dX1_heldThatMeet_6 : decode cX1_heldThatMeet 6 = .ok (.getfield 33, 3) := by decide +kernel
theorem dX1_heldThatMeet_9 : decode cX1_heldThatMeet 9 = .ok (.if_icmp .ge 33, 3) := by decide +kernel
theorem dX1_heldThatMeet_12 : decode cX1_heldThatMeet 12 = .ok (.aload_n 0, 1) := by decide +kernel
theorem dX1_heldThatMeet_13 : decode cX1_heldThatMeet 13 = .ok (.iload_n 3, 1) := by decide +kernel
theorem dX1_heldThatMeet_14 : decode cX1_heldThatMeet 14 = .ok (.invokevirtual 117, 3) := by decide +kernel
theorem dX1_heldThatMeet_17 : decode cX1_heldThatMeet 17 = .ok (.astore 4, 2) := by decide +kernel
theorem dX1_heldThatMeet_19 : decode cX1_heldThatMeet 19 = .ok (.aload 4, 2) := by decide +kernel
theorem dX1_heldThatMeet_21 : decode cX1_heldThatMeet 21 = .ok (.ifnull 15, 3) := by decide +kernel
theorem dX1_heldThatMeet_24 : decode cX1_heldThatMeet 24 = .ok (.aload 4, 2) := by decide +kernel
theorem dX1_heldThatMeet_26 : decode cX1_heldThatMeet 26 = .ok (.aload_n 1, 1) := by decide +kernel
theorem dX1_heldThatMeet_27 : decode cX1_heldThatMeet 27 = .ok (.invokevirtual 194, 3) := by decide +kernel
theorem dX1_heldThatMeet_30 : decode cX1_heldThatMeet 30 = .ok (.ifCond .eq 6, 3) := by decide +kernel
theorem dX1_heldThatMeet_33 : decode cX1_heldThatMeet 33 = .ok (.iinc 2 1, 3) := by decide +kernel
theorem dX1_heldThatMeet_36 : decode cX1_heldThatMeet 36 = .ok (.iinc 3 1, 3) := by decide +kernel
theorem dX1_heldThatMeet_39 : decode cX1_heldThatMeet 39 = .ok (.goto (-35), 3) := by decide +kernel
theorem dX1_heldThatMeet_42 : decode cX1_heldThatMeet 42 = .ok (.iload_n 2, 1) := by decide +kernel
theorem dX1_heldThatMeet_43 : decode cX1_heldThatMeet 43 = .ok (.ireturn, 1) := by decide +kernel
theorem dX1_counted_0 : decode cX1_counted 0 = .ok (.iload_n 1, 1) := by decide +kernel
theorem dX1_counted_1 : decode cX1_counted 1 = .ok (.tableswitch 107 0 7 #[47, 52, 57, 66, 76, 85, 93, 102], 47) := by decide +kernel
theorem dX1_counted_48 : decode cX1_counted 48 = .ok (.aload_n 0, 1) := by decide +kernel
theorem dX1_counted_49 : decode cX1_counted 49 = .ok (.invokevirtual 198, 3) := by decide +kernel
theorem dX1_counted_52 : decode cX1_counted 52 = .ok (.ireturn, 1) := by decide +kernel
theorem dX1_counted_53 : decode cX1_counted 53 = .ok (.aload_n 0, 1) := by decide +kernel
theorem dX1_counted_54 : decode cX1_counted 54 = .ok (.getfield 33, 3) := by decide +kernel
theorem dX1_counted_57 : decode cX1_counted 57 = .ok (.ireturn, 1) := by decide +kernel
theorem dX1_counted_58 : decode cX1_counted 58 = .ok (.aload_n 0, 1) := by decide +kernel
theorem dX1_counted_59 : decode cX1_counted 59 = .ok (.getfield 18, 3) := by decide +kernel
theorem dX1_counted_62 : decode cX1_counted 62 = .ok (.iconst 0, 1) := by decide +kernel
theorem dX1_counted_63 : decode cX1_counted 63 = .ok (.invokestatic 201, 3) := by decide +kernel
theorem dX1_counted_66 : decode cX1_counted 66 = .ok (.ireturn, 1) := by decide +kernel
theorem dX1_counted_67 : decode cX1_counted 67 = .ok (.aload_n 0, 1) := by decide +kernel
theorem dX1_counted_68 : decode cX1_counted 68 = .ok (.getfield 18, 3) := by decide +kernel
theorem dX1_counted_71 : decode cX1_counted 71 = .ok (.getfield 102, 3) := by decide +kernel
theorem dX1_counted_74 : decode cX1_counted 74 = .ok (.iconst 1, 1) := by decide +kernel
theorem dX1_counted_75 : decode cX1_counted 75 = .ok (.isub, 1) := by decide +kernel
theorem dX1_counted_76 : decode cX1_counted 76 = .ok (.ireturn, 1) := by decide +kernel
theorem dX1_counted_77 : decode cX1_counted 77 = .ok (.aload_n 0, 1) := by decide +kernel
theorem dX1_counted_78 : decode cX1_counted 78 = .ok (.getfield 18, 3) := by decide +kernel
theorem dX1_counted_81 : decode cX1_counted 81 = .ok (.iconst 0, 1) := by decide +kernel
theorem dX1_counted_82 : decode cX1_counted 82 = .ok (.invokestatic 204, 3) := by decide +kernel
theorem dX1_counted_85 : decode cX1_counted 85 = .ok (.ireturn, 1) := by decide +kernel
theorem dX1_counted_86 : decode cX1_counted 86 = .ok (.aload_n 0, 1) := by decide +kernel
theorem dX1_counted_87 : decode cX1_counted 87 = .ok (.getfield 18, 3) := by decide +kernel
theorem dX1_counted_90 : decode cX1_counted 90 = .ok (.invokevirtual 86, 3) := by decide +kernel
theorem dX1_counted_93 : decode cX1_counted 93 = .ok (.ireturn, 1) := by decide +kernel
theorem dX1_counted_94 : decode cX1_counted 94 = .ok (.aload_n 0, 1) := by decide +kernel
theorem dX1_counted_95 : decode cX1_counted 95 = .ok (.getfield 18, 3) := by decide +kernel
theorem dX1_counted_98 : decode cX1_counted 98 = .ok (.iconst 0, 1) := by decide +kernel
theorem dX1_counted_99 : decode cX1_counted 99 = .ok (.invokestatic 207, 3) := by decide +kernel
theorem dX1_counted_102 : decode cX1_counted 102 = .ok (.ireturn, 1) := by decide +kernel
theorem dX1_counted_103 : decode cX1_counted 103 = .ok (.aload_n 0, 1) := by decide +kernel
theorem dX1_counted_104 : decode cX1_counted 104 = .ok (.getfield 176, 3) := by decide +kernel
theorem dX1_counted_107 : decode cX1_counted 107 = .ok (.ireturn, 1) := by decide +kernel
theorem dX1_counted_108 : decode cX1_counted 108 = .ok (.aload_n 0, 1) := by decide +kernel
theorem dX1_counted_109 : decode cX1_counted 109 = .ok (.getfield 18, 3) := by decide +kernel
theorem dX1_counted_112 : decode cX1_counted 112 = .ok (.getfield 133, 3) := by decide +kernel
theorem dX1_counted_115 : decode cX1_counted 115 = .ok (.ireturn, 1) := by decide +kernel
theorem dX1_heldInAll_0 : decode cX1_heldInAll 0 = .ok (.iconst 0, 1) := by decide +kernel
theorem dX1_heldInAll_1 : decode cX1_heldInAll 1 = .ok (.istore_n 1, 1) := by decide +kernel
theorem dX1_heldInAll_2 : decode cX1_heldInAll 2 = .ok (.iconst 0, 1) := by decide +kernel
theorem dX1_heldInAll_3 : decode cX1_heldInAll 3 = .ok (.istore_n 2, 1) := by decide +kernel
theorem dX1_heldInAll_4 : decode cX1_heldInAll 4 = .ok (.iload_n 2, 1) := by decide +kernel
theorem dX1_heldInAll_5 : decode cX1_heldInAll 5 = .ok (.aload_n 0, 1) := by decide +kernel
theorem dX1_heldInAll_6 : decode cX1_heldInAll 6 = .ok (.getfield 33, 3) := by decide +kernel
theorem dX1_heldInAll_9 : decode cX1_heldInAll 9 = .ok (.if_icmp .ge 20, 3) := by decide +kernel
theorem dX1_heldInAll_12 : decode cX1_heldInAll 12 = .ok (.aload_n 0, 1) := by decide +kernel
theorem dX1_heldInAll_13 : decode cX1_heldInAll 13 = .ok (.iload_n 2, 1) := by decide +kernel
theorem dX1_heldInAll_14 : decode cX1_heldInAll 14 = .ok (.invokevirtual 117, 3) := by decide +kernel
theorem dX1_heldInAll_17 : decode cX1_heldInAll 17 = .ok (.ifnull 6, 3) := by decide +kernel
theorem dX1_heldInAll_20 : decode cX1_heldInAll 20 = .ok (.iinc 1 1, 3) := by decide +kernel
theorem dX1_heldInAll_23 : decode cX1_heldInAll 23 = .ok (.iinc 2 1, 3) := by decide +kernel
theorem dX1_heldInAll_26 : decode cX1_heldInAll 26 = .ok (.goto (-22), 3) := by decide +kernel
theorem dX1_heldInAll_29 : decode cX1_heldInAll 29 = .ok (.iload_n 1, 1) := by decide +kernel
theorem dX1_heldInAll_30 : decode cX1_heldInAll 30 = .ok (.ireturn, 1) := by decide +kernel
theorem dX1_isBottom_0 : decode cX1_isBottom 0 = .ok (.aload_n 0, 1) := by decide +kernel
theorem dX1_isBottom_1 : decode cX1_isBottom 1 = .ok (.getfield 102, 3) := by decide +kernel
theorem dX1_isBottom_4 : decode cX1_isBottom 4 = .ok (.iconst 1, 1) := by decide +kernel
theorem dX1_isBottom_5 : decode cX1_isBottom 5 = .ok (.if_icmp .le 9, 3) := by decide +kernel
theorem dX1_isBottom_8 : decode cX1_isBottom 8 = .ok (.iload_n 1, 1) := by decide +kernel
theorem dX1_isBottom_9 : decode cX1_isBottom 9 = .ok (.bipush 40, 2) := by decide +kernel
theorem dX1_isBottom_11 : decode cX1_isBottom 11 = .ok (.if_icmp .lt 7, 3) := by decide +kernel
theorem dX1_isBottom_14 : decode cX1_isBottom 14 = .ok (.iconst 1, 1) := by decide +kernel
theorem dX1_isBottom_15 : decode cX1_isBottom 15 = .ok (.goto 4, 3) := by decide +kernel
theorem dX1_isBottom_18 : decode cX1_isBottom 18 = .ok (.iconst 0, 1) := by decide +kernel
theorem dX1_isBottom_19 : decode cX1_isBottom 19 = .ok (.ireturn, 1) := by decide +kernel
theorem dX1_framesIn_0 : decode cX1_framesIn 0 = .ok (.iconst 1, 1) := by decide +kernel
theorem dX1_framesIn_1 : decode cX1_framesIn 1 = .ok (.istore_n 2, 1) := by decide +kernel
theorem dX1_framesIn_2 : decode cX1_framesIn 2 = .ok (.aload_n 0, 1) := by decide +kernel
theorem dX1_framesIn_3 : decode cX1_framesIn 3 = .ok (.iload_n 1, 1) := by decide +kernel
theorem dX1_framesIn_4 : decode cX1_framesIn 4 = .ok (.invokestatic 210, 3) := by decide +kernel
theorem dX1_framesIn_7 : decode cX1_framesIn 7 = .ok (.ifCond .eq 5, 3) := by decide +kernel
theorem dX1_framesIn_10 : decode cX1_framesIn 10 = .ok (.iload_n 2, 1) := by decide +kernel
theorem dX1_framesIn_11 : decode cX1_framesIn 11 = .ok (.ireturn, 1) := by decide +kernel
theorem dX1_framesIn_12 : decode cX1_framesIn 12 = .ok (.iconst 0, 1) := by decide +kernel
theorem dX1_framesIn_13 : decode cX1_framesIn 13 = .ok (.istore_n 3, 1) := by decide +kernel
theorem dX1_framesIn_14 : decode cX1_framesIn 14 = .ok (.iload_n 3, 1) := by decide +kernel
theorem dX1_framesIn_15 : decode cX1_framesIn 15 = .ok (.aload_n 0, 1) := by decide +kernel
theorem dX1_framesIn_16 : decode cX1_framesIn 16 = .ok (.getfield 133, 3) := by decide +kernel
theorem dX1_framesIn_19 : decode cX1_framesIn 19 = .ok (.if_icmp .ge 32, 3) := by decide +kernel
theorem dX1_framesIn_22 : decode cX1_framesIn 22 = .ok (.aload_n 0, 1) := by decide +kernel
theorem dX1_framesIn_23 : decode cX1_framesIn 23 = .ok (.iload_n 3, 1) := by decide +kernel
theorem dX1_framesIn_24 : decode cX1_framesIn 24 = .ok (.invokevirtual 148, 3) := by decide +kernel
theorem dX1_framesIn_27 : decode cX1_framesIn 27 = .ok (.astore 4, 2) := by decide +kernel
theorem dX1_framesIn_29 : decode cX1_framesIn 29 = .ok (.aload 4, 2) := by decide +kernel
theorem dX1_framesIn_31 : decode cX1_framesIn 31 = .ok (.ifnull 14, 3) := by decide +kernel
theorem dX1_framesIn_34 : decode cX1_framesIn 34 = .ok (.iload_n 2, 1) := by decide +kernel
theorem dX1_framesIn_35 : decode cX1_framesIn 35 = .ok (.aload 4, 2) := by decide +kernel
theorem dX1_framesIn_37 : decode cX1_framesIn 37 = .ok (.iload_n 1, 1) := by decide +kernel
theorem dX1_framesIn_38 : decode cX1_framesIn 38 = .ok (.iconst 1, 1) := by decide +kernel
theorem dX1_framesIn_39 : decode cX1_framesIn 39 = .ok (.iadd, 1) := by decide +kernel
theorem dX1_framesIn_40 : decode cX1_framesIn 40 = .ok (.invokestatic 201, 3) := by decide +kernel
theorem dX1_framesIn_43 : decode cX1_framesIn 43 = .ok (.iadd, 1) := by decide +kernel
theorem dX1_framesIn_44 : decode cX1_framesIn 44 = .ok (.istore_n 2, 1) := by decide +kernel
theorem dX1_framesIn_45 : decode cX1_framesIn 45 = .ok (.iinc 3 1, 3) := by decide +kernel
theorem dX1_framesIn_48 : decode cX1_framesIn 48 = .ok (.goto (-34), 3) := by decide +kernel
theorem dX1_framesIn_51 : decode cX1_framesIn 51 = .ok (.iload_n 2, 1) := by decide +kernel
theorem dX1_framesIn_52 : decode cX1_framesIn 52 = .ok (.ireturn, 1) := by decide +kernel
theorem dX1_hedgeAreasIn_0 : decode cX1_hedgeAreasIn 0 = .ok (.aload_n 0, 1) := by decide +kernel
theorem dX1_hedgeAreasIn_1 : decode cX1_hedgeAreasIn 1 = .ok (.invokevirtual 86, 3) := by decide +kernel
theorem dX1_hedgeAreasIn_4 : decode cX1_hedgeAreasIn 4 = .ok (.istore_n 2, 1) := by decide +kernel
theorem dX1_hedgeAreasIn_5 : decode cX1_hedgeAreasIn 5 = .ok (.aload_n 0, 1) := by decide +kernel
theorem dX1_hedgeAreasIn_6 : decode cX1_hedgeAreasIn 6 = .ok (.iload_n 1, 1) := by decide +kernel
theorem dX1_hedgeAreasIn_7 : decode cX1_hedgeAreasIn 7 = .ok (.invokestatic 210, 3) := by decide +kernel
theorem dX1_hedgeAreasIn_10 : decode cX1_hedgeAreasIn 10 = .ok (.ifCond .eq 5, 3) := by decide +kernel
theorem dX1_hedgeAreasIn_13 : decode cX1_hedgeAreasIn 13 = .ok (.iload_n 2, 1) := by decide +kernel
theorem dX1_hedgeAreasIn_14 : decode cX1_hedgeAreasIn 14 = .ok (.ireturn, 1) := by decide +kernel
theorem dX1_hedgeAreasIn_15 : decode cX1_hedgeAreasIn 15 = .ok (.iconst 0, 1) := by decide +kernel
theorem dX1_hedgeAreasIn_16 : decode cX1_hedgeAreasIn 16 = .ok (.istore_n 3, 1) := by decide +kernel
theorem dX1_hedgeAreasIn_17 : decode cX1_hedgeAreasIn 17 = .ok (.iload_n 3, 1) := by decide +kernel
theorem dX1_hedgeAreasIn_18 : decode cX1_hedgeAreasIn 18 = .ok (.aload_n 0, 1) := by decide +kernel
theorem dX1_hedgeAreasIn_19 : decode cX1_hedgeAreasIn 19 = .ok (.getfield 133, 3) := by decide +kernel
theorem dX1_hedgeAreasIn_22 : decode cX1_hedgeAreasIn 22 = .ok (.if_icmp .ge 32, 3) := by decide +kernel
theorem dX1_hedgeAreasIn_25 : decode cX1_hedgeAreasIn 25 = .ok (.aload_n 0, 1) := by decide +kernel
theorem dX1_hedgeAreasIn_26 : decode cX1_hedgeAreasIn 26 = .ok (.iload_n 3, 1) := by decide +kernel
theorem dX1_hedgeAreasIn_27 : decode cX1_hedgeAreasIn 27 = .ok (.invokevirtual 148, 3) := by decide +kernel
theorem dX1_hedgeAreasIn_30 : decode cX1_hedgeAreasIn 30 = .ok (.astore 4, 2) := by decide +kernel
theorem dX1_hedgeAreasIn_32 : decode cX1_hedgeAreasIn 32 = .ok (.aload 4, 2) := by decide +kernel
theorem dX1_hedgeAreasIn_34 : decode cX1_hedgeAreasIn 34 = .ok (.ifnull 14, 3) := by decide +kernel
theorem dX1_hedgeAreasIn_37 : decode cX1_hedgeAreasIn 37 = .ok (.iload_n 2, 1) := by decide +kernel
theorem dX1_hedgeAreasIn_38 : decode cX1_hedgeAreasIn 38 = .ok (.aload 4, 2) := by decide +kernel
theorem dX1_hedgeAreasIn_40 : decode cX1_hedgeAreasIn 40 = .ok (.iload_n 1, 1) := by decide +kernel
theorem dX1_hedgeAreasIn_41 : decode cX1_hedgeAreasIn 41 = .ok (.iconst 1, 1) := by decide +kernel
theorem dX1_hedgeAreasIn_42 : decode cX1_hedgeAreasIn 42 = .ok (.iadd, 1) := by decide +kernel
theorem dX1_hedgeAreasIn_43 : decode cX1_hedgeAreasIn 43 = .ok (.invokestatic 204, 3) := by decide +kernel
theorem dX1_hedgeAreasIn_46 : decode cX1_hedgeAreasIn 46 = .ok (.iadd, 1) := by decide +kernel
theorem dX1_hedgeAreasIn_47 : decode cX1_hedgeAreasIn 47 = .ok (.istore_n 2, 1) := by decide +kernel
theorem dX1_hedgeAreasIn_48 : decode cX1_hedgeAreasIn 48 = .ok (.iinc 3 1, 3) := by decide +kernel
theorem dX1_hedgeAreasIn_51 : decode cX1_hedgeAreasIn 51 = .ok (.goto (-34), 3) := by decide +kernel
theorem dX1_hedgeAreasIn_54 : decode cX1_hedgeAreasIn 54 = .ok (.iload_n 2, 1) := by decide +kernel
theorem dX1_hedgeAreasIn_55 : decode cX1_hedgeAreasIn 55 = .ok (.ireturn, 1) := by decide +kernel
theorem dX1_meetingPairsIn_0 : decode cX1_meetingPairsIn 0 = .ok (.iconst 0, 1) := by decide +kernel
theorem dX1_meetingPairsIn_1 : decode cX1_meetingPairsIn 1 = .ok (.istore_n 2, 1) := by decide +kernel
theorem dX1_meetingPairsIn_2 : decode cX1_meetingPairsIn 2 = .ok (.aload_n 0, 1) := by decide +kernel
theorem dX1_meetingPairsIn_3 : decode cX1_meetingPairsIn 3 = .ok (.iload_n 1, 1) := by decide +kernel
theorem dX1_meetingPairsIn_4 : decode cX1_meetingPairsIn 4 = .ok (.invokestatic 210, 3) := by decide +kernel
theorem dX1_meetingPairsIn_7 : decode cX1_meetingPairsIn 7 = .ok (.ifCond .eq 5, 3) := by decide +kernel
theorem dX1_meetingPairsIn_10 : decode cX1_meetingPairsIn 10 = .ok (.iload_n 2, 1) := by decide +kernel
theorem dX1_meetingPairsIn_11 : decode cX1_meetingPairsIn 11 = .ok (.ireturn, 1) := by decide +kernel
theorem dX1_meetingPairsIn_12 : decode cX1_meetingPairsIn 12 = .ok (.iconst 0, 1) := by decide +kernel
theorem dX1_meetingPairsIn_13 : decode cX1_meetingPairsIn 13 = .ok (.istore_n 3, 1) := by decide +kernel
theorem dX1_meetingPairsIn_14 : decode cX1_meetingPairsIn 14 = .ok (.iload_n 3, 1) := by decide +kernel
theorem dX1_meetingPairsIn_15 : decode cX1_meetingPairsIn 15 = .ok (.aload_n 0, 1) := by decide +kernel
theorem dX1_meetingPairsIn_16 : decode cX1_meetingPairsIn 16 = .ok (.getfield 133, 3) := by decide +kernel
theorem dX1_meetingPairsIn_19 : decode cX1_meetingPairsIn 19 = .ok (.if_icmp .ge 40, 3) := by decide +kernel
theorem dX1_meetingPairsIn_22 : decode cX1_meetingPairsIn 22 = .ok (.aload_n 0, 1) := by decide +kernel
theorem dX1_meetingPairsIn_23 : decode cX1_meetingPairsIn 23 = .ok (.iload_n 3, 1) := by decide +kernel
theorem dX1_meetingPairsIn_24 : decode cX1_meetingPairsIn 24 = .ok (.invokevirtual 148, 3) := by decide +kernel
theorem dX1_meetingPairsIn_27 : decode cX1_meetingPairsIn 27 = .ok (.astore 4, 2) := by decide +kernel
theorem dX1_meetingPairsIn_29 : decode cX1_meetingPairsIn 29 = .ok (.aload 4, 2) := by decide +kernel
theorem dX1_meetingPairsIn_31 : decode cX1_meetingPairsIn 31 = .ok (.ifnull 22, 3) := by decide +kernel
theorem dX1_meetingPairsIn_34 : decode cX1_meetingPairsIn 34 = .ok (.iload_n 2, 1) := by decide +kernel
theorem dX1_meetingPairsIn_35 : decode cX1_meetingPairsIn 35 = .ok (.aload_n 0, 1) := by decide +kernel
theorem dX1_meetingPairsIn_36 : decode cX1_meetingPairsIn 36 = .ok (.iload_n 3, 1) := by decide +kernel
theorem dX1_meetingPairsIn_37 : decode cX1_meetingPairsIn 37 = .ok (.aload 4, 2) := by decide +kernel
theorem dX1_meetingPairsIn_39 : decode cX1_meetingPairsIn 39 = .ok (.invokestatic 214, 3) := by decide +kernel
theorem dX1_meetingPairsIn_42 : decode cX1_meetingPairsIn 42 = .ok (.aload 4, 2) := by decide +kernel
theorem dX1_meetingPairsIn_44 : decode cX1_meetingPairsIn 44 = .ok (.iload_n 1, 1) := by decide +kernel
theorem dX1_meetingPairsIn_45 : decode cX1_meetingPairsIn 45 = .ok (.iconst 1, 1) := by decide +kernel
theorem dX1_meetingPairsIn_46 : decode cX1_meetingPairsIn 46 = .ok (.iadd, 1) := by decide +kernel
theorem dX1_meetingPairsIn_47 : decode cX1_meetingPairsIn 47 = .ok (.invokestatic 207, 3) := by decide +kernel
theorem dX1_meetingPairsIn_50 : decode cX1_meetingPairsIn 50 = .ok (.iadd, 1) := by decide +kernel
theorem dX1_meetingPairsIn_51 : decode cX1_meetingPairsIn 51 = .ok (.iadd, 1) := by decide +kernel
theorem dX1_meetingPairsIn_52 : decode cX1_meetingPairsIn 52 = .ok (.istore_n 2, 1) := by decide +kernel
theorem dX1_meetingPairsIn_53 : decode cX1_meetingPairsIn 53 = .ok (.iinc 3 1, 3) := by decide +kernel
theorem dX1_meetingPairsIn_56 : decode cX1_meetingPairsIn 56 = .ok (.goto (-42), 3) := by decide +kernel
theorem dX1_meetingPairsIn_59 : decode cX1_meetingPairsIn 59 = .ok (.iload_n 2, 1) := by decide +kernel
theorem dX1_meetingPairsIn_60 : decode cX1_meetingPairsIn 60 = .ok (.ireturn, 1) := by decide +kernel
theorem dX1_meetingsBehind_0 : decode cX1_meetingsBehind 0 = .ok (.iconst 0, 1) := by decide +kernel
theorem dX1_meetingsBehind_1 : decode cX1_meetingsBehind 1 = .ok (.istore_n 3, 1) := by decide +kernel
theorem dX1_meetingsBehind_2 : decode cX1_meetingsBehind 2 = .ok (.iload_n 1, 1) := by decide +kernel
theorem dX1_meetingsBehind_3 : decode cX1_meetingsBehind 3 = .ok (.iconst 1, 1) := by decide +kernel
theorem dX1_meetingsBehind_4 : decode cX1_meetingsBehind 4 = .ok (.iadd, 1) := by decide +kernel
theorem dX1_meetingsBehind_5 : decode cX1_meetingsBehind 5 = .ok (.istore 4, 2) := by decide +kernel
theorem dX1_meetingsBehind_7 : decode cX1_meetingsBehind 7 = .ok (.iload 4, 2) := by decide +kernel
theorem dX1_meetingsBehind_9 : decode cX1_meetingsBehind 9 = .ok (.aload_n 0, 1) := by decide +kernel
theorem dX1_meetingsBehind_10 : decode cX1_meetingsBehind 10 = .ok (.getfield 133, 3) := by decide +kernel
theorem dX1_meetingsBehind_13 : decode cX1_meetingsBehind 13 = .ok (.if_icmp .ge 34, 3) := by decide +kernel
theorem dX1_meetingsBehind_16 : decode cX1_meetingsBehind 16 = .ok (.aload_n 0, 1) := by decide +kernel
theorem dX1_meetingsBehind_17 : decode cX1_meetingsBehind 17 = .ok (.iload 4, 2) := by decide +kernel
theorem dX1_meetingsBehind_19 : decode cX1_meetingsBehind 19 = .ok (.invokevirtual 148, 3) := by decide +kernel
theorem dX1_meetingsBehind_22 : decode cX1_meetingsBehind 22 = .ok (.astore 5, 2) := by decide +kernel
theorem dX1_meetingsBehind_24 : decode cX1_meetingsBehind 24 = .ok (.aload 5, 2) := by decide +kernel
theorem dX1_meetingsBehind_26 : decode cX1_meetingsBehind 26 = .ok (.ifnull 15, 3) := by decide +kernel
theorem dX1_meetingsBehind_29 : decode cX1_meetingsBehind 29 = .ok (.aload 5, 2) := by decide +kernel
theorem dX1_meetingsBehind_31 : decode cX1_meetingsBehind 31 = .ok (.aload_n 2, 1) := by decide +kernel
theorem dX1_meetingsBehind_32 : decode cX1_meetingsBehind 32 = .ok (.invokevirtual 194, 3) := by decide +kernel
theorem dX1_meetingsBehind_35 : decode cX1_meetingsBehind 35 = .ok (.ifCond .eq 6, 3) := by decide +kernel
theorem dX1_meetingsBehind_38 : decode cX1_meetingsBehind 38 = .ok (.iinc 3 1, 3) := by decide +kernel
theorem dX1_meetingsBehind_41 : decode cX1_meetingsBehind 41 = .ok (.iinc 4 1, 3) := by decide +kernel
theorem dX1_meetingsBehind_44 : decode cX1_meetingsBehind 44 = .ok (.goto (-37), 3) := by decide +kernel
theorem dX1_meetingsBehind_47 : decode cX1_meetingsBehind 47 = .ok (.iload_n 3, 1) := by decide +kernel
theorem dX1_meetingsBehind_48 : decode cX1_meetingsBehind 48 = .ok (.ireturn, 1) := by decide +kernel
theorem dX1_framesLookedAt_0 : decode cX1_framesLookedAt 0 = .ok (.iconst 1, 1) := by decide +kernel
theorem dX1_framesLookedAt_1 : decode cX1_framesLookedAt 1 = .ok (.istore_n 3, 1) := by decide +kernel
theorem dX1_framesLookedAt_2 : decode cX1_framesLookedAt 2 = .ok (.aload_n 0, 1) := by decide +kernel
theorem dX1_framesLookedAt_3 : decode cX1_framesLookedAt 3 = .ok (.iload_n 2, 1) := by decide +kernel
theorem dX1_framesLookedAt_4 : decode cX1_framesLookedAt 4 = .ok (.invokestatic 210, 3) := by decide +kernel
theorem dX1_framesLookedAt_7 : decode cX1_framesLookedAt 7 = .ok (.ifCond .eq 5, 3) := by decide +kernel
theorem dX1_framesLookedAt_10 : decode cX1_framesLookedAt 10 = .ok (.iload_n 3, 1) := by decide +kernel
theorem dX1_framesLookedAt_11 : decode cX1_framesLookedAt 11 = .ok (.ireturn, 1) := by decide +kernel
theorem dX1_framesLookedAt_12 : decode cX1_framesLookedAt 12 = .ok (.iconst 0, 1) := by decide +kernel
theorem dX1_framesLookedAt_13 : decode cX1_framesLookedAt 13 = .ok (.istore 4, 2) := by decide +kernel
theorem dX1_framesLookedAt_15 : decode cX1_framesLookedAt 15 = .ok (.iload 4, 2) := by decide +kernel
theorem dX1_framesLookedAt_17 : decode cX1_framesLookedAt 17 = .ok (.aload_n 0, 1) := by decide +kernel
theorem dX1_framesLookedAt_18 : decode cX1_framesLookedAt 18 = .ok (.getfield 133, 3) := by decide +kernel
theorem dX1_framesLookedAt_21 : decode cX1_framesLookedAt 21 = .ok (.if_icmp .ge 43, 3) := by decide +kernel
theorem dX1_framesLookedAt_24 : decode cX1_framesLookedAt 24 = .ok (.aload_n 0, 1) := by decide +kernel
theorem dX1_framesLookedAt_25 : decode cX1_framesLookedAt 25 = .ok (.iload 4, 2) := by decide +kernel
theorem dX1_framesLookedAt_27 : decode cX1_framesLookedAt 27 = .ok (.invokevirtual 148, 3) := by decide +kernel
theorem dX1_framesLookedAt_30 : decode cX1_framesLookedAt 30 = .ok (.astore 5, 2) := by decide +kernel
theorem dX1_framesLookedAt_32 : decode cX1_framesLookedAt 32 = .ok (.aload 5, 2) := by decide +kernel
theorem dX1_framesLookedAt_34 : decode cX1_framesLookedAt 34 = .ok (.ifnull 24, 3) := by decide +kernel
theorem dX1_framesLookedAt_37 : decode cX1_framesLookedAt 37 = .ok (.aload 5, 2) := by decide +kernel
theorem dX1_framesLookedAt_39 : decode cX1_framesLookedAt 39 = .ok (.aload_n 1, 1) := by decide +kernel
theorem dX1_framesLookedAt_40 : decode cX1_framesLookedAt 40 = .ok (.invokevirtual 194, 3) := by decide +kernel
theorem dX1_framesLookedAt_43 : decode cX1_framesLookedAt 43 = .ok (.ifCond .eq 15, 3) := by decide +kernel
theorem dX1_framesLookedAt_46 : decode cX1_framesLookedAt 46 = .ok (.iload_n 3, 1) := by decide +kernel
theorem dX1_framesLookedAt_47 : decode cX1_framesLookedAt 47 = .ok (.aload 5, 2) := by decide +kernel
theorem dX1_framesLookedAt_49 : decode cX1_framesLookedAt 49 = .ok (.aload_n 1, 1) := by decide +kernel
theorem dX1_framesLookedAt_50 : decode cX1_framesLookedAt 50 = .ok (.iload_n 2, 1) := by decide +kernel
theorem dX1_framesLookedAt_51 : decode cX1_framesLookedAt 51 = .ok (.iconst 1, 1) := by decide +kernel
theorem dX1_framesLookedAt_52 : decode cX1_framesLookedAt 52 = .ok (.iadd, 1) := by decide +kernel
theorem dX1_framesLookedAt_53 : decode cX1_framesLookedAt 53 = .ok (.invokestatic 111, 3) := by decide +kernel
theorem dX1_framesLookedAt_56 : decode cX1_framesLookedAt 56 = .ok (.iadd, 1) := by decide +kernel
theorem dX1_framesLookedAt_57 : decode cX1_framesLookedAt 57 = .ok (.istore_n 3, 1) := by decide +kernel
theorem dX1_framesLookedAt_58 : decode cX1_framesLookedAt 58 = .ok (.iinc 4 1, 3) := by decide +kernel
theorem dX1_framesLookedAt_61 : decode cX1_framesLookedAt 61 = .ok (.goto (-46), 3) := by decide +kernel
theorem dX1_framesLookedAt_64 : decode cX1_framesLookedAt 64 = .ok (.iload_n 3, 1) := by decide +kernel
theorem dX1_framesLookedAt_65 : decode cX1_framesLookedAt 65 = .ok (.ireturn, 1) := by decide +kernel
theorem dX1_digestOfFrames_0 : decode cX1_digestOfFrames 0 = .ok (.aload_n 0, 1) := by decide +kernel
theorem dX1_digestOfFrames_1 : decode cX1_digestOfFrames 1 = .ok (.lload_n 1, 1) := by decide +kernel
theorem dX1_digestOfFrames_2 : decode cX1_digestOfFrames 2 = .ok (.invokestatic 218, 3) := by decide +kernel
theorem dX1_digestOfFrames_5 : decode cX1_digestOfFrames 5 = .ok (.lstore 4, 2) := by decide +kernel
theorem dX1_digestOfFrames_7 : decode cX1_digestOfFrames 7 = .ok (.iconst 0, 1) := by decide +kernel
theorem dX1_digestOfFrames_8 : decode cX1_digestOfFrames 8 = .ok (.istore 6, 2) := by decide +kernel
theorem dX1_digestOfFrames_10 : decode cX1_digestOfFrames 10 = .ok (.iload 6, 2) := by decide +kernel
theorem dX1_digestOfFrames_12 : decode cX1_digestOfFrames 12 = .ok (.aload_n 0, 1) := by decide +kernel
theorem dX1_digestOfFrames_13 : decode cX1_digestOfFrames 13 = .ok (.getfield 133, 3) := by decide +kernel
theorem dX1_digestOfFrames_16 : decode cX1_digestOfFrames 16 = .ok (.if_icmp .ge 63, 3) := by decide +kernel
theorem dX1_digestOfFrames_19 : decode cX1_digestOfFrames 19 = .ok (.aload_n 0, 1) := by decide +kernel
theorem dX1_digestOfFrames_20 : decode cX1_digestOfFrames 20 = .ok (.iload 6, 2) := by decide +kernel
theorem dX1_digestOfFrames_22 : decode cX1_digestOfFrames 22 = .ok (.invokevirtual 148, 3) := by decide +kernel
theorem dX1_digestOfFrames_25 : decode cX1_digestOfFrames 25 = .ok (.astore 7, 2) := by decide +kernel
theorem dX1_digestOfFrames_27 : decode cX1_digestOfFrames 27 = .ok (.aload 7, 2) := by decide +kernel
theorem dX1_digestOfFrames_29 : decode cX1_digestOfFrames 29 = .ok (.ifnonnull 6, 3) := by decide +kernel
theorem dX1_digestOfFrames_32 : decode cX1_digestOfFrames 32 = .ok (.goto 41, 3) := by decide +kernel
theorem dX1_digestOfFrames_35 : decode cX1_digestOfFrames 35 = .ok (.aload_n 0, 1) := by decide +kernel
theorem dX1_digestOfFrames_36 : decode cX1_digestOfFrames 36 = .ok (.iload_n 3, 1) := by decide +kernel
theorem dX1_digestOfFrames_37 : decode cX1_digestOfFrames 37 = .ok (.invokestatic 210, 3) := by decide +kernel
theorem dX1_digestOfFrames_40 : decode cX1_digestOfFrames 40 = .ok (.ifCond .eq 21, 3) := by decide +kernel
theorem dX1_digestOfFrames_43 : decode cX1_digestOfFrames 43 = .ok (.lload 4, 2) := by decide +kernel
theorem dX1_digestOfFrames_45 : decode cX1_digestOfFrames 45 = .ok (.ldc2_w 138, 3) := by decide +kernel
theorem dX1_digestOfFrames_48 : decode cX1_digestOfFrames 48 = .ok (.lmul, 1) := by decide +kernel
theorem dX1_digestOfFrames_49 : decode cX1_digestOfFrames 49 = .ok (.aload 7, 2) := by decide +kernel
theorem dX1_digestOfFrames_51 : decode cX1_digestOfFrames 51 = .ok (.getfield 56, 3) := by decide +kernel
theorem dX1_digestOfFrames_54 : decode cX1_digestOfFrames 54 = .ok (.i2l, 1) := by decide +kernel
theorem dX1_digestOfFrames_55 : decode cX1_digestOfFrames 55 = .ok (.ladd, 1) := by decide +kernel
theorem dX1_digestOfFrames_56 : decode cX1_digestOfFrames 56 = .ok (.lstore 4, 2) := by decide +kernel
theorem dX1_digestOfFrames_58 : decode cX1_digestOfFrames 58 = .ok (.goto 15, 3) := by decide +kernel
theorem dX1_digestOfFrames_61 : decode cX1_digestOfFrames 61 = .ok (.aload 7, 2) := by decide +kernel
theorem dX1_digestOfFrames_63 : decode cX1_digestOfFrames 63 = .ok (.lload 4, 2) := by decide +kernel
theorem dX1_digestOfFrames_65 : decode cX1_digestOfFrames 65 = .ok (.iload_n 3, 1) := by decide +kernel
theorem dX1_digestOfFrames_66 : decode cX1_digestOfFrames 66 = .ok (.iconst 1, 1) := by decide +kernel
theorem dX1_digestOfFrames_67 : decode cX1_digestOfFrames 67 = .ok (.iadd, 1) := by decide +kernel
theorem dX1_digestOfFrames_68 : decode cX1_digestOfFrames 68 = .ok (.invokestatic 140, 3) := by decide +kernel
theorem dX1_digestOfFrames_71 : decode cX1_digestOfFrames 71 = .ok (.lstore 4, 2) := by decide +kernel
theorem dX1_digestOfFrames_73 : decode cX1_digestOfFrames 73 = .ok (.iinc 6 1, 3) := by decide +kernel
theorem dX1_digestOfFrames_76 : decode cX1_digestOfFrames 76 = .ok (.goto (-66), 3) := by decide +kernel
theorem dX1_digestOfFrames_79 : decode cX1_digestOfFrames 79 = .ok (.lload 4, 2) := by decide +kernel
theorem dX1_digestOfFrames_81 : decode cX1_digestOfFrames 81 = .ok (.lreturn, 1) := by decide +kernel
theorem dX1_digestOfFrame_0 : decode cX1_digestOfFrame 0 = .ok (.aload_n 0, 1) := by decide +kernel
theorem dX1_digestOfFrame_1 : decode cX1_digestOfFrame 1 = .ok (.getfield 133, 3) := by decide +kernel
theorem dX1_digestOfFrame_4 : decode cX1_digestOfFrame 4 = .ok (.ifCond .ne 7, 3) := by decide +kernel
theorem dX1_digestOfFrame_7 : decode cX1_digestOfFrame 7 = .ok (.iconst 1, 1) := by decide +kernel
theorem dX1_digestOfFrame_8 : decode cX1_digestOfFrame 8 = .ok (.goto 4, 3) := by decide +kernel
theorem dX1_digestOfFrame_11 : decode cX1_digestOfFrame 11 = .ok (.iconst 0, 1) := by decide +kernel
theorem dX1_digestOfFrame_12 : decode cX1_digestOfFrame 12 = .ok (.istore_n 3, 1) := by decide +kernel
theorem dX1_digestOfFrame_13 : decode cX1_digestOfFrame 13 = .ok (.lload_n 1, 1) := by decide +kernel
theorem dX1_digestOfFrame_14 : decode cX1_digestOfFrame 14 = .ok (.ldc2_w 138, 3) := by decide +kernel
theorem dX1_digestOfFrame_17 : decode cX1_digestOfFrame 17 = .ok (.lmul, 1) := by decide +kernel
theorem dX1_digestOfFrame_18 : decode cX1_digestOfFrame 18 = .ok (.aload_n 0, 1) := by decide +kernel
theorem dX1_digestOfFrame_19 : decode cX1_digestOfFrame 19 = .ok (.getfield 133, 3) := by decide +kernel
theorem dX1_digestOfFrame_22 : decode cX1_digestOfFrame 22 = .ok (.i2l, 1) := by decide +kernel
theorem dX1_digestOfFrame_23 : decode cX1_digestOfFrame 23 = .ok (.ladd, 1) := by decide +kernel
theorem dX1_digestOfFrame_24 : decode cX1_digestOfFrame 24 = .ok (.lstore 4, 2) := by decide +kernel
theorem dX1_digestOfFrame_26 : decode cX1_digestOfFrame 26 = .ok (.lload 4, 2) := by decide +kernel
theorem dX1_digestOfFrame_28 : decode cX1_digestOfFrame 28 = .ok (.ldc2_w 138, 3) := by decide +kernel
theorem dX1_digestOfFrame_31 : decode cX1_digestOfFrame 31 = .ok (.lmul, 1) := by decide +kernel
theorem dX1_digestOfFrame_32 : decode cX1_digestOfFrame 32 = .ok (.iload_n 3, 1) := by decide +kernel
theorem dX1_digestOfFrame_33 : decode cX1_digestOfFrame 33 = .ok (.ifCond .eq 7, 3) := by decide +kernel
theorem dX1_digestOfFrame_36 : decode cX1_digestOfFrame 36 = .ok (.iconst 0, 1) := by decide +kernel
theorem dX1_digestOfFrame_37 : decode cX1_digestOfFrame 37 = .ok (.goto 7, 3) := by decide +kernel
theorem dX1_digestOfFrame_40 : decode cX1_digestOfFrame 40 = .ok (.aload_n 0, 1) := by decide +kernel
theorem dX1_digestOfFrame_41 : decode cX1_digestOfFrame 41 = .ok (.getfield 179, 3) := by decide +kernel
theorem dX1_digestOfFrame_44 : decode cX1_digestOfFrame 44 = .ok (.i2l, 1) := by decide +kernel
theorem dX1_digestOfFrame_45 : decode cX1_digestOfFrame 45 = .ok (.ladd, 1) := by decide +kernel
theorem dX1_digestOfFrame_46 : decode cX1_digestOfFrame 46 = .ok (.lstore 4, 2) := by decide +kernel
theorem dX1_digestOfFrame_48 : decode cX1_digestOfFrame 48 = .ok (.lload 4, 2) := by decide +kernel
theorem dX1_digestOfFrame_50 : decode cX1_digestOfFrame 50 = .ok (.ldc2_w 138, 3) := by decide +kernel
theorem dX1_digestOfFrame_53 : decode cX1_digestOfFrame 53 = .ok (.lmul, 1) := by decide +kernel
theorem dX1_digestOfFrame_54 : decode cX1_digestOfFrame 54 = .ok (.iload_n 3, 1) := by decide +kernel
theorem dX1_digestOfFrame_55 : decode cX1_digestOfFrame 55 = .ok (.ifCond .eq 7, 3) := by decide +kernel
theorem dX1_digestOfFrame_58 : decode cX1_digestOfFrame 58 = .ok (.iconst 0, 1) := by decide +kernel
theorem dX1_digestOfFrame_59 : decode cX1_digestOfFrame 59 = .ok (.goto 7, 3) := by decide +kernel
theorem dX1_digestOfFrame_62 : decode cX1_digestOfFrame 62 = .ok (.aload_n 0, 1) := by decide +kernel
theorem dX1_digestOfFrame_63 : decode cX1_digestOfFrame 63 = .ok (.getfield 182, 3) := by decide +kernel
theorem dX1_digestOfFrame_66 : decode cX1_digestOfFrame 66 = .ok (.i2l, 1) := by decide +kernel
theorem dX1_digestOfFrame_67 : decode cX1_digestOfFrame 67 = .ok (.ladd, 1) := by decide +kernel
theorem dX1_digestOfFrame_68 : decode cX1_digestOfFrame 68 = .ok (.lstore 4, 2) := by decide +kernel
theorem dX1_digestOfFrame_70 : decode cX1_digestOfFrame 70 = .ok (.lload 4, 2) := by decide +kernel
theorem dX1_digestOfFrame_72 : decode cX1_digestOfFrame 72 = .ok (.ldc2_w 138, 3) := by decide +kernel
theorem dX1_digestOfFrame_75 : decode cX1_digestOfFrame 75 = .ok (.lmul, 1) := by decide +kernel
theorem dX1_digestOfFrame_76 : decode cX1_digestOfFrame 76 = .ok (.iload_n 3, 1) := by decide +kernel
theorem dX1_digestOfFrame_77 : decode cX1_digestOfFrame 77 = .ok (.ifCond .eq 7, 3) := by decide +kernel
theorem dX1_digestOfFrame_80 : decode cX1_digestOfFrame 80 = .ok (.iconst 0, 1) := by decide +kernel
theorem dX1_digestOfFrame_81 : decode cX1_digestOfFrame 81 = .ok (.goto 7, 3) := by decide +kernel
theorem dX1_digestOfFrame_84 : decode cX1_digestOfFrame 84 = .ok (.aload_n 0, 1) := by decide +kernel
theorem dX1_digestOfFrame_85 : decode cX1_digestOfFrame 85 = .ok (.getfield 185, 3) := by decide +kernel
theorem dX1_digestOfFrame_88 : decode cX1_digestOfFrame 88 = .ok (.i2l, 1) := by decide +kernel
theorem dX1_digestOfFrame_89 : decode cX1_digestOfFrame 89 = .ok (.ladd, 1) := by decide +kernel
theorem dX1_digestOfFrame_90 : decode cX1_digestOfFrame 90 = .ok (.lstore 4, 2) := by decide +kernel
theorem dX1_digestOfFrame_92 : decode cX1_digestOfFrame 92 = .ok (.lload 4, 2) := by decide +kernel
theorem dX1_digestOfFrame_94 : decode cX1_digestOfFrame 94 = .ok (.ldc2_w 138, 3) := by decide +kernel
theorem dX1_digestOfFrame_97 : decode cX1_digestOfFrame 97 = .ok (.lmul, 1) := by decide +kernel
theorem dX1_digestOfFrame_98 : decode cX1_digestOfFrame 98 = .ok (.iload_n 3, 1) := by decide +kernel
theorem dX1_digestOfFrame_99 : decode cX1_digestOfFrame 99 = .ok (.ifCond .eq 7, 3) := by decide +kernel
theorem dX1_digestOfFrame_102 : decode cX1_digestOfFrame 102 = .ok (.iconst 0, 1) := by decide +kernel
theorem dX1_digestOfFrame_103 : decode cX1_digestOfFrame 103 = .ok (.goto 7, 3) := by decide +kernel
theorem dX1_digestOfFrame_106 : decode cX1_digestOfFrame 106 = .ok (.aload_n 0, 1) := by decide +kernel
theorem dX1_digestOfFrame_107 : decode cX1_digestOfFrame 107 = .ok (.getfield 188, 3) := by decide +kernel
theorem dX1_digestOfFrame_110 : decode cX1_digestOfFrame 110 = .ok (.i2l, 1) := by decide +kernel
theorem dX1_digestOfFrame_111 : decode cX1_digestOfFrame 111 = .ok (.ladd, 1) := by decide +kernel
theorem dX1_digestOfFrame_112 : decode cX1_digestOfFrame 112 = .ok (.lreturn, 1) := by decide +kernel
theorem dX2_init_0 : decode cX2_init 0 = .ok (.aload_n 0, 1) := by decide +kernel
theorem dX2_init_1 : decode cX2_init 1 = .ok (.invokespecial 1, 3) := by decide +kernel
theorem dX2_init_4 : decode cX2_init 4 = .ok (.aload_n 0, 1) := by decide +kernel
theorem dX2_init_5 : decode cX2_init 5 = .ok (.sipush 240, 3) := by decide +kernel
theorem dX2_init_8 : decode cX2_init 8 = .ok (.newarray .int, 2) := by decide +kernel
theorem dX2_init_10 : decode cX2_init 10 = .ok (.putfield 9, 3) := by decide +kernel
theorem dX2_init_13 : decode cX2_init 13 = .ok (.aload_n 0, 1) := by decide +kernel
theorem dX2_init_14 : decode cX2_init 14 = .ok (.bipush 60, 2) := by decide +kernel
theorem dX2_init_16 : decode cX2_init 16 = .ok (.newarray .int, 2) := by decide +kernel
theorem dX2_init_18 : decode cX2_init 18 = .ok (.putfield 13, 3) := by decide +kernel
theorem dX2_init_21 : decode cX2_init 21 = .ok (.aload_n 0, 1) := by decide +kernel
theorem dX2_init_22 : decode cX2_init 22 = .ok (.iconst 1, 1) := by decide +kernel
theorem dX2_init_23 : decode cX2_init 23 = .ok (.putfield 16, 3) := by decide +kernel
theorem dX2_init_26 : decode cX2_init 26 = .ok (.aload_n 0, 1) := by decide +kernel
theorem dX2_init_27 : decode cX2_init 27 = .ok (.sipush 400, 3) := by decide +kernel
theorem dX2_init_30 : decode cX2_init 30 = .ok (.newarray .int, 2) := by decide +kernel
theorem dX2_init_32 : decode cX2_init 32 = .ok (.putfield 20, 3) := by decide +kernel
theorem dX2_init_35 : decode cX2_init 35 = .ok (.aload_n 0, 1) := by decide +kernel
theorem dX2_init_36 : decode cX2_init 36 = .ok (.sipush 2000, 3) := by decide +kernel
theorem dX2_init_39 : decode cX2_init 39 = .ok (.newarray .int, 2) := by decide +kernel
theorem dX2_init_41 : decode cX2_init 41 = .ok (.putfield 23, 3) := by decide +kernel
theorem dX2_init_44 : decode cX2_init 44 = .ok (.aload_n 0, 1) := by decide +kernel
theorem dX2_init_45 : decode cX2_init 45 = .ok (.sipush 400, 3) := by decide +kernel
theorem dX2_init_48 : decode cX2_init 48 = .ok (.newarray .int, 2) := by decide +kernel
theorem dX2_init_50 : decode cX2_init 50 = .ok (.putfield 26, 3) := by decide +kernel
theorem dX2_init_53 : decode cX2_init 53 = .ok (.aload_n 0, 1) := by decide +kernel
theorem dX2_init_54 : decode cX2_init 54 = .ok (.bipush 60, 2) := by decide +kernel
theorem dX2_init_56 : decode cX2_init 56 = .ok (.newarray .int, 2) := by decide +kernel
theorem dX2_init_58 : decode cX2_init 58 = .ok (.putfield 29, 3) := by decide +kernel
theorem dX2_init_61 : decode cX2_init 61 = .ok (.aload_n 0, 1) := by decide +kernel
theorem dX2_init_62 : decode cX2_init 62 = .ok (.bipush 60, 2) := by decide +kernel
theorem dX2_init_64 : decode cX2_init 64 = .ok (.newarray .int, 2) := by decide +kernel
theorem dX2_init_66 : decode cX2_init 66 = .ok (.putfield 32, 3) := by decide +kernel
theorem dX2_init_69 : decode cX2_init 69 = .ok (.aload_n 0, 1) := by decide +kernel
theorem dX2_init_70 : decode cX2_init 70 = .ok (.iconst 4, 1) := by decide +kernel
theorem dX2_init_71 : decode cX2_init 71 = .ok (.newarray .int, 2) := by decide +kernel
theorem dX2_init_73 : decode cX2_init 73 = .ok (.putfield 35, 3) := by decide +kernel
theorem dX2_init_76 : decode cX2_init 76 = .ok (.return_, 1) := by decide +kernel
theorem dX2_thrown_0 : decode cX2_thrown 0 = .ok (.aload_n 0, 1) := by decide +kernel
theorem dX2_thrown_1 : decode cX2_thrown 1 = .ok (.getfield 38, 3) := by decide +kernel
theorem dX2_thrown_4 : decode cX2_thrown 4 = .ok (.ireturn, 1) := by decide +kernel
theorem dX2_no_0 : decode cX2_no 0 = .ok (.aload_n 0, 1) := by decide +kernel
theorem dX2_no_1 : decode cX2_no 1 = .ok (.iload_n 1, 1) := by decide +kernel
theorem dX2_no_2 : decode cX2_no 2 = .ok (.putfield 38, 3) := by decide +kernel
theorem dX2_no_5 : decode cX2_no 5 = .ok (.iconst 0, 1) := by decide +kernel
theorem dX2_no_6 : decode cX2_no 6 = .ok (.ireturn, 1) := by decide +kernel
theorem dX2_isAllotment_0 : decode cX2_isAllotment 0 = .ok (.iload_n 1, 1) := by decide +kernel
theorem dX2_isAllotment_1 : decode cX2_isAllotment 1 = .ok (.ifCond .lt 15, 3) := by decide +kernel
theorem dX2_isAllotment_4 : decode cX2_isAllotment 4 = .ok (.iload_n 1, 1) := by decide +kernel
theorem dX2_isAllotment_5 : decode cX2_isAllotment 5 = .ok (.aload_n 0, 1) := by decide +kernel
theorem dX2_isAllotment_6 : decode cX2_isAllotment 6 = .ok (.getfield 41, 3) := by decide +kernel
theorem dX2_isAllotment_9 : decode cX2_isAllotment 9 = .ok (.if_icmp .ge 7, 3) := by decide +kernel
theorem dX2_isAllotment_12 : decode cX2_isAllotment 12 = .ok (.iconst 1, 1) := by decide +kernel
theorem dX2_isAllotment_13 : decode cX2_isAllotment 13 = .ok (.goto 4, 3) := by decide +kernel
theorem dX2_isAllotment_16 : decode cX2_isAllotment 16 = .ok (.iconst 0, 1) := by decide +kernel
theorem dX2_isAllotment_17 : decode cX2_isAllotment 17 = .ok (.ireturn, 1) := by decide +kernel
theorem dX2_isRect_0 : decode cX2_isRect 0 = .ok (.iload_n 0, 1) := by decide +kernel
theorem dX2_isRect_1 : decode cX2_isRect 1 = .ok (.ifCond .lt 33, 3) := by decide +kernel
theorem dX2_isRect_4 : decode cX2_isRect 4 = .ok (.iload_n 1, 1) := by decide +kernel
theorem dX2_isRect_5 : decode cX2_isRect 5 = .ok (.ifCond .lt 29, 3) := by decide +kernel
theorem dX2_isRect_8 : decode cX2_isRect 8 = .ok (.iload_n 2, 1) := by decide +kernel
theorem dX2_isRect_9 : decode cX2_isRect 9 = .ok (.bipush 99, 2) := by decide +kernel
theorem dX2_isRect_11 : decode cX2_isRect 11 = .ok (.if_icmp .gt 23, 3) := by decide +kernel
theorem dX2_isRect_14 : decode cX2_isRect 14 = .ok (.iload_n 3, 1) := by decide +kernel
theorem dX2_isRect_15 : decode cX2_isRect 15 = .ok (.bipush 99, 2) := by decide +kernel
theorem dX2_isRect_17 : decode cX2_isRect 17 = .ok (.if_icmp .gt 17, 3) := by decide +kernel
theorem dX2_isRect_20 : decode cX2_isRect 20 = .ok (.iload_n 0, 1) := by decide +kernel
theorem dX2_isRect_21 : decode cX2_isRect 21 = .ok (.iload_n 2, 1) := by decide +kernel
theorem dX2_isRect_22 : decode cX2_isRect 22 = .ok (.if_icmp .gt 12, 3) := by decide +kernel
theorem dX2_isRect_25 : decode cX2_isRect 25 = .ok (.iload_n 1, 1) := by decide +kernel
theorem dX2_isRect_26 : decode cX2_isRect 26 = .ok (.iload_n 3, 1) := by decide +kernel
theorem dX2_isRect_27 : decode cX2_isRect 27 = .ok (.if_icmp .gt 7, 3) := by decide +kernel
theorem dX2_isRect_30 : decode cX2_isRect 30 = .ok (.iconst 1, 1) := by decide +kernel
theorem dX2_isRect_31 : decode cX2_isRect 31 = .ok (.goto 4, 3) := by decide +kernel
theorem dX2_isRect_34 : decode cX2_isRect 34 = .ok (.iconst 0, 1) := by decide +kernel
theorem dX2_isRect_35 : decode cX2_isRect 35 = .ok (.ireturn, 1) := by decide +kernel
theorem dX2_take_0 : decode cX2_take 0 = .ok (.aload_n 0, 1) := by decide +kernel
theorem dX2_take_1 : decode cX2_take 1 = .ok (.getfield 35, 3) := by decide +kernel
theorem dX2_take_4 : decode cX2_take 4 = .ok (.iconst 0, 1) := by decide +kernel
theorem dX2_take_5 : decode cX2_take 5 = .ok (.iload_n 1, 1) := by decide +kernel
theorem dX2_take_6 : decode cX2_take 6 = .ok (.iastore, 1) := by decide +kernel
theorem dX2_take_7 : decode cX2_take 7 = .ok (.aload_n 0, 1) := by decide +kernel
theorem dX2_take_8 : decode cX2_take 8 = .ok (.getfield 35, 3) := by decide +kernel
theorem dX2_take_11 : decode cX2_take 11 = .ok (.iconst 1, 1) := by decide +kernel
theorem dX2_take_12 : decode cX2_take 12 = .ok (.iload_n 2, 1) := by decide +kernel
theorem dX2_take_13 : decode cX2_take 13 = .ok (.iastore, 1) := by decide +kernel
theorem dX2_take_14 : decode cX2_take 14 = .ok (.aload_n 0, 1) := by decide +kernel
theorem dX2_take_15 : decode cX2_take 15 = .ok (.getfield 35, 3) := by decide +kernel
theorem dX2_take_18 : decode cX2_take 18 = .ok (.iconst 2, 1) := by decide +kernel
theorem dX2_take_19 : decode cX2_take 19 = .ok (.iload_n 3, 1) := by decide +kernel
theorem dX2_take_20 : decode cX2_take 20 = .ok (.iastore, 1) := by decide +kernel
theorem dX2_take_21 : decode cX2_take 21 = .ok (.aload_n 0, 1) := by decide +kernel
theorem dX2_take_22 : decode cX2_take 22 = .ok (.getfield 35, 3) := by decide +kernel
theorem dX2_take_25 : decode cX2_take 25 = .ok (.iconst 3, 1) := by decide +kernel
theorem dX2_take_26 : decode cX2_take 26 = .ok (.iload 4, 2) := by decide +kernel
theorem dX2_take_28 : decode cX2_take 28 = .ok (.iastore, 1) := by decide +kernel
theorem dX2_take_29 : decode cX2_take 29 = .ok (.return_, 1) := by decide +kernel
theorem dX2_held_0 : decode cX2_held 0 = .ok (.aload_n 0, 1) := by decide +kernel
theorem dX2_held_1 : decode cX2_held 1 = .ok (.getfield 23, 3) := by decide +kernel
theorem dX2_held_4 : decode cX2_held 4 = .ok (.iconst 5, 1) := by decide +kernel
theorem dX2_held_5 : decode cX2_held 5 = .ok (.iload_n 1, 1) := by decide +kernel
theorem dX2_held_6 : decode cX2_held 6 = .ok (.imul, 1) := by decide +kernel
theorem dX2_held_7 : decode cX2_held 7 = .ok (.iload_n 2, 1) := by decide +kernel
theorem dX2_held_8 : decode cX2_held 8 = .ok (.iadd, 1) := by decide +kernel
theorem dX2_held_9 : decode cX2_held 9 = .ok (.iaload, 1) := by decide +kernel
theorem dX2_held_10 : decode cX2_held 10 = .ok (.ireturn, 1) := by decide +kernel
theorem dX2_edgeOf_0 : decode cX2_edgeOf 0 = .ok (.aload_n 0, 1) := by decide +kernel
theorem dX2_edgeOf_1 : decode cX2_edgeOf 1 = .ok (.iload_n 1, 1) := by decide +kernel
theorem dX2_edgeOf_2 : decode cX2_edgeOf 2 = .ok (.iload_n 2, 1) := by decide +kernel
theorem dX2_edgeOf_3 : decode cX2_edgeOf 3 = .ok (.invokevirtual 44, 3) := by decide +kernel
theorem dX2_edgeOf_6 : decode cX2_edgeOf 6 = .ok (.istore 4, 2) := by decide +kernel
theorem dX2_edgeOf_8 : decode cX2_edgeOf 8 = .ok (.aload_n 0, 1) := by decide +kernel
theorem dX2_edgeOf_9 : decode cX2_edgeOf 9 = .ok (.getfield 26, 3) := by decide +kernel
theorem dX2_edgeOf_12 : decode cX2_edgeOf 12 = .ok (.iload_n 1, 1) := by decide +kernel
theorem dX2_edgeOf_13 : decode cX2_edgeOf 13 = .ok (.iaload, 1) := by decide +kernel
theorem dX2_edgeOf_14 : decode cX2_edgeOf 14 = .ok (.ifCond .ne 17, 3) := by decide +kernel
theorem dX2_edgeOf_17 : decode cX2_edgeOf 17 = .ok (.aload_n 0, 1) := by decide +kernel
theorem dX2_edgeOf_18 : decode cX2_edgeOf 18 = .ok (.getfield 9, 3) := by decide +kernel
theorem dX2_edgeOf_21 : decode cX2_edgeOf 21 = .ok (.iconst 4, 1) := by decide +kernel
theorem dX2_edgeOf_22 : decode cX2_edgeOf 22 = .ok (.iload 4, 2) := by decide +kernel
theorem dX2_edgeOf_24 : decode cX2_edgeOf 24 = .ok (.imul, 1) := by decide +kernel
theorem dX2_edgeOf_25 : decode cX2_edgeOf 25 = .ok (.iload_n 3, 1) := by decide +kernel
theorem dX2_edgeOf_26 : decode cX2_edgeOf 26 = .ok (.iadd, 1) := by decide +kernel
theorem dX2_edgeOf_27 : decode cX2_edgeOf 27 = .ok (.iaload, 1) := by decide +kernel
theorem dX2_edgeOf_28 : decode cX2_edgeOf 28 = .ok (.goto 10, 3) := by decide +kernel
theorem dX2_edgeOf_31 : decode cX2_edgeOf 31 = .ok (.aload_n 0, 1) := by decide +kernel
theorem dX2_edgeOf_32 : decode cX2_edgeOf 32 = .ok (.iload 4, 2) := by decide +kernel
theorem dX2_edgeOf_34 : decode cX2_edgeOf 34 = .ok (.iload_n 3, 1) := by decide +kernel
theorem dX2_edgeOf_35 : decode cX2_edgeOf 35 = .ok (.invokevirtual 47, 3) := by decide +kernel
theorem dX2_edgeOf_38 : decode cX2_edgeOf 38 = .ok (.ireturn, 1) := by decide +kernel
theorem dX2_edge_0 : decode cX2_edge 0 = .ok (.aload_n 0, 1) := by decide +kernel
theorem dX2_edge_1 : decode cX2_edge 1 = .ok (.iload_n 1, 1) := by decide +kernel
theorem dX2_edge_2 : decode cX2_edge 2 = .ok (.iconst 0, 1) := by decide +kernel
theorem dX2_edge_3 : decode cX2_edge 3 = .ok (.iload_n 2, 1) := by decide +kernel
theorem dX2_edge_4 : decode cX2_edge 4 = .ok (.invokevirtual 50, 3) := by decide +kernel
theorem dX2_edge_7 : decode cX2_edge 7 = .ok (.istore_n 3, 1) := by decide +kernel
theorem dX2_edge_8 : decode cX2_edge 8 = .ok (.iconst 1, 1) := by decide +kernel
theorem dX2_edge_9 : decode cX2_edge 9 = .ok (.istore 4, 2) := by decide +kernel
theorem dX2_edge_11 : decode cX2_edge 11 = .ok (.iload 4, 2) := by decide +kernel
theorem dX2_edge_13 : decode cX2_edge 13 = .ok (.aload_n 0, 1) := by decide +kernel
theorem dX2_edge_14 : decode cX2_edge 14 = .ok (.getfield 20, 3) := by decide +kernel
theorem dX2_edge_17 : decode cX2_edge 17 = .ok (.iload_n 1, 1) := by decide +kernel
theorem dX2_edge_18 : decode cX2_edge 18 = .ok (.iaload, 1) := by decide +kernel
theorem dX2_edge_19 : decode cX2_edge 19 = .ok (.if_icmp .ge 40, 3) := by decide +kernel
theorem dX2_edge_22 : decode cX2_edge 22 = .ok (.aload_n 0, 1) := by decide +kernel
theorem dX2_edge_23 : decode cX2_edge 23 = .ok (.iload_n 1, 1) := by decide +kernel
theorem dX2_edge_24 : decode cX2_edge 24 = .ok (.iload 4, 2) := by decide +kernel
theorem dX2_edge_26 : decode cX2_edge 26 = .ok (.iload_n 2, 1) := by decide +kernel
theorem dX2_edge_27 : decode cX2_edge 27 = .ok (.invokevirtual 50, 3) := by decide +kernel
theorem dX2_edge_30 : decode cX2_edge 30 = .ok (.istore 5, 2) := by decide +kernel
theorem dX2_edge_32 : decode cX2_edge 32 = .ok (.iload_n 2, 1) := by decide +kernel
theorem dX2_edge_33 : decode cX2_edge 33 = .ok (.iconst 2, 1) := by decide +kernel
theorem dX2_edge_34 : decode cX2_edge 34 = .ok (.if_icmp .ge 12, 3) := by decide +kernel
theorem dX2_edge_37 : decode cX2_edge 37 = .ok (.iload_n 3, 1) := by decide +kernel
theorem dX2_edge_38 : decode cX2_edge 38 = .ok (.iload 5, 2) := by decide +kernel
theorem dX2_edge_40 : decode cX2_edge 40 = .ok (.invokestatic 54, 3) := by decide +kernel
theorem dX2_edge_43 : decode cX2_edge 43 = .ok (.goto 9, 3) := by decide +kernel
theorem dX2_edge_46 : decode cX2_edge 46 = .ok (.iload_n 3, 1) := by decide +kernel
theorem dX2_edge_47 : decode cX2_edge 47 = .ok (.iload 5, 2) := by decide +kernel
theorem dX2_edge_49 : decode cX2_edge 49 = .ok (.invokestatic 59, 3) := by decide +kernel
theorem dX2_edge_52 : decode cX2_edge 52 = .ok (.istore_n 3, 1) := by decide +kernel
theorem dX2_edge_53 : decode cX2_edge 53 = .ok (.iinc 4 1, 3) := by decide +kernel
theorem dX2_edge_56 : decode cX2_edge 56 = .ok (.goto (-45), 3) := by decide +kernel
theorem dX2_edge_59 : decode cX2_edge 59 = .ok (.iload_n 3, 1) := by decide +kernel
theorem dX2_edge_60 : decode cX2_edge 60 = .ok (.ireturn, 1) := by decide +kernel
theorem dX2_area_0 : decode cX2_area 0 = .ok (.iload_n 2, 1) := by decide +kernel
theorem dX2_area_1 : decode cX2_area 1 = .ok (.iload_n 0, 1) := by decide +kernel
theorem dX2_area_2 : decode cX2_area 2 = .ok (.isub, 1) := by decide +kernel
theorem dX2_area_3 : decode cX2_area 3 = .ok (.iconst 1, 1) := by decide +kernel
theorem dX2_area_4 : decode cX2_area 4 = .ok (.iadd, 1) := by decide +kernel
theorem dX2_area_5 : decode cX2_area 5 = .ok (.iload_n 3, 1) := by decide +kernel
theorem dX2_area_6 : decode cX2_area 6 = .ok (.iload_n 1, 1) := by decide +kernel
theorem dX2_area_7 : decode cX2_area 7 = .ok (.isub, 1) := by decide +kernel
theorem dX2_area_8 : decode cX2_area 8 = .ok (.iconst 1, 1) := by decide +kernel
theorem dX2_area_9 : decode cX2_area 9 = .ok (.iadd, 1) := by decide +kernel
theorem dX2_area_10 : decode cX2_area 10 = .ok (.imul, 1) := by decide +kernel
theorem dX2_area_11 : decode cX2_area 11 = .ok (.ireturn, 1) := by decide +kernel
theorem dX2_area__0 : decode cX2_area_ 0 = .ok (.aload_n 0, 1) := by decide +kernel
theorem dX2_area__1 : decode cX2_area_ 1 = .ok (.getfield 20, 3) := by decide +kernel
theorem dX2_area__4 : decode cX2_area_ 4 = .ok (.iload_n 1, 1) := by decide +kernel
theorem dX2_area__5 : decode cX2_area_ 5 = .ok (.iaload, 1) := by decide +kernel
theorem dX2_area__6 : decode cX2_area_ 6 = .ok (.ifCond .ne 7, 3) := by decide +kernel
theorem dX2_area__9 : decode cX2_area_ 9 = .ok (.iconst 0, 1) := by decide +kernel
theorem dX2_area__10 : decode cX2_area_ 10 = .ok (.goto 30, 3) := by decide +kernel
theorem dX2_area__13 : decode cX2_area_ 13 = .ok (.aload_n 0, 1) := by decide +kernel
theorem dX2_area__14 : decode cX2_area_ 14 = .ok (.iload_n 1, 1) := by decide +kernel
theorem dX2_area__15 : decode cX2_area_ 15 = .ok (.iconst 0, 1) := by decide +kernel
theorem dX2_area__16 : decode cX2_area_ 16 = .ok (.invokevirtual 47, 3) := by decide +kernel
theorem dX2_area__19 : decode cX2_area_ 19 = .ok (.aload_n 0, 1) := by decide +kernel
theorem dX2_area__20 : decode cX2_area_ 20 = .ok (.iload_n 1, 1) := by decide +kernel
theorem dX2_area__21 : decode cX2_area_ 21 = .ok (.iconst 1, 1) := by decide +kernel
theorem dX2_area__22 : decode cX2_area_ 22 = .ok (.invokevirtual 47, 3) := by decide +kernel
theorem dX2_area__25 : decode cX2_area_ 25 = .ok (.aload_n 0, 1) := by decide +kernel
theorem dX2_area__26 : decode cX2_area_ 26 = .ok (.iload_n 1, 1) := by decide +kernel
theorem dX2_area__27 : decode cX2_area_ 27 = .ok (.iconst 2, 1) := by decide +kernel
theorem dX2_area__28 : decode cX2_area_ 28 = .ok (.invokevirtual 47, 3) := by decide +kernel
theorem dX2_area__31 : decode cX2_area_ 31 = .ok (.aload_n 0, 1) := by decide +kernel
theorem dX2_area__32 : decode cX2_area_ 32 = .ok (.iload_n 1, 1) := by decide +kernel
theorem dX2_area__33 : decode cX2_area_ 33 = .ok (.iconst 3, 1) := by decide +kernel
theorem dX2_area__34 : decode cX2_area_ 34 = .ok (.invokevirtual 47, 3) := by decide +kernel
theorem dX2_area__37 : decode cX2_area_ 37 = .ok (.invokestatic 62, 3) := by decide +kernel
theorem dX2_area__40 : decode cX2_area_ 40 = .ok (.ireturn, 1) := by decide +kernel
theorem dX2_rectArea_0 : decode cX2_rectArea 0 = .ok (.aload_n 0, 1) := by decide +kernel
theorem dX2_rectArea_1 : decode cX2_rectArea 1 = .ok (.getfield 35, 3) := by decide +kernel
theorem dX2_rectArea_4 : decode cX2_rectArea 4 = .ok (.iconst 0, 1) := by decide +kernel
theorem dX2_rectArea_5 : decode cX2_rectArea 5 = .ok (.iaload, 1) := by decide +kernel
theorem dX2_rectArea_6 : decode cX2_rectArea 6 = .ok (.aload_n 0, 1) := by decide +kernel
theorem dX2_rectArea_7 : decode cX2_rectArea 7 = .ok (.getfield 35, 3) := by decide +kernel
theorem dX2_rectArea_10 : decode cX2_rectArea 10 = .ok (.iconst 1, 1) := by decide +kernel
theorem dX2_rectArea_11 : decode cX2_rectArea 11 = .ok (.iaload, 1) := by decide +kernel
theorem dX2_rectArea_12 : decode cX2_rectArea 12 = .ok (.aload_n 0, 1) := by decide +kernel
theorem dX2_rectArea_13 : decode cX2_rectArea 13 = .ok (.getfield 35, 3) := by decide +kernel
theorem dX2_rectArea_16 : decode cX2_rectArea 16 = .ok (.iconst 2, 1) := by decide +kernel
theorem dX2_rectArea_17 : decode cX2_rectArea 17 = .ok (.iaload, 1) := by decide +kernel
theorem dX2_rectArea_18 : decode cX2_rectArea 18 = .ok (.aload_n 0, 1) := by decide +kernel
theorem dX2_rectArea_19 : decode cX2_rectArea 19 = .ok (.getfield 35, 3) := by decide +kernel
theorem dX2_rectArea_22 : decode cX2_rectArea 22 = .ok (.iconst 3, 1) := by decide +kernel
theorem dX2_rectArea_23 : decode cX2_rectArea 23 = .ok (.iaload, 1) := by decide +kernel
theorem dX2_rectArea_24 : decode cX2_rectArea 24 = .ok (.invokestatic 62, 3) := by decide +kernel
theorem dX2_rectArea_27 : decode cX2_rectArea 27 = .ok (.ireturn, 1) := by decide +kernel
theorem dX2_growth_0 : decode cX2_growth 0 = .ok (.aload_n 0, 1) := by decide +kernel
theorem dX2_growth_1 : decode cX2_growth 1 = .ok (.getfield 20, 3) := by decide +kernel
theorem dX2_growth_4 : decode cX2_growth 4 = .ok (.iload_n 1, 1) := by decide +kernel
theorem dX2_growth_5 : decode cX2_growth 5 = .ok (.iaload, 1) := by decide +kernel
theorem dX2_growth_6 : decode cX2_growth 6 = .ok (.ifCond .ne 8, 3) := by decide +kernel
theorem dX2_growth_9 : decode cX2_growth 9 = .ok (.aload_n 0, 1) := by decide +kernel
theorem dX2_growth_10 : decode cX2_growth 10 = .ok (.invokevirtual 66, 3) := by decide +kernel
theorem dX2_growth_13 : decode cX2_growth 13 = .ok (.ireturn, 1) := by decide +kernel
theorem dX2_growth_14 : decode cX2_growth 14 = .ok (.aload_n 0, 1) := by decide +kernel
theorem dX2_growth_15 : decode cX2_growth 15 = .ok (.iload_n 1, 1) := by decide +kernel
theorem dX2_growth_16 : decode cX2_growth 16 = .ok (.iconst 0, 1) := by decide +kernel
theorem dX2_growth_17 : decode cX2_growth 17 = .ok (.invokevirtual 47, 3) := by decide +kernel
theorem dX2_growth_20 : decode cX2_growth 20 = .ok (.aload_n 0, 1) := by decide +kernel
theorem dX2_growth_21 : decode cX2_growth 21 = .ok (.getfield 35, 3) := by decide +kernel
theorem dX2_growth_24 : decode cX2_growth 24 = .ok (.iconst 0, 1) := by decide +kernel
theorem dX2_growth_25 : decode cX2_growth 25 = .ok (.iaload, 1) := by decide +kernel
theorem dX2_growth_26 : decode cX2_growth 26 = .ok (.invokestatic 54, 3) := by decide +kernel
theorem dX2_growth_29 : decode cX2_growth 29 = .ok (.aload_n 0, 1) := by decide +kernel
theorem dX2_growth_30 : decode cX2_growth 30 = .ok (.iload_n 1, 1) := by decide +kernel
theorem dX2_growth_31 : decode cX2_growth 31 = .ok (.iconst 1, 1) := by decide +kernel
theorem dX2_growth_32 : decode cX2_growth 32 = .ok (.invokevirtual 47, 3) := by decide +kernel
theorem dX2_growth_35 : decode cX2_growth 35 = .ok (.aload_n 0, 1) := by decide +kernel
theorem dX2_growth_36 : decode cX2_growth 36 = .ok (.getfield 35, 3) := by decide +kernel
theorem dX2_growth_39 : decode cX2_growth 39 = .ok (.iconst 1, 1) := by decide +kernel
theorem dX2_growth_40 : decode cX2_growth 40 = .ok (.iaload, 1) := by decide +kernel
theorem dX2_growth_41 : decode cX2_growth 41 = .ok (.invokestatic 54, 3) := by decide +kernel
theorem dX2_growth_44 : decode cX2_growth 44 = .ok (.aload_n 0, 1) := by decide +kernel
theorem dX2_growth_45 : decode cX2_growth 45 = .ok (.iload_n 1, 1) := by decide +kernel
theorem dX2_growth_46 : decode cX2_growth 46 = .ok (.iconst 2, 1) := by decide +kernel
theorem dX2_growth_47 : decode cX2_growth 47 = .ok (.invokevirtual 47, 3) := by decide +kernel
theorem dX2_growth_50 : decode cX2_growth 50 = .ok (.aload_n 0, 1) := by decide +kernel
theorem dX2_growth_51 : decode cX2_growth 51 = .ok (.getfield 35, 3) := by decide +kernel
theorem dX2_growth_54 : decode cX2_growth 54 = .ok (.iconst 2, 1) := by decide +kernel
theorem dX2_growth_55 : decode cX2_growth 55 = .ok (.iaload, 1) := by decide +kernel
theorem dX2_growth_56 : decode cX2_growth 56 = .ok (.invokestatic 59, 3) := by decide +kernel
theorem dX2_growth_59 : decode cX2_growth 59 = .ok (.aload_n 0, 1) := by decide +kernel
theorem dX2_growth_60 : decode cX2_growth 60 = .ok (.iload_n 1, 1) := by decide +kernel
theorem dX2_growth_61 : decode cX2_growth 61 = .ok (.iconst 3, 1) := by decide +kernel
theorem dX2_growth_62 : decode cX2_growth 62 = .ok (.invokevirtual 47, 3) := by decide +kernel
theorem dX2_growth_65 : decode cX2_growth 65 = .ok (.aload_n 0, 1) := by decide +kernel
theorem dX2_growth_66 : decode cX2_growth 66 = .ok (.getfield 35, 3) := by decide +kernel
theorem dX2_growth_69 : decode cX2_growth 69 = .ok (.iconst 3, 1) := by decide +kernel
theorem dX2_growth_70 : decode cX2_growth 70 = .ok (.iaload, 1) := by decide +kernel
theorem dX2_growth_71 : decode cX2_growth 71 = .ok (.invokestatic 59, 3) := by decide +kernel
theorem dX2_growth_74 : decode cX2_growth 74 = .ok (.invokestatic 62, 3) := by decide +kernel
theorem dX2_growth_77 : decode cX2_growth 77 = .ok (.aload_n 0, 1) := by decide +kernel
theorem dX2_growth_78 : decode cX2_growth 78 = .ok (.iload_n 1, 1) := by decide +kernel
theorem dX2_growth_79 : decode cX2_growth 79 = .ok (.invokevirtual 70, 3) := by decide +kernel
theorem dX2_growth_82 : decode cX2_growth 82 = .ok (.isub, 1) := by decide +kernel
theorem dX2_growth_83 : decode cX2_growth 83 = .ok (.ireturn, 1) := by decide +kernel
theorem dX2_meets_0 : decode cX2_meets 0 = .ok (.iload_n 1, 1) := by decide +kernel
theorem dX2_meets_1 : decode cX2_meets 1 = .ok (.aload_n 0, 1) := by decide +kernel
theorem dX2_meets_2 : decode cX2_meets 2 = .ok (.getfield 35, 3) := by decide +kernel
theorem dX2_meets_5 : decode cX2_meets 5 = .ok (.iconst 2, 1) := by decide +kernel
theorem dX2_meets_6 : decode cX2_meets 6 = .ok (.iaload, 1) := by decide +kernel
theorem dX2_meets_7 : decode cX2_meets 7 = .ok (.if_icmp .gt 38, 3) := by decide +kernel
theorem dX2_meets_10 : decode cX2_meets 10 = .ok (.aload_n 0, 1) := by decide +kernel
theorem dX2_meets_11 : decode cX2_meets 11 = .ok (.getfield 35, 3) := by decide +kernel
theorem dX2_meets_14 : decode cX2_meets 14 = .ok (.iconst 0, 1) := by decide +kernel
theorem dX2_meets_15 : decode cX2_meets 15 = .ok (.iaload, 1) := by decide +kernel
theorem dX2_meets_16 : decode cX2_meets 16 = .ok (.iload_n 3, 1) := by decide +kernel
theorem dX2_meets_17 : decode cX2_meets 17 = .ok (.if_icmp .gt 28, 3) := by decide +kernel
theorem dX2_meets_20 : decode cX2_meets 20 = .ok (.iload_n 2, 1) := by decide +kernel
theorem dX2_meets_21 : decode cX2_meets 21 = .ok (.aload_n 0, 1) := by decide +kernel
theorem dX2_meets_22 : decode cX2_meets 22 = .ok (.getfield 35, 3) := by decide +kernel
theorem dX2_meets_25 : decode cX2_meets 25 = .ok (.iconst 3, 1) := by decide +kernel
theorem dX2_meets_26 : decode cX2_meets 26 = .ok (.iaload, 1) := by decide +kernel
theorem dX2_meets_27 : decode cX2_meets 27 = .ok (.if_icmp .gt 18, 3) := by decide +kernel
theorem dX2_meets_30 : decode cX2_meets 30 = .ok (.aload_n 0, 1) := by decide +kernel
theorem dX2_meets_31 : decode cX2_meets 31 = .ok (.getfield 35, 3) := by decide +kernel
theorem dX2_meets_34 : decode cX2_meets 34 = .ok (.iconst 1, 1) := by decide +kernel
theorem dX2_meets_35 : decode cX2_meets 35 = .ok (.iaload, 1) := by decide +kernel
theorem dX2_meets_36 : decode cX2_meets 36 = .ok (.iload 4, 2) := by decide +kernel
theorem dX2_meets_38 : decode cX2_meets 38 = .ok (.if_icmp .gt 7, 3) := by decide +kernel
theorem dX2_meets_41 : decode cX2_meets 41 = .ok (.iconst 1, 1) := by decide +kernel
theorem dX2_meets_42 : decode cX2_meets 42 = .ok (.goto 4, 3) := by decide +kernel
theorem dX2_meets_45 : decode cX2_meets 45 = .ok (.iconst 0, 1) := by decide +kernel
theorem dX2_meets_46 : decode cX2_meets 46 = .ok (.ireturn, 1) := by decide +kernel
theorem dX2_meetsAllotment_0 : decode cX2_meetsAllotment 0 = .ok (.aload_n 0, 1) := by decide +kernel
theorem dX2_meetsAllotment_1 : decode cX2_meetsAllotment 1 = .ok (.getfield 13, 3) := by decide +kernel
theorem dX2_meetsAllotment_4 : decode cX2_meetsAllotment 4 = .ok (.iload_n 1, 1) := by decide +kernel
theorem dX2_meetsAllotment_5 : decode cX2_meetsAllotment 5 = .ok (.iaload, 1) := by decide +kernel
theorem dX2_meetsAllotment_6 : decode cX2_meetsAllotment 6 = .ok (.iconst 1, 1) := by decide +kernel
theorem dX2_meetsAllotment_7 : decode cX2_meetsAllotment 7 = .ok (.if_icmp .ne 52, 3) := by decide +kernel
theorem dX2_meetsAllotment_10 : decode cX2_meetsAllotment 10 = .ok (.aload_n 0, 1) := by decide +kernel
theorem dX2_meetsAllotment_11 : decode cX2_meetsAllotment 11 = .ok (.aload_n 0, 1) := by decide +kernel
theorem dX2_meetsAllotment_12 : decode cX2_meetsAllotment 12 = .ok (.getfield 9, 3) := by decide +kernel
theorem dX2_meetsAllotment_15 : decode cX2_meetsAllotment 15 = .ok (.iconst 4, 1) := by decide +kernel
theorem dX2_meetsAllotment_16 : decode cX2_meetsAllotment 16 = .ok (.iload_n 1, 1) := by decide +kernel
theorem dX2_meetsAllotment_17 : decode cX2_meetsAllotment 17 = .ok (.imul, 1) := by decide +kernel
theorem dX2_meetsAllotment_18 : decode cX2_meetsAllotment 18 = .ok (.iaload, 1) := by decide +kernel
theorem dX2_meetsAllotment_19 : decode cX2_meetsAllotment 19 = .ok (.aload_n 0, 1) := by decide +kernel
theorem dX2_meetsAllotment_20 : decode cX2_meetsAllotment 20 = .ok (.getfield 9, 3) := by decide +kernel
theorem dX2_meetsAllotment_23 : decode cX2_meetsAllotment 23 = .ok (.iconst 4, 1) := by decide +kernel
theorem dX2_meetsAllotment_24 : decode cX2_meetsAllotment 24 = .ok (.iload_n 1, 1) := by decide +kernel
theorem dX2_meetsAllotment_25 : decode cX2_meetsAllotment 25 = .ok (.imul, 1) := by decide +kernel
theorem dX2_meetsAllotment_26 : decode cX2_meetsAllotment 26 = .ok (.iconst 1, 1) := by decide +kernel
theorem dX2_meetsAllotment_27 : decode cX2_meetsAllotment 27 = .ok (.iadd, 1) := by decide +kernel
theorem dX2_meetsAllotment_28 : decode cX2_meetsAllotment 28 = .ok (.iaload, 1) := by decide +kernel
theorem dX2_meetsAllotment_29 : decode cX2_meetsAllotment 29 = .ok (.aload_n 0, 1) := by decide +kernel
theorem dX2_meetsAllotment_30 : decode cX2_meetsAllotment 30 = .ok (.getfield 9, 3) := by decide +kernel
theorem dX2_meetsAllotment_33 : decode cX2_meetsAllotment 33 = .ok (.iconst 4, 1) := by decide +kernel
theorem dX2_meetsAllotment_34 : decode cX2_meetsAllotment 34 = .ok (.iload_n 1, 1) := by decide +kernel
theorem dX2_meetsAllotment_35 : decode cX2_meetsAllotment 35 = .ok (.imul, 1) := by decide +kernel
theorem dX2_meetsAllotment_36 : decode cX2_meetsAllotment 36 = .ok (.iconst 2, 1) := by decide +kernel
theorem dX2_meetsAllotment_37 : decode cX2_meetsAllotment 37 = .ok (.iadd, 1) := by decide +kernel
theorem dX2_meetsAllotment_38 : decode cX2_meetsAllotment 38 = .ok (.iaload, 1) := by decide +kernel
theorem dX2_meetsAllotment_39 : decode cX2_meetsAllotment 39 = .ok (.aload_n 0, 1) := by decide +kernel
theorem dX2_meetsAllotment_40 : decode cX2_meetsAllotment 40 = .ok (.getfield 9, 3) := by decide +kernel
theorem dX2_meetsAllotment_43 : decode cX2_meetsAllotment 43 = .ok (.iconst 4, 1) := by decide +kernel
theorem dX2_meetsAllotment_44 : decode cX2_meetsAllotment 44 = .ok (.iload_n 1, 1) := by decide +kernel
theorem dX2_meetsAllotment_45 : decode cX2_meetsAllotment 45 = .ok (.imul, 1) := by decide +kernel
theorem dX2_meetsAllotment_46 : decode cX2_meetsAllotment 46 = .ok (.iconst 3, 1) := by decide +kernel
theorem dX2_meetsAllotment_47 : decode cX2_meetsAllotment 47 = .ok (.iadd, 1) := by decide +kernel
theorem dX2_meetsAllotment_48 : decode cX2_meetsAllotment 48 = .ok (.iaload, 1) := by decide +kernel
theorem dX2_meetsAllotment_49 : decode cX2_meetsAllotment 49 = .ok (.invokevirtual 73, 3) := by decide +kernel
theorem dX2_meetsAllotment_52 : decode cX2_meetsAllotment 52 = .ok (.ifCond .eq 7, 3) := by decide +kernel
theorem dX2_meetsAllotment_55 : decode cX2_meetsAllotment 55 = .ok (.iconst 1, 1) := by decide +kernel
theorem dX2_meetsAllotment_56 : decode cX2_meetsAllotment 56 = .ok (.goto 4, 3) := by decide +kernel
theorem dX2_meetsAllotment_59 : decode cX2_meetsAllotment 59 = .ok (.iconst 0, 1) := by decide +kernel
theorem dX2_meetsAllotment_60 : decode cX2_meetsAllotment 60 = .ok (.ireturn, 1) := by decide +kernel
theorem dX2_meetsHedge_0 : decode cX2_meetsHedge 0 = .ok (.aload_n 0, 1) := by decide +kernel
theorem dX2_meetsHedge_1 : decode cX2_meetsHedge 1 = .ok (.aload_n 0, 1) := by decide +kernel
theorem dX2_meetsHedge_2 : decode cX2_meetsHedge 2 = .ok (.iload_n 1, 1) := by decide +kernel
theorem dX2_meetsHedge_3 : decode cX2_meetsHedge 3 = .ok (.iconst 0, 1) := by decide +kernel
theorem dX2_meetsHedge_4 : decode cX2_meetsHedge 4 = .ok (.invokevirtual 47, 3) := by decide +kernel
theorem dX2_meetsHedge_7 : decode cX2_meetsHedge 7 = .ok (.aload_n 0, 1) := by decide +kernel
theorem dX2_meetsHedge_8 : decode cX2_meetsHedge 8 = .ok (.iload_n 1, 1) := by decide +kernel
theorem dX2_meetsHedge_9 : decode cX2_meetsHedge 9 = .ok (.iconst 1, 1) := by decide +kernel
theorem dX2_meetsHedge_10 : decode cX2_meetsHedge 10 = .ok (.invokevirtual 47, 3) := by decide +kernel
theorem dX2_meetsHedge_13 : decode cX2_meetsHedge 13 = .ok (.aload_n 0, 1) := by decide +kernel
theorem dX2_meetsHedge_14 : decode cX2_meetsHedge 14 = .ok (.iload_n 1, 1) := by decide +kernel
theorem dX2_meetsHedge_15 : decode cX2_meetsHedge 15 = .ok (.iconst 2, 1) := by decide +kernel
theorem dX2_meetsHedge_16 : decode cX2_meetsHedge 16 = .ok (.invokevirtual 47, 3) := by decide +kernel
theorem dX2_meetsHedge_19 : decode cX2_meetsHedge 19 = .ok (.aload_n 0, 1) := by decide +kernel
theorem dX2_meetsHedge_20 : decode cX2_meetsHedge 20 = .ok (.iload_n 1, 1) := by decide +kernel
theorem dX2_meetsHedge_21 : decode cX2_meetsHedge 21 = .ok (.iconst 3, 1) := by decide +kernel
theorem dX2_meetsHedge_22 : decode cX2_meetsHedge 22 = .ok (.invokevirtual 47, 3) := by decide +kernel
theorem dX2_meetsHedge_25 : decode cX2_meetsHedge 25 = .ok (.invokevirtual 73, 3) := by decide +kernel
theorem dX2_meetsHedge_28 : decode cX2_meetsHedge 28 = .ok (.ireturn, 1) := by decide +kernel
theorem dX2_goDown_0 : decode cX2_goDown 0 = .ok (.aload_n 0, 1) := by decide +kernel
theorem dX2_goDown_1 : decode cX2_goDown 1 = .ok (.iconst 0, 1) := by decide +kernel
theorem dX2_goDown_2 : decode cX2_goDown 2 = .ok (.putfield 77, 3) := by decide +kernel
theorem dX2_goDown_5 : decode cX2_goDown 5 = .ok (.aload_n 0, 1) := by decide +kernel
theorem dX2_goDown_6 : decode cX2_goDown 6 = .ok (.getfield 29, 3) := by decide +kernel
theorem dX2_goDown_9 : decode cX2_goDown 9 = .ok (.iconst 0, 1) := by decide +kernel
theorem dX2_goDown_10 : decode cX2_goDown 10 = .ok (.aload_n 0, 1) := by decide +kernel
theorem dX2_goDown_11 : decode cX2_goDown 11 = .ok (.getfield 80, 3) := by decide +kernel
theorem dX2_goDown_14 : decode cX2_goDown 14 = .ok (.iastore, 1) := by decide +kernel
theorem dX2_goDown_15 : decode cX2_goDown 15 = .ok (.aload_n 0, 1) := by decide +kernel
theorem dX2_goDown_16 : decode cX2_goDown 16 = .ok (.getfield 26, 3) := by decide +kernel
theorem dX2_goDown_19 : decode cX2_goDown 19 = .ok (.aload_n 0, 1) := by decide +kernel
theorem dX2_goDown_20 : decode cX2_goDown 20 = .ok (.getfield 29, 3) := by decide +kernel
theorem dX2_goDown_23 : decode cX2_goDown 23 = .ok (.aload_n 0, 1) := by decide +kernel
theorem dX2_goDown_24 : decode cX2_goDown 24 = .ok (.getfield 77, 3) := by decide +kernel
theorem dX2_goDown_27 : decode cX2_goDown 27 = .ok (.iaload, 1) := by decide +kernel
theorem dX2_goDown_28 : decode cX2_goDown 28 = .ok (.iaload, 1) := by decide +kernel
theorem dX2_goDown_29 : decode cX2_goDown 29 = .ok (.ifCond .le 129, 3) := by decide +kernel
theorem dX2_goDown_32 : decode cX2_goDown 32 = .ok (.aload_n 0, 1) := by decide +kernel
theorem dX2_goDown_33 : decode cX2_goDown 33 = .ok (.getfield 29, 3) := by decide +kernel
theorem dX2_goDown_36 : decode cX2_goDown 36 = .ok (.aload_n 0, 1) := by decide +kernel
theorem dX2_goDown_37 : decode cX2_goDown 37 = .ok (.getfield 77, 3) := by decide +kernel
theorem dX2_goDown_40 : decode cX2_goDown 40 = .ok (.iaload, 1) := by decide +kernel
theorem dX2_goDown_41 : decode cX2_goDown 41 = .ok (.istore_n 1, 1) := by decide +kernel
theorem dX2_goDown_42 : decode cX2_goDown 42 = .ok (.iconst 0, 1) := by decide +kernel
theorem dX2_goDown_43 : decode cX2_goDown 43 = .ok (.istore_n 2, 1) := by decide +kernel
theorem dX2_goDown_44 : decode cX2_goDown 44 = .ok (.iconst 1, 1) := by decide +kernel
theorem dX2_goDown_45 : decode cX2_goDown 45 = .ok (.istore_n 3, 1) := by decide +kernel
theorem dX2_goDown_46 : decode cX2_goDown 46 = .ok (.iload_n 3, 1) := by decide +kernel
theorem dX2_goDown_47 : decode cX2_goDown 47 = .ok (.aload_n 0, 1) := by decide +kernel
theorem dX2_goDown_48 : decode cX2_goDown 48 = .ok (.getfield 20, 3) := by decide +kernel
theorem dX2_goDown_51 : decode cX2_goDown 51 = .ok (.iload_n 1, 1) := by decide +kernel
theorem dX2_goDown_52 : decode cX2_goDown 52 = .ok (.iaload, 1) := by decide +kernel
theorem dX2_goDown_53 : decode cX2_goDown 53 = .ok (.if_icmp .ge 67, 3) := by decide +kernel
theorem dX2_goDown_56 : decode cX2_goDown 56 = .ok (.aload_n 0, 1) := by decide +kernel
theorem dX2_goDown_57 : decode cX2_goDown 57 = .ok (.aload_n 0, 1) := by decide +kernel
theorem dX2_goDown_58 : decode cX2_goDown 58 = .ok (.iload_n 1, 1) := by decide +kernel
theorem dX2_goDown_59 : decode cX2_goDown 59 = .ok (.iload_n 3, 1) := by decide +kernel
theorem dX2_goDown_60 : decode cX2_goDown 60 = .ok (.invokevirtual 44, 3) := by decide +kernel
theorem dX2_goDown_63 : decode cX2_goDown 63 = .ok (.invokevirtual 83, 3) := by decide +kernel
theorem dX2_goDown_66 : decode cX2_goDown 66 = .ok (.aload_n 0, 1) := by decide +kernel
theorem dX2_goDown_67 : decode cX2_goDown 67 = .ok (.aload_n 0, 1) := by decide +kernel
theorem dX2_goDown_68 : decode cX2_goDown 68 = .ok (.iload_n 1, 1) := by decide +kernel
theorem dX2_goDown_69 : decode cX2_goDown 69 = .ok (.iload_n 2, 1) := by decide +kernel
theorem dX2_goDown_70 : decode cX2_goDown 70 = .ok (.invokevirtual 44, 3) := by decide +kernel
theorem dX2_goDown_73 : decode cX2_goDown 73 = .ok (.invokevirtual 83, 3) := by decide +kernel
theorem dX2_goDown_76 : decode cX2_goDown 76 = .ok (.isub, 1) := by decide +kernel
theorem dX2_goDown_77 : decode cX2_goDown 77 = .ok (.istore 4, 2) := by decide +kernel
theorem dX2_goDown_79 : decode cX2_goDown 79 = .ok (.iload 4, 2) := by decide +kernel
theorem dX2_goDown_81 : decode cX2_goDown 81 = .ok (.ifCond .lt 31, 3) := by decide +kernel
theorem dX2_goDown_84 : decode cX2_goDown 84 = .ok (.iload 4, 2) := by decide +kernel
theorem dX2_goDown_86 : decode cX2_goDown 86 = .ok (.ifCond .ne 28, 3) := by decide +kernel
theorem dX2_goDown_89 : decode cX2_goDown 89 = .ok (.aload_n 0, 1) := by decide +kernel
theorem dX2_goDown_90 : decode cX2_goDown 90 = .ok (.aload_n 0, 1) := by decide +kernel
theorem dX2_goDown_91 : decode cX2_goDown 91 = .ok (.iload_n 1, 1) := by decide +kernel
theorem dX2_goDown_92 : decode cX2_goDown 92 = .ok (.iload_n 3, 1) := by decide +kernel
theorem dX2_goDown_93 : decode cX2_goDown 93 = .ok (.invokevirtual 44, 3) := by decide +kernel
theorem dX2_goDown_96 : decode cX2_goDown 96 = .ok (.invokevirtual 70, 3) := by decide +kernel
theorem dX2_goDown_99 : decode cX2_goDown 99 = .ok (.aload_n 0, 1) := by decide +kernel
theorem dX2_goDown_100 : decode cX2_goDown 100 = .ok (.aload_n 0, 1) := by decide +kernel
theorem dX2_goDown_101 : decode cX2_goDown 101 = .ok (.iload_n 1, 1) := by decide +kernel
theorem dX2_goDown_102 : decode cX2_goDown 102 = .ok (.iload_n 2, 1) := by decide +kernel
theorem dX2_goDown_103 : decode cX2_goDown 103 = .ok (.invokevirtual 44, 3) := by decide +kernel
theorem dX2_goDown_106 : decode cX2_goDown 106 = .ok (.invokevirtual 70, 3) := by decide +kernel
theorem dX2_goDown_109 : decode cX2_goDown 109 = .ok (.if_icmp .ge 5, 3) := by decide +kernel
theorem dX2_goDown_112 : decode cX2_goDown 112 = .ok (.iload_n 3, 1) := by decide +kernel
theorem dX2_goDown_113 : decode cX2_goDown 113 = .ok (.istore_n 2, 1) := by decide +kernel
theorem dX2_goDown_114 : decode cX2_goDown 114 = .ok (.iinc 3 1, 3) := by decide +kernel
theorem dX2_goDown_117 : decode cX2_goDown 117 = .ok (.goto (-71), 3) := by decide +kernel
theorem dX2_goDown_120 : decode cX2_goDown 120 = .ok (.aload_n 0, 1) := by decide +kernel
theorem dX2_goDown_121 : decode cX2_goDown 121 = .ok (.getfield 32, 3) := by decide +kernel
theorem dX2_goDown_124 : decode cX2_goDown 124 = .ok (.aload_n 0, 1) := by decide +kernel
theorem dX2_goDown_125 : decode cX2_goDown 125 = .ok (.getfield 77, 3) := by decide +kernel
theorem dX2_goDown_128 : decode cX2_goDown 128 = .ok (.iload_n 2, 1) := by decide +kernel
theorem dX2_goDown_129 : decode cX2_goDown 129 = .ok (.iastore, 1) := by decide +kernel
theorem dX2_goDown_130 : decode cX2_goDown 130 = .ok (.aload_n 0, 1) := by decide +kernel
theorem dX2_goDown_131 : decode cX2_goDown 131 = .ok (.dup, 1) := by decide +kernel
theorem dX2_goDown_132 : decode cX2_goDown 132 = .ok (.getfield 77, 3) := by decide +kernel
theorem dX2_goDown_135 : decode cX2_goDown 135 = .ok (.iconst 1, 1) := by decide +kernel
theorem dX2_goDown_136 : decode cX2_goDown 136 = .ok (.iadd, 1) := by decide +kernel
theorem dX2_goDown_137 : decode cX2_goDown 137 = .ok (.putfield 77, 3) := by decide +kernel
theorem dX2_goDown_140 : decode cX2_goDown 140 = .ok (.aload_n 0, 1) := by decide +kernel
theorem dX2_goDown_141 : decode cX2_goDown 141 = .ok (.getfield 29, 3) := by decide +kernel
theorem dX2_goDown_144 : decode cX2_goDown 144 = .ok (.aload_n 0, 1) := by decide +kernel
theorem dX2_goDown_145 : decode cX2_goDown 145 = .ok (.getfield 77, 3) := by decide +kernel
theorem dX2_goDown_148 : decode cX2_goDown 148 = .ok (.aload_n 0, 1) := by decide +kernel
theorem dX2_goDown_149 : decode cX2_goDown 149 = .ok (.iload_n 1, 1) := by decide +kernel
theorem dX2_goDown_150 : decode cX2_goDown 150 = .ok (.iload_n 2, 1) := by decide +kernel
theorem dX2_goDown_151 : decode cX2_goDown 151 = .ok (.invokevirtual 44, 3) := by decide +kernel
theorem dX2_goDown_154 : decode cX2_goDown 154 = .ok (.iastore, 1) := by decide +kernel
theorem dX2_goDown_155 : decode cX2_goDown 155 = .ok (.goto (-140), 3) := by decide +kernel
theorem dX2_goDown_158 : decode cX2_goDown 158 = .ok (.return_, 1) := by decide +kernel
theorem dX2_put_0 : decode cX2_put 0 = .ok (.aload_n 0, 1) := by decide +kernel
theorem dX2_put_1 : decode cX2_put 1 = .ok (.getfield 20, 3) := by decide +kernel
theorem dX2_put_4 : decode cX2_put 4 = .ok (.iload_n 1, 1) := by decide +kernel
theorem dX2_put_5 : decode cX2_put 5 = .ok (.iaload, 1) := by decide +kernel
theorem dX2_put_6 : decode cX2_put 6 = .ok (.istore 4, 2) := by decide +kernel
theorem dX2_put_8 : decode cX2_put 8 = .ok (.iload 4, 2) := by decide +kernel
theorem dX2_put_10 : decode cX2_put 10 = .ok (.iload_n 2, 1) := by decide +kernel
theorem dX2_put_11 : decode cX2_put 11 = .ok (.if_icmp .le 33, 3) := by decide +kernel
theorem dX2_put_14 : decode cX2_put 14 = .ok (.aload_n 0, 1) := by decide +kernel
theorem dX2_put_15 : decode cX2_put 15 = .ok (.getfield 23, 3) := by decide +kernel
theorem dX2_put_18 : decode cX2_put 18 = .ok (.iconst 5, 1) := by decide +kernel
theorem dX2_put_19 : decode cX2_put 19 = .ok (.iload_n 1, 1) := by decide +kernel
theorem dX2_put_20 : decode cX2_put 20 = .ok (.imul, 1) := by decide +kernel
theorem dX2_put_21 : decode cX2_put 21 = .ok (.iload 4, 2) := by decide +kernel
theorem dX2_put_23 : decode cX2_put 23 = .ok (.iadd, 1) := by decide +kernel
theorem dX2_put_24 : decode cX2_put 24 = .ok (.aload_n 0, 1) := by decide +kernel
theorem dX2_put_25 : decode cX2_put 25 = .ok (.getfield 23, 3) := by decide +kernel
theorem dX2_put_28 : decode cX2_put 28 = .ok (.iconst 5, 1) := by decide +kernel
theorem dX2_put_29 : decode cX2_put 29 = .ok (.iload_n 1, 1) := by decide +kernel
theorem dX2_put_30 : decode cX2_put 30 = .ok (.imul, 1) := by decide +kernel
theorem dX2_put_31 : decode cX2_put 31 = .ok (.iload 4, 2) := by decide +kernel
theorem dX2_put_33 : decode cX2_put 33 = .ok (.iadd, 1) := by decide +kernel
theorem dX2_put_34 : decode cX2_put 34 = .ok (.iconst 1, 1) := by decide +kernel
theorem dX2_put_35 : decode cX2_put 35 = .ok (.isub, 1) := by decide +kernel
theorem dX2_put_36 : decode cX2_put 36 = .ok (.iaload, 1) := by decide +kernel
theorem dX2_put_37 : decode cX2_put 37 = .ok (.iastore, 1) := by decide +kernel
theorem dX2_put_38 : decode cX2_put 38 = .ok (.iinc 4 (-1), 3) := by decide +kernel
theorem dX2_put_41 : decode cX2_put 41 = .ok (.goto (-33), 3) := by decide +kernel
theorem dX2_put_44 : decode cX2_put 44 = .ok (.aload_n 0, 1) := by decide +kernel
theorem dX2_put_45 : decode cX2_put 45 = .ok (.getfield 23, 3) := by decide +kernel
theorem dX2_put_48 : decode cX2_put 48 = .ok (.iconst 5, 1) := by decide +kernel
theorem dX2_put_49 : decode cX2_put 49 = .ok (.iload_n 1, 1) := by decide +kernel
theorem dX2_put_50 : decode cX2_put 50 = .ok (.imul, 1) := by decide +kernel
theorem dX2_put_51 : decode cX2_put 51 = .ok (.iload_n 2, 1) := by decide +kernel
theorem dX2_put_52 : decode cX2_put 52 = .ok (.iadd, 1) := by decide +kernel
theorem dX2_put_53 : decode cX2_put 53 = .ok (.iload_n 3, 1) := by decide +kernel
theorem dX2_put_54 : decode cX2_put 54 = .ok (.iastore, 1) := by decide +kernel
theorem dX2_put_55 : decode cX2_put 55 = .ok (.aload_n 0, 1) := by decide +kernel
theorem dX2_put_56 : decode cX2_put 56 = .ok (.getfield 20, 3) := by decide +kernel
theorem dX2_put_59 : decode cX2_put 59 = .ok (.iload_n 1, 1) := by decide +kernel
theorem dX2_put_60 : decode cX2_put 60 = .ok (.dup2, 1) := by decide +kernel
theorem dX2_put_61 : decode cX2_put 61 = .ok (.iaload, 1) := by decide +kernel
theorem dX2_put_62 : decode cX2_put 62 = .ok (.iconst 1, 1) := by decide +kernel
theorem dX2_put_63 : decode cX2_put 63 = .ok (.iadd, 1) := by decide +kernel
theorem dX2_put_64 : decode cX2_put 64 = .ok (.iastore, 1) := by decide +kernel
theorem dX2_put_65 : decode cX2_put 65 = .ok (.return_, 1) := by decide +kernel
theorem dX2_spread_0 : decode cX2_spread 0 = .ok (.aload_n 0, 1) := by decide +kernel
theorem dX2_spread_1 : decode cX2_spread 1 = .ok (.iload_n 1, 1) := by decide +kernel
theorem dX2_spread_2 : decode cX2_spread 2 = .ok (.iconst 0, 1) := by decide +kernel
theorem dX2_spread_3 : decode cX2_spread 3 = .ok (.iload_n 2, 1) := by decide +kernel
theorem dX2_spread_4 : decode cX2_spread 4 = .ok (.invokevirtual 50, 3) := by decide +kernel
theorem dX2_spread_7 : decode cX2_spread 7 = .ok (.istore_n 3, 1) := by decide +kernel
theorem dX2_spread_8 : decode cX2_spread 8 = .ok (.iload_n 3, 1) := by decide +kernel
theorem dX2_spread_9 : decode cX2_spread 9 = .ok (.istore 4, 2) := by decide +kernel
theorem dX2_spread_11 : decode cX2_spread 11 = .ok (.iconst 1, 1) := by decide +kernel
theorem dX2_spread_12 : decode cX2_spread 12 = .ok (.istore 5, 2) := by decide +kernel
theorem dX2_spread_14 : decode cX2_spread 14 = .ok (.iload 5, 2) := by decide +kernel
theorem dX2_spread_16 : decode cX2_spread 16 = .ok (.aload_n 0, 1) := by decide +kernel
theorem dX2_spread_17 : decode cX2_spread 17 = .ok (.getfield 20, 3) := by decide +kernel
theorem dX2_spread_20 : decode cX2_spread 20 = .ok (.iload_n 1, 1) := by decide +kernel
theorem dX2_spread_21 : decode cX2_spread 21 = .ok (.iaload, 1) := by decide +kernel
theorem dX2_spread_22 : decode cX2_spread 22 = .ok (.if_icmp .ge 37, 3) := by decide +kernel
theorem dX2_spread_25 : decode cX2_spread 25 = .ok (.iload_n 3, 1) := by decide +kernel
theorem dX2_spread_26 : decode cX2_spread 26 = .ok (.aload_n 0, 1) := by decide +kernel
theorem dX2_spread_27 : decode cX2_spread 27 = .ok (.iload_n 1, 1) := by decide +kernel
theorem dX2_spread_28 : decode cX2_spread 28 = .ok (.iload 5, 2) := by decide +kernel
theorem dX2_spread_30 : decode cX2_spread 30 = .ok (.iload_n 2, 1) := by decide +kernel
theorem dX2_spread_31 : decode cX2_spread 31 = .ok (.invokevirtual 50, 3) := by decide +kernel
theorem dX2_spread_34 : decode cX2_spread 34 = .ok (.invokestatic 54, 3) := by decide +kernel
theorem dX2_spread_37 : decode cX2_spread 37 = .ok (.istore_n 3, 1) := by decide +kernel
theorem dX2_spread_38 : decode cX2_spread 38 = .ok (.iload 4, 2) := by decide +kernel
theorem dX2_spread_40 : decode cX2_spread 40 = .ok (.aload_n 0, 1) := by decide +kernel
theorem dX2_spread_41 : decode cX2_spread 41 = .ok (.iload_n 1, 1) := by decide +kernel
theorem dX2_spread_42 : decode cX2_spread 42 = .ok (.iload 5, 2) := by decide +kernel
theorem dX2_spread_44 : decode cX2_spread 44 = .ok (.iload_n 2, 1) := by decide +kernel
theorem dX2_spread_45 : decode cX2_spread 45 = .ok (.invokevirtual 50, 3) := by decide +kernel
theorem dX2_spread_48 : decode cX2_spread 48 = .ok (.invokestatic 59, 3) := by decide +kernel
theorem dX2_spread_51 : decode cX2_spread 51 = .ok (.istore 4, 2) := by decide +kernel
theorem dX2_spread_53 : decode cX2_spread 53 = .ok (.iinc 5 1, 3) := by decide +kernel
theorem dX2_spread_56 : decode cX2_spread 56 = .ok (.goto (-42), 3) := by decide +kernel
theorem dX2_spread_59 : decode cX2_spread 59 = .ok (.iload 4, 2) := by decide +kernel
theorem dX2_spread_61 : decode cX2_spread 61 = .ok (.iload_n 3, 1) := by decide +kernel
theorem dX2_spread_62 : decode cX2_spread 62 = .ok (.isub, 1) := by decide +kernel
theorem dX2_spread_63 : decode cX2_spread 63 = .ok (.ireturn, 1) := by decide +kernel
theorem dX2_sort_0 : decode cX2_sort 0 = .ok (.iconst 1, 1) := by decide +kernel
theorem dX2_sort_1 : decode cX2_sort 1 = .ok (.istore_n 3, 1) := by decide +kernel
theorem dX2_sort_2 : decode cX2_sort 2 = .ok (.iload_n 3, 1) := by decide +kernel
theorem dX2_sort_3 : decode cX2_sort 3 = .ok (.aload_n 0, 1) := by decide +kernel
theorem dX2_sort_4 : decode cX2_sort 4 = .ok (.getfield 20, 3) := by decide +kernel
theorem dX2_sort_7 : decode cX2_sort 7 = .ok (.iload_n 1, 1) := by decide +kernel
theorem dX2_sort_8 : decode cX2_sort 8 = .ok (.iaload, 1) := by decide +kernel
theorem dX2_sort_9 : decode cX2_sort 9 = .ok (.if_icmp .ge 88, 3) := by decide +kernel
theorem dX2_sort_12 : decode cX2_sort 12 = .ok (.iload_n 3, 1) := by decide +kernel
theorem dX2_sort_13 : decode cX2_sort 13 = .ok (.istore 4, 2) := by decide +kernel
theorem dX2_sort_15 : decode cX2_sort 15 = .ok (.iload 4, 2) := by decide +kernel
theorem dX2_sort_17 : decode cX2_sort 17 = .ok (.ifCond .le 74, 3) := by decide +kernel
theorem dX2_sort_20 : decode cX2_sort 20 = .ok (.aload_n 0, 1) := by decide +kernel
theorem dX2_sort_21 : decode cX2_sort 21 = .ok (.iload_n 1, 1) := by decide +kernel
theorem dX2_sort_22 : decode cX2_sort 22 = .ok (.iload 4, 2) := by decide +kernel
theorem dX2_sort_24 : decode cX2_sort 24 = .ok (.iconst 1, 1) := by decide +kernel
theorem dX2_sort_25 : decode cX2_sort 25 = .ok (.isub, 1) := by decide +kernel
theorem dX2_sort_26 : decode cX2_sort 26 = .ok (.iload_n 2, 1) := by decide +kernel
theorem dX2_sort_27 : decode cX2_sort 27 = .ok (.invokevirtual 50, 3) := by decide +kernel
theorem dX2_sort_30 : decode cX2_sort 30 = .ok (.aload_n 0, 1) := by decide +kernel
theorem dX2_sort_31 : decode cX2_sort 31 = .ok (.iload_n 1, 1) := by decide +kernel
theorem dX2_sort_32 : decode cX2_sort 32 = .ok (.iload 4, 2) := by decide +kernel
theorem dX2_sort_34 : decode cX2_sort 34 = .ok (.iload_n 2, 1) := by decide +kernel
theorem dX2_sort_35 : decode cX2_sort 35 = .ok (.invokevirtual 50, 3) := by decide +kernel
theorem dX2_sort_38 : decode cX2_sort 38 = .ok (.if_icmp .le 53, 3) := by decide +kernel
theorem dX2_sort_41 : decode cX2_sort 41 = .ok (.aload_n 0, 1) := by decide +kernel
theorem dX2_sort_42 : decode cX2_sort 42 = .ok (.iload_n 1, 1) := by decide +kernel
theorem dX2_sort_43 : decode cX2_sort 43 = .ok (.iload 4, 2) := by decide +kernel
theorem dX2_sort_45 : decode cX2_sort 45 = .ok (.invokevirtual 44, 3) := by decide +kernel
theorem dX2_sort_48 : decode cX2_sort 48 = .ok (.istore 5, 2) := by decide +kernel
theorem dX2_sort_50 : decode cX2_sort 50 = .ok (.aload_n 0, 1) := by decide +kernel
theorem dX2_sort_51 : decode cX2_sort 51 = .ok (.getfield 23, 3) := by decide +kernel
theorem dX2_sort_54 : decode cX2_sort 54 = .ok (.iconst 5, 1) := by decide +kernel
theorem dX2_sort_55 : decode cX2_sort 55 = .ok (.iload_n 1, 1) := by decide +kernel
theorem dX2_sort_56 : decode cX2_sort 56 = .ok (.imul, 1) := by decide +kernel
theorem dX2_sort_57 : decode cX2_sort 57 = .ok (.iload 4, 2) := by decide +kernel
theorem dX2_sort_59 : decode cX2_sort 59 = .ok (.iadd, 1) := by decide +kernel
theorem dX2_sort_60 : decode cX2_sort 60 = .ok (.aload_n 0, 1) := by decide +kernel
theorem dX2_sort_61 : decode cX2_sort 61 = .ok (.iload_n 1, 1) := by decide +kernel
theorem dX2_sort_62 : decode cX2_sort 62 = .ok (.iload 4, 2) := by decide +kernel
theorem dX2_sort_64 : decode cX2_sort 64 = .ok (.iconst 1, 1) := by decide +kernel
theorem dX2_sort_65 : decode cX2_sort 65 = .ok (.isub, 1) := by decide +kernel
theorem dX2_sort_66 : decode cX2_sort 66 = .ok (.invokevirtual 44, 3) := by decide +kernel
theorem dX2_sort_69 : decode cX2_sort 69 = .ok (.iastore, 1) := by decide +kernel
theorem dX2_sort_70 : decode cX2_sort 70 = .ok (.aload_n 0, 1) := by decide +kernel
theorem dX2_sort_71 : decode cX2_sort 71 = .ok (.getfield 23, 3) := by decide +kernel
theorem dX2_sort_74 : decode cX2_sort 74 = .ok (.iconst 5, 1) := by decide +kernel
theorem dX2_sort_75 : decode cX2_sort 75 = .ok (.iload_n 1, 1) := by decide +kernel
theorem dX2_sort_76 : decode cX2_sort 76 = .ok (.imul, 1) := by decide +kernel
theorem dX2_sort_77 : decode cX2_sort 77 = .ok (.iload 4, 2) := by decide +kernel
theorem dX2_sort_79 : decode cX2_sort 79 = .ok (.iadd, 1) := by decide +kernel
theorem dX2_sort_80 : decode cX2_sort 80 = .ok (.iconst 1, 1) := by decide +kernel
theorem dX2_sort_81 : decode cX2_sort 81 = .ok (.isub, 1) := by decide +kernel
theorem dX2_sort_82 : decode cX2_sort 82 = .ok (.iload 5, 2) := by decide +kernel
theorem dX2_sort_84 : decode cX2_sort 84 = .ok (.iastore, 1) := by decide +kernel
theorem dX2_sort_85 : decode cX2_sort 85 = .ok (.iinc 4 (-1), 3) := by decide +kernel
theorem dX2_sort_88 : decode cX2_sort 88 = .ok (.goto (-73), 3) := by decide +kernel
theorem dX2_sort_91 : decode cX2_sort 91 = .ok (.iinc 3 1, 3) := by decide +kernel
theorem dX2_sort_94 : decode cX2_sort 94 = .ok (.goto (-92), 3) := by decide +kernel
theorem dX2_sort_97 : decode cX2_sort 97 = .ok (.return_, 1) := by decide +kernel
theorem dX2_splitOff_0 : decode cX2_splitOff 0 = .ok (.aload_n 0, 1) := by decide +kernel
theorem dX2_splitOff_1 : decode cX2_splitOff 1 = .ok (.iload_n 1, 1) := by decide +kernel
theorem dX2_splitOff_2 : decode cX2_splitOff 2 = .ok (.aload_n 0, 1) := by decide +kernel
theorem dX2_splitOff_3 : decode cX2_splitOff 3 = .ok (.iload_n 1, 1) := by decide +kernel
theorem dX2_splitOff_4 : decode cX2_splitOff 4 = .ok (.iconst 0, 1) := by decide +kernel
theorem dX2_splitOff_5 : decode cX2_splitOff 5 = .ok (.invokevirtual 86, 3) := by decide +kernel
theorem dX2_splitOff_8 : decode cX2_splitOff 8 = .ok (.aload_n 0, 1) := by decide +kernel
theorem dX2_splitOff_9 : decode cX2_splitOff 9 = .ok (.iload_n 1, 1) := by decide +kernel
theorem dX2_splitOff_10 : decode cX2_splitOff 10 = .ok (.iconst 1, 1) := by decide +kernel
theorem dX2_splitOff_11 : decode cX2_splitOff 11 = .ok (.invokevirtual 86, 3) := by decide +kernel
theorem dX2_splitOff_14 : decode cX2_splitOff 14 = .ok (.if_icmp .lt 7, 3) := by decide +kernel
theorem dX2_splitOff_17 : decode cX2_splitOff 17 = .ok (.iconst 0, 1) := by decide +kernel
theorem dX2_splitOff_18 : decode cX2_splitOff 18 = .ok (.goto 4, 3) := by decide +kernel
theorem dX2_splitOff_21 : decode cX2_splitOff 21 = .ok (.iconst 1, 1) := by decide +kernel
theorem dX2_splitOff_22 : decode cX2_splitOff 22 = .ok (.invokevirtual 89, 3) := by decide +kernel
theorem dX2_splitOff_25 : decode cX2_splitOff 25 = .ok (.aload_n 0, 1) := by decide +kernel
theorem dX2_splitOff_26 : decode cX2_splitOff 26 = .ok (.getfield 16, 3) := by decide +kernel
theorem dX2_splitOff_29 : decode cX2_splitOff 29 = .ok (.istore_n 2, 1) := by decide +kernel
theorem dX2_splitOff_30 : decode cX2_splitOff 30 = .ok (.aload_n 0, 1) := by decide +kernel
theorem dX2_splitOff_31 : decode cX2_splitOff 31 = .ok (.dup, 1) := by decide +kernel
theorem dX2_splitOff_32 : decode cX2_splitOff 32 = .ok (.getfield 16, 3) := by decide +kernel
theorem dX2_splitOff_35 : decode cX2_splitOff 35 = .ok (.iconst 1, 1) := by decide +kernel
theorem dX2_splitOff_36 : decode cX2_splitOff 36 = .ok (.iadd, 1) := by decide +kernel
theorem dX2_splitOff_37 : decode cX2_splitOff 37 = .ok (.putfield 16, 3) := by decide +kernel
theorem dX2_splitOff_40 : decode cX2_splitOff 40 = .ok (.aload_n 0, 1) := by decide +kernel
theorem dX2_splitOff_41 : decode cX2_splitOff 41 = .ok (.getfield 26, 3) := by decide +kernel
theorem dX2_splitOff_44 : decode cX2_splitOff 44 = .ok (.iload_n 2, 1) := by decide +kernel
theorem dX2_splitOff_45 : decode cX2_splitOff 45 = .ok (.aload_n 0, 1) := by decide +kernel
theorem dX2_splitOff_46 : decode cX2_splitOff 46 = .ok (.getfield 26, 3) := by decide +kernel
theorem dX2_splitOff_49 : decode cX2_splitOff 49 = .ok (.iload_n 1, 1) := by decide +kernel
theorem dX2_splitOff_50 : decode cX2_splitOff 50 = .ok (.iaload, 1) := by decide +kernel
theorem dX2_splitOff_51 : decode cX2_splitOff 51 = .ok (.iastore, 1) := by decide +kernel
theorem dX2_splitOff_52 : decode cX2_splitOff 52 = .ok (.iconst 3, 1) := by decide +kernel
theorem dX2_splitOff_53 : decode cX2_splitOff 53 = .ok (.istore_n 3, 1) := by decide +kernel
theorem dX2_splitOff_54 : decode cX2_splitOff 54 = .ok (.iload_n 3, 1) := by decide +kernel
theorem dX2_splitOff_55 : decode cX2_splitOff 55 = .ok (.iconst 5, 1) := by decide +kernel
theorem dX2_splitOff_56 : decode cX2_splitOff 56 = .ok (.if_icmp .ge 23, 3) := by decide +kernel
theorem dX2_splitOff_59 : decode cX2_splitOff 59 = .ok (.aload_n 0, 1) := by decide +kernel
theorem dX2_splitOff_60 : decode cX2_splitOff 60 = .ok (.iload_n 2, 1) := by decide +kernel
theorem dX2_splitOff_61 : decode cX2_splitOff 61 = .ok (.iload_n 3, 1) := by decide +kernel
theorem dX2_splitOff_62 : decode cX2_splitOff 62 = .ok (.iconst 3, 1) := by decide +kernel
theorem dX2_splitOff_63 : decode cX2_splitOff 63 = .ok (.isub, 1) := by decide +kernel
theorem dX2_splitOff_64 : decode cX2_splitOff 64 = .ok (.aload_n 0, 1) := by decide +kernel
theorem dX2_splitOff_65 : decode cX2_splitOff 65 = .ok (.iload_n 1, 1) := by decide +kernel
theorem dX2_splitOff_66 : decode cX2_splitOff 66 = .ok (.iload_n 3, 1) := by decide +kernel
theorem dX2_splitOff_67 : decode cX2_splitOff 67 = .ok (.invokevirtual 44, 3) := by decide +kernel
theorem dX2_splitOff_70 : decode cX2_splitOff 70 = .ok (.invokevirtual 93, 3) := by decide +kernel
theorem dX2_splitOff_73 : decode cX2_splitOff 73 = .ok (.iinc 3 1, 3) := by decide +kernel
theorem dX2_splitOff_76 : decode cX2_splitOff 76 = .ok (.goto (-22), 3) := by decide +kernel
theorem dX2_splitOff_79 : decode cX2_splitOff 79 = .ok (.aload_n 0, 1) := by decide +kernel
theorem dX2_splitOff_80 : decode cX2_splitOff 80 = .ok (.getfield 20, 3) := by decide +kernel
theorem dX2_splitOff_83 : decode cX2_splitOff 83 = .ok (.iload_n 1, 1) := by decide +kernel
theorem dX2_splitOff_84 : decode cX2_splitOff 84 = .ok (.iconst 3, 1) := by decide +kernel
theorem dX2_splitOff_85 : decode cX2_splitOff 85 = .ok (.iastore, 1) := by decide +kernel
theorem dX2_splitOff_86 : decode cX2_splitOff 86 = .ok (.aload_n 0, 1) := by decide +kernel
theorem dX2_splitOff_87 : decode cX2_splitOff 87 = .ok (.dup, 1) := by decide +kernel
theorem dX2_splitOff_88 : decode cX2_splitOff 88 = .ok (.getfield 97, 3) := by decide +kernel
theorem dX2_splitOff_91 : decode cX2_splitOff 91 = .ok (.iconst 1, 1) := by decide +kernel
theorem dX2_splitOff_92 : decode cX2_splitOff 92 = .ok (.iadd, 1) := by decide +kernel
theorem dX2_splitOff_93 : decode cX2_splitOff 93 = .ok (.putfield 97, 3) := by decide +kernel
theorem dX2_splitOff_96 : decode cX2_splitOff 96 = .ok (.iload_n 2, 1) := by decide +kernel
theorem dX2_splitOff_97 : decode cX2_splitOff 97 = .ok (.ireturn, 1) := by decide +kernel
theorem dX2_growTop_0 : decode cX2_growTop 0 = .ok (.aload_n 0, 1) := by decide +kernel
theorem dX2_growTop_1 : decode cX2_growTop 1 = .ok (.getfield 16, 3) := by decide +kernel
theorem dX2_growTop_4 : decode cX2_growTop 4 = .ok (.istore_n 1, 1) := by decide +kernel
theorem dX2_growTop_5 : decode cX2_growTop 5 = .ok (.aload_n 0, 1) := by decide +kernel
theorem dX2_growTop_6 : decode cX2_growTop 6 = .ok (.dup, 1) := by decide +kernel
theorem dX2_growTop_7 : decode cX2_growTop 7 = .ok (.getfield 16, 3) := by decide +kernel
theorem dX2_growTop_10 : decode cX2_growTop 10 = .ok (.iconst 1, 1) := by decide +kernel
theorem dX2_growTop_11 : decode cX2_growTop 11 = .ok (.iadd, 1) := by decide +kernel
theorem dX2_growTop_12 : decode cX2_growTop 12 = .ok (.putfield 16, 3) := by decide +kernel
theorem dX2_growTop_15 : decode cX2_growTop 15 = .ok (.aload_n 0, 1) := by decide +kernel
theorem dX2_growTop_16 : decode cX2_growTop 16 = .ok (.getfield 26, 3) := by decide +kernel
theorem dX2_growTop_19 : decode cX2_growTop 19 = .ok (.iload_n 1, 1) := by decide +kernel
theorem dX2_growTop_20 : decode cX2_growTop 20 = .ok (.aload_n 0, 1) := by decide +kernel
theorem dX2_growTop_21 : decode cX2_growTop 21 = .ok (.getfield 26, 3) := by decide +kernel
theorem dX2_growTop_24 : decode cX2_growTop 24 = .ok (.aload_n 0, 1) := by decide +kernel
theorem dX2_growTop_25 : decode cX2_growTop 25 = .ok (.getfield 80, 3) := by decide +kernel
theorem dX2_growTop_28 : decode cX2_growTop 28 = .ok (.iaload, 1) := by decide +kernel
theorem dX2_growTop_29 : decode cX2_growTop 29 = .ok (.iconst 1, 1) := by decide +kernel
theorem dX2_growTop_30 : decode cX2_growTop 30 = .ok (.iadd, 1) := by decide +kernel
theorem dX2_growTop_31 : decode cX2_growTop 31 = .ok (.iastore, 1) := by decide +kernel
theorem dX2_growTop_32 : decode cX2_growTop 32 = .ok (.aload_n 0, 1) := by decide +kernel
theorem dX2_growTop_33 : decode cX2_growTop 33 = .ok (.iload_n 1, 1) := by decide +kernel
theorem dX2_growTop_34 : decode cX2_growTop 34 = .ok (.iconst 0, 1) := by decide +kernel
theorem dX2_growTop_35 : decode cX2_growTop 35 = .ok (.aload_n 0, 1) := by decide +kernel
theorem dX2_growTop_36 : decode cX2_growTop 36 = .ok (.getfield 80, 3) := by decide +kernel
theorem dX2_growTop_39 : decode cX2_growTop 39 = .ok (.invokevirtual 93, 3) := by decide +kernel
theorem dX2_growTop_42 : decode cX2_growTop 42 = .ok (.aload_n 0, 1) := by decide +kernel
theorem dX2_growTop_43 : decode cX2_growTop 43 = .ok (.iload_n 1, 1) := by decide +kernel
theorem dX2_growTop_44 : decode cX2_growTop 44 = .ok (.putfield 80, 3) := by decide +kernel
theorem dX2_growTop_47 : decode cX2_growTop 47 = .ok (.return_, 1) := by decide +kernel
theorem dX2_come_0 : decode cX2_come 0 = .ok (.aload_n 0, 1) := by decide +kernel
theorem dX2_come_1 : decode cX2_come 1 = .ok (.iconst 0, 1) := by decide +kernel
theorem dX2_come_2 : decode cX2_come 2 = .ok (.putfield 38, 3) := by decide +kernel
theorem dX2_come_5 : decode cX2_come 5 = .ok (.iload_n 1, 1) := by decide +kernel
theorem dX2_come_6 : decode cX2_come 6 = .ok (.iload_n 2, 1) := by decide +kernel
theorem dX2_come_7 : decode cX2_come 7 = .ok (.iload_n 3, 1) := by decide +kernel
theorem dX2_come_8 : decode cX2_come 8 = .ok (.iload 4, 2) := by decide +kernel
theorem dX2_come_10 : decode cX2_come 10 = .ok (.invokestatic 100, 3) := by decide +kernel
theorem dX2_come_13 : decode cX2_come 13 = .ok (.ifCond .ne 9, 3) := by decide +kernel
theorem dX2_come_16 : decode cX2_come 16 = .ok (.aload_n 0, 1) := by decide +kernel
theorem dX2_come_17 : decode cX2_come 17 = .ok (.iconst 1, 1) := by decide +kernel
theorem dX2_come_18 : decode cX2_come 18 = .ok (.invokevirtual 103, 3) := by decide +kernel
theorem dX2_come_21 : decode cX2_come 21 = .ok (.ireturn, 1) := by decide +kernel
theorem dX2_come_22 : decode cX2_come 22 = .ok (.aload_n 0, 1) := by decide +kernel
theorem dX2_come_23 : decode cX2_come 23 = .ok (.getfield 41, 3) := by decide +kernel
theorem dX2_come_26 : decode cX2_come 26 = .ok (.bipush 60, 2) := by decide +kernel
theorem dX2_come_28 : decode cX2_come 28 = .ok (.if_icmp .ne 9, 3) := by decide +kernel
theorem dX2_come_31 : decode cX2_come 31 = .ok (.aload_n 0, 1) := by decide +kernel
theorem dX2_come_32 : decode cX2_come 32 = .ok (.iconst 2, 1) := by decide +kernel
theorem dX2_come_33 : decode cX2_come 33 = .ok (.invokevirtual 103, 3) := by decide +kernel
theorem dX2_come_36 : decode cX2_come 36 = .ok (.ireturn, 1) := by decide +kernel
theorem dX2_come_37 : decode cX2_come 37 = .ok (.aload_n 0, 1) := by decide +kernel
theorem dX2_come_38 : decode cX2_come 38 = .ok (.iload_n 1, 1) := by decide +kernel
theorem dX2_come_39 : decode cX2_come 39 = .ok (.iload_n 2, 1) := by decide +kernel
theorem dX2_come_40 : decode cX2_come 40 = .ok (.iload_n 3, 1) := by decide +kernel
theorem dX2_come_41 : decode cX2_come 41 = .ok (.iload 4, 2) := by decide +kernel
theorem dX2_come_43 : decode cX2_come 43 = .ok (.invokevirtual 106, 3) := by decide +kernel
theorem dX2_come_46 : decode cX2_come 46 = .ok (.aload_n 0, 1) := by decide +kernel
theorem dX2_come_47 : decode cX2_come 47 = .ok (.invokevirtual 110, 3) := by decide +kernel
theorem dX2_come_50 : decode cX2_come 50 = .ok (.aload_n 0, 1) := by decide +kernel
theorem dX2_come_51 : decode cX2_come 51 = .ok (.getfield 35, 3) := by decide +kernel
theorem dX2_come_54 : decode cX2_come 54 = .ok (.iconst 0, 1) := by decide +kernel
theorem dX2_come_55 : decode cX2_come 55 = .ok (.aload_n 0, 1) := by decide +kernel
theorem dX2_come_56 : decode cX2_come 56 = .ok (.getfield 9, 3) := by decide +kernel
theorem dX2_come_59 : decode cX2_come 59 = .ok (.iconst 4, 1) := by decide +kernel
theorem dX2_come_60 : decode cX2_come 60 = .ok (.aload_n 0, 1) := by decide +kernel
theorem dX2_come_61 : decode cX2_come 61 = .ok (.getfield 41, 3) := by decide +kernel
theorem dX2_come_64 : decode cX2_come 64 = .ok (.imul, 1) := by decide +kernel
theorem dX2_come_65 : decode cX2_come 65 = .ok (.iconst 4, 1) := by decide +kernel
theorem dX2_come_66 : decode cX2_come 66 = .ok (.invokestatic 113, 3) := by decide +kernel
theorem dX2_come_69 : decode cX2_come 69 = .ok (.aload_n 0, 1) := by decide +kernel
theorem dX2_come_70 : decode cX2_come 70 = .ok (.getfield 13, 3) := by decide +kernel
theorem dX2_come_73 : decode cX2_come 73 = .ok (.aload_n 0, 1) := by decide +kernel
theorem dX2_come_74 : decode cX2_come 74 = .ok (.getfield 41, 3) := by decide +kernel
theorem dX2_come_77 : decode cX2_come 77 = .ok (.iconst 1, 1) := by decide +kernel
theorem dX2_come_78 : decode cX2_come 78 = .ok (.iastore, 1) := by decide +kernel
theorem dX2_come_79 : decode cX2_come 79 = .ok (.aload_n 0, 1) := by decide +kernel
theorem dX2_come_80 : decode cX2_come 80 = .ok (.aload_n 0, 1) := by decide +kernel
theorem dX2_come_81 : decode cX2_come 81 = .ok (.getfield 29, 3) := by decide +kernel
theorem dX2_come_84 : decode cX2_come 84 = .ok (.aload_n 0, 1) := by decide +kernel
theorem dX2_come_85 : decode cX2_come 85 = .ok (.getfield 77, 3) := by decide +kernel
theorem dX2_come_88 : decode cX2_come 88 = .ok (.iaload, 1) := by decide +kernel
theorem dX2_come_89 : decode cX2_come 89 = .ok (.aload_n 0, 1) := by decide +kernel
theorem dX2_come_90 : decode cX2_come 90 = .ok (.getfield 20, 3) := by decide +kernel
theorem dX2_come_93 : decode cX2_come 93 = .ok (.aload_n 0, 1) := by decide +kernel
theorem dX2_come_94 : decode cX2_come 94 = .ok (.getfield 29, 3) := by decide +kernel
theorem dX2_come_97 : decode cX2_come 97 = .ok (.aload_n 0, 1) := by decide +kernel
theorem dX2_come_98 : decode cX2_come 98 = .ok (.getfield 77, 3) := by decide +kernel
theorem dX2_come_101 : decode cX2_come 101 = .ok (.iaload, 1) := by decide +kernel
theorem dX2_come_102 : decode cX2_come 102 = .ok (.iaload, 1) := by decide +kernel
theorem dX2_come_103 : decode cX2_come 103 = .ok (.aload_n 0, 1) := by decide +kernel
theorem dX2_come_104 : decode cX2_come 104 = .ok (.getfield 41, 3) := by decide +kernel
theorem dX2_come_107 : decode cX2_come 107 = .ok (.invokevirtual 93, 3) := by decide +kernel
theorem dX2_come_110 : decode cX2_come 110 = .ok (.aload_n 0, 1) := by decide +kernel
theorem dX2_come_111 : decode cX2_come 111 = .ok (.getfield 77, 3) := by decide +kernel
theorem dX2_come_114 : decode cX2_come 114 = .ok (.istore 5, 2) := by decide +kernel
theorem dX2_come_116 : decode cX2_come 116 = .ok (.iload 5, 2) := by decide +kernel
theorem dX2_come_118 : decode cX2_come 118 = .ok (.ifCond .lt 87, 3) := by decide +kernel
theorem dX2_come_121 : decode cX2_come 121 = .ok (.aload_n 0, 1) := by decide +kernel
theorem dX2_come_122 : decode cX2_come 122 = .ok (.getfield 20, 3) := by decide +kernel
theorem dX2_come_125 : decode cX2_come 125 = .ok (.aload_n 0, 1) := by decide +kernel
theorem dX2_come_126 : decode cX2_come 126 = .ok (.getfield 29, 3) := by decide +kernel
theorem dX2_come_129 : decode cX2_come 129 = .ok (.iload 5, 2) := by decide +kernel
theorem dX2_come_131 : decode cX2_come 131 = .ok (.iaload, 1) := by decide +kernel
theorem dX2_come_132 : decode cX2_come 132 = .ok (.iaload, 1) := by decide +kernel
theorem dX2_come_133 : decode cX2_come 133 = .ok (.iconst 4, 1) := by decide +kernel
theorem dX2_come_134 : decode cX2_come 134 = .ok (.if_icmp .le 71, 3) := by decide +kernel
theorem dX2_come_137 : decode cX2_come 137 = .ok (.aload_n 0, 1) := by decide +kernel
theorem dX2_come_138 : decode cX2_come 138 = .ok (.aload_n 0, 1) := by decide +kernel
theorem dX2_come_139 : decode cX2_come 139 = .ok (.getfield 29, 3) := by decide +kernel
theorem dX2_come_142 : decode cX2_come 142 = .ok (.iload 5, 2) := by decide +kernel
theorem dX2_come_144 : decode cX2_come 144 = .ok (.iaload, 1) := by decide +kernel
theorem dX2_come_145 : decode cX2_come 145 = .ok (.invokevirtual 119, 3) := by decide +kernel
theorem dX2_come_148 : decode cX2_come 148 = .ok (.istore 6, 2) := by decide +kernel
theorem dX2_come_150 : decode cX2_come 150 = .ok (.iload 5, 2) := by decide +kernel
theorem dX2_come_152 : decode cX2_come 152 = .ok (.ifCond .ne 21, 3) := by decide +kernel
theorem dX2_come_155 : decode cX2_come 155 = .ok (.aload_n 0, 1) := by decide +kernel
theorem dX2_come_156 : decode cX2_come 156 = .ok (.invokevirtual 122, 3) := by decide +kernel
theorem dX2_come_159 : decode cX2_come 159 = .ok (.aload_n 0, 1) := by decide +kernel
theorem dX2_come_160 : decode cX2_come 160 = .ok (.aload_n 0, 1) := by decide +kernel
theorem dX2_come_161 : decode cX2_come 161 = .ok (.getfield 80, 3) := by decide +kernel
theorem dX2_come_164 : decode cX2_come 164 = .ok (.iconst 1, 1) := by decide +kernel
theorem dX2_come_165 : decode cX2_come 165 = .ok (.iload 6, 2) := by decide +kernel
theorem dX2_come_167 : decode cX2_come 167 = .ok (.invokevirtual 93, 3) := by decide +kernel
theorem dX2_come_170 : decode cX2_come 170 = .ok (.goto 29, 3) := by decide +kernel
theorem dX2_come_173 : decode cX2_come 173 = .ok (.aload_n 0, 1) := by decide +kernel
theorem dX2_come_174 : decode cX2_come 174 = .ok (.aload_n 0, 1) := by decide +kernel
theorem dX2_come_175 : decode cX2_come 175 = .ok (.getfield 29, 3) := by decide +kernel
theorem dX2_come_178 : decode cX2_come 178 = .ok (.iload 5, 2) := by decide +kernel
theorem dX2_come_180 : decode cX2_come 180 = .ok (.iconst 1, 1) := by decide +kernel
theorem dX2_come_181 : decode cX2_come 181 = .ok (.isub, 1) := by decide +kernel
theorem dX2_come_182 : decode cX2_come 182 = .ok (.iaload, 1) := by decide +kernel
theorem dX2_come_183 : decode cX2_come 183 = .ok (.aload_n 0, 1) := by decide +kernel
theorem dX2_come_184 : decode cX2_come 184 = .ok (.getfield 32, 3) := by decide +kernel
theorem dX2_come_187 : decode cX2_come 187 = .ok (.iload 5, 2) := by decide +kernel
theorem dX2_come_189 : decode cX2_come 189 = .ok (.iconst 1, 1) := by decide +kernel
theorem dX2_come_190 : decode cX2_come 190 = .ok (.isub, 1) := by decide +kernel
theorem dX2_come_191 : decode cX2_come 191 = .ok (.iaload, 1) := by decide +kernel
theorem dX2_come_192 : decode cX2_come 192 = .ok (.iconst 1, 1) := by decide +kernel
theorem dX2_come_193 : decode cX2_come 193 = .ok (.iadd, 1) := by decide +kernel
theorem dX2_come_194 : decode cX2_come 194 = .ok (.iload 6, 2) := by decide +kernel
theorem dX2_come_196 : decode cX2_come 196 = .ok (.invokevirtual 93, 3) := by decide +kernel
theorem dX2_come_199 : decode cX2_come 199 = .ok (.iinc 5 (-1), 3) := by decide +kernel
theorem dX2_come_202 : decode cX2_come 202 = .ok (.goto (-86), 3) := by decide +kernel
theorem dX2_come_205 : decode cX2_come 205 = .ok (.aload_n 0, 1) := by decide +kernel
theorem dX2_come_206 : decode cX2_come 206 = .ok (.dup, 1) := by decide +kernel
theorem dX2_come_207 : decode cX2_come 207 = .ok (.getfield 41, 3) := by decide +kernel
theorem dX2_come_210 : decode cX2_come 210 = .ok (.iconst 1, 1) := by decide +kernel
theorem dX2_come_211 : decode cX2_come 211 = .ok (.iadd, 1) := by decide +kernel
theorem dX2_come_212 : decode cX2_come 212 = .ok (.putfield 41, 3) := by decide +kernel
theorem dX2_come_215 : decode cX2_come 215 = .ok (.aload_n 0, 1) := by decide +kernel
theorem dX2_come_216 : decode cX2_come 216 = .ok (.getfield 41, 3) := by decide +kernel
theorem dX2_come_219 : decode cX2_come 219 = .ok (.iconst 1, 1) := by decide +kernel
theorem dX2_come_220 : decode cX2_come 220 = .ok (.isub, 1) := by decide +kernel
theorem dX2_come_221 : decode cX2_come 221 = .ok (.ireturn, 1) := by decide +kernel
theorem dX2_find_0 : decode cX2_find 0 = .ok (.aload_n 0, 1) := by decide +kernel
theorem dX2_find_1 : decode cX2_find 1 = .ok (.getfield 29, 3) := by decide +kernel
theorem dX2_find_4 : decode cX2_find 4 = .ok (.iload_n 3, 1) := by decide +kernel
theorem dX2_find_5 : decode cX2_find 5 = .ok (.iload_n 1, 1) := by decide +kernel
theorem dX2_find_6 : decode cX2_find 6 = .ok (.iastore, 1) := by decide +kernel
theorem dX2_find_7 : decode cX2_find 7 = .ok (.iconst 0, 1) := by decide +kernel
theorem dX2_find_8 : decode cX2_find 8 = .ok (.istore 4, 2) := by decide +kernel
theorem dX2_find_10 : decode cX2_find 10 = .ok (.iload 4, 2) := by decide +kernel
theorem dX2_find_12 : decode cX2_find 12 = .ok (.aload_n 0, 1) := by decide +kernel
theorem dX2_find_13 : decode cX2_find 13 = .ok (.getfield 20, 3) := by decide +kernel
theorem dX2_find_16 : decode cX2_find 16 = .ok (.iload_n 1, 1) := by decide +kernel
theorem dX2_find_17 : decode cX2_find 17 = .ok (.iaload, 1) := by decide +kernel
theorem dX2_find_18 : decode cX2_find 18 = .ok (.if_icmp .ge 81, 3) := by decide +kernel
theorem dX2_find_21 : decode cX2_find 21 = .ok (.aload_n 0, 1) := by decide +kernel
theorem dX2_find_22 : decode cX2_find 22 = .ok (.getfield 26, 3) := by decide +kernel
theorem dX2_find_25 : decode cX2_find 25 = .ok (.iload_n 1, 1) := by decide +kernel
theorem dX2_find_26 : decode cX2_find 26 = .ok (.iaload, 1) := by decide +kernel
theorem dX2_find_27 : decode cX2_find 27 = .ok (.ifCond .ne 25, 3) := by decide +kernel
theorem dX2_find_30 : decode cX2_find 30 = .ok (.aload_n 0, 1) := by decide +kernel
theorem dX2_find_31 : decode cX2_find 31 = .ok (.iload_n 1, 1) := by decide +kernel
theorem dX2_find_32 : decode cX2_find 32 = .ok (.iload 4, 2) := by decide +kernel
theorem dX2_find_34 : decode cX2_find 34 = .ok (.invokevirtual 44, 3) := by decide +kernel
theorem dX2_find_37 : decode cX2_find 37 = .ok (.iload_n 2, 1) := by decide +kernel
theorem dX2_find_38 : decode cX2_find 38 = .ok (.if_icmp .eq 6, 3) := by decide +kernel
theorem dX2_find_41 : decode cX2_find 41 = .ok (.goto 52, 3) := by decide +kernel
theorem dX2_find_44 : decode cX2_find 44 = .ok (.aload_n 0, 1) := by decide +kernel
theorem dX2_find_45 : decode cX2_find 45 = .ok (.iload_n 3, 1) := by decide +kernel
theorem dX2_find_46 : decode cX2_find 46 = .ok (.putfield 77, 3) := by decide +kernel
theorem dX2_find_49 : decode cX2_find 49 = .ok (.iload 4, 2) := by decide +kernel
theorem dX2_find_51 : decode cX2_find 51 = .ok (.ireturn, 1) := by decide +kernel
theorem dX2_find_52 : decode cX2_find 52 = .ok (.aload_n 0, 1) := by decide +kernel
theorem dX2_find_53 : decode cX2_find 53 = .ok (.getfield 32, 3) := by decide +kernel
theorem dX2_find_56 : decode cX2_find 56 = .ok (.iload_n 3, 1) := by decide +kernel
theorem dX2_find_57 : decode cX2_find 57 = .ok (.iload 4, 2) := by decide +kernel
theorem dX2_find_59 : decode cX2_find 59 = .ok (.iastore, 1) := by decide +kernel
theorem dX2_find_60 : decode cX2_find 60 = .ok (.aload_n 0, 1) := by decide +kernel
theorem dX2_find_61 : decode cX2_find 61 = .ok (.aload_n 0, 1) := by decide +kernel
theorem dX2_find_62 : decode cX2_find 62 = .ok (.iload_n 1, 1) := by decide +kernel
theorem dX2_find_63 : decode cX2_find 63 = .ok (.iload 4, 2) := by decide +kernel
theorem dX2_find_65 : decode cX2_find 65 = .ok (.invokevirtual 44, 3) := by decide +kernel
theorem dX2_find_68 : decode cX2_find 68 = .ok (.iload_n 2, 1) := by decide +kernel
theorem dX2_find_69 : decode cX2_find 69 = .ok (.iload_n 3, 1) := by decide +kernel
theorem dX2_find_70 : decode cX2_find 70 = .ok (.iconst 1, 1) := by decide +kernel
theorem dX2_find_71 : decode cX2_find 71 = .ok (.iadd, 1) := by decide +kernel
theorem dX2_find_72 : decode cX2_find 72 = .ok (.invokevirtual 125, 3) := by decide +kernel
theorem dX2_find_75 : decode cX2_find 75 = .ok (.istore 5, 2) := by decide +kernel
theorem dX2_find_77 : decode cX2_find 77 = .ok (.iload 5, 2) := by decide +kernel
theorem dX2_find_79 : decode cX2_find 79 = .ok (.iconst (-1), 1) := by decide +kernel
theorem dX2_find_80 : decode cX2_find 80 = .ok (.if_icmp .eq 6, 3) := by decide +kernel
theorem dX2_find_83 : decode cX2_find 83 = .ok (.iload 5, 2) := by decide +kernel
theorem dX2_find_85 : decode cX2_find 85 = .ok (.ireturn, 1) := by decide +kernel
theorem dX2_find_86 : decode cX2_find 86 = .ok (.aload_n 0, 1) := by decide +kernel
theorem dX2_find_87 : decode cX2_find 87 = .ok (.getfield 29, 3) := by decide +kernel
theorem dX2_find_90 : decode cX2_find 90 = .ok (.iload_n 3, 1) := by decide +kernel
theorem dX2_find_91 : decode cX2_find 91 = .ok (.iload_n 1, 1) := by decide +kernel
theorem dX2_find_92 : decode cX2_find 92 = .ok (.iastore, 1) := by decide +kernel
theorem dX2_find_93 : decode cX2_find 93 = .ok (.iinc 4 1, 3) := by decide +kernel
theorem dX2_find_96 : decode cX2_find 96 = .ok (.goto (-86), 3) := by decide +kernel
theorem dX2_find_99 : decode cX2_find 99 = .ok (.iconst (-1), 1) := by decide +kernel
theorem dX2_find_100 : decode cX2_find 100 = .ok (.ireturn, 1) := by decide +kernel
theorem dX2_remove_0 : decode cX2_remove 0 = .ok (.aload_n 0, 1) := by decide +kernel
theorem dX2_remove_1 : decode cX2_remove 1 = .ok (.getfield 20, 3) := by decide +kernel
theorem dX2_remove_4 : decode cX2_remove 4 = .ok (.iload_n 1, 1) := by decide +kernel
theorem dX2_remove_5 : decode cX2_remove 5 = .ok (.dup2, 1) := by decide +kernel
theorem dX2_remove_6 : decode cX2_remove 6 = .ok (.iaload, 1) := by decide +kernel
theorem dX2_remove_7 : decode cX2_remove 7 = .ok (.iconst 1, 1) := by decide +kernel
theorem dX2_remove_8 : decode cX2_remove 8 = .ok (.isub, 1) := by decide +kernel
theorem dX2_remove_9 : decode cX2_remove 9 = .ok (.iastore, 1) := by decide +kernel
theorem dX2_remove_10 : decode cX2_remove 10 = .ok (.iload_n 2, 1) := by decide +kernel
theorem dX2_remove_11 : decode cX2_remove 11 = .ok (.istore_n 3, 1) := by decide +kernel
theorem dX2_remove_12 : decode cX2_remove 12 = .ok (.iload_n 3, 1) := by decide +kernel
theorem dX2_remove_13 : decode cX2_remove 13 = .ok (.aload_n 0, 1) := by decide +kernel
theorem dX2_remove_14 : decode cX2_remove 14 = .ok (.getfield 20, 3) := by decide +kernel
theorem dX2_remove_17 : decode cX2_remove 17 = .ok (.iload_n 1, 1) := by decide +kernel
theorem dX2_remove_18 : decode cX2_remove 18 = .ok (.iaload, 1) := by decide +kernel
theorem dX2_remove_19 : decode cX2_remove 19 = .ok (.if_icmp .ge 31, 3) := by decide +kernel
theorem dX2_remove_22 : decode cX2_remove 22 = .ok (.aload_n 0, 1) := by decide +kernel
theorem dX2_remove_23 : decode cX2_remove 23 = .ok (.getfield 23, 3) := by decide +kernel
theorem dX2_remove_26 : decode cX2_remove 26 = .ok (.iconst 5, 1) := by decide +kernel
theorem dX2_remove_27 : decode cX2_remove 27 = .ok (.iload_n 1, 1) := by decide +kernel
theorem dX2_remove_28 : decode cX2_remove 28 = .ok (.imul, 1) := by decide +kernel
theorem dX2_remove_29 : decode cX2_remove 29 = .ok (.iload_n 3, 1) := by decide +kernel
theorem dX2_remove_30 : decode cX2_remove 30 = .ok (.iadd, 1) := by decide +kernel
theorem dX2_remove_31 : decode cX2_remove 31 = .ok (.aload_n 0, 1) := by decide +kernel
theorem dX2_remove_32 : decode cX2_remove 32 = .ok (.getfield 23, 3) := by decide +kernel
theorem dX2_remove_35 : decode cX2_remove 35 = .ok (.iconst 5, 1) := by decide +kernel
theorem dX2_remove_36 : decode cX2_remove 36 = .ok (.iload_n 1, 1) := by decide +kernel
theorem dX2_remove_37 : decode cX2_remove 37 = .ok (.imul, 1) := by decide +kernel
theorem dX2_remove_38 : decode cX2_remove 38 = .ok (.iload_n 3, 1) := by decide +kernel
theorem dX2_remove_39 : decode cX2_remove 39 = .ok (.iadd, 1) := by decide +kernel
theorem dX2_remove_40 : decode cX2_remove 40 = .ok (.iconst 1, 1) := by decide +kernel
theorem dX2_remove_41 : decode cX2_remove 41 = .ok (.iadd, 1) := by decide +kernel
theorem dX2_remove_42 : decode cX2_remove 42 = .ok (.iaload, 1) := by decide +kernel
theorem dX2_remove_43 : decode cX2_remove 43 = .ok (.iastore, 1) := by decide +kernel
theorem dX2_remove_44 : decode cX2_remove 44 = .ok (.iinc 3 1, 3) := by decide +kernel
theorem dX2_remove_47 : decode cX2_remove 47 = .ok (.goto (-35), 3) := by decide +kernel
theorem dX2_remove_50 : decode cX2_remove 50 = .ok (.return_, 1) := by decide +kernel
theorem dX2_areaOf_0 : decode cX2_areaOf 0 = .ok (.aload_n 0, 1) := by decide +kernel
theorem dX2_areaOf_1 : decode cX2_areaOf 1 = .ok (.getfield 9, 3) := by decide +kernel
theorem dX2_areaOf_4 : decode cX2_areaOf 4 = .ok (.iconst 4, 1) := by decide +kernel
theorem dX2_areaOf_5 : decode cX2_areaOf 5 = .ok (.iload_n 1, 1) := by decide +kernel
theorem dX2_areaOf_6 : decode cX2_areaOf 6 = .ok (.imul, 1) := by decide +kernel
theorem dX2_areaOf_7 : decode cX2_areaOf 7 = .ok (.iaload, 1) := by decide +kernel
theorem dX2_areaOf_8 : decode cX2_areaOf 8 = .ok (.aload_n 0, 1) := by decide +kernel
theorem dX2_areaOf_9 : decode cX2_areaOf 9 = .ok (.getfield 9, 3) := by decide +kernel
theorem dX2_areaOf_12 : decode cX2_areaOf 12 = .ok (.iconst 4, 1) := by decide +kernel
theorem dX2_areaOf_13 : decode cX2_areaOf 13 = .ok (.iload_n 1, 1) := by decide +kernel
theorem dX2_areaOf_14 : decode cX2_areaOf 14 = .ok (.imul, 1) := by decide +kernel
theorem dX2_areaOf_15 : decode cX2_areaOf 15 = .ok (.iconst 1, 1) := by decide +kernel
theorem dX2_areaOf_16 : decode cX2_areaOf 16 = .ok (.iadd, 1) := by decide +kernel
theorem dX2_areaOf_17 : decode cX2_areaOf 17 = .ok (.iaload, 1) := by decide +kernel
theorem dX2_areaOf_18 : decode cX2_areaOf 18 = .ok (.aload_n 0, 1) := by decide +kernel
theorem dX2_areaOf_19 : decode cX2_areaOf 19 = .ok (.getfield 9, 3) := by decide +kernel
theorem dX2_areaOf_22 : decode cX2_areaOf 22 = .ok (.iconst 4, 1) := by decide +kernel
theorem dX2_areaOf_23 : decode cX2_areaOf 23 = .ok (.iload_n 1, 1) := by decide +kernel
theorem dX2_areaOf_24 : decode cX2_areaOf 24 = .ok (.imul, 1) := by decide +kernel
theorem dX2_areaOf_25 : decode cX2_areaOf 25 = .ok (.iconst 2, 1) := by decide +kernel
theorem dX2_areaOf_26 : decode cX2_areaOf 26 = .ok (.iadd, 1) := by decide +kernel
theorem dX2_areaOf_27 : decode cX2_areaOf 27 = .ok (.iaload, 1) := by decide +kernel
theorem dX2_areaOf_28 : decode cX2_areaOf 28 = .ok (.aload_n 0, 1) := by decide +kernel
theorem dX2_areaOf_29 : decode cX2_areaOf 29 = .ok (.getfield 9, 3) := by decide +kernel
theorem dX2_areaOf_32 : decode cX2_areaOf 32 = .ok (.iconst 4, 1) := by decide +kernel
theorem dX2_areaOf_33 : decode cX2_areaOf 33 = .ok (.iload_n 1, 1) := by decide +kernel
theorem dX2_areaOf_34 : decode cX2_areaOf 34 = .ok (.imul, 1) := by decide +kernel
theorem dX2_areaOf_35 : decode cX2_areaOf 35 = .ok (.iconst 3, 1) := by decide +kernel
theorem dX2_areaOf_36 : decode cX2_areaOf 36 = .ok (.iadd, 1) := by decide +kernel
theorem dX2_areaOf_37 : decode cX2_areaOf 37 = .ok (.iaload, 1) := by decide +kernel
theorem dX2_areaOf_38 : decode cX2_areaOf 38 = .ok (.invokestatic 62, 3) := by decide +kernel
theorem dX2_areaOf_41 : decode cX2_areaOf 41 = .ok (.ireturn, 1) := by decide +kernel
theorem dX2_go_0 : decode cX2_go 0 = .ok (.aload_n 0, 1) := by decide +kernel
theorem dX2_go_1 : decode cX2_go 1 = .ok (.iconst 0, 1) := by decide +kernel
theorem dX2_go_2 : decode cX2_go 2 = .ok (.putfield 38, 3) := by decide +kernel
theorem dX2_go_5 : decode cX2_go 5 = .ok (.aload_n 0, 1) := by decide +kernel
theorem dX2_go_6 : decode cX2_go 6 = .ok (.iload_n 1, 1) := by decide +kernel
theorem dX2_go_7 : decode cX2_go 7 = .ok (.invokevirtual 128, 3) := by decide +kernel
theorem dX2_go_10 : decode cX2_go 10 = .ok (.ifCond .ne 9, 3) := by decide +kernel
theorem dX2_go_13 : decode cX2_go 13 = .ok (.aload_n 0, 1) := by decide +kernel
theorem dX2_go_14 : decode cX2_go 14 = .ok (.iconst 1, 1) := by decide +kernel
theorem dX2_go_15 : decode cX2_go 15 = .ok (.invokevirtual 103, 3) := by decide +kernel
theorem dX2_go_18 : decode cX2_go 18 = .ok (.ireturn, 1) := by decide +kernel
theorem dX2_go_19 : decode cX2_go 19 = .ok (.aload_n 0, 1) := by decide +kernel
theorem dX2_go_20 : decode cX2_go 20 = .ok (.getfield 13, 3) := by decide +kernel
theorem dX2_go_23 : decode cX2_go 23 = .ok (.iload_n 1, 1) := by decide +kernel
theorem dX2_go_24 : decode cX2_go 24 = .ok (.iaload, 1) := by decide +kernel
theorem dX2_go_25 : decode cX2_go 25 = .ok (.ifCond .ne 9, 3) := by decide +kernel
theorem dX2_go_28 : decode cX2_go 28 = .ok (.aload_n 0, 1) := by decide +kernel
theorem dX2_go_29 : decode cX2_go 29 = .ok (.iconst 2, 1) := by decide +kernel
theorem dX2_go_30 : decode cX2_go 30 = .ok (.invokevirtual 103, 3) := by decide +kernel
theorem dX2_go_33 : decode cX2_go 33 = .ok (.ireturn, 1) := by decide +kernel
theorem dX2_go_34 : decode cX2_go 34 = .ok (.aload_n 0, 1) := by decide +kernel
theorem dX2_go_35 : decode cX2_go 35 = .ok (.aload_n 0, 1) := by decide +kernel
theorem dX2_go_36 : decode cX2_go 36 = .ok (.getfield 80, 3) := by decide +kernel
theorem dX2_go_39 : decode cX2_go 39 = .ok (.iload_n 1, 1) := by decide +kernel
theorem dX2_go_40 : decode cX2_go 40 = .ok (.iconst 0, 1) := by decide +kernel
theorem dX2_go_41 : decode cX2_go 41 = .ok (.invokevirtual 125, 3) := by decide +kernel
theorem dX2_go_44 : decode cX2_go 44 = .ok (.istore_n 2, 1) := by decide +kernel
theorem dX2_go_45 : decode cX2_go 45 = .ok (.aload_n 0, 1) := by decide +kernel
theorem dX2_go_46 : decode cX2_go 46 = .ok (.aload_n 0, 1) := by decide +kernel
theorem dX2_go_47 : decode cX2_go 47 = .ok (.getfield 29, 3) := by decide +kernel
theorem dX2_go_50 : decode cX2_go 50 = .ok (.aload_n 0, 1) := by decide +kernel
theorem dX2_go_51 : decode cX2_go 51 = .ok (.getfield 77, 3) := by decide +kernel
theorem dX2_go_54 : decode cX2_go 54 = .ok (.iaload, 1) := by decide +kernel
theorem dX2_go_55 : decode cX2_go 55 = .ok (.iload_n 2, 1) := by decide +kernel
theorem dX2_go_56 : decode cX2_go 56 = .ok (.invokevirtual 132, 3) := by decide +kernel
theorem dX2_go_59 : decode cX2_go 59 = .ok (.aload_n 0, 1) := by decide +kernel
theorem dX2_go_60 : decode cX2_go 60 = .ok (.getfield 77, 3) := by decide +kernel
theorem dX2_go_63 : decode cX2_go 63 = .ok (.istore_n 3, 1) := by decide +kernel
theorem dX2_go_64 : decode cX2_go 64 = .ok (.iload_n 3, 1) := by decide +kernel
theorem dX2_go_65 : decode cX2_go 65 = .ok (.ifCond .le 43, 3) := by decide +kernel
theorem dX2_go_68 : decode cX2_go 68 = .ok (.aload_n 0, 1) := by decide +kernel
theorem dX2_go_69 : decode cX2_go 69 = .ok (.getfield 20, 3) := by decide +kernel
theorem dX2_go_72 : decode cX2_go 72 = .ok (.aload_n 0, 1) := by decide +kernel
theorem dX2_go_73 : decode cX2_go 73 = .ok (.getfield 29, 3) := by decide +kernel
theorem dX2_go_76 : decode cX2_go 76 = .ok (.iload_n 3, 1) := by decide +kernel
theorem dX2_go_77 : decode cX2_go 77 = .ok (.iaload, 1) := by decide +kernel
theorem dX2_go_78 : decode cX2_go 78 = .ok (.iaload, 1) := by decide +kernel
theorem dX2_go_79 : decode cX2_go 79 = .ok (.ifCond .ne 29, 3) := by decide +kernel
theorem dX2_go_82 : decode cX2_go 82 = .ok (.aload_n 0, 1) := by decide +kernel
theorem dX2_go_83 : decode cX2_go 83 = .ok (.aload_n 0, 1) := by decide +kernel
theorem dX2_go_84 : decode cX2_go 84 = .ok (.getfield 29, 3) := by decide +kernel
theorem dX2_go_87 : decode cX2_go 87 = .ok (.iload_n 3, 1) := by decide +kernel
theorem dX2_go_88 : decode cX2_go 88 = .ok (.iconst 1, 1) := by decide +kernel
theorem dX2_go_89 : decode cX2_go 89 = .ok (.isub, 1) := by decide +kernel
theorem dX2_go_90 : decode cX2_go 90 = .ok (.iaload, 1) := by decide +kernel
theorem dX2_go_91 : decode cX2_go 91 = .ok (.aload_n 0, 1) := by decide +kernel
theorem dX2_go_92 : decode cX2_go 92 = .ok (.getfield 32, 3) := by decide +kernel
theorem dX2_go_95 : decode cX2_go 95 = .ok (.iload_n 3, 1) := by decide +kernel
theorem dX2_go_96 : decode cX2_go 96 = .ok (.iconst 1, 1) := by decide +kernel
theorem dX2_go_97 : decode cX2_go 97 = .ok (.isub, 1) := by decide +kernel
theorem dX2_go_98 : decode cX2_go 98 = .ok (.iaload, 1) := by decide +kernel
theorem dX2_go_99 : decode cX2_go 99 = .ok (.invokevirtual 132, 3) := by decide +kernel
theorem dX2_go_102 : decode cX2_go 102 = .ok (.iinc 3 (-1), 3) := by decide +kernel
theorem dX2_go_105 : decode cX2_go 105 = .ok (.goto (-41), 3) := by decide +kernel
theorem dX2_go_108 : decode cX2_go 108 = .ok (.aload_n 0, 1) := by decide +kernel
theorem dX2_go_109 : decode cX2_go 109 = .ok (.getfield 26, 3) := by decide +kernel
theorem dX2_go_112 : decode cX2_go 112 = .ok (.aload_n 0, 1) := by decide +kernel
theorem dX2_go_113 : decode cX2_go 113 = .ok (.getfield 80, 3) := by decide +kernel
theorem dX2_go_116 : decode cX2_go 116 = .ok (.iaload, 1) := by decide +kernel
theorem dX2_go_117 : decode cX2_go 117 = .ok (.ifCond .le 32, 3) := by decide +kernel
theorem dX2_go_120 : decode cX2_go 120 = .ok (.aload_n 0, 1) := by decide +kernel
theorem dX2_go_121 : decode cX2_go 121 = .ok (.getfield 20, 3) := by decide +kernel
theorem dX2_go_124 : decode cX2_go 124 = .ok (.aload_n 0, 1) := by decide +kernel
theorem dX2_go_125 : decode cX2_go 125 = .ok (.getfield 80, 3) := by decide +kernel
theorem dX2_go_128 : decode cX2_go 128 = .ok (.iaload, 1) := by decide +kernel
theorem dX2_go_129 : decode cX2_go 129 = .ok (.iconst 1, 1) := by decide +kernel
theorem dX2_go_130 : decode cX2_go 130 = .ok (.if_icmp .ne 19, 3) := by decide +kernel
theorem dX2_go_133 : decode cX2_go 133 = .ok (.aload_n 0, 1) := by decide +kernel
theorem dX2_go_134 : decode cX2_go 134 = .ok (.aload_n 0, 1) := by decide +kernel
theorem dX2_go_135 : decode cX2_go 135 = .ok (.aload_n 0, 1) := by decide +kernel
theorem dX2_go_136 : decode cX2_go 136 = .ok (.getfield 80, 3) := by decide +kernel
theorem dX2_go_139 : decode cX2_go 139 = .ok (.iconst 0, 1) := by decide +kernel
theorem dX2_go_140 : decode cX2_go 140 = .ok (.invokevirtual 44, 3) := by decide +kernel
theorem dX2_go_143 : decode cX2_go 143 = .ok (.putfield 80, 3) := by decide +kernel
theorem dX2_go_146 : decode cX2_go 146 = .ok (.goto (-38), 3) := by decide +kernel
theorem dX2_go_149 : decode cX2_go 149 = .ok (.aload_n 0, 1) := by decide +kernel
theorem dX2_go_150 : decode cX2_go 150 = .ok (.getfield 13, 3) := by decide +kernel
theorem dX2_go_153 : decode cX2_go 153 = .ok (.iload_n 1, 1) := by decide +kernel
theorem dX2_go_154 : decode cX2_go 154 = .ok (.iconst 0, 1) := by decide +kernel
theorem dX2_go_155 : decode cX2_go 155 = .ok (.iastore, 1) := by decide +kernel
theorem dX2_go_156 : decode cX2_go 156 = .ok (.aload_n 0, 1) := by decide +kernel
theorem dX2_go_157 : decode cX2_go 157 = .ok (.iload_n 1, 1) := by decide +kernel
theorem dX2_go_158 : decode cX2_go 158 = .ok (.invokevirtual 135, 3) := by decide +kernel
theorem dX2_go_161 : decode cX2_go 161 = .ok (.ireturn, 1) := by decide +kernel
theorem dX2_allotmentTold_0 : decode cX2_allotmentTold 0 = .ok (.iload_n 2, 1) := by decide +kernel
theorem dX2_allotmentTold_1 : decode cX2_allotmentTold 1 = .ok (.iconst 4, 1) := by decide +kernel
theorem dX2_allotmentTold_2 : decode cX2_allotmentTold 2 = .ok (.if_icmp .ge 14, 3) := by decide +kernel
theorem dX2_allotmentTold_5 : decode cX2_allotmentTold 5 = .ok (.aload_n 0, 1) := by decide +kernel
theorem dX2_allotmentTold_6 : decode cX2_allotmentTold 6 = .ok (.getfield 9, 3) := by decide +kernel
theorem dX2_allotmentTold_9 : decode cX2_allotmentTold 9 = .ok (.iconst 4, 1) := by decide +kernel
theorem dX2_allotmentTold_10 : decode cX2_allotmentTold 10 = .ok (.iload_n 1, 1) := by decide +kernel
theorem dX2_allotmentTold_11 : decode cX2_allotmentTold 11 = .ok (.imul, 1) := by decide +kernel
theorem dX2_allotmentTold_12 : decode cX2_allotmentTold 12 = .ok (.iload_n 2, 1) := by decide +kernel
theorem dX2_allotmentTold_13 : decode cX2_allotmentTold 13 = .ok (.iadd, 1) := by decide +kernel
theorem dX2_allotmentTold_14 : decode cX2_allotmentTold 14 = .ok (.iaload, 1) := by decide +kernel
theorem dX2_allotmentTold_15 : decode cX2_allotmentTold 15 = .ok (.ireturn, 1) := by decide +kernel
theorem dX2_allotmentTold_16 : decode cX2_allotmentTold 16 = .ok (.iload_n 2, 1) := by decide +kernel
theorem dX2_allotmentTold_17 : decode cX2_allotmentTold 17 = .ok (.iconst 4, 1) := by decide +kernel
theorem dX2_allotmentTold_18 : decode cX2_allotmentTold 18 = .ok (.if_icmp .ne 9, 3) := by decide +kernel
theorem dX2_allotmentTold_21 : decode cX2_allotmentTold 21 = .ok (.aload_n 0, 1) := by decide +kernel
theorem dX2_allotmentTold_22 : decode cX2_allotmentTold 22 = .ok (.iload_n 1, 1) := by decide +kernel
theorem dX2_allotmentTold_23 : decode cX2_allotmentTold 23 = .ok (.invokevirtual 135, 3) := by decide +kernel
theorem dX2_allotmentTold_26 : decode cX2_allotmentTold 26 = .ok (.ireturn, 1) := by decide +kernel
theorem dX2_allotmentTold_27 : decode cX2_allotmentTold 27 = .ok (.iload_n 2, 1) := by decide +kernel
theorem dX2_allotmentTold_28 : decode cX2_allotmentTold 28 = .ok (.bipush 8, 2) := by decide +kernel
theorem dX2_allotmentTold_30 : decode cX2_allotmentTold 30 = .ok (.if_icmp .ne 57, 3) := by decide +kernel
theorem dX2_allotmentTold_33 : decode cX2_allotmentTold 33 = .ok (.aload_n 0, 1) := by decide +kernel
theorem dX2_allotmentTold_34 : decode cX2_allotmentTold 34 = .ok (.aload_n 0, 1) := by decide +kernel
theorem dX2_allotmentTold_35 : decode cX2_allotmentTold 35 = .ok (.getfield 9, 3) := by decide +kernel
theorem dX2_allotmentTold_38 : decode cX2_allotmentTold 38 = .ok (.iconst 4, 1) := by decide +kernel
theorem dX2_allotmentTold_39 : decode cX2_allotmentTold 39 = .ok (.iload_n 1, 1) := by decide +kernel
theorem dX2_allotmentTold_40 : decode cX2_allotmentTold 40 = .ok (.imul, 1) := by decide +kernel
theorem dX2_allotmentTold_41 : decode cX2_allotmentTold 41 = .ok (.iaload, 1) := by decide +kernel
theorem dX2_allotmentTold_42 : decode cX2_allotmentTold 42 = .ok (.aload_n 0, 1) := by decide +kernel
theorem dX2_allotmentTold_43 : decode cX2_allotmentTold 43 = .ok (.getfield 9, 3) := by decide +kernel
theorem dX2_allotmentTold_46 : decode cX2_allotmentTold 46 = .ok (.iconst 4, 1) := by decide +kernel
theorem dX2_allotmentTold_47 : decode cX2_allotmentTold 47 = .ok (.iload_n 1, 1) := by decide +kernel
theorem dX2_allotmentTold_48 : decode cX2_allotmentTold 48 = .ok (.imul, 1) := by decide +kernel
theorem dX2_allotmentTold_49 : decode cX2_allotmentTold 49 = .ok (.iconst 1, 1) := by decide +kernel
theorem dX2_allotmentTold_50 : decode cX2_allotmentTold 50 = .ok (.iadd, 1) := by decide +kernel
theorem dX2_allotmentTold_51 : decode cX2_allotmentTold 51 = .ok (.iaload, 1) := by decide +kernel
theorem dX2_allotmentTold_52 : decode cX2_allotmentTold 52 = .ok (.aload_n 0, 1) := by decide +kernel
theorem dX2_allotmentTold_53 : decode cX2_allotmentTold 53 = .ok (.getfield 9, 3) := by decide +kernel
theorem dX2_allotmentTold_56 : decode cX2_allotmentTold 56 = .ok (.iconst 4, 1) := by decide +kernel
theorem dX2_allotmentTold_57 : decode cX2_allotmentTold 57 = .ok (.iload_n 1, 1) := by decide +kernel
theorem dX2_allotmentTold_58 : decode cX2_allotmentTold 58 = .ok (.imul, 1) := by decide +kernel
theorem dX2_allotmentTold_59 : decode cX2_allotmentTold 59 = .ok (.iconst 2, 1) := by decide +kernel
theorem dX2_allotmentTold_60 : decode cX2_allotmentTold 60 = .ok (.iadd, 1) := by decide +kernel
theorem dX2_allotmentTold_61 : decode cX2_allotmentTold 61 = .ok (.iaload, 1) := by decide +kernel
theorem dX2_allotmentTold_62 : decode cX2_allotmentTold 62 = .ok (.aload_n 0, 1) := by decide +kernel
theorem dX2_allotmentTold_63 : decode cX2_allotmentTold 63 = .ok (.getfield 9, 3) := by decide +kernel
theorem dX2_allotmentTold_66 : decode cX2_allotmentTold 66 = .ok (.iconst 4, 1) := by decide +kernel
theorem dX2_allotmentTold_67 : decode cX2_allotmentTold 67 = .ok (.iload_n 1, 1) := by decide +kernel
theorem dX2_allotmentTold_68 : decode cX2_allotmentTold 68 = .ok (.imul, 1) := by decide +kernel
theorem dX2_allotmentTold_69 : decode cX2_allotmentTold 69 = .ok (.iconst 3, 1) := by decide +kernel
theorem dX2_allotmentTold_70 : decode cX2_allotmentTold 70 = .ok (.iadd, 1) := by decide +kernel
theorem dX2_allotmentTold_71 : decode cX2_allotmentTold 71 = .ok (.iaload, 1) := by decide +kernel
theorem dX2_allotmentTold_72 : decode cX2_allotmentTold 72 = .ok (.invokevirtual 106, 3) := by decide +kernel
theorem dX2_allotmentTold_75 : decode cX2_allotmentTold 75 = .ok (.aload_n 0, 1) := by decide +kernel
theorem dX2_allotmentTold_76 : decode cX2_allotmentTold 76 = .ok (.invokevirtual 138, 3) := by decide +kernel
theorem dX2_allotmentTold_79 : decode cX2_allotmentTold 79 = .ok (.aload_n 0, 1) := by decide +kernel
theorem dX2_allotmentTold_80 : decode cX2_allotmentTold 80 = .ok (.getfield 13, 3) := by decide +kernel
theorem dX2_allotmentTold_83 : decode cX2_allotmentTold 83 = .ok (.iload_n 1, 1) := by decide +kernel
theorem dX2_allotmentTold_84 : decode cX2_allotmentTold 84 = .ok (.iaload, 1) := by decide +kernel
theorem dX2_allotmentTold_85 : decode cX2_allotmentTold 85 = .ok (.isub, 1) := by decide +kernel
theorem dX2_allotmentTold_86 : decode cX2_allotmentTold 86 = .ok (.ireturn, 1) := by decide +kernel
theorem dX2_allotmentTold_87 : decode cX2_allotmentTold 87 = .ok (.aload_n 0, 1) := by decide +kernel
theorem dX2_allotmentTold_88 : decode cX2_allotmentTold 88 = .ok (.getfield 13, 3) := by decide +kernel
theorem dX2_allotmentTold_91 : decode cX2_allotmentTold 91 = .ok (.iload_n 1, 1) := by decide +kernel
theorem dX2_allotmentTold_92 : decode cX2_allotmentTold 92 = .ok (.iaload, 1) := by decide +kernel
theorem dX2_allotmentTold_93 : decode cX2_allotmentTold 93 = .ok (.ifCond .ne 5, 3) := by decide +kernel
theorem dX2_allotmentTold_96 : decode cX2_allotmentTold 96 = .ok (.iconst (-1), 1) := by decide +kernel
theorem dX2_allotmentTold_97 : decode cX2_allotmentTold 97 = .ok (.ireturn, 1) := by decide +kernel
theorem dX2_allotmentTold_98 : decode cX2_allotmentTold 98 = .ok (.aload_n 0, 1) := by decide +kernel
theorem dX2_allotmentTold_99 : decode cX2_allotmentTold 99 = .ok (.aload_n 0, 1) := by decide +kernel
theorem dX2_allotmentTold_100 : decode cX2_allotmentTold 100 = .ok (.getfield 80, 3) := by decide +kernel
theorem dX2_allotmentTold_103 : decode cX2_allotmentTold 103 = .ok (.iload_n 1, 1) := by decide +kernel
theorem dX2_allotmentTold_104 : decode cX2_allotmentTold 104 = .ok (.iconst 0, 1) := by decide +kernel
theorem dX2_allotmentTold_105 : decode cX2_allotmentTold 105 = .ok (.invokevirtual 125, 3) := by decide +kernel
theorem dX2_allotmentTold_108 : decode cX2_allotmentTold 108 = .ok (.istore_n 3, 1) := by decide +kernel
theorem dX2_allotmentTold_109 : decode cX2_allotmentTold 109 = .ok (.iload_n 2, 1) := by decide +kernel
theorem dX2_allotmentTold_110 : decode cX2_allotmentTold 110 = .ok (.iconst 5, 1) := by decide +kernel
theorem dX2_allotmentTold_111 : decode cX2_allotmentTold 111 = .ok (.if_icmp .ne 7, 3) := by decide +kernel
theorem dX2_allotmentTold_114 : decode cX2_allotmentTold 114 = .ok (.iload_n 3, 1) := by decide +kernel
theorem dX2_allotmentTold_115 : decode cX2_allotmentTold 115 = .ok (.goto 39, 3) := by decide +kernel
theorem dX2_allotmentTold_118 : decode cX2_allotmentTold 118 = .ok (.iload_n 2, 1) := by decide +kernel
theorem dX2_allotmentTold_119 : decode cX2_allotmentTold 119 = .ok (.bipush 6, 2) := by decide +kernel
theorem dX2_allotmentTold_121 : decode cX2_allotmentTold 121 = .ok (.if_icmp .ne 20, 3) := by decide +kernel
theorem dX2_allotmentTold_124 : decode cX2_allotmentTold 124 = .ok (.aload_n 0, 1) := by decide +kernel
theorem dX2_allotmentTold_125 : decode cX2_allotmentTold 125 = .ok (.getfield 20, 3) := by decide +kernel
theorem dX2_allotmentTold_128 : decode cX2_allotmentTold 128 = .ok (.aload_n 0, 1) := by decide +kernel
theorem dX2_allotmentTold_129 : decode cX2_allotmentTold 129 = .ok (.getfield 29, 3) := by decide +kernel
theorem dX2_allotmentTold_132 : decode cX2_allotmentTold 132 = .ok (.aload_n 0, 1) := by decide +kernel
theorem dX2_allotmentTold_133 : decode cX2_allotmentTold 133 = .ok (.getfield 77, 3) := by decide +kernel
theorem dX2_allotmentTold_136 : decode cX2_allotmentTold 136 = .ok (.iaload, 1) := by decide +kernel
theorem dX2_allotmentTold_137 : decode cX2_allotmentTold 137 = .ok (.iaload, 1) := by decide +kernel
theorem dX2_allotmentTold_138 : decode cX2_allotmentTold 138 = .ok (.goto 16, 3) := by decide +kernel
theorem dX2_allotmentTold_141 : decode cX2_allotmentTold 141 = .ok (.aload_n 0, 1) := by decide +kernel
theorem dX2_allotmentTold_142 : decode cX2_allotmentTold 142 = .ok (.aload_n 0, 1) := by decide +kernel
theorem dX2_allotmentTold_143 : decode cX2_allotmentTold 143 = .ok (.getfield 29, 3) := by decide +kernel
theorem dX2_allotmentTold_146 : decode cX2_allotmentTold 146 = .ok (.aload_n 0, 1) := by decide +kernel
theorem dX2_allotmentTold_147 : decode cX2_allotmentTold 147 = .ok (.getfield 77, 3) := by decide +kernel
theorem dX2_allotmentTold_150 : decode cX2_allotmentTold 150 = .ok (.iaload, 1) := by decide +kernel
theorem dX2_allotmentTold_151 : decode cX2_allotmentTold 151 = .ok (.invokevirtual 70, 3) := by decide +kernel
theorem dX2_allotmentTold_154 : decode cX2_allotmentTold 154 = .ok (.ireturn, 1) := by decide +kernel
theorem dX2_told_0 : decode cX2_told 0 = .ok (.aload_n 0, 1) := by decide +kernel
theorem dX2_told_1 : decode cX2_told 1 = .ok (.iconst 0, 1) := by decide +kernel
theorem dX2_told_2 : decode cX2_told 2 = .ok (.putfield 38, 3) := by decide +kernel
theorem dX2_told_5 : decode cX2_told 5 = .ok (.aload_n 0, 1) := by decide +kernel
theorem dX2_told_6 : decode cX2_told 6 = .ok (.iload_n 1, 1) := by decide +kernel
theorem dX2_told_7 : decode cX2_told 7 = .ok (.invokevirtual 128, 3) := by decide +kernel
theorem dX2_told_10 : decode cX2_told 10 = .ok (.ifCond .eq 22, 3) := by decide +kernel
theorem dX2_told_13 : decode cX2_told 13 = .ok (.iload_n 2, 1) := by decide +kernel
theorem dX2_told_14 : decode cX2_told 14 = .ok (.ifCond .lt 18, 3) := by decide +kernel
theorem dX2_told_17 : decode cX2_told 17 = .ok (.iload_n 2, 1) := by decide +kernel
theorem dX2_told_18 : decode cX2_told 18 = .ok (.bipush 8, 2) := by decide +kernel
theorem dX2_told_20 : decode cX2_told 20 = .ok (.if_icmp .gt 12, 3) := by decide +kernel
theorem dX2_told_23 : decode cX2_told 23 = .ok (.aload_n 0, 1) := by decide +kernel
theorem dX2_told_24 : decode cX2_told 24 = .ok (.iload_n 1, 1) := by decide +kernel
theorem dX2_told_25 : decode cX2_told 25 = .ok (.iload_n 2, 1) := by decide +kernel
theorem dX2_told_26 : decode cX2_told 26 = .ok (.invokevirtual 141, 3) := by decide +kernel
theorem dX2_told_29 : decode cX2_told 29 = .ok (.goto 8, 3) := by decide +kernel
theorem dX2_told_32 : decode cX2_told 32 = .ok (.aload_n 0, 1) := by decide +kernel
theorem dX2_told_33 : decode cX2_told 33 = .ok (.iconst 1, 1) := by decide +kernel
theorem dX2_told_34 : decode cX2_told 34 = .ok (.invokevirtual 103, 3) := by decide +kernel
theorem dX2_told_37 : decode cX2_told 37 = .ok (.ireturn, 1) := by decide +kernel
theorem dX2_way_0 : decode cX2_way 0 = .ok (.aload_n 0, 1) := by decide +kernel
theorem dX2_way_1 : decode cX2_way 1 = .ok (.iconst 0, 1) := by decide +kernel
theorem dX2_way_2 : decode cX2_way 2 = .ok (.putfield 38, 3) := by decide +kernel
theorem dX2_way_5 : decode cX2_way 5 = .ok (.aload_n 0, 1) := by decide +kernel
theorem dX2_way_6 : decode cX2_way 6 = .ok (.iload_n 1, 1) := by decide +kernel
theorem dX2_way_7 : decode cX2_way 7 = .ok (.invokevirtual 128, 3) := by decide +kernel
theorem dX2_way_10 : decode cX2_way 10 = .ok (.ifCond .eq 7, 3) := by decide +kernel
theorem dX2_way_13 : decode cX2_way 13 = .ok (.iload_n 2, 1) := by decide +kernel
theorem dX2_way_14 : decode cX2_way 14 = .ok (.ifCond .ge 9, 3) := by decide +kernel
theorem dX2_way_17 : decode cX2_way 17 = .ok (.aload_n 0, 1) := by decide +kernel
theorem dX2_way_18 : decode cX2_way 18 = .ok (.iconst 1, 1) := by decide +kernel
theorem dX2_way_19 : decode cX2_way 19 = .ok (.invokevirtual 103, 3) := by decide +kernel
theorem dX2_way_22 : decode cX2_way 22 = .ok (.ireturn, 1) := by decide +kernel
theorem dX2_way_23 : decode cX2_way 23 = .ok (.aload_n 0, 1) := by decide +kernel
theorem dX2_way_24 : decode cX2_way 24 = .ok (.getfield 13, 3) := by decide +kernel
theorem dX2_way_27 : decode cX2_way 27 = .ok (.iload_n 1, 1) := by decide +kernel
theorem dX2_way_28 : decode cX2_way 28 = .ok (.iaload, 1) := by decide +kernel
theorem dX2_way_29 : decode cX2_way 29 = .ok (.ifCond .ne 5, 3) := by decide +kernel
theorem dX2_way_32 : decode cX2_way 32 = .ok (.iconst (-1), 1) := by decide +kernel
theorem dX2_way_33 : decode cX2_way 33 = .ok (.ireturn, 1) := by decide +kernel
theorem dX2_way_34 : decode cX2_way 34 = .ok (.aload_n 0, 1) := by decide +kernel
theorem dX2_way_35 : decode cX2_way 35 = .ok (.aload_n 0, 1) := by decide +kernel
theorem dX2_way_36 : decode cX2_way 36 = .ok (.getfield 80, 3) := by decide +kernel
theorem dX2_way_39 : decode cX2_way 39 = .ok (.iload_n 1, 1) := by decide +kernel
theorem dX2_way_40 : decode cX2_way 40 = .ok (.iconst 0, 1) := by decide +kernel
theorem dX2_way_41 : decode cX2_way 41 = .ok (.invokevirtual 125, 3) := by decide +kernel
theorem dX2_way_44 : decode cX2_way 44 = .ok (.pop, 1) := by decide +kernel
theorem dX2_way_45 : decode cX2_way 45 = .ok (.iload_n 2, 1) := by decide +kernel
theorem dX2_way_46 : decode cX2_way 46 = .ok (.aload_n 0, 1) := by decide +kernel
theorem dX2_way_47 : decode cX2_way 47 = .ok (.getfield 77, 3) := by decide +kernel
theorem dX2_way_50 : decode cX2_way 50 = .ok (.if_icmp .ge 12, 3) := by decide +kernel
theorem dX2_way_53 : decode cX2_way 53 = .ok (.aload_n 0, 1) := by decide +kernel
theorem dX2_way_54 : decode cX2_way 54 = .ok (.getfield 32, 3) := by decide +kernel
theorem dX2_way_57 : decode cX2_way 57 = .ok (.iload_n 2, 1) := by decide +kernel
theorem dX2_way_58 : decode cX2_way 58 = .ok (.iaload, 1) := by decide +kernel
theorem dX2_way_59 : decode cX2_way 59 = .ok (.goto 4, 3) := by decide +kernel
theorem dX2_way_62 : decode cX2_way 62 = .ok (.iconst (-1), 1) := by decide +kernel
theorem dX2_way_63 : decode cX2_way 63 = .ok (.ireturn, 1) := by decide +kernel
theorem dX2_all_0 : decode cX2_all 0 = .ok (.iconst 0, 1) := by decide +kernel
theorem dX2_all_1 : decode cX2_all 1 = .ok (.istore_n 1, 1) := by decide +kernel
theorem dX2_all_2 : decode cX2_all 2 = .ok (.iconst 0, 1) := by decide +kernel
theorem dX2_all_3 : decode cX2_all 3 = .ok (.istore_n 2, 1) := by decide +kernel
theorem dX2_all_4 : decode cX2_all 4 = .ok (.iload_n 2, 1) := by decide +kernel
theorem dX2_all_5 : decode cX2_all 5 = .ok (.aload_n 0, 1) := by decide +kernel
theorem dX2_all_6 : decode cX2_all 6 = .ok (.getfield 41, 3) := by decide +kernel
theorem dX2_all_9 : decode cX2_all 9 = .ok (.if_icmp .ge 25, 3) := by decide +kernel
theorem dX2_all_12 : decode cX2_all 12 = .ok (.iload_n 1, 1) := by decide +kernel
theorem dX2_all_13 : decode cX2_all 13 = .ok (.aload_n 0, 1) := by decide +kernel
theorem dX2_all_14 : decode cX2_all 14 = .ok (.iload_n 2, 1) := by decide +kernel
theorem dX2_all_15 : decode cX2_all 15 = .ok (.invokevirtual 144, 3) := by decide +kernel
theorem dX2_all_18 : decode cX2_all 18 = .ok (.ifCond .eq 7, 3) := by decide +kernel
theorem dX2_all_21 : decode cX2_all 21 = .ok (.iconst 1, 1) := by decide +kernel
theorem dX2_all_22 : decode cX2_all 22 = .ok (.goto 4, 3) := by decide +kernel
theorem dX2_all_25 : decode cX2_all 25 = .ok (.iconst 0, 1) := by decide +kernel
theorem dX2_all_26 : decode cX2_all 26 = .ok (.iadd, 1) := by decide +kernel
theorem dX2_all_27 : decode cX2_all 27 = .ok (.istore_n 1, 1) := by decide +kernel
theorem dX2_all_28 : decode cX2_all 28 = .ok (.iinc 2 1, 3) := by decide +kernel
theorem dX2_all_31 : decode cX2_all 31 = .ok (.goto (-27), 3) := by decide +kernel
theorem dX2_all_34 : decode cX2_all 34 = .ok (.iload_n 1, 1) := by decide +kernel
theorem dX2_all_35 : decode cX2_all 35 = .ok (.ireturn, 1) := by decide +kernel
theorem dX2_overlaps_0 : decode cX2_overlaps 0 = .ok (.aload_n 0, 1) := by decide +kernel
theorem dX2_overlaps_1 : decode cX2_overlaps 1 = .ok (.iconst 0, 1) := by decide +kernel
theorem dX2_overlaps_2 : decode cX2_overlaps 2 = .ok (.putfield 38, 3) := by decide +kernel
theorem dX2_overlaps_5 : decode cX2_overlaps 5 = .ok (.iload_n 1, 1) := by decide +kernel
theorem dX2_overlaps_6 : decode cX2_overlaps 6 = .ok (.iload_n 2, 1) := by decide +kernel
theorem dX2_overlaps_7 : decode cX2_overlaps 7 = .ok (.iload_n 3, 1) := by decide +kernel
theorem dX2_overlaps_8 : decode cX2_overlaps 8 = .ok (.iload 4, 2) := by decide +kernel
theorem dX2_overlaps_10 : decode cX2_overlaps 10 = .ok (.invokestatic 100, 3) := by decide +kernel
theorem dX2_overlaps_13 : decode cX2_overlaps 13 = .ok (.ifCond .ne 9, 3) := by decide +kernel
theorem dX2_overlaps_16 : decode cX2_overlaps 16 = .ok (.aload_n 0, 1) := by decide +kernel
theorem dX2_overlaps_17 : decode cX2_overlaps 17 = .ok (.iconst 1, 1) := by decide +kernel
theorem dX2_overlaps_18 : decode cX2_overlaps 18 = .ok (.invokevirtual 103, 3) := by decide +kernel
theorem dX2_overlaps_21 : decode cX2_overlaps 21 = .ok (.ireturn, 1) := by decide +kernel
theorem dX2_overlaps_22 : decode cX2_overlaps 22 = .ok (.aload_n 0, 1) := by decide +kernel
theorem dX2_overlaps_23 : decode cX2_overlaps 23 = .ok (.iload_n 1, 1) := by decide +kernel
theorem dX2_overlaps_24 : decode cX2_overlaps 24 = .ok (.iload_n 2, 1) := by decide +kernel
theorem dX2_overlaps_25 : decode cX2_overlaps 25 = .ok (.iload_n 3, 1) := by decide +kernel
theorem dX2_overlaps_26 : decode cX2_overlaps 26 = .ok (.iload 4, 2) := by decide +kernel
theorem dX2_overlaps_28 : decode cX2_overlaps 28 = .ok (.invokevirtual 106, 3) := by decide +kernel
theorem dX2_overlaps_31 : decode cX2_overlaps 31 = .ok (.aload_n 0, 1) := by decide +kernel
theorem dX2_overlaps_32 : decode cX2_overlaps 32 = .ok (.invokevirtual 138, 3) := by decide +kernel
theorem dX2_overlaps_35 : decode cX2_overlaps 35 = .ok (.ireturn, 1) := by decide +kernel
theorem dX2_looksFrom_0 : decode cX2_looksFrom 0 = .ok (.iconst 1, 1) := by decide +kernel
theorem dX2_looksFrom_1 : decode cX2_looksFrom 1 = .ok (.istore_n 2, 1) := by decide +kernel
theorem dX2_looksFrom_2 : decode cX2_looksFrom 2 = .ok (.iconst 0, 1) := by decide +kernel
theorem dX2_looksFrom_3 : decode cX2_looksFrom 3 = .ok (.istore_n 3, 1) := by decide +kernel
theorem dX2_looksFrom_4 : decode cX2_looksFrom 4 = .ok (.iload_n 3, 1) := by decide +kernel
theorem dX2_looksFrom_5 : decode cX2_looksFrom 5 = .ok (.aload_n 0, 1) := by decide +kernel
theorem dX2_looksFrom_6 : decode cX2_looksFrom 6 = .ok (.getfield 20, 3) := by decide +kernel
theorem dX2_looksFrom_9 : decode cX2_looksFrom 9 = .ok (.iload_n 1, 1) := by decide +kernel
theorem dX2_looksFrom_10 : decode cX2_looksFrom 10 = .ok (.iaload, 1) := by decide +kernel
theorem dX2_looksFrom_11 : decode cX2_looksFrom 11 = .ok (.if_icmp .ge 44, 3) := by decide +kernel
theorem dX2_looksFrom_14 : decode cX2_looksFrom 14 = .ok (.aload_n 0, 1) := by decide +kernel
theorem dX2_looksFrom_15 : decode cX2_looksFrom 15 = .ok (.getfield 26, 3) := by decide +kernel
theorem dX2_looksFrom_18 : decode cX2_looksFrom 18 = .ok (.iload_n 1, 1) := by decide +kernel
theorem dX2_looksFrom_19 : decode cX2_looksFrom 19 = .ok (.iaload, 1) := by decide +kernel
theorem dX2_looksFrom_20 : decode cX2_looksFrom 20 = .ok (.ifCond .le 35, 3) := by decide +kernel
theorem dX2_looksFrom_23 : decode cX2_looksFrom 23 = .ok (.aload_n 0, 1) := by decide +kernel
theorem dX2_looksFrom_24 : decode cX2_looksFrom 24 = .ok (.aload_n 0, 1) := by decide +kernel
theorem dX2_looksFrom_25 : decode cX2_looksFrom 25 = .ok (.iload_n 1, 1) := by decide +kernel
theorem dX2_looksFrom_26 : decode cX2_looksFrom 26 = .ok (.iload_n 3, 1) := by decide +kernel
theorem dX2_looksFrom_27 : decode cX2_looksFrom 27 = .ok (.invokevirtual 44, 3) := by decide +kernel
theorem dX2_looksFrom_30 : decode cX2_looksFrom 30 = .ok (.invokevirtual 147, 3) := by decide +kernel
theorem dX2_looksFrom_33 : decode cX2_looksFrom 33 = .ok (.ifCond .eq 16, 3) := by decide +kernel
theorem dX2_looksFrom_36 : decode cX2_looksFrom 36 = .ok (.iload_n 2, 1) := by decide +kernel
theorem dX2_looksFrom_37 : decode cX2_looksFrom 37 = .ok (.aload_n 0, 1) := by decide +kernel
theorem dX2_looksFrom_38 : decode cX2_looksFrom 38 = .ok (.aload_n 0, 1) := by decide +kernel
theorem dX2_looksFrom_39 : decode cX2_looksFrom 39 = .ok (.iload_n 1, 1) := by decide +kernel
theorem dX2_looksFrom_40 : decode cX2_looksFrom 40 = .ok (.iload_n 3, 1) := by decide +kernel
theorem dX2_looksFrom_41 : decode cX2_looksFrom 41 = .ok (.invokevirtual 44, 3) := by decide +kernel
theorem dX2_looksFrom_44 : decode cX2_looksFrom 44 = .ok (.invokevirtual 150, 3) := by decide +kernel
theorem dX2_looksFrom_47 : decode cX2_looksFrom 47 = .ok (.iadd, 1) := by decide +kernel
theorem dX2_looksFrom_48 : decode cX2_looksFrom 48 = .ok (.istore_n 2, 1) := by decide +kernel
theorem dX2_looksFrom_49 : decode cX2_looksFrom 49 = .ok (.iinc 3 1, 3) := by decide +kernel
theorem dX2_looksFrom_52 : decode cX2_looksFrom 52 = .ok (.goto (-48), 3) := by decide +kernel
theorem dX2_looksFrom_55 : decode cX2_looksFrom 55 = .ok (.iload_n 2, 1) := by decide +kernel
theorem dX2_looksFrom_56 : decode cX2_looksFrom 56 = .ok (.ireturn, 1) := by decide +kernel
theorem dX2_looks_0 : decode cX2_looks 0 = .ok (.aload_n 0, 1) := by decide +kernel
theorem dX2_looks_1 : decode cX2_looks 1 = .ok (.iconst 0, 1) := by decide +kernel
theorem dX2_looks_2 : decode cX2_looks 2 = .ok (.putfield 38, 3) := by decide +kernel
theorem dX2_looks_5 : decode cX2_looks 5 = .ok (.iload_n 1, 1) := by decide +kernel
theorem dX2_looks_6 : decode cX2_looks 6 = .ok (.iload_n 2, 1) := by decide +kernel
theorem dX2_looks_7 : decode cX2_looks 7 = .ok (.iload_n 3, 1) := by decide +kernel
theorem dX2_looks_8 : decode cX2_looks 8 = .ok (.iload 4, 2) := by decide +kernel
theorem dX2_looks_10 : decode cX2_looks 10 = .ok (.invokestatic 100, 3) := by decide +kernel
theorem dX2_looks_13 : decode cX2_looks 13 = .ok (.ifCond .ne 9, 3) := by decide +kernel
theorem dX2_looks_16 : decode cX2_looks 16 = .ok (.aload_n 0, 1) := by decide +kernel
theorem dX2_looks_17 : decode cX2_looks 17 = .ok (.iconst 1, 1) := by decide +kernel
theorem dX2_looks_18 : decode cX2_looks 18 = .ok (.invokevirtual 103, 3) := by decide +kernel
theorem dX2_looks_21 : decode cX2_looks 21 = .ok (.ireturn, 1) := by decide +kernel
theorem dX2_looks_22 : decode cX2_looks 22 = .ok (.aload_n 0, 1) := by decide +kernel
theorem dX2_looks_23 : decode cX2_looks 23 = .ok (.iload_n 1, 1) := by decide +kernel
theorem dX2_looks_24 : decode cX2_looks 24 = .ok (.iload_n 2, 1) := by decide +kernel
theorem dX2_looks_25 : decode cX2_looks 25 = .ok (.iload_n 3, 1) := by decide +kernel
theorem dX2_looks_26 : decode cX2_looks 26 = .ok (.iload 4, 2) := by decide +kernel
theorem dX2_looks_28 : decode cX2_looks 28 = .ok (.invokevirtual 106, 3) := by decide +kernel
theorem dX2_looks_31 : decode cX2_looks 31 = .ok (.aload_n 0, 1) := by decide +kernel
theorem dX2_looks_32 : decode cX2_looks 32 = .ok (.aload_n 0, 1) := by decide +kernel
theorem dX2_looks_33 : decode cX2_looks 33 = .ok (.getfield 80, 3) := by decide +kernel
theorem dX2_looks_36 : decode cX2_looks 36 = .ok (.invokevirtual 150, 3) := by decide +kernel
theorem dX2_looks_39 : decode cX2_looks 39 = .ok (.ireturn, 1) := by decide +kernel
theorem dX2_off_0 : decode cX2_off 0 = .ok (.iload_n 0, 1) := by decide +kernel
theorem dX2_off_1 : decode cX2_off 1 = .ok (.iload_n 1, 1) := by decide +kernel
theorem dX2_off_2 : decode cX2_off 2 = .ok (.if_icmp .ge 9, 3) := by decide +kernel
theorem dX2_off_5 : decode cX2_off 5 = .ok (.iload_n 1, 1) := by decide +kernel
theorem dX2_off_6 : decode cX2_off 6 = .ok (.iload_n 0, 1) := by decide +kernel
theorem dX2_off_7 : decode cX2_off 7 = .ok (.isub, 1) := by decide +kernel
theorem dX2_off_8 : decode cX2_off 8 = .ok (.goto 15, 3) := by decide +kernel
theorem dX2_off_11 : decode cX2_off 11 = .ok (.iload_n 0, 1) := by decide +kernel
theorem dX2_off_12 : decode cX2_off 12 = .ok (.iload_n 2, 1) := by decide +kernel
theorem dX2_off_13 : decode cX2_off 13 = .ok (.if_icmp .le 9, 3) := by decide +kernel
theorem dX2_off_16 : decode cX2_off 16 = .ok (.iload_n 0, 1) := by decide +kernel
theorem dX2_off_17 : decode cX2_off 17 = .ok (.iload_n 2, 1) := by decide +kernel
theorem dX2_off_18 : decode cX2_off 18 = .ok (.isub, 1) := by decide +kernel
theorem dX2_off_19 : decode cX2_off 19 = .ok (.goto 4, 3) := by decide +kernel
theorem dX2_off_22 : decode cX2_off 22 = .ok (.iconst 0, 1) := by decide +kernel
theorem dX2_off_23 : decode cX2_off 23 = .ok (.ireturn, 1) := by decide +kernel
theorem dX2_farFrom_0 : decode cX2_farFrom 0 = .ok (.iload_n 2, 1) := by decide +kernel
theorem dX2_farFrom_1 : decode cX2_farFrom 1 = .ok (.aload_n 0, 1) := by decide +kernel
theorem dX2_farFrom_2 : decode cX2_farFrom 2 = .ok (.getfield 9, 3) := by decide +kernel
theorem dX2_farFrom_5 : decode cX2_farFrom 5 = .ok (.iconst 4, 1) := by decide +kernel
theorem dX2_farFrom_6 : decode cX2_farFrom 6 = .ok (.iload_n 1, 1) := by decide +kernel
theorem dX2_farFrom_7 : decode cX2_farFrom 7 = .ok (.imul, 1) := by decide +kernel
theorem dX2_farFrom_8 : decode cX2_farFrom 8 = .ok (.iaload, 1) := by decide +kernel
theorem dX2_farFrom_9 : decode cX2_farFrom 9 = .ok (.aload_n 0, 1) := by decide +kernel
theorem dX2_farFrom_10 : decode cX2_farFrom 10 = .ok (.getfield 9, 3) := by decide +kernel
theorem dX2_farFrom_13 : decode cX2_farFrom 13 = .ok (.iconst 4, 1) := by decide +kernel
theorem dX2_farFrom_14 : decode cX2_farFrom 14 = .ok (.iload_n 1, 1) := by decide +kernel
theorem dX2_farFrom_15 : decode cX2_farFrom 15 = .ok (.imul, 1) := by decide +kernel
theorem dX2_farFrom_16 : decode cX2_farFrom 16 = .ok (.iconst 2, 1) := by decide +kernel
theorem dX2_farFrom_17 : decode cX2_farFrom 17 = .ok (.iadd, 1) := by decide +kernel
theorem dX2_farFrom_18 : decode cX2_farFrom 18 = .ok (.iaload, 1) := by decide +kernel
theorem dX2_farFrom_19 : decode cX2_farFrom 19 = .ok (.invokestatic 153, 3) := by decide +kernel
theorem dX2_farFrom_22 : decode cX2_farFrom 22 = .ok (.istore 4, 2) := by decide +kernel
theorem dX2_farFrom_24 : decode cX2_farFrom 24 = .ok (.iload_n 3, 1) := by decide +kernel
theorem dX2_farFrom_25 : decode cX2_farFrom 25 = .ok (.aload_n 0, 1) := by decide +kernel
theorem dX2_farFrom_26 : decode cX2_farFrom 26 = .ok (.getfield 9, 3) := by decide +kernel
theorem dX2_farFrom_29 : decode cX2_farFrom 29 = .ok (.iconst 4, 1) := by decide +kernel
theorem dX2_farFrom_30 : decode cX2_farFrom 30 = .ok (.iload_n 1, 1) := by decide +kernel
theorem dX2_farFrom_31 : decode cX2_farFrom 31 = .ok (.imul, 1) := by decide +kernel
theorem dX2_farFrom_32 : decode cX2_farFrom 32 = .ok (.iconst 1, 1) := by decide +kernel
theorem dX2_farFrom_33 : decode cX2_farFrom 33 = .ok (.iadd, 1) := by decide +kernel
theorem dX2_farFrom_34 : decode cX2_farFrom 34 = .ok (.iaload, 1) := by decide +kernel
theorem dX2_farFrom_35 : decode cX2_farFrom 35 = .ok (.aload_n 0, 1) := by decide +kernel
theorem dX2_farFrom_36 : decode cX2_farFrom 36 = .ok (.getfield 9, 3) := by decide +kernel
theorem dX2_farFrom_39 : decode cX2_farFrom 39 = .ok (.iconst 4, 1) := by decide +kernel
theorem dX2_farFrom_40 : decode cX2_farFrom 40 = .ok (.iload_n 1, 1) := by decide +kernel
theorem dX2_farFrom_41 : decode cX2_farFrom 41 = .ok (.imul, 1) := by decide +kernel
theorem dX2_farFrom_42 : decode cX2_farFrom 42 = .ok (.iconst 3, 1) := by decide +kernel
theorem dX2_farFrom_43 : decode cX2_farFrom 43 = .ok (.iadd, 1) := by decide +kernel
theorem dX2_farFrom_44 : decode cX2_farFrom 44 = .ok (.iaload, 1) := by decide +kernel
theorem dX2_farFrom_45 : decode cX2_farFrom 45 = .ok (.invokestatic 153, 3) := by decide +kernel
theorem dX2_farFrom_48 : decode cX2_farFrom 48 = .ok (.istore 5, 2) := by decide +kernel
theorem dX2_farFrom_50 : decode cX2_farFrom 50 = .ok (.iload 4, 2) := by decide +kernel
theorem dX2_farFrom_52 : decode cX2_farFrom 52 = .ok (.iload 4, 2) := by decide +kernel
theorem dX2_farFrom_54 : decode cX2_farFrom 54 = .ok (.imul, 1) := by decide +kernel
theorem dX2_farFrom_55 : decode cX2_farFrom 55 = .ok (.iload 5, 2) := by decide +kernel
theorem dX2_farFrom_57 : decode cX2_farFrom 57 = .ok (.iload 5, 2) := by decide +kernel
theorem dX2_farFrom_59 : decode cX2_farFrom 59 = .ok (.imul, 1) := by decide +kernel
theorem dX2_farFrom_60 : decode cX2_farFrom 60 = .ok (.iadd, 1) := by decide +kernel
theorem dX2_farFrom_61 : decode cX2_farFrom 61 = .ok (.ireturn, 1) := by decide +kernel
theorem dX2_nearest_0 : decode cX2_nearest 0 = .ok (.aload_n 0, 1) := by decide +kernel
theorem dX2_nearest_1 : decode cX2_nearest 1 = .ok (.iconst 0, 1) := by decide +kernel
theorem dX2_nearest_2 : decode cX2_nearest 2 = .ok (.putfield 38, 3) := by decide +kernel
theorem dX2_nearest_5 : decode cX2_nearest 5 = .ok (.iload_n 1, 1) := by decide +kernel
theorem dX2_nearest_6 : decode cX2_nearest 6 = .ok (.iload_n 2, 1) := by decide +kernel
theorem dX2_nearest_7 : decode cX2_nearest 7 = .ok (.iload_n 1, 1) := by decide +kernel
theorem dX2_nearest_8 : decode cX2_nearest 8 = .ok (.iload_n 2, 1) := by decide +kernel
theorem dX2_nearest_9 : decode cX2_nearest 9 = .ok (.invokestatic 100, 3) := by decide +kernel
theorem dX2_nearest_12 : decode cX2_nearest 12 = .ok (.ifCond .ne 9, 3) := by decide +kernel
theorem dX2_nearest_15 : decode cX2_nearest 15 = .ok (.aload_n 0, 1) := by decide +kernel
theorem dX2_nearest_16 : decode cX2_nearest 16 = .ok (.iconst 1, 1) := by decide +kernel
theorem dX2_nearest_17 : decode cX2_nearest 17 = .ok (.invokevirtual 103, 3) := by decide +kernel
theorem dX2_nearest_20 : decode cX2_nearest 20 = .ok (.ireturn, 1) := by decide +kernel
theorem dX2_nearest_21 : decode cX2_nearest 21 = .ok (.iconst (-1), 1) := by decide +kernel
theorem dX2_nearest_22 : decode cX2_nearest 22 = .ok (.istore_n 3, 1) := by decide +kernel
theorem dX2_nearest_23 : decode cX2_nearest 23 = .ok (.iconst 0, 1) := by decide +kernel
theorem dX2_nearest_24 : decode cX2_nearest 24 = .ok (.istore 4, 2) := by decide +kernel
theorem dX2_nearest_26 : decode cX2_nearest 26 = .ok (.iload 4, 2) := by decide +kernel
theorem dX2_nearest_28 : decode cX2_nearest 28 = .ok (.aload_n 0, 1) := by decide +kernel
theorem dX2_nearest_29 : decode cX2_nearest 29 = .ok (.getfield 41, 3) := by decide +kernel
theorem dX2_nearest_32 : decode cX2_nearest 32 = .ok (.if_icmp .ge 46, 3) := by decide +kernel
theorem dX2_nearest_35 : decode cX2_nearest 35 = .ok (.aload_n 0, 1) := by decide +kernel
theorem dX2_nearest_36 : decode cX2_nearest 36 = .ok (.getfield 13, 3) := by decide +kernel
theorem dX2_nearest_39 : decode cX2_nearest 39 = .ok (.iload 4, 2) := by decide +kernel
theorem dX2_nearest_41 : decode cX2_nearest 41 = .ok (.iaload, 1) := by decide +kernel
theorem dX2_nearest_42 : decode cX2_nearest 42 = .ok (.iconst 1, 1) := by decide +kernel
theorem dX2_nearest_43 : decode cX2_nearest 43 = .ok (.if_icmp .ne 29, 3) := by decide +kernel
theorem dX2_nearest_46 : decode cX2_nearest 46 = .ok (.iload_n 3, 1) := by decide +kernel
theorem dX2_nearest_47 : decode cX2_nearest 47 = .ok (.iconst (-1), 1) := by decide +kernel
theorem dX2_nearest_48 : decode cX2_nearest 48 = .ok (.if_icmp .eq 21, 3) := by decide +kernel
theorem dX2_nearest_51 : decode cX2_nearest 51 = .ok (.aload_n 0, 1) := by decide +kernel
theorem dX2_nearest_52 : decode cX2_nearest 52 = .ok (.iload 4, 2) := by decide +kernel
theorem dX2_nearest_54 : decode cX2_nearest 54 = .ok (.iload_n 1, 1) := by decide +kernel
theorem dX2_nearest_55 : decode cX2_nearest 55 = .ok (.iload_n 2, 1) := by decide +kernel
theorem dX2_nearest_56 : decode cX2_nearest 56 = .ok (.invokevirtual 156, 3) := by decide +kernel
theorem dX2_nearest_59 : decode cX2_nearest 59 = .ok (.aload_n 0, 1) := by decide +kernel
theorem dX2_nearest_60 : decode cX2_nearest 60 = .ok (.iload_n 3, 1) := by decide +kernel
theorem dX2_nearest_61 : decode cX2_nearest 61 = .ok (.iload_n 1, 1) := by decide +kernel
theorem dX2_nearest_62 : decode cX2_nearest 62 = .ok (.iload_n 2, 1) := by decide +kernel
theorem dX2_nearest_63 : decode cX2_nearest 63 = .ok (.invokevirtual 156, 3) := by decide +kernel
theorem dX2_nearest_66 : decode cX2_nearest 66 = .ok (.if_icmp .ge 6, 3) := by decide +kernel
theorem dX2_nearest_69 : decode cX2_nearest 69 = .ok (.iload 4, 2) := by decide +kernel
theorem dX2_nearest_71 : decode cX2_nearest 71 = .ok (.istore_n 3, 1) := by decide +kernel
theorem dX2_nearest_72 : decode cX2_nearest 72 = .ok (.iinc 4 1, 3) := by decide +kernel
theorem dX2_nearest_75 : decode cX2_nearest 75 = .ok (.goto (-49), 3) := by decide +kernel
theorem dX2_nearest_78 : decode cX2_nearest 78 = .ok (.iload_n 3, 1) := by decide +kernel
theorem dX2_nearest_79 : decode cX2_nearest 79 = .ok (.ireturn, 1) := by decide +kernel
theorem dX2_sum_0 : decode cX2_sum 0 = .ok (.iload_n 2, 1) := by decide +kernel
theorem dX2_sum_1 : decode cX2_sum 1 = .ok (.ifCond .ne 7, 3) := by decide +kernel
theorem dX2_sum_4 : decode cX2_sum 4 = .ok (.iconst 1, 1) := by decide +kernel
theorem dX2_sum_5 : decode cX2_sum 5 = .ok (.goto 17, 3) := by decide +kernel
theorem dX2_sum_8 : decode cX2_sum 8 = .ok (.iload_n 2, 1) := by decide +kernel
theorem dX2_sum_9 : decode cX2_sum 9 = .ok (.iconst 1, 1) := by decide +kernel
theorem dX2_sum_10 : decode cX2_sum 10 = .ok (.if_icmp .ne 11, 3) := by decide +kernel
theorem dX2_sum_13 : decode cX2_sum 13 = .ok (.aload_n 0, 1) := by decide +kernel
theorem dX2_sum_14 : decode cX2_sum 14 = .ok (.iload_n 1, 1) := by decide +kernel
theorem dX2_sum_15 : decode cX2_sum 15 = .ok (.invokevirtual 70, 3) := by decide +kernel
theorem dX2_sum_18 : decode cX2_sum 18 = .ok (.goto 4, 3) := by decide +kernel
theorem dX2_sum_21 : decode cX2_sum 21 = .ok (.iconst 0, 1) := by decide +kernel
theorem dX2_sum_22 : decode cX2_sum 22 = .ok (.istore_n 3, 1) := by decide +kernel
theorem dX2_sum_23 : decode cX2_sum 23 = .ok (.iconst 0, 1) := by decide +kernel
theorem dX2_sum_24 : decode cX2_sum 24 = .ok (.istore 4, 2) := by decide +kernel
theorem dX2_sum_26 : decode cX2_sum 26 = .ok (.iload 4, 2) := by decide +kernel
theorem dX2_sum_28 : decode cX2_sum 28 = .ok (.aload_n 0, 1) := by decide +kernel
theorem dX2_sum_29 : decode cX2_sum 29 = .ok (.getfield 20, 3) := by decide +kernel
theorem dX2_sum_32 : decode cX2_sum 32 = .ok (.iload_n 1, 1) := by decide +kernel
theorem dX2_sum_33 : decode cX2_sum 33 = .ok (.iaload, 1) := by decide +kernel
theorem dX2_sum_34 : decode cX2_sum 34 = .ok (.if_icmp .ge 115, 3) := by decide +kernel
theorem dX2_sum_37 : decode cX2_sum 37 = .ok (.aload_n 0, 1) := by decide +kernel
theorem dX2_sum_38 : decode cX2_sum 38 = .ok (.getfield 26, 3) := by decide +kernel
theorem dX2_sum_41 : decode cX2_sum 41 = .ok (.iload_n 1, 1) := by decide +kernel
theorem dX2_sum_42 : decode cX2_sum 42 = .ok (.iaload, 1) := by decide +kernel
theorem dX2_sum_43 : decode cX2_sum 43 = .ok (.ifCond .le 106, 3) := by decide +kernel
theorem dX2_sum_46 : decode cX2_sum 46 = .ok (.aload_n 0, 1) := by decide +kernel
theorem dX2_sum_47 : decode cX2_sum 47 = .ok (.iload_n 1, 1) := by decide +kernel
theorem dX2_sum_48 : decode cX2_sum 48 = .ok (.iload 4, 2) := by decide +kernel
theorem dX2_sum_50 : decode cX2_sum 50 = .ok (.invokevirtual 44, 3) := by decide +kernel
theorem dX2_sum_53 : decode cX2_sum 53 = .ok (.istore 5, 2) := by decide +kernel
theorem dX2_sum_55 : decode cX2_sum 55 = .ok (.iload_n 3, 1) := by decide +kernel
theorem dX2_sum_56 : decode cX2_sum 56 = .ok (.aload_n 0, 1) := by decide +kernel
theorem dX2_sum_57 : decode cX2_sum 57 = .ok (.iload 5, 2) := by decide +kernel
theorem dX2_sum_59 : decode cX2_sum 59 = .ok (.iload_n 2, 1) := by decide +kernel
theorem dX2_sum_60 : decode cX2_sum 60 = .ok (.invokevirtual 159, 3) := by decide +kernel
theorem dX2_sum_63 : decode cX2_sum 63 = .ok (.iadd, 1) := by decide +kernel
theorem dX2_sum_64 : decode cX2_sum 64 = .ok (.istore_n 3, 1) := by decide +kernel
theorem dX2_sum_65 : decode cX2_sum 65 = .ok (.iload_n 2, 1) := by decide +kernel
theorem dX2_sum_66 : decode cX2_sum 66 = .ok (.iconst 2, 1) := by decide +kernel
theorem dX2_sum_67 : decode cX2_sum 67 = .ok (.if_icmp .ge 6, 3) := by decide +kernel
theorem dX2_sum_70 : decode cX2_sum 70 = .ok (.goto 73, 3) := by decide +kernel
theorem dX2_sum_73 : decode cX2_sum 73 = .ok (.aload_n 0, 1) := by decide +kernel
theorem dX2_sum_74 : decode cX2_sum 74 = .ok (.aload_n 0, 1) := by decide +kernel
theorem dX2_sum_75 : decode cX2_sum 75 = .ok (.iload 5, 2) := by decide +kernel
theorem dX2_sum_77 : decode cX2_sum 77 = .ok (.iconst 0, 1) := by decide +kernel
theorem dX2_sum_78 : decode cX2_sum 78 = .ok (.invokevirtual 47, 3) := by decide +kernel
theorem dX2_sum_81 : decode cX2_sum 81 = .ok (.aload_n 0, 1) := by decide +kernel
theorem dX2_sum_82 : decode cX2_sum 82 = .ok (.iload 5, 2) := by decide +kernel
theorem dX2_sum_84 : decode cX2_sum 84 = .ok (.iconst 1, 1) := by decide +kernel
theorem dX2_sum_85 : decode cX2_sum 85 = .ok (.invokevirtual 47, 3) := by decide +kernel
theorem dX2_sum_88 : decode cX2_sum 88 = .ok (.aload_n 0, 1) := by decide +kernel
theorem dX2_sum_89 : decode cX2_sum 89 = .ok (.iload 5, 2) := by decide +kernel
theorem dX2_sum_91 : decode cX2_sum 91 = .ok (.iconst 2, 1) := by decide +kernel
theorem dX2_sum_92 : decode cX2_sum 92 = .ok (.invokevirtual 47, 3) := by decide +kernel
theorem dX2_sum_95 : decode cX2_sum 95 = .ok (.aload_n 0, 1) := by decide +kernel
theorem dX2_sum_96 : decode cX2_sum 96 = .ok (.iload 5, 2) := by decide +kernel
theorem dX2_sum_98 : decode cX2_sum 98 = .ok (.iconst 3, 1) := by decide +kernel
theorem dX2_sum_99 : decode cX2_sum 99 = .ok (.invokevirtual 47, 3) := by decide +kernel
theorem dX2_sum_102 : decode cX2_sum 102 = .ok (.invokevirtual 106, 3) := by decide +kernel
theorem dX2_sum_105 : decode cX2_sum 105 = .ok (.iconst 0, 1) := by decide +kernel
theorem dX2_sum_106 : decode cX2_sum 106 = .ok (.istore 6, 2) := by decide +kernel
theorem dX2_sum_108 : decode cX2_sum 108 = .ok (.iload 6, 2) := by decide +kernel
theorem dX2_sum_110 : decode cX2_sum 110 = .ok (.iload 4, 2) := by decide +kernel
theorem dX2_sum_112 : decode cX2_sum 112 = .ok (.if_icmp .ge 31, 3) := by decide +kernel
theorem dX2_sum_115 : decode cX2_sum 115 = .ok (.iload_n 3, 1) := by decide +kernel
theorem dX2_sum_116 : decode cX2_sum 116 = .ok (.aload_n 0, 1) := by decide +kernel
theorem dX2_sum_117 : decode cX2_sum 117 = .ok (.aload_n 0, 1) := by decide +kernel
theorem dX2_sum_118 : decode cX2_sum 118 = .ok (.iload_n 1, 1) := by decide +kernel
theorem dX2_sum_119 : decode cX2_sum 119 = .ok (.iload 6, 2) := by decide +kernel
theorem dX2_sum_121 : decode cX2_sum 121 = .ok (.invokevirtual 44, 3) := by decide +kernel
theorem dX2_sum_124 : decode cX2_sum 124 = .ok (.invokevirtual 147, 3) := by decide +kernel
theorem dX2_sum_127 : decode cX2_sum 127 = .ok (.ifCond .eq 7, 3) := by decide +kernel
theorem dX2_sum_130 : decode cX2_sum 130 = .ok (.iconst 1, 1) := by decide +kernel
theorem dX2_sum_131 : decode cX2_sum 131 = .ok (.goto 4, 3) := by decide +kernel
theorem dX2_sum_134 : decode cX2_sum 134 = .ok (.iconst 0, 1) := by decide +kernel
theorem dX2_sum_135 : decode cX2_sum 135 = .ok (.iadd, 1) := by decide +kernel
theorem dX2_sum_136 : decode cX2_sum 136 = .ok (.istore_n 3, 1) := by decide +kernel
theorem dX2_sum_137 : decode cX2_sum 137 = .ok (.iinc 6 1, 3) := by decide +kernel
theorem dX2_sum_140 : decode cX2_sum 140 = .ok (.goto (-32), 3) := by decide +kernel
theorem dX2_sum_143 : decode cX2_sum 143 = .ok (.iinc 4 1, 3) := by decide +kernel
theorem dX2_sum_146 : decode cX2_sum 146 = .ok (.goto (-120), 3) := by decide +kernel
theorem dX2_sum_149 : decode cX2_sum 149 = .ok (.iload_n 3, 1) := by decide +kernel
theorem dX2_sum_150 : decode cX2_sum 150 = .ok (.ireturn, 1) := by decide +kernel
theorem dX2_heldNow_0 : decode cX2_heldNow 0 = .ok (.iconst 0, 1) := by decide +kernel
theorem dX2_heldNow_1 : decode cX2_heldNow 1 = .ok (.istore_n 1, 1) := by decide +kernel
theorem dX2_heldNow_2 : decode cX2_heldNow 2 = .ok (.iconst 0, 1) := by decide +kernel
theorem dX2_heldNow_3 : decode cX2_heldNow 3 = .ok (.istore_n 2, 1) := by decide +kernel
theorem dX2_heldNow_4 : decode cX2_heldNow 4 = .ok (.iload_n 2, 1) := by decide +kernel
theorem dX2_heldNow_5 : decode cX2_heldNow 5 = .ok (.aload_n 0, 1) := by decide +kernel
theorem dX2_heldNow_6 : decode cX2_heldNow 6 = .ok (.getfield 41, 3) := by decide +kernel
theorem dX2_heldNow_9 : decode cX2_heldNow 9 = .ok (.if_icmp .ge 18, 3) := by decide +kernel
theorem dX2_heldNow_12 : decode cX2_heldNow 12 = .ok (.iload_n 1, 1) := by decide +kernel
theorem dX2_heldNow_13 : decode cX2_heldNow 13 = .ok (.aload_n 0, 1) := by decide +kernel
theorem dX2_heldNow_14 : decode cX2_heldNow 14 = .ok (.getfield 13, 3) := by decide +kernel
theorem dX2_heldNow_17 : decode cX2_heldNow 17 = .ok (.iload_n 2, 1) := by decide +kernel
theorem dX2_heldNow_18 : decode cX2_heldNow 18 = .ok (.iaload, 1) := by decide +kernel
theorem dX2_heldNow_19 : decode cX2_heldNow 19 = .ok (.iadd, 1) := by decide +kernel
theorem dX2_heldNow_20 : decode cX2_heldNow 20 = .ok (.istore_n 1, 1) := by decide +kernel
theorem dX2_heldNow_21 : decode cX2_heldNow 21 = .ok (.iinc 2 1, 3) := by decide +kernel
theorem dX2_heldNow_24 : decode cX2_heldNow 24 = .ok (.goto (-20), 3) := by decide +kernel
theorem dX2_heldNow_27 : decode cX2_heldNow 27 = .ok (.iload_n 1, 1) := by decide +kernel
theorem dX2_heldNow_28 : decode cX2_heldNow 28 = .ok (.ireturn, 1) := by decide +kernel
theorem dX2_counted_0 : decode cX2_counted 0 = .ok (.iload_n 1, 1) := by decide +kernel
theorem dX2_counted_1 : decode cX2_counted 1 = .ok (.tableswitch 111 0 7 #[47, 52, 57, 67, 77, 87, 96, 106], 47) := by decide +kernel
theorem dX2_counted_48 : decode cX2_counted 48 = .ok (.aload_n 0, 1) := by decide +kernel
theorem dX2_counted_49 : decode cX2_counted 49 = .ok (.invokevirtual 162, 3) := by decide +kernel
theorem dX2_counted_52 : decode cX2_counted 52 = .ok (.ireturn, 1) := by decide +kernel
theorem dX2_counted_53 : decode cX2_counted 53 = .ok (.aload_n 0, 1) := by decide +kernel
theorem dX2_counted_54 : decode cX2_counted 54 = .ok (.getfield 41, 3) := by decide +kernel
theorem dX2_counted_57 : decode cX2_counted 57 = .ok (.ireturn, 1) := by decide +kernel
theorem dX2_counted_58 : decode cX2_counted 58 = .ok (.aload_n 0, 1) := by decide +kernel
theorem dX2_counted_59 : decode cX2_counted 59 = .ok (.aload_n 0, 1) := by decide +kernel
theorem dX2_counted_60 : decode cX2_counted 60 = .ok (.getfield 80, 3) := by decide +kernel
theorem dX2_counted_63 : decode cX2_counted 63 = .ok (.iconst 0, 1) := by decide +kernel
theorem dX2_counted_64 : decode cX2_counted 64 = .ok (.invokevirtual 159, 3) := by decide +kernel
theorem dX2_counted_67 : decode cX2_counted 67 = .ok (.ireturn, 1) := by decide +kernel
theorem dX2_counted_68 : decode cX2_counted 68 = .ok (.aload_n 0, 1) := by decide +kernel
theorem dX2_counted_69 : decode cX2_counted 69 = .ok (.getfield 26, 3) := by decide +kernel
theorem dX2_counted_72 : decode cX2_counted 72 = .ok (.aload_n 0, 1) := by decide +kernel
theorem dX2_counted_73 : decode cX2_counted 73 = .ok (.getfield 80, 3) := by decide +kernel
theorem dX2_counted_76 : decode cX2_counted 76 = .ok (.iaload, 1) := by decide +kernel
theorem dX2_counted_77 : decode cX2_counted 77 = .ok (.ireturn, 1) := by decide +kernel
theorem dX2_counted_78 : decode cX2_counted 78 = .ok (.aload_n 0, 1) := by decide +kernel
theorem dX2_counted_79 : decode cX2_counted 79 = .ok (.aload_n 0, 1) := by decide +kernel
theorem dX2_counted_80 : decode cX2_counted 80 = .ok (.getfield 80, 3) := by decide +kernel
theorem dX2_counted_83 : decode cX2_counted 83 = .ok (.iconst 1, 1) := by decide +kernel
theorem dX2_counted_84 : decode cX2_counted 84 = .ok (.invokevirtual 159, 3) := by decide +kernel
theorem dX2_counted_87 : decode cX2_counted 87 = .ok (.ireturn, 1) := by decide +kernel
theorem dX2_counted_88 : decode cX2_counted 88 = .ok (.aload_n 0, 1) := by decide +kernel
theorem dX2_counted_89 : decode cX2_counted 89 = .ok (.aload_n 0, 1) := by decide +kernel
theorem dX2_counted_90 : decode cX2_counted 90 = .ok (.getfield 80, 3) := by decide +kernel
theorem dX2_counted_93 : decode cX2_counted 93 = .ok (.invokevirtual 70, 3) := by decide +kernel
theorem dX2_counted_96 : decode cX2_counted 96 = .ok (.ireturn, 1) := by decide +kernel
theorem dX2_counted_97 : decode cX2_counted 97 = .ok (.aload_n 0, 1) := by decide +kernel
theorem dX2_counted_98 : decode cX2_counted 98 = .ok (.aload_n 0, 1) := by decide +kernel
theorem dX2_counted_99 : decode cX2_counted 99 = .ok (.getfield 80, 3) := by decide +kernel
theorem dX2_counted_102 : decode cX2_counted 102 = .ok (.iconst 2, 1) := by decide +kernel
theorem dX2_counted_103 : decode cX2_counted 103 = .ok (.invokevirtual 159, 3) := by decide +kernel
theorem dX2_counted_106 : decode cX2_counted 106 = .ok (.ireturn, 1) := by decide +kernel
theorem dX2_counted_107 : decode cX2_counted 107 = .ok (.aload_n 0, 1) := by decide +kernel
theorem dX2_counted_108 : decode cX2_counted 108 = .ok (.getfield 97, 3) := by decide +kernel
theorem dX2_counted_111 : decode cX2_counted 111 = .ok (.ireturn, 1) := by decide +kernel
theorem dX2_counted_112 : decode cX2_counted 112 = .ok (.aload_n 0, 1) := by decide +kernel
theorem dX2_counted_113 : decode cX2_counted 113 = .ok (.getfield 20, 3) := by decide +kernel
theorem dX2_counted_116 : decode cX2_counted 116 = .ok (.aload_n 0, 1) := by decide +kernel
theorem dX2_counted_117 : decode cX2_counted 117 = .ok (.getfield 80, 3) := by decide +kernel
theorem dX2_counted_120 : decode cX2_counted 120 = .ok (.iaload, 1) := by decide +kernel
theorem dX2_counted_121 : decode cX2_counted 121 = .ok (.ireturn, 1) := by decide +kernel
theorem dX2_count_0 : decode cX2_count 0 = .ok (.aload_n 0, 1) := by decide +kernel
theorem dX2_count_1 : decode cX2_count 1 = .ok (.iconst 0, 1) := by decide +kernel
theorem dX2_count_2 : decode cX2_count 2 = .ok (.putfield 38, 3) := by decide +kernel
theorem dX2_count_5 : decode cX2_count 5 = .ok (.iload_n 1, 1) := by decide +kernel
theorem dX2_count_6 : decode cX2_count 6 = .ok (.ifCond .lt 17, 3) := by decide +kernel
theorem dX2_count_9 : decode cX2_count 9 = .ok (.iload_n 1, 1) := by decide +kernel
theorem dX2_count_10 : decode cX2_count 10 = .ok (.bipush 8, 2) := by decide +kernel
theorem dX2_count_12 : decode cX2_count 12 = .ok (.if_icmp .gt 11, 3) := by decide +kernel
theorem dX2_count_15 : decode cX2_count 15 = .ok (.aload_n 0, 1) := by decide +kernel
theorem dX2_count_16 : decode cX2_count 16 = .ok (.iload_n 1, 1) := by decide +kernel
theorem dX2_count_17 : decode cX2_count 17 = .ok (.invokevirtual 165, 3) := by decide +kernel
theorem dX2_count_20 : decode cX2_count 20 = .ok (.goto 8, 3) := by decide +kernel
theorem dX2_count_23 : decode cX2_count 23 = .ok (.aload_n 0, 1) := by decide +kernel
theorem dX2_count_24 : decode cX2_count 24 = .ok (.iconst 1, 1) := by decide +kernel
theorem dX2_count_25 : decode cX2_count 25 = .ok (.invokevirtual 103, 3) := by decide +kernel
theorem dX2_count_28 : decode cX2_count 28 = .ok (.ireturn, 1) := by decide +kernel
theorem dX2_grows_0 : decode cX2_grows 0 = .ok (.aload_n 0, 1) := by decide +kernel
theorem dX2_grows_1 : decode cX2_grows 1 = .ok (.iconst 0, 1) := by decide +kernel
theorem dX2_grows_2 : decode cX2_grows 2 = .ok (.putfield 38, 3) := by decide +kernel
theorem dX2_grows_5 : decode cX2_grows 5 = .ok (.iload_n 1, 1) := by decide +kernel
theorem dX2_grows_6 : decode cX2_grows 6 = .ok (.iload_n 2, 1) := by decide +kernel
theorem dX2_grows_7 : decode cX2_grows 7 = .ok (.iload_n 3, 1) := by decide +kernel
theorem dX2_grows_8 : decode cX2_grows 8 = .ok (.iload 4, 2) := by decide +kernel
theorem dX2_grows_10 : decode cX2_grows 10 = .ok (.invokestatic 100, 3) := by decide +kernel
theorem dX2_grows_13 : decode cX2_grows 13 = .ok (.ifCond .ne 9, 3) := by decide +kernel
theorem dX2_grows_16 : decode cX2_grows 16 = .ok (.aload_n 0, 1) := by decide +kernel
theorem dX2_grows_17 : decode cX2_grows 17 = .ok (.iconst 1, 1) := by decide +kernel
theorem dX2_grows_18 : decode cX2_grows 18 = .ok (.invokevirtual 103, 3) := by decide +kernel
theorem dX2_grows_21 : decode cX2_grows 21 = .ok (.ireturn, 1) := by decide +kernel
theorem dX2_grows_22 : decode cX2_grows 22 = .ok (.aload_n 0, 1) := by decide +kernel
theorem dX2_grows_23 : decode cX2_grows 23 = .ok (.iload_n 1, 1) := by decide +kernel
theorem dX2_grows_24 : decode cX2_grows 24 = .ok (.iload_n 2, 1) := by decide +kernel
theorem dX2_grows_25 : decode cX2_grows 25 = .ok (.iload_n 3, 1) := by decide +kernel
theorem dX2_grows_26 : decode cX2_grows 26 = .ok (.iload 4, 2) := by decide +kernel
theorem dX2_grows_28 : decode cX2_grows 28 = .ok (.invokevirtual 106, 3) := by decide +kernel
theorem dX2_grows_31 : decode cX2_grows 31 = .ok (.aload_n 0, 1) := by decide +kernel
theorem dX2_grows_32 : decode cX2_grows 32 = .ok (.invokevirtual 110, 3) := by decide +kernel
theorem dX2_grows_35 : decode cX2_grows 35 = .ok (.iconst 0, 1) := by decide +kernel
theorem dX2_grows_36 : decode cX2_grows 36 = .ok (.istore 5, 2) := by decide +kernel
theorem dX2_grows_38 : decode cX2_grows 38 = .ok (.iconst 0, 1) := by decide +kernel
theorem dX2_grows_39 : decode cX2_grows 39 = .ok (.istore 6, 2) := by decide +kernel
theorem dX2_grows_41 : decode cX2_grows 41 = .ok (.iload 6, 2) := by decide +kernel
theorem dX2_grows_43 : decode cX2_grows 43 = .ok (.aload_n 0, 1) := by decide +kernel
theorem dX2_grows_44 : decode cX2_grows 44 = .ok (.getfield 77, 3) := by decide +kernel
theorem dX2_grows_47 : decode cX2_grows 47 = .ok (.if_icmp .gt 25, 3) := by decide +kernel
theorem dX2_grows_50 : decode cX2_grows 50 = .ok (.iload 5, 2) := by decide +kernel
theorem dX2_grows_52 : decode cX2_grows 52 = .ok (.aload_n 0, 1) := by decide +kernel
theorem dX2_grows_53 : decode cX2_grows 53 = .ok (.aload_n 0, 1) := by decide +kernel
theorem dX2_grows_54 : decode cX2_grows 54 = .ok (.getfield 29, 3) := by decide +kernel
theorem dX2_grows_57 : decode cX2_grows 57 = .ok (.iload 6, 2) := by decide +kernel
theorem dX2_grows_59 : decode cX2_grows 59 = .ok (.iaload, 1) := by decide +kernel
theorem dX2_grows_60 : decode cX2_grows 60 = .ok (.invokevirtual 83, 3) := by decide +kernel
theorem dX2_grows_63 : decode cX2_grows 63 = .ok (.iadd, 1) := by decide +kernel
theorem dX2_grows_64 : decode cX2_grows 64 = .ok (.istore 5, 2) := by decide +kernel
theorem dX2_grows_66 : decode cX2_grows 66 = .ok (.iinc 6 1, 3) := by decide +kernel
theorem dX2_grows_69 : decode cX2_grows 69 = .ok (.goto (-28), 3) := by decide +kernel
theorem dX2_grows_72 : decode cX2_grows 72 = .ok (.iload 5, 2) := by decide +kernel
theorem dX2_grows_74 : decode cX2_grows 74 = .ok (.ireturn, 1) := by decide +kernel
theorem dX2_splits_0 : decode cX2_splits 0 = .ok (.aload_n 0, 1) := by decide +kernel
theorem dX2_splits_1 : decode cX2_splits 1 = .ok (.iconst 0, 1) := by decide +kernel
theorem dX2_splits_2 : decode cX2_splits 2 = .ok (.putfield 38, 3) := by decide +kernel
theorem dX2_splits_5 : decode cX2_splits 5 = .ok (.iload_n 1, 1) := by decide +kernel
theorem dX2_splits_6 : decode cX2_splits 6 = .ok (.iload_n 2, 1) := by decide +kernel
theorem dX2_splits_7 : decode cX2_splits 7 = .ok (.iload_n 3, 1) := by decide +kernel
theorem dX2_splits_8 : decode cX2_splits 8 = .ok (.iload 4, 2) := by decide +kernel
theorem dX2_splits_10 : decode cX2_splits 10 = .ok (.invokestatic 100, 3) := by decide +kernel
theorem dX2_splits_13 : decode cX2_splits 13 = .ok (.ifCond .ne 9, 3) := by decide +kernel
theorem dX2_splits_16 : decode cX2_splits 16 = .ok (.aload_n 0, 1) := by decide +kernel
theorem dX2_splits_17 : decode cX2_splits 17 = .ok (.iconst 1, 1) := by decide +kernel
theorem dX2_splits_18 : decode cX2_splits 18 = .ok (.invokevirtual 103, 3) := by decide +kernel
theorem dX2_splits_21 : decode cX2_splits 21 = .ok (.ireturn, 1) := by decide +kernel
theorem dX2_splits_22 : decode cX2_splits 22 = .ok (.aload_n 0, 1) := by decide +kernel
theorem dX2_splits_23 : decode cX2_splits 23 = .ok (.iload_n 1, 1) := by decide +kernel
theorem dX2_splits_24 : decode cX2_splits 24 = .ok (.iload_n 2, 1) := by decide +kernel
theorem dX2_splits_25 : decode cX2_splits 25 = .ok (.iload_n 3, 1) := by decide +kernel
theorem dX2_splits_26 : decode cX2_splits 26 = .ok (.iload 4, 2) := by decide +kernel
theorem dX2_splits_28 : decode cX2_splits 28 = .ok (.invokevirtual 106, 3) := by decide +kernel
theorem dX2_splits_31 : decode cX2_splits 31 = .ok (.aload_n 0, 1) := by decide +kernel
theorem dX2_splits_32 : decode cX2_splits 32 = .ok (.invokevirtual 110, 3) := by decide +kernel
theorem dX2_splits_35 : decode cX2_splits 35 = .ok (.iconst 0, 1) := by decide +kernel
theorem dX2_splits_36 : decode cX2_splits 36 = .ok (.istore 5, 2) := by decide +kernel
theorem dX2_splits_38 : decode cX2_splits 38 = .ok (.aload_n 0, 1) := by decide +kernel
theorem dX2_splits_39 : decode cX2_splits 39 = .ok (.getfield 77, 3) := by decide +kernel
theorem dX2_splits_42 : decode cX2_splits 42 = .ok (.istore 6, 2) := by decide +kernel
theorem dX2_splits_44 : decode cX2_splits 44 = .ok (.iload 6, 2) := by decide +kernel
theorem dX2_splits_46 : decode cX2_splits 46 = .ok (.ifCond .lt 28, 3) := by decide +kernel
theorem dX2_splits_49 : decode cX2_splits 49 = .ok (.aload_n 0, 1) := by decide +kernel
theorem dX2_splits_50 : decode cX2_splits 50 = .ok (.getfield 20, 3) := by decide +kernel
theorem dX2_splits_53 : decode cX2_splits 53 = .ok (.aload_n 0, 1) := by decide +kernel
theorem dX2_splits_54 : decode cX2_splits 54 = .ok (.getfield 29, 3) := by decide +kernel
theorem dX2_splits_57 : decode cX2_splits 57 = .ok (.iload 6, 2) := by decide +kernel
theorem dX2_splits_59 : decode cX2_splits 59 = .ok (.iaload, 1) := by decide +kernel
theorem dX2_splits_60 : decode cX2_splits 60 = .ok (.iaload, 1) := by decide +kernel
theorem dX2_splits_61 : decode cX2_splits 61 = .ok (.iconst 4, 1) := by decide +kernel
theorem dX2_splits_62 : decode cX2_splits 62 = .ok (.if_icmp .ne 12, 3) := by decide +kernel
theorem dX2_splits_65 : decode cX2_splits 65 = .ok (.iinc 5 1, 3) := by decide +kernel
theorem dX2_splits_68 : decode cX2_splits 68 = .ok (.iinc 6 (-1), 3) := by decide +kernel
theorem dX2_splits_71 : decode cX2_splits 71 = .ok (.goto (-27), 3) := by decide +kernel
theorem dX2_splits_74 : decode cX2_splits 74 = .ok (.iload 5, 2) := by decide +kernel
theorem dX2_splits_76 : decode cX2_splits 76 = .ok (.ireturn, 1) := by decide +kernel
theorem dX2_mean_0 : decode cX2_mean 0 = .ok (.aload_n 0, 1) := by decide +kernel
theorem dX2_mean_1 : decode cX2_mean 1 = .ok (.iconst 0, 1) := by decide +kernel
theorem dX2_mean_2 : decode cX2_mean 2 = .ok (.putfield 38, 3) := by decide +kernel
theorem dX2_mean_5 : decode cX2_mean 5 = .ok (.iconst 0, 1) := by decide +kernel
theorem dX2_mean_6 : decode cX2_mean 6 = .ok (.istore_n 1, 1) := by decide +kernel
theorem dX2_mean_7 : decode cX2_mean 7 = .ok (.iconst 0, 1) := by decide +kernel
theorem dX2_mean_8 : decode cX2_mean 8 = .ok (.istore_n 2, 1) := by decide +kernel
theorem dX2_mean_9 : decode cX2_mean 9 = .ok (.iload_n 2, 1) := by decide +kernel
theorem dX2_mean_10 : decode cX2_mean 10 = .ok (.aload_n 0, 1) := by decide +kernel
theorem dX2_mean_11 : decode cX2_mean 11 = .ok (.getfield 41, 3) := by decide +kernel
theorem dX2_mean_14 : decode cX2_mean 14 = .ok (.if_icmp .ge 24, 3) := by decide +kernel
theorem dX2_mean_17 : decode cX2_mean 17 = .ok (.iload_n 1, 1) := by decide +kernel
theorem dX2_mean_18 : decode cX2_mean 18 = .ok (.aload_n 0, 1) := by decide +kernel
theorem dX2_mean_19 : decode cX2_mean 19 = .ok (.getfield 13, 3) := by decide +kernel
theorem dX2_mean_22 : decode cX2_mean 22 = .ok (.iload_n 2, 1) := by decide +kernel
theorem dX2_mean_23 : decode cX2_mean 23 = .ok (.iaload, 1) := by decide +kernel
theorem dX2_mean_24 : decode cX2_mean 24 = .ok (.aload_n 0, 1) := by decide +kernel
theorem dX2_mean_25 : decode cX2_mean 25 = .ok (.iload_n 2, 1) := by decide +kernel
theorem dX2_mean_26 : decode cX2_mean 26 = .ok (.invokevirtual 135, 3) := by decide +kernel
theorem dX2_mean_29 : decode cX2_mean 29 = .ok (.imul, 1) := by decide +kernel
theorem dX2_mean_30 : decode cX2_mean 30 = .ok (.iadd, 1) := by decide +kernel
theorem dX2_mean_31 : decode cX2_mean 31 = .ok (.istore_n 1, 1) := by decide +kernel
theorem dX2_mean_32 : decode cX2_mean 32 = .ok (.iinc 2 1, 3) := by decide +kernel
theorem dX2_mean_35 : decode cX2_mean 35 = .ok (.goto (-26), 3) := by decide +kernel
theorem dX2_mean_38 : decode cX2_mean 38 = .ok (.aload_n 0, 1) := by decide +kernel
theorem dX2_mean_39 : decode cX2_mean 39 = .ok (.invokevirtual 162, 3) := by decide +kernel
theorem dX2_mean_42 : decode cX2_mean 42 = .ok (.ifCond .ne 7, 3) := by decide +kernel
theorem dX2_mean_45 : decode cX2_mean 45 = .ok (.dconst 0, 1) := by decide +kernel
theorem dX2_mean_46 : decode cX2_mean 46 = .ok (.goto 11, 3) := by decide +kernel
theorem dX2_mean_49 : decode cX2_mean 49 = .ok (.iload_n 1, 1) := by decide +kernel
theorem dX2_mean_50 : decode cX2_mean 50 = .ok (.i2d, 1) := by decide +kernel
theorem dX2_mean_51 : decode cX2_mean 51 = .ok (.aload_n 0, 1) := by decide +kernel
theorem dX2_mean_52 : decode cX2_mean 52 = .ok (.invokevirtual 162, 3) := by decide +kernel
theorem dX2_mean_55 : decode cX2_mean 55 = .ok (.i2d, 1) := by decide +kernel
theorem dX2_mean_56 : decode cX2_mean 56 = .ok (.ddiv, 1) := by decide +kernel
theorem dX2_mean_57 : decode cX2_mean 57 = .ok (.dreturn, 1) := by decide +kernel
theorem dX2_digestFrom_0 : decode cX2_digestFrom 0 = .ok (.lload_n 2, 1) := by decide +kernel
theorem dX2_digestFrom_1 : decode cX2_digestFrom 1 = .ok (.ldc2_w 168, 3) := by decide +kernel
theorem dX2_digestFrom_4 : decode cX2_digestFrom 4 = .ok (.lmul, 1) := by decide +kernel
theorem dX2_digestFrom_5 : decode cX2_digestFrom 5 = .ok (.aload_n 0, 1) := by decide +kernel
theorem dX2_digestFrom_6 : decode cX2_digestFrom 6 = .ok (.getfield 20, 3) := by decide +kernel
theorem dX2_digestFrom_9 : decode cX2_digestFrom 9 = .ok (.iload_n 1, 1) := by decide +kernel
theorem dX2_digestFrom_10 : decode cX2_digestFrom 10 = .ok (.iaload, 1) := by decide +kernel
theorem dX2_digestFrom_11 : decode cX2_digestFrom 11 = .ok (.i2l, 1) := by decide +kernel
theorem dX2_digestFrom_12 : decode cX2_digestFrom 12 = .ok (.ladd, 1) := by decide +kernel
theorem dX2_digestFrom_13 : decode cX2_digestFrom 13 = .ok (.lstore 4, 2) := by decide +kernel
theorem dX2_digestFrom_15 : decode cX2_digestFrom 15 = .ok (.iconst 0, 1) := by decide +kernel
theorem dX2_digestFrom_16 : decode cX2_digestFrom 16 = .ok (.istore 6, 2) := by decide +kernel
theorem dX2_digestFrom_18 : decode cX2_digestFrom 18 = .ok (.iload 6, 2) := by decide +kernel
theorem dX2_digestFrom_20 : decode cX2_digestFrom 20 = .ok (.iconst 4, 1) := by decide +kernel
theorem dX2_digestFrom_21 : decode cX2_digestFrom 21 = .ok (.if_icmp .ge 39, 3) := by decide +kernel
theorem dX2_digestFrom_24 : decode cX2_digestFrom 24 = .ok (.lload 4, 2) := by decide +kernel
theorem dX2_digestFrom_26 : decode cX2_digestFrom 26 = .ok (.ldc2_w 168, 3) := by decide +kernel
theorem dX2_digestFrom_29 : decode cX2_digestFrom 29 = .ok (.lmul, 1) := by decide +kernel
theorem dX2_digestFrom_30 : decode cX2_digestFrom 30 = .ok (.aload_n 0, 1) := by decide +kernel
theorem dX2_digestFrom_31 : decode cX2_digestFrom 31 = .ok (.getfield 20, 3) := by decide +kernel
theorem dX2_digestFrom_34 : decode cX2_digestFrom 34 = .ok (.iload_n 1, 1) := by decide +kernel
theorem dX2_digestFrom_35 : decode cX2_digestFrom 35 = .ok (.iaload, 1) := by decide +kernel
theorem dX2_digestFrom_36 : decode cX2_digestFrom 36 = .ok (.ifCond .ne 7, 3) := by decide +kernel
theorem dX2_digestFrom_39 : decode cX2_digestFrom 39 = .ok (.iconst 0, 1) := by decide +kernel
theorem dX2_digestFrom_40 : decode cX2_digestFrom 40 = .ok (.goto 10, 3) := by decide +kernel
theorem dX2_digestFrom_43 : decode cX2_digestFrom 43 = .ok (.aload_n 0, 1) := by decide +kernel
theorem dX2_digestFrom_44 : decode cX2_digestFrom 44 = .ok (.iload_n 1, 1) := by decide +kernel
theorem dX2_digestFrom_45 : decode cX2_digestFrom 45 = .ok (.iload 6, 2) := by decide +kernel
theorem dX2_digestFrom_47 : decode cX2_digestFrom 47 = .ok (.invokevirtual 47, 3) := by decide +kernel
theorem dX2_digestFrom_50 : decode cX2_digestFrom 50 = .ok (.i2l, 1) := by decide +kernel
theorem dX2_digestFrom_51 : decode cX2_digestFrom 51 = .ok (.ladd, 1) := by decide +kernel
theorem dX2_digestFrom_52 : decode cX2_digestFrom 52 = .ok (.lstore 4, 2) := by decide +kernel
theorem dX2_digestFrom_54 : decode cX2_digestFrom 54 = .ok (.iinc 6 1, 3) := by decide +kernel
theorem dX2_digestFrom_57 : decode cX2_digestFrom 57 = .ok (.goto (-39), 3) := by decide +kernel
theorem dX2_digestFrom_60 : decode cX2_digestFrom 60 = .ok (.iconst 0, 1) := by decide +kernel
theorem dX2_digestFrom_61 : decode cX2_digestFrom 61 = .ok (.istore 6, 2) := by decide +kernel
theorem dX2_digestFrom_63 : decode cX2_digestFrom 63 = .ok (.iload 6, 2) := by decide +kernel
theorem dX2_digestFrom_65 : decode cX2_digestFrom 65 = .ok (.aload_n 0, 1) := by decide +kernel
theorem dX2_digestFrom_66 : decode cX2_digestFrom 66 = .ok (.getfield 20, 3) := by decide +kernel
theorem dX2_digestFrom_69 : decode cX2_digestFrom 69 = .ok (.iload_n 1, 1) := by decide +kernel
theorem dX2_digestFrom_70 : decode cX2_digestFrom 70 = .ok (.iaload, 1) := by decide +kernel
theorem dX2_digestFrom_71 : decode cX2_digestFrom 71 = .ok (.if_icmp .ge 51, 3) := by decide +kernel
theorem dX2_digestFrom_74 : decode cX2_digestFrom 74 = .ok (.aload_n 0, 1) := by decide +kernel
theorem dX2_digestFrom_75 : decode cX2_digestFrom 75 = .ok (.getfield 26, 3) := by decide +kernel
theorem dX2_digestFrom_78 : decode cX2_digestFrom 78 = .ok (.iload_n 1, 1) := by decide +kernel
theorem dX2_digestFrom_79 : decode cX2_digestFrom 79 = .ok (.iaload, 1) := by decide +kernel
theorem dX2_digestFrom_80 : decode cX2_digestFrom 80 = .ok (.ifCond .ne 21, 3) := by decide +kernel
theorem dX2_digestFrom_83 : decode cX2_digestFrom 83 = .ok (.lload 4, 2) := by decide +kernel
theorem dX2_digestFrom_85 : decode cX2_digestFrom 85 = .ok (.ldc2_w 168, 3) := by decide +kernel
theorem dX2_digestFrom_88 : decode cX2_digestFrom 88 = .ok (.lmul, 1) := by decide +kernel
theorem dX2_digestFrom_89 : decode cX2_digestFrom 89 = .ok (.aload_n 0, 1) := by decide +kernel
theorem dX2_digestFrom_90 : decode cX2_digestFrom 90 = .ok (.iload_n 1, 1) := by decide +kernel
theorem dX2_digestFrom_91 : decode cX2_digestFrom 91 = .ok (.iload 6, 2) := by decide +kernel
theorem dX2_digestFrom_93 : decode cX2_digestFrom 93 = .ok (.invokevirtual 44, 3) := by decide +kernel
theorem dX2_digestFrom_96 : decode cX2_digestFrom 96 = .ok (.i2l, 1) := by decide +kernel
theorem dX2_digestFrom_97 : decode cX2_digestFrom 97 = .ok (.ladd, 1) := by decide +kernel
theorem dX2_digestFrom_98 : decode cX2_digestFrom 98 = .ok (.goto 16, 3) := by decide +kernel
theorem dX2_digestFrom_101 : decode cX2_digestFrom 101 = .ok (.aload_n 0, 1) := by decide +kernel
theorem dX2_digestFrom_102 : decode cX2_digestFrom 102 = .ok (.aload_n 0, 1) := by decide +kernel
theorem dX2_digestFrom_103 : decode cX2_digestFrom 103 = .ok (.iload_n 1, 1) := by decide +kernel
theorem dX2_digestFrom_104 : decode cX2_digestFrom 104 = .ok (.iload 6, 2) := by decide +kernel
theorem dX2_digestFrom_106 : decode cX2_digestFrom 106 = .ok (.invokevirtual 44, 3) := by decide +kernel
theorem dX2_digestFrom_109 : decode cX2_digestFrom 109 = .ok (.lload 4, 2) := by decide +kernel
theorem dX2_digestFrom_111 : decode cX2_digestFrom 111 = .ok (.invokevirtual 170, 3) := by decide +kernel
theorem dX2_digestFrom_114 : decode cX2_digestFrom 114 = .ok (.lstore 4, 2) := by decide +kernel
theorem dX2_digestFrom_116 : decode cX2_digestFrom 116 = .ok (.iinc 6 1, 3) := by decide +kernel
theorem dX2_digestFrom_119 : decode cX2_digestFrom 119 = .ok (.goto (-56), 3) := by decide +kernel
theorem dX2_digestFrom_122 : decode cX2_digestFrom 122 = .ok (.lload 4, 2) := by decide +kernel
theorem dX2_digestFrom_124 : decode cX2_digestFrom 124 = .ok (.lreturn, 1) := by decide +kernel
theorem dX2_digest_0 : decode cX2_digest 0 = .ok (.aload_n 0, 1) := by decide +kernel
theorem dX2_digest_1 : decode cX2_digest 1 = .ok (.iconst 0, 1) := by decide +kernel
theorem dX2_digest_2 : decode cX2_digest 2 = .ok (.putfield 38, 3) := by decide +kernel
theorem dX2_digest_5 : decode cX2_digest 5 = .ok (.ldc2_w 174, 3) := by decide +kernel
theorem dX2_digest_8 : decode cX2_digest 8 = .ok (.lstore_n 1, 1) := by decide +kernel
theorem dX2_digest_9 : decode cX2_digest 9 = .ok (.iconst 0, 1) := by decide +kernel
theorem dX2_digest_10 : decode cX2_digest 10 = .ok (.istore_n 3, 1) := by decide +kernel
theorem dX2_digest_11 : decode cX2_digest 11 = .ok (.iload_n 3, 1) := by decide +kernel
theorem dX2_digest_12 : decode cX2_digest 12 = .ok (.bipush 8, 2) := by decide +kernel
theorem dX2_digest_14 : decode cX2_digest 14 = .ok (.if_icmp .gt 22, 3) := by decide +kernel
theorem dX2_digest_17 : decode cX2_digest 17 = .ok (.lload_n 1, 1) := by decide +kernel
theorem dX2_digest_18 : decode cX2_digest 18 = .ok (.ldc2_w 168, 3) := by decide +kernel
theorem dX2_digest_21 : decode cX2_digest 21 = .ok (.lmul, 1) := by decide +kernel
theorem dX2_digest_22 : decode cX2_digest 22 = .ok (.aload_n 0, 1) := by decide +kernel
theorem dX2_digest_23 : decode cX2_digest 23 = .ok (.iload_n 3, 1) := by decide +kernel
theorem dX2_digest_24 : decode cX2_digest 24 = .ok (.invokevirtual 165, 3) := by decide +kernel
theorem dX2_digest_27 : decode cX2_digest 27 = .ok (.i2l, 1) := by decide +kernel
theorem dX2_digest_28 : decode cX2_digest 28 = .ok (.ladd, 1) := by decide +kernel
theorem dX2_digest_29 : decode cX2_digest 29 = .ok (.lstore_n 1, 1) := by decide +kernel
theorem dX2_digest_30 : decode cX2_digest 30 = .ok (.iinc 3 1, 3) := by decide +kernel
theorem dX2_digest_33 : decode cX2_digest 33 = .ok (.goto (-22), 3) := by decide +kernel
theorem dX2_digest_36 : decode cX2_digest 36 = .ok (.iconst 0, 1) := by decide +kernel
theorem dX2_digest_37 : decode cX2_digest 37 = .ok (.istore_n 3, 1) := by decide +kernel
theorem dX2_digest_38 : decode cX2_digest 38 = .ok (.iload_n 3, 1) := by decide +kernel
theorem dX2_digest_39 : decode cX2_digest 39 = .ok (.aload_n 0, 1) := by decide +kernel
theorem dX2_digest_40 : decode cX2_digest 40 = .ok (.getfield 41, 3) := by decide +kernel
theorem dX2_digest_43 : decode cX2_digest 43 = .ok (.if_icmp .ge 40, 3) := by decide +kernel
theorem dX2_digest_46 : decode cX2_digest 46 = .ok (.iconst 0, 1) := by decide +kernel
theorem dX2_digest_47 : decode cX2_digest 47 = .ok (.istore 4, 2) := by decide +kernel
theorem dX2_digest_49 : decode cX2_digest 49 = .ok (.iload 4, 2) := by decide +kernel
theorem dX2_digest_51 : decode cX2_digest 51 = .ok (.bipush 8, 2) := by decide +kernel
theorem dX2_digest_53 : decode cX2_digest 53 = .ok (.if_icmp .gt 24, 3) := by decide +kernel
theorem dX2_digest_56 : decode cX2_digest 56 = .ok (.lload_n 1, 1) := by decide +kernel
theorem dX2_digest_57 : decode cX2_digest 57 = .ok (.ldc2_w 168, 3) := by decide +kernel
theorem dX2_digest_60 : decode cX2_digest 60 = .ok (.lmul, 1) := by decide +kernel
theorem dX2_digest_61 : decode cX2_digest 61 = .ok (.aload_n 0, 1) := by decide +kernel
theorem dX2_digest_62 : decode cX2_digest 62 = .ok (.iload_n 3, 1) := by decide +kernel
theorem dX2_digest_63 : decode cX2_digest 63 = .ok (.iload 4, 2) := by decide +kernel
theorem dX2_digest_65 : decode cX2_digest 65 = .ok (.invokevirtual 141, 3) := by decide +kernel
theorem dX2_digest_68 : decode cX2_digest 68 = .ok (.i2l, 1) := by decide +kernel
theorem dX2_digest_69 : decode cX2_digest 69 = .ok (.ladd, 1) := by decide +kernel
theorem dX2_digest_70 : decode cX2_digest 70 = .ok (.lstore_n 1, 1) := by decide +kernel
theorem dX2_digest_71 : decode cX2_digest 71 = .ok (.iinc 4 1, 3) := by decide +kernel
theorem dX2_digest_74 : decode cX2_digest 74 = .ok (.goto (-25), 3) := by decide +kernel
theorem dX2_digest_77 : decode cX2_digest 77 = .ok (.iinc 3 1, 3) := by decide +kernel
theorem dX2_digest_80 : decode cX2_digest 80 = .ok (.goto (-42), 3) := by decide +kernel
theorem dX2_digest_83 : decode cX2_digest 83 = .ok (.aload_n 0, 1) := by decide +kernel
theorem dX2_digest_84 : decode cX2_digest 84 = .ok (.aload_n 0, 1) := by decide +kernel
theorem dX2_digest_85 : decode cX2_digest 85 = .ok (.getfield 80, 3) := by decide +kernel
theorem dX2_digest_88 : decode cX2_digest 88 = .ok (.lload_n 1, 1) := by decide +kernel
theorem dX2_digest_89 : decode cX2_digest 89 = .ok (.invokevirtual 170, 3) := by decide +kernel
theorem dX2_digest_92 : decode cX2_digest 92 = .ok (.lreturn, 1) := by decide +kernel
theorem dJ9_max_7cf53_0 : decode cJ9_max_7cf53 0 = .ok (.iload_n 0, 1) := by decide +kernel
theorem dJ9_max_7cf53_1 : decode cJ9_max_7cf53 1 = .ok (.iload_n 1, 1) := by decide +kernel
theorem dJ9_max_7cf53_2 : decode cJ9_max_7cf53 2 = .ok (.if_icmp .lt 7, 3) := by decide +kernel
theorem dJ9_max_7cf53_5 : decode cJ9_max_7cf53 5 = .ok (.iload_n 0, 1) := by decide +kernel
theorem dJ9_max_7cf53_6 : decode cJ9_max_7cf53 6 = .ok (.goto 4, 3) := by decide +kernel
theorem dJ9_max_7cf53_9 : decode cJ9_max_7cf53 9 = .ok (.iload_n 1, 1) := by decide +kernel
theorem dJ9_max_7cf53_10 : decode cJ9_max_7cf53 10 = .ok (.ireturn, 1) := by decide +kernel
theorem dJ9_min_7cf53_0 : decode cJ9_min_7cf53 0 = .ok (.iload_n 0, 1) := by decide +kernel
theorem dJ9_min_7cf53_1 : decode cJ9_min_7cf53 1 = .ok (.iload_n 1, 1) := by decide +kernel
theorem dJ9_min_7cf53_2 : decode cJ9_min_7cf53 2 = .ok (.if_icmp .gt 7, 3) := by decide +kernel
theorem dJ9_min_7cf53_5 : decode cJ9_min_7cf53 5 = .ok (.iload_n 0, 1) := by decide +kernel
theorem dJ9_min_7cf53_6 : decode cJ9_min_7cf53 6 = .ok (.goto 4, 3) := by decide +kernel
theorem dJ9_min_7cf53_9 : decode cJ9_min_7cf53 9 = .ok (.iload_n 1, 1) := by decide +kernel
theorem dJ9_min_7cf53_10 : decode cJ9_min_7cf53 10 = .ok (.ireturn, 1) := by decide +kernel
theorem dL_come_0 : decode cL_come 0 = .ok (.aload 5, 2) := by decide +kernel
theorem dL_come_2 : decode cL_come 2 = .ok (.iconst 0, 1) := by decide +kernel
theorem dL_come_3 : decode cL_come 3 = .ok (.aload_n 0, 1) := by decide +kernel
theorem dL_come_4 : decode cL_come 4 = .ok (.iload_n 1, 1) := by decide +kernel
theorem dL_come_5 : decode cL_come 5 = .ok (.iload_n 2, 1) := by decide +kernel
theorem dL_come_6 : decode cL_come 6 = .ok (.iload_n 3, 1) := by decide +kernel
theorem dL_come_7 : decode cL_come 7 = .ok (.iload 4, 2) := by decide +kernel
theorem dL_come_9 : decode cL_come 9 = .ok (.invokevirtual 7, 3) := by decide +kernel
theorem dL_come_12 : decode cL_come 12 = .ok (.i2l, 1) := by decide +kernel
theorem dL_come_13 : decode cL_come 13 = .ok (.lastore, 1) := by decide +kernel
theorem dL_come_14 : decode cL_come 14 = .ok (.goto 11, 3) := by decide +kernel
theorem dL_come_17 : decode cL_come 17 = .ok (.astore 6, 2) := by decide +kernel
theorem dL_come_19 : decode cL_come 19 = .ok (.iconst 1, 1) := by decide +kernel
theorem dL_come_20 : decode cL_come 20 = .ok (.ireturn, 1) := by decide +kernel
theorem dL_come_21 : decode cL_come 21 = .ok (.astore 6, 2) := by decide +kernel
theorem dL_come_23 : decode cL_come 23 = .ok (.iconst 2, 1) := by decide +kernel
theorem dL_come_24 : decode cL_come 24 = .ok (.ireturn, 1) := by decide +kernel
theorem dL_come_25 : decode cL_come 25 = .ok (.iconst 0, 1) := by decide +kernel
theorem dL_come_26 : decode cL_come 26 = .ok (.ireturn, 1) := by decide +kernel
theorem dL_go_0 : decode cL_go 0 = .ok (.aload_n 2, 1) := by decide +kernel
theorem dL_go_1 : decode cL_go 1 = .ok (.iconst 0, 1) := by decide +kernel
theorem dL_go_2 : decode cL_go 2 = .ok (.aload_n 0, 1) := by decide +kernel
theorem dL_go_3 : decode cL_go 3 = .ok (.iload_n 1, 1) := by decide +kernel
theorem dL_go_4 : decode cL_go 4 = .ok (.invokevirtual 17, 3) := by decide +kernel
theorem dL_go_7 : decode cL_go 7 = .ok (.i2l, 1) := by decide +kernel
theorem dL_go_8 : decode cL_go 8 = .ok (.lastore, 1) := by decide +kernel
theorem dL_go_9 : decode cL_go 9 = .ok (.goto 9, 3) := by decide +kernel
theorem dL_go_12 : decode cL_go 12 = .ok (.astore_n 3, 1) := by decide +kernel
theorem dL_go_13 : decode cL_go 13 = .ok (.iconst 1, 1) := by decide +kernel
theorem dL_go_14 : decode cL_go 14 = .ok (.ireturn, 1) := by decide +kernel
theorem dL_go_15 : decode cL_go 15 = .ok (.astore_n 3, 1) := by decide +kernel
theorem dL_go_16 : decode cL_go 16 = .ok (.iconst 2, 1) := by decide +kernel
theorem dL_go_17 : decode cL_go 17 = .ok (.ireturn, 1) := by decide +kernel
theorem dL_go_18 : decode cL_go 18 = .ok (.iconst 0, 1) := by decide +kernel
theorem dL_go_19 : decode cL_go 19 = .ok (.ireturn, 1) := by decide +kernel
theorem dL_told_0 : decode cL_told 0 = .ok (.aload_n 3, 1) := by decide +kernel
theorem dL_told_1 : decode cL_told 1 = .ok (.iconst 0, 1) := by decide +kernel
theorem dL_told_2 : decode cL_told 2 = .ok (.aload_n 0, 1) := by decide +kernel
theorem dL_told_3 : decode cL_told 3 = .ok (.iload_n 1, 1) := by decide +kernel
theorem dL_told_4 : decode cL_told 4 = .ok (.iload_n 2, 1) := by decide +kernel
theorem dL_told_5 : decode cL_told 5 = .ok (.invokevirtual 23, 3) := by decide +kernel
theorem dL_told_8 : decode cL_told 8 = .ok (.i2l, 1) := by decide +kernel
theorem dL_told_9 : decode cL_told 9 = .ok (.lastore, 1) := by decide +kernel
theorem dL_told_10 : decode cL_told 10 = .ok (.goto 7, 3) := by decide +kernel
theorem dL_told_13 : decode cL_told 13 = .ok (.astore 4, 2) := by decide +kernel
theorem dL_told_15 : decode cL_told 15 = .ok (.iconst 1, 1) := by decide +kernel
theorem dL_told_16 : decode cL_told 16 = .ok (.ireturn, 1) := by decide +kernel
theorem dL_told_17 : decode cL_told 17 = .ok (.iconst 0, 1) := by decide +kernel
theorem dL_told_18 : decode cL_told 18 = .ok (.ireturn, 1) := by decide +kernel
theorem dL_way_0 : decode cL_way 0 = .ok (.aload_n 3, 1) := by decide +kernel
theorem dL_way_1 : decode cL_way 1 = .ok (.iconst 0, 1) := by decide +kernel
theorem dL_way_2 : decode cL_way 2 = .ok (.aload_n 0, 1) := by decide +kernel
theorem dL_way_3 : decode cL_way 3 = .ok (.iload_n 1, 1) := by decide +kernel
theorem dL_way_4 : decode cL_way 4 = .ok (.iload_n 2, 1) := by decide +kernel
theorem dL_way_5 : decode cL_way 5 = .ok (.invokevirtual 27, 3) := by decide +kernel
theorem dL_way_8 : decode cL_way 8 = .ok (.i2l, 1) := by decide +kernel
theorem dL_way_9 : decode cL_way 9 = .ok (.lastore, 1) := by decide +kernel
theorem dL_way_10 : decode cL_way 10 = .ok (.goto 7, 3) := by decide +kernel
theorem dL_way_13 : decode cL_way 13 = .ok (.astore 4, 2) := by decide +kernel
theorem dL_way_15 : decode cL_way 15 = .ok (.iconst 1, 1) := by decide +kernel
theorem dL_way_16 : decode cL_way 16 = .ok (.ireturn, 1) := by decide +kernel
theorem dL_way_17 : decode cL_way 17 = .ok (.iconst 0, 1) := by decide +kernel
theorem dL_way_18 : decode cL_way 18 = .ok (.ireturn, 1) := by decide +kernel
theorem dL_overlaps_0 : decode cL_overlaps 0 = .ok (.aload 5, 2) := by decide +kernel
theorem dL_overlaps_2 : decode cL_overlaps 2 = .ok (.iconst 0, 1) := by decide +kernel
theorem dL_overlaps_3 : decode cL_overlaps 3 = .ok (.aload_n 0, 1) := by decide +kernel
theorem dL_overlaps_4 : decode cL_overlaps 4 = .ok (.iload_n 1, 1) := by decide +kernel
theorem dL_overlaps_5 : decode cL_overlaps 5 = .ok (.iload_n 2, 1) := by decide +kernel
theorem dL_overlaps_6 : decode cL_overlaps 6 = .ok (.iload_n 3, 1) := by decide +kernel
theorem dL_overlaps_7 : decode cL_overlaps 7 = .ok (.iload 4, 2) := by decide +kernel
theorem dL_overlaps_9 : decode cL_overlaps 9 = .ok (.invokevirtual 30, 3) := by decide +kernel
theorem dL_overlaps_12 : decode cL_overlaps 12 = .ok (.i2l, 1) := by decide +kernel
theorem dL_overlaps_13 : decode cL_overlaps 13 = .ok (.lastore, 1) := by decide +kernel
theorem dL_overlaps_14 : decode cL_overlaps 14 = .ok (.goto 7, 3) := by decide +kernel
theorem dL_overlaps_17 : decode cL_overlaps 17 = .ok (.astore 6, 2) := by decide +kernel
theorem dL_overlaps_19 : decode cL_overlaps 19 = .ok (.iconst 1, 1) := by decide +kernel
theorem dL_overlaps_20 : decode cL_overlaps 20 = .ok (.ireturn, 1) := by decide +kernel
theorem dL_overlaps_21 : decode cL_overlaps 21 = .ok (.iconst 0, 1) := by decide +kernel
theorem dL_overlaps_22 : decode cL_overlaps 22 = .ok (.ireturn, 1) := by decide +kernel
theorem dL_looks_0 : decode cL_looks 0 = .ok (.aload 5, 2) := by decide +kernel
theorem dL_looks_2 : decode cL_looks 2 = .ok (.iconst 0, 1) := by decide +kernel
theorem dL_looks_3 : decode cL_looks 3 = .ok (.aload_n 0, 1) := by decide +kernel
theorem dL_looks_4 : decode cL_looks 4 = .ok (.iload_n 1, 1) := by decide +kernel
theorem dL_looks_5 : decode cL_looks 5 = .ok (.iload_n 2, 1) := by decide +kernel
theorem dL_looks_6 : decode cL_looks 6 = .ok (.iload_n 3, 1) := by decide +kernel
theorem dL_looks_7 : decode cL_looks 7 = .ok (.iload 4, 2) := by decide +kernel
theorem dL_looks_9 : decode cL_looks 9 = .ok (.invokevirtual 33, 3) := by decide +kernel
theorem dL_looks_12 : decode cL_looks 12 = .ok (.i2l, 1) := by decide +kernel
theorem dL_looks_13 : decode cL_looks 13 = .ok (.lastore, 1) := by decide +kernel
theorem dL_looks_14 : decode cL_looks 14 = .ok (.goto 7, 3) := by decide +kernel
theorem dL_looks_17 : decode cL_looks 17 = .ok (.astore 6, 2) := by decide +kernel
theorem dL_looks_19 : decode cL_looks 19 = .ok (.iconst 1, 1) := by decide +kernel
theorem dL_looks_20 : decode cL_looks 20 = .ok (.ireturn, 1) := by decide +kernel
theorem dL_looks_21 : decode cL_looks 21 = .ok (.iconst 0, 1) := by decide +kernel
theorem dL_looks_22 : decode cL_looks 22 = .ok (.ireturn, 1) := by decide +kernel
theorem dL_nearest_0 : decode cL_nearest 0 = .ok (.aload_n 3, 1) := by decide +kernel
theorem dL_nearest_1 : decode cL_nearest 1 = .ok (.iconst 0, 1) := by decide +kernel
theorem dL_nearest_2 : decode cL_nearest 2 = .ok (.aload_n 0, 1) := by decide +kernel
theorem dL_nearest_3 : decode cL_nearest 3 = .ok (.iload_n 1, 1) := by decide +kernel
theorem dL_nearest_4 : decode cL_nearest 4 = .ok (.iload_n 2, 1) := by decide +kernel
theorem dL_nearest_5 : decode cL_nearest 5 = .ok (.invokevirtual 36, 3) := by decide +kernel
theorem dL_nearest_8 : decode cL_nearest 8 = .ok (.i2l, 1) := by decide +kernel
theorem dL_nearest_9 : decode cL_nearest 9 = .ok (.lastore, 1) := by decide +kernel
theorem dL_nearest_10 : decode cL_nearest 10 = .ok (.goto 7, 3) := by decide +kernel
theorem dL_nearest_13 : decode cL_nearest 13 = .ok (.astore 4, 2) := by decide +kernel
theorem dL_nearest_15 : decode cL_nearest 15 = .ok (.iconst 1, 1) := by decide +kernel
theorem dL_nearest_16 : decode cL_nearest 16 = .ok (.ireturn, 1) := by decide +kernel
theorem dL_nearest_17 : decode cL_nearest 17 = .ok (.iconst 0, 1) := by decide +kernel
theorem dL_nearest_18 : decode cL_nearest 18 = .ok (.ireturn, 1) := by decide +kernel
theorem dL_count_0 : decode cL_count 0 = .ok (.aload_n 2, 1) := by decide +kernel
theorem dL_count_1 : decode cL_count 1 = .ok (.iconst 0, 1) := by decide +kernel
theorem dL_count_2 : decode cL_count 2 = .ok (.aload_n 0, 1) := by decide +kernel
theorem dL_count_3 : decode cL_count 3 = .ok (.iload_n 1, 1) := by decide +kernel
theorem dL_count_4 : decode cL_count 4 = .ok (.invokevirtual 39, 3) := by decide +kernel
theorem dL_count_7 : decode cL_count 7 = .ok (.i2l, 1) := by decide +kernel
theorem dL_count_8 : decode cL_count 8 = .ok (.lastore, 1) := by decide +kernel
theorem dL_count_9 : decode cL_count 9 = .ok (.goto 6, 3) := by decide +kernel
theorem dL_count_12 : decode cL_count 12 = .ok (.astore_n 3, 1) := by decide +kernel
theorem dL_count_13 : decode cL_count 13 = .ok (.iconst 1, 1) := by decide +kernel
theorem dL_count_14 : decode cL_count 14 = .ok (.ireturn, 1) := by decide +kernel
theorem dL_count_15 : decode cL_count 15 = .ok (.iconst 0, 1) := by decide +kernel
theorem dL_count_16 : decode cL_count 16 = .ok (.ireturn, 1) := by decide +kernel
theorem dL_grows_0 : decode cL_grows 0 = .ok (.aload 5, 2) := by decide +kernel
theorem dL_grows_2 : decode cL_grows 2 = .ok (.iconst 0, 1) := by decide +kernel
theorem dL_grows_3 : decode cL_grows 3 = .ok (.aload_n 0, 1) := by decide +kernel
theorem dL_grows_4 : decode cL_grows 4 = .ok (.iload_n 1, 1) := by decide +kernel
theorem dL_grows_5 : decode cL_grows 5 = .ok (.iload_n 2, 1) := by decide +kernel
theorem dL_grows_6 : decode cL_grows 6 = .ok (.iload_n 3, 1) := by decide +kernel
theorem dL_grows_7 : decode cL_grows 7 = .ok (.iload 4, 2) := by decide +kernel
theorem dL_grows_9 : decode cL_grows 9 = .ok (.invokevirtual 42, 3) := by decide +kernel
theorem dL_grows_12 : decode cL_grows 12 = .ok (.i2l, 1) := by decide +kernel
theorem dL_grows_13 : decode cL_grows 13 = .ok (.lastore, 1) := by decide +kernel
theorem dL_grows_14 : decode cL_grows 14 = .ok (.goto 7, 3) := by decide +kernel
theorem dL_grows_17 : decode cL_grows 17 = .ok (.astore 6, 2) := by decide +kernel
theorem dL_grows_19 : decode cL_grows 19 = .ok (.iconst 1, 1) := by decide +kernel
theorem dL_grows_20 : decode cL_grows 20 = .ok (.ireturn, 1) := by decide +kernel
theorem dL_grows_21 : decode cL_grows 21 = .ok (.iconst 0, 1) := by decide +kernel
theorem dL_grows_22 : decode cL_grows 22 = .ok (.ireturn, 1) := by decide +kernel
theorem dL_splits_0 : decode cL_splits 0 = .ok (.aload 5, 2) := by decide +kernel
theorem dL_splits_2 : decode cL_splits 2 = .ok (.iconst 0, 1) := by decide +kernel
theorem dL_splits_3 : decode cL_splits 3 = .ok (.aload_n 0, 1) := by decide +kernel
theorem dL_splits_4 : decode cL_splits 4 = .ok (.iload_n 1, 1) := by decide +kernel
theorem dL_splits_5 : decode cL_splits 5 = .ok (.iload_n 2, 1) := by decide +kernel
theorem dL_splits_6 : decode cL_splits 6 = .ok (.iload_n 3, 1) := by decide +kernel
theorem dL_splits_7 : decode cL_splits 7 = .ok (.iload 4, 2) := by decide +kernel
theorem dL_splits_9 : decode cL_splits 9 = .ok (.invokevirtual 45, 3) := by decide +kernel
theorem dL_splits_12 : decode cL_splits 12 = .ok (.i2l, 1) := by decide +kernel
theorem dL_splits_13 : decode cL_splits 13 = .ok (.lastore, 1) := by decide +kernel
theorem dL_splits_14 : decode cL_splits 14 = .ok (.goto 7, 3) := by decide +kernel
theorem dL_splits_17 : decode cL_splits 17 = .ok (.astore 6, 2) := by decide +kernel
theorem dL_splits_19 : decode cL_splits 19 = .ok (.iconst 1, 1) := by decide +kernel
theorem dL_splits_20 : decode cL_splits 20 = .ok (.ireturn, 1) := by decide +kernel
theorem dL_splits_21 : decode cL_splits 21 = .ok (.iconst 0, 1) := by decide +kernel
theorem dL_splits_22 : decode cL_splits 22 = .ok (.ireturn, 1) := by decide +kernel
theorem dL_law_0 : decode cL_law 0 = .ok (.new 8, 3) := by decide +kernel
theorem dL_law_3 : decode cL_law 3 = .ok (.dup, 1) := by decide +kernel
theorem dL_law_4 : decode cL_law 4 = .ok (.invokespecial 48, 3) := by decide +kernel
theorem dL_law_7 : decode cL_law 7 = .ok (.astore_n 1, 1) := by decide +kernel
theorem dL_law_8 : decode cL_law 8 = .ok (.new 49, 3) := by decide +kernel
theorem dL_law_11 : decode cL_law 11 = .ok (.dup, 1) := by decide +kernel
theorem dL_law_12 : decode cL_law 12 = .ok (.invokespecial 51, 3) := by decide +kernel
theorem dL_law_15 : decode cL_law 15 = .ok (.astore_n 2, 1) := by decide +kernel
theorem dL_law_16 : decode cL_law 16 = .ok (.iconst 1, 1) := by decide +kernel
theorem dL_law_17 : decode cL_law 17 = .ok (.newarray .long, 2) := by decide +kernel
theorem dL_law_19 : decode cL_law 19 = .ok (.astore_n 3, 1) := by decide +kernel
theorem dL_law_20 : decode cL_law 20 = .ok (.iconst 0, 1) := by decide +kernel
theorem dL_law_21 : decode cL_law 21 = .ok (.istore 4, 2) := by decide +kernel
theorem dL_law_23 : decode cL_law 23 = .ok (.iload 4, 2) := by decide +kernel
theorem dL_law_25 : decode cL_law 25 = .ok (.aload_n 0, 1) := by decide +kernel
theorem dL_law_26 : decode cL_law 26 = .ok (.arraylength, 1) := by decide +kernel
theorem dL_law_27 : decode cL_law 27 = .ok (.iconst 5, 1) := by decide +kernel
theorem dL_law_28 : decode cL_law 28 = .ok (.isub, 1) := by decide +kernel
theorem dL_law_29 : decode cL_law 29 = .ok (.if_icmp .gt 908, 3) := by decide +kernel
theorem dL_law_32 : decode cL_law 32 = .ok (.aload_n 0, 1) := by decide +kernel
theorem dL_law_33 : decode cL_law 33 = .ok (.iload 4, 2) := by decide +kernel
theorem dL_law_35 : decode cL_law 35 = .ok (.iaload, 1) := by decide +kernel
theorem dL_law_36 : decode cL_law 36 = .ok (.bipush 15, 2) := by decide +kernel
theorem dL_law_38 : decode cL_law 38 = .ok (.iand, 1) := by decide +kernel
theorem dL_law_39 : decode cL_law 39 = .ok (.tableswitch 892 0 11 #[61, 153, 209, 277, 345, 437, 529, 597, 653, 745, 837, 878], 61) := by decide +kernel
theorem dL_law_100 : decode cL_law 100 = .ok (.aload_n 1, 1) := by decide +kernel
theorem dL_law_101 : decode cL_law 101 = .ok (.aload_n 0, 1) := by decide +kernel
theorem dL_law_102 : decode cL_law 102 = .ok (.iload 4, 2) := by decide +kernel
theorem dL_law_104 : decode cL_law 104 = .ok (.iconst 1, 1) := by decide +kernel
theorem dL_law_105 : decode cL_law 105 = .ok (.iadd, 1) := by decide +kernel
theorem dL_law_106 : decode cL_law 106 = .ok (.iaload, 1) := by decide +kernel
theorem dL_law_107 : decode cL_law 107 = .ok (.aload_n 0, 1) := by decide +kernel
theorem dL_law_108 : decode cL_law 108 = .ok (.iload 4, 2) := by decide +kernel
theorem dL_law_110 : decode cL_law 110 = .ok (.iconst 2, 1) := by decide +kernel
theorem dL_law_111 : decode cL_law 111 = .ok (.iadd, 1) := by decide +kernel
theorem dL_law_112 : decode cL_law 112 = .ok (.iaload, 1) := by decide +kernel
theorem dL_law_113 : decode cL_law 113 = .ok (.aload_n 0, 1) := by decide +kernel
theorem dL_law_114 : decode cL_law 114 = .ok (.iload 4, 2) := by decide +kernel
theorem dL_law_116 : decode cL_law 116 = .ok (.iconst 3, 1) := by decide +kernel
theorem dL_law_117 : decode cL_law 117 = .ok (.iadd, 1) := by decide +kernel
theorem dL_law_118 : decode cL_law 118 = .ok (.iaload, 1) := by decide +kernel
theorem dL_law_119 : decode cL_law 119 = .ok (.aload_n 0, 1) := by decide +kernel
theorem dL_law_120 : decode cL_law 120 = .ok (.iload 4, 2) := by decide +kernel
theorem dL_law_122 : decode cL_law 122 = .ok (.iconst 4, 1) := by decide +kernel
theorem dL_law_123 : decode cL_law 123 = .ok (.iadd, 1) := by decide +kernel
theorem dL_law_124 : decode cL_law 124 = .ok (.iaload, 1) := by decide +kernel
theorem dL_law_125 : decode cL_law 125 = .ok (.aload_n 3, 1) := by decide +kernel
theorem dL_law_126 : decode cL_law 126 = .ok (.invokestatic 52, 3) := by decide +kernel
theorem dL_law_129 : decode cL_law 129 = .ok (.istore 5, 2) := by decide +kernel
theorem dL_law_131 : decode cL_law 131 = .ok (.aload_n 2, 1) := by decide +kernel
theorem dL_law_132 : decode cL_law 132 = .ok (.aload_n 0, 1) := by decide +kernel
theorem dL_law_133 : decode cL_law 133 = .ok (.iload 4, 2) := by decide +kernel
theorem dL_law_135 : decode cL_law 135 = .ok (.iconst 1, 1) := by decide +kernel
theorem dL_law_136 : decode cL_law 136 = .ok (.iadd, 1) := by decide +kernel
theorem dL_law_137 : decode cL_law 137 = .ok (.iaload, 1) := by decide +kernel
theorem dL_law_138 : decode cL_law 138 = .ok (.aload_n 0, 1) := by decide +kernel
theorem dL_law_139 : decode cL_law 139 = .ok (.iload 4, 2) := by decide +kernel
theorem dL_law_141 : decode cL_law 141 = .ok (.iconst 2, 1) := by decide +kernel
theorem dL_law_142 : decode cL_law 142 = .ok (.iadd, 1) := by decide +kernel
theorem dL_law_143 : decode cL_law 143 = .ok (.iaload, 1) := by decide +kernel
theorem dL_law_144 : decode cL_law 144 = .ok (.aload_n 0, 1) := by decide +kernel
theorem dL_law_145 : decode cL_law 145 = .ok (.iload 4, 2) := by decide +kernel
theorem dL_law_147 : decode cL_law 147 = .ok (.iconst 3, 1) := by decide +kernel
theorem dL_law_148 : decode cL_law 148 = .ok (.iadd, 1) := by decide +kernel
theorem dL_law_149 : decode cL_law 149 = .ok (.iaload, 1) := by decide +kernel
theorem dL_law_150 : decode cL_law 150 = .ok (.aload_n 0, 1) := by decide +kernel
theorem dL_law_151 : decode cL_law 151 = .ok (.iload 4, 2) := by decide +kernel
theorem dL_law_153 : decode cL_law 153 = .ok (.iconst 4, 1) := by decide +kernel
theorem dL_law_154 : decode cL_law 154 = .ok (.iadd, 1) := by decide +kernel
theorem dL_law_155 : decode cL_law 155 = .ok (.iaload, 1) := by decide +kernel
theorem dL_law_156 : decode cL_law 156 = .ok (.invokevirtual 57, 3) := by decide +kernel
theorem dL_law_159 : decode cL_law 159 = .ok (.istore 6, 2) := by decide +kernel
theorem dL_law_161 : decode cL_law 161 = .ok (.aload_n 2, 1) := by decide +kernel
theorem dL_law_162 : decode cL_law 162 = .ok (.invokevirtual 58, 3) := by decide +kernel
theorem dL_law_165 : decode cL_law 165 = .ok (.iload 5, 2) := by decide +kernel
theorem dL_law_167 : decode cL_law 167 = .ok (.if_icmp .eq 5, 3) := by decide +kernel
theorem dL_law_170 : decode cL_law 170 = .ok (.iconst 0, 1) := by decide +kernel
theorem dL_law_171 : decode cL_law 171 = .ok (.ireturn, 1) := by decide +kernel
theorem dL_law_172 : decode cL_law 172 = .ok (.iload 5, 2) := by decide +kernel
theorem dL_law_174 : decode cL_law 174 = .ok (.ifCond .ne 15, 3) := by decide +kernel
theorem dL_law_177 : decode cL_law 177 = .ok (.aload_n 3, 1) := by decide +kernel
theorem dL_law_178 : decode cL_law 178 = .ok (.iconst 0, 1) := by decide +kernel
theorem dL_law_179 : decode cL_law 179 = .ok (.laload, 1) := by decide +kernel
theorem dL_law_180 : decode cL_law 180 = .ok (.iload 6, 2) := by decide +kernel
theorem dL_law_182 : decode cL_law 182 = .ok (.i2l, 1) := by decide +kernel
theorem dL_law_183 : decode cL_law 183 = .ok (.lcmp, 1) := by decide +kernel
theorem dL_law_184 : decode cL_law 184 = .ok (.ifCond .eq 5, 3) := by decide +kernel
theorem dL_law_187 : decode cL_law 187 = .ok (.iconst 0, 1) := by decide +kernel
theorem dL_law_188 : decode cL_law 188 = .ok (.ireturn, 1) := by decide +kernel
theorem dL_law_189 : decode cL_law 189 = .ok (.goto 742, 3) := by decide +kernel
theorem dL_law_192 : decode cL_law 192 = .ok (.aload_n 1, 1) := by decide +kernel
theorem dL_law_193 : decode cL_law 193 = .ok (.aload_n 0, 1) := by decide +kernel
theorem dL_law_194 : decode cL_law 194 = .ok (.iload 4, 2) := by decide +kernel
theorem dL_law_196 : decode cL_law 196 = .ok (.iconst 1, 1) := by decide +kernel
theorem dL_law_197 : decode cL_law 197 = .ok (.iadd, 1) := by decide +kernel
theorem dL_law_198 : decode cL_law 198 = .ok (.iaload, 1) := by decide +kernel
theorem dL_law_199 : decode cL_law 199 = .ok (.aload_n 3, 1) := by decide +kernel
theorem dL_law_200 : decode cL_law 200 = .ok (.invokestatic 62, 3) := by decide +kernel
theorem dL_law_203 : decode cL_law 203 = .ok (.istore 5, 2) := by decide +kernel
theorem dL_law_205 : decode cL_law 205 = .ok (.aload_n 2, 1) := by decide +kernel
theorem dL_law_206 : decode cL_law 206 = .ok (.aload_n 0, 1) := by decide +kernel
theorem dL_law_207 : decode cL_law 207 = .ok (.iload 4, 2) := by decide +kernel
theorem dL_law_209 : decode cL_law 209 = .ok (.iconst 1, 1) := by decide +kernel
theorem dL_law_210 : decode cL_law 210 = .ok (.iadd, 1) := by decide +kernel
theorem dL_law_211 : decode cL_law 211 = .ok (.iaload, 1) := by decide +kernel
theorem dL_law_212 : decode cL_law 212 = .ok (.invokevirtual 65, 3) := by decide +kernel
theorem dL_law_215 : decode cL_law 215 = .ok (.istore 6, 2) := by decide +kernel
theorem dL_law_217 : decode cL_law 217 = .ok (.aload_n 2, 1) := by decide +kernel
theorem dL_law_218 : decode cL_law 218 = .ok (.invokevirtual 58, 3) := by decide +kernel
theorem dL_law_221 : decode cL_law 221 = .ok (.iload 5, 2) := by decide +kernel
theorem dL_law_223 : decode cL_law 223 = .ok (.if_icmp .eq 5, 3) := by decide +kernel
theorem dL_law_226 : decode cL_law 226 = .ok (.iconst 0, 1) := by decide +kernel
theorem dL_law_227 : decode cL_law 227 = .ok (.ireturn, 1) := by decide +kernel
theorem dL_law_228 : decode cL_law 228 = .ok (.iload 5, 2) := by decide +kernel
theorem dL_law_230 : decode cL_law 230 = .ok (.ifCond .ne 15, 3) := by decide +kernel
theorem dL_law_233 : decode cL_law 233 = .ok (.aload_n 3, 1) := by decide +kernel
theorem dL_law_234 : decode cL_law 234 = .ok (.iconst 0, 1) := by decide +kernel
theorem dL_law_235 : decode cL_law 235 = .ok (.laload, 1) := by decide +kernel
theorem dL_law_236 : decode cL_law 236 = .ok (.iload 6, 2) := by decide +kernel
theorem dL_law_238 : decode cL_law 238 = .ok (.i2l, 1) := by decide +kernel
theorem dL_law_239 : decode cL_law 239 = .ok (.lcmp, 1) := by decide +kernel
theorem dL_law_240 : decode cL_law 240 = .ok (.ifCond .eq 5, 3) := by decide +kernel
theorem dL_law_243 : decode cL_law 243 = .ok (.iconst 0, 1) := by decide +kernel
theorem dL_law_244 : decode cL_law 244 = .ok (.ireturn, 1) := by decide +kernel
theorem dL_law_245 : decode cL_law 245 = .ok (.goto 686, 3) := by decide +kernel
theorem dL_law_248 : decode cL_law 248 = .ok (.aload_n 1, 1) := by decide +kernel
theorem dL_law_249 : decode cL_law 249 = .ok (.aload_n 0, 1) := by decide +kernel
theorem dL_law_250 : decode cL_law 250 = .ok (.iload 4, 2) := by decide +kernel
theorem dL_law_252 : decode cL_law 252 = .ok (.iconst 1, 1) := by decide +kernel
theorem dL_law_253 : decode cL_law 253 = .ok (.iadd, 1) := by decide +kernel
theorem dL_law_254 : decode cL_law 254 = .ok (.iaload, 1) := by decide +kernel
theorem dL_law_255 : decode cL_law 255 = .ok (.aload_n 0, 1) := by decide +kernel
theorem dL_law_256 : decode cL_law 256 = .ok (.iload 4, 2) := by decide +kernel
theorem dL_law_258 : decode cL_law 258 = .ok (.iconst 2, 1) := by decide +kernel
theorem dL_law_259 : decode cL_law 259 = .ok (.iadd, 1) := by decide +kernel
theorem dL_law_260 : decode cL_law 260 = .ok (.iaload, 1) := by decide +kernel
theorem dL_law_261 : decode cL_law 261 = .ok (.aload_n 3, 1) := by decide +kernel
theorem dL_law_262 : decode cL_law 262 = .ok (.invokestatic 66, 3) := by decide +kernel
theorem dL_law_265 : decode cL_law 265 = .ok (.istore 5, 2) := by decide +kernel
theorem dL_law_267 : decode cL_law 267 = .ok (.aload_n 2, 1) := by decide +kernel
theorem dL_law_268 : decode cL_law 268 = .ok (.aload_n 0, 1) := by decide +kernel
theorem dL_law_269 : decode cL_law 269 = .ok (.iload 4, 2) := by decide +kernel
theorem dL_law_271 : decode cL_law 271 = .ok (.iconst 1, 1) := by decide +kernel
theorem dL_law_272 : decode cL_law 272 = .ok (.iadd, 1) := by decide +kernel
theorem dL_law_273 : decode cL_law 273 = .ok (.iaload, 1) := by decide +kernel
theorem dL_law_274 : decode cL_law 274 = .ok (.aload_n 0, 1) := by decide +kernel
theorem dL_law_275 : decode cL_law 275 = .ok (.iload 4, 2) := by decide +kernel
theorem dL_law_277 : decode cL_law 277 = .ok (.iconst 2, 1) := by decide +kernel
theorem dL_law_278 : decode cL_law 278 = .ok (.iadd, 1) := by decide +kernel
theorem dL_law_279 : decode cL_law 279 = .ok (.iaload, 1) := by decide +kernel
theorem dL_law_280 : decode cL_law 280 = .ok (.invokevirtual 69, 3) := by decide +kernel
theorem dL_law_283 : decode cL_law 283 = .ok (.istore 6, 2) := by decide +kernel
theorem dL_law_285 : decode cL_law 285 = .ok (.aload_n 2, 1) := by decide +kernel
theorem dL_law_286 : decode cL_law 286 = .ok (.invokevirtual 58, 3) := by decide +kernel
theorem dL_law_289 : decode cL_law 289 = .ok (.iload 5, 2) := by decide +kernel
theorem dL_law_291 : decode cL_law 291 = .ok (.if_icmp .eq 5, 3) := by decide +kernel
theorem dL_law_294 : decode cL_law 294 = .ok (.iconst 0, 1) := by decide +kernel
theorem dL_law_295 : decode cL_law 295 = .ok (.ireturn, 1) := by decide +kernel
theorem dL_law_296 : decode cL_law 296 = .ok (.iload 5, 2) := by decide +kernel
theorem dL_law_298 : decode cL_law 298 = .ok (.ifCond .ne 15, 3) := by decide +kernel
theorem dL_law_301 : decode cL_law 301 = .ok (.aload_n 3, 1) := by decide +kernel
theorem dL_law_302 : decode cL_law 302 = .ok (.iconst 0, 1) := by decide +kernel
theorem dL_law_303 : decode cL_law 303 = .ok (.laload, 1) := by decide +kernel
theorem dL_law_304 : decode cL_law 304 = .ok (.iload 6, 2) := by decide +kernel
theorem dL_law_306 : decode cL_law 306 = .ok (.i2l, 1) := by decide +kernel
theorem dL_law_307 : decode cL_law 307 = .ok (.lcmp, 1) := by decide +kernel
theorem dL_law_308 : decode cL_law 308 = .ok (.ifCond .eq 5, 3) := by decide +kernel
theorem dL_law_311 : decode cL_law 311 = .ok (.iconst 0, 1) := by decide +kernel
theorem dL_law_312 : decode cL_law 312 = .ok (.ireturn, 1) := by decide +kernel
theorem dL_law_313 : decode cL_law 313 = .ok (.goto 618, 3) := by decide +kernel
theorem dL_law_316 : decode cL_law 316 = .ok (.aload_n 1, 1) := by decide +kernel
theorem dL_law_317 : decode cL_law 317 = .ok (.aload_n 0, 1) := by decide +kernel
theorem dL_law_318 : decode cL_law 318 = .ok (.iload 4, 2) := by decide +kernel
theorem dL_law_320 : decode cL_law 320 = .ok (.iconst 1, 1) := by decide +kernel
theorem dL_law_321 : decode cL_law 321 = .ok (.iadd, 1) := by decide +kernel
theorem dL_law_322 : decode cL_law 322 = .ok (.iaload, 1) := by decide +kernel
theorem dL_law_323 : decode cL_law 323 = .ok (.aload_n 0, 1) := by decide +kernel
theorem dL_law_324 : decode cL_law 324 = .ok (.iload 4, 2) := by decide +kernel
theorem dL_law_326 : decode cL_law 326 = .ok (.iconst 2, 1) := by decide +kernel
theorem dL_law_327 : decode cL_law 327 = .ok (.iadd, 1) := by decide +kernel
theorem dL_law_328 : decode cL_law 328 = .ok (.iaload, 1) := by decide +kernel
theorem dL_law_329 : decode cL_law 329 = .ok (.aload_n 3, 1) := by decide +kernel
theorem dL_law_330 : decode cL_law 330 = .ok (.invokestatic 70, 3) := by decide +kernel
theorem dL_law_333 : decode cL_law 333 = .ok (.istore 5, 2) := by decide +kernel
theorem dL_law_335 : decode cL_law 335 = .ok (.aload_n 2, 1) := by decide +kernel
theorem dL_law_336 : decode cL_law 336 = .ok (.aload_n 0, 1) := by decide +kernel
theorem dL_law_337 : decode cL_law 337 = .ok (.iload 4, 2) := by decide +kernel
theorem dL_law_339 : decode cL_law 339 = .ok (.iconst 1, 1) := by decide +kernel
theorem dL_law_340 : decode cL_law 340 = .ok (.iadd, 1) := by decide +kernel
theorem dL_law_341 : decode cL_law 341 = .ok (.iaload, 1) := by decide +kernel
theorem dL_law_342 : decode cL_law 342 = .ok (.aload_n 0, 1) := by decide +kernel
theorem dL_law_343 : decode cL_law 343 = .ok (.iload 4, 2) := by decide +kernel
theorem dL_law_345 : decode cL_law 345 = .ok (.iconst 2, 1) := by decide +kernel
theorem dL_law_346 : decode cL_law 346 = .ok (.iadd, 1) := by decide +kernel
theorem dL_law_347 : decode cL_law 347 = .ok (.iaload, 1) := by decide +kernel
theorem dL_law_348 : decode cL_law 348 = .ok (.invokevirtual 72, 3) := by decide +kernel
theorem dL_law_351 : decode cL_law 351 = .ok (.istore 6, 2) := by decide +kernel
theorem dL_law_353 : decode cL_law 353 = .ok (.aload_n 2, 1) := by decide +kernel
theorem dL_law_354 : decode cL_law 354 = .ok (.invokevirtual 58, 3) := by decide +kernel
theorem dL_law_357 : decode cL_law 357 = .ok (.iload 5, 2) := by decide +kernel
theorem dL_law_359 : decode cL_law 359 = .ok (.if_icmp .eq 5, 3) := by decide +kernel
theorem dL_law_362 : decode cL_law 362 = .ok (.iconst 0, 1) := by decide +kernel
theorem dL_law_363 : decode cL_law 363 = .ok (.ireturn, 1) := by decide +kernel
theorem dL_law_364 : decode cL_law 364 = .ok (.iload 5, 2) := by decide +kernel
theorem dL_law_366 : decode cL_law 366 = .ok (.ifCond .ne 15, 3) := by decide +kernel
theorem dL_law_369 : decode cL_law 369 = .ok (.aload_n 3, 1) := by decide +kernel
theorem dL_law_370 : decode cL_law 370 = .ok (.iconst 0, 1) := by decide +kernel
theorem dL_law_371 : decode cL_law 371 = .ok (.laload, 1) := by decide +kernel
theorem dL_law_372 : decode cL_law 372 = .ok (.iload 6, 2) := by decide +kernel
theorem dL_law_374 : decode cL_law 374 = .ok (.i2l, 1) := by decide +kernel
theorem dL_law_375 : decode cL_law 375 = .ok (.lcmp, 1) := by decide +kernel
theorem dL_law_376 : decode cL_law 376 = .ok (.ifCond .eq 5, 3) := by decide +kernel
theorem dL_law_379 : decode cL_law 379 = .ok (.iconst 0, 1) := by decide +kernel
theorem dL_law_380 : decode cL_law 380 = .ok (.ireturn, 1) := by decide +kernel
theorem dL_law_381 : decode cL_law 381 = .ok (.goto 550, 3) := by decide +kernel
theorem dL_law_384 : decode cL_law 384 = .ok (.aload_n 1, 1) := by decide +kernel
theorem dL_law_385 : decode cL_law 385 = .ok (.aload_n 0, 1) := by decide +kernel
theorem dL_law_386 : decode cL_law 386 = .ok (.iload 4, 2) := by decide +kernel
theorem dL_law_388 : decode cL_law 388 = .ok (.iconst 1, 1) := by decide +kernel
theorem dL_law_389 : decode cL_law 389 = .ok (.iadd, 1) := by decide +kernel
theorem dL_law_390 : decode cL_law 390 = .ok (.iaload, 1) := by decide +kernel
theorem dL_law_391 : decode cL_law 391 = .ok (.aload_n 0, 1) := by decide +kernel
theorem dL_law_392 : decode cL_law 392 = .ok (.iload 4, 2) := by decide +kernel
theorem dL_law_394 : decode cL_law 394 = .ok (.iconst 2, 1) := by decide +kernel
theorem dL_law_395 : decode cL_law 395 = .ok (.iadd, 1) := by decide +kernel
theorem dL_law_396 : decode cL_law 396 = .ok (.iaload, 1) := by decide +kernel
theorem dL_law_397 : decode cL_law 397 = .ok (.aload_n 0, 1) := by decide +kernel
theorem dL_law_398 : decode cL_law 398 = .ok (.iload 4, 2) := by decide +kernel
theorem dL_law_400 : decode cL_law 400 = .ok (.iconst 3, 1) := by decide +kernel
theorem dL_law_401 : decode cL_law 401 = .ok (.iadd, 1) := by decide +kernel
theorem dL_law_402 : decode cL_law 402 = .ok (.iaload, 1) := by decide +kernel
theorem dL_law_403 : decode cL_law 403 = .ok (.aload_n 0, 1) := by decide +kernel
theorem dL_law_404 : decode cL_law 404 = .ok (.iload 4, 2) := by decide +kernel
theorem dL_law_406 : decode cL_law 406 = .ok (.iconst 4, 1) := by decide +kernel
theorem dL_law_407 : decode cL_law 407 = .ok (.iadd, 1) := by decide +kernel
theorem dL_law_408 : decode cL_law 408 = .ok (.iaload, 1) := by decide +kernel
theorem dL_law_409 : decode cL_law 409 = .ok (.aload_n 3, 1) := by decide +kernel
theorem dL_law_410 : decode cL_law 410 = .ok (.invokestatic 73, 3) := by decide +kernel
theorem dL_law_413 : decode cL_law 413 = .ok (.istore 5, 2) := by decide +kernel
theorem dL_law_415 : decode cL_law 415 = .ok (.aload_n 2, 1) := by decide +kernel
theorem dL_law_416 : decode cL_law 416 = .ok (.aload_n 0, 1) := by decide +kernel
theorem dL_law_417 : decode cL_law 417 = .ok (.iload 4, 2) := by decide +kernel
theorem dL_law_419 : decode cL_law 419 = .ok (.iconst 1, 1) := by decide +kernel
theorem dL_law_420 : decode cL_law 420 = .ok (.iadd, 1) := by decide +kernel
theorem dL_law_421 : decode cL_law 421 = .ok (.iaload, 1) := by decide +kernel
theorem dL_law_422 : decode cL_law 422 = .ok (.aload_n 0, 1) := by decide +kernel
theorem dL_law_423 : decode cL_law 423 = .ok (.iload 4, 2) := by decide +kernel
theorem dL_law_425 : decode cL_law 425 = .ok (.iconst 2, 1) := by decide +kernel
theorem dL_law_426 : decode cL_law 426 = .ok (.iadd, 1) := by decide +kernel
theorem dL_law_427 : decode cL_law 427 = .ok (.iaload, 1) := by decide +kernel
theorem dL_law_428 : decode cL_law 428 = .ok (.aload_n 0, 1) := by decide +kernel
theorem dL_law_429 : decode cL_law 429 = .ok (.iload 4, 2) := by decide +kernel
theorem dL_law_431 : decode cL_law 431 = .ok (.iconst 3, 1) := by decide +kernel
theorem dL_law_432 : decode cL_law 432 = .ok (.iadd, 1) := by decide +kernel
theorem dL_law_433 : decode cL_law 433 = .ok (.iaload, 1) := by decide +kernel
theorem dL_law_434 : decode cL_law 434 = .ok (.aload_n 0, 1) := by decide +kernel
theorem dL_law_435 : decode cL_law 435 = .ok (.iload 4, 2) := by decide +kernel
theorem dL_law_437 : decode cL_law 437 = .ok (.iconst 4, 1) := by decide +kernel
theorem dL_law_438 : decode cL_law 438 = .ok (.iadd, 1) := by decide +kernel
theorem dL_law_439 : decode cL_law 439 = .ok (.iaload, 1) := by decide +kernel
theorem dL_law_440 : decode cL_law 440 = .ok (.invokevirtual 75, 3) := by decide +kernel
theorem dL_law_443 : decode cL_law 443 = .ok (.istore 6, 2) := by decide +kernel
theorem dL_law_445 : decode cL_law 445 = .ok (.aload_n 2, 1) := by decide +kernel
theorem dL_law_446 : decode cL_law 446 = .ok (.invokevirtual 58, 3) := by decide +kernel
theorem dL_law_449 : decode cL_law 449 = .ok (.iload 5, 2) := by decide +kernel
theorem dL_law_451 : decode cL_law 451 = .ok (.if_icmp .eq 5, 3) := by decide +kernel
theorem dL_law_454 : decode cL_law 454 = .ok (.iconst 0, 1) := by decide +kernel
theorem dL_law_455 : decode cL_law 455 = .ok (.ireturn, 1) := by decide +kernel
theorem dL_law_456 : decode cL_law 456 = .ok (.iload 5, 2) := by decide +kernel
theorem dL_law_458 : decode cL_law 458 = .ok (.ifCond .ne 15, 3) := by decide +kernel
theorem dL_law_461 : decode cL_law 461 = .ok (.aload_n 3, 1) := by decide +kernel
theorem dL_law_462 : decode cL_law 462 = .ok (.iconst 0, 1) := by decide +kernel
theorem dL_law_463 : decode cL_law 463 = .ok (.laload, 1) := by decide +kernel
theorem dL_law_464 : decode cL_law 464 = .ok (.iload 6, 2) := by decide +kernel
theorem dL_law_466 : decode cL_law 466 = .ok (.i2l, 1) := by decide +kernel
theorem dL_law_467 : decode cL_law 467 = .ok (.lcmp, 1) := by decide +kernel
theorem dL_law_468 : decode cL_law 468 = .ok (.ifCond .eq 5, 3) := by decide +kernel
theorem dL_law_471 : decode cL_law 471 = .ok (.iconst 0, 1) := by decide +kernel
theorem dL_law_472 : decode cL_law 472 = .ok (.ireturn, 1) := by decide +kernel
theorem dL_law_473 : decode cL_law 473 = .ok (.goto 458, 3) := by decide +kernel
theorem dL_law_476 : decode cL_law 476 = .ok (.aload_n 1, 1) := by decide +kernel
theorem dL_law_477 : decode cL_law 477 = .ok (.aload_n 0, 1) := by decide +kernel
theorem dL_law_478 : decode cL_law 478 = .ok (.iload 4, 2) := by decide +kernel
theorem dL_law_480 : decode cL_law 480 = .ok (.iconst 1, 1) := by decide +kernel
theorem dL_law_481 : decode cL_law 481 = .ok (.iadd, 1) := by decide +kernel
theorem dL_law_482 : decode cL_law 482 = .ok (.iaload, 1) := by decide +kernel
theorem dL_law_483 : decode cL_law 483 = .ok (.aload_n 0, 1) := by decide +kernel
theorem dL_law_484 : decode cL_law 484 = .ok (.iload 4, 2) := by decide +kernel
theorem dL_law_486 : decode cL_law 486 = .ok (.iconst 2, 1) := by decide +kernel
theorem dL_law_487 : decode cL_law 487 = .ok (.iadd, 1) := by decide +kernel
theorem dL_law_488 : decode cL_law 488 = .ok (.iaload, 1) := by decide +kernel
theorem dL_law_489 : decode cL_law 489 = .ok (.aload_n 0, 1) := by decide +kernel
theorem dL_law_490 : decode cL_law 490 = .ok (.iload 4, 2) := by decide +kernel
theorem dL_law_492 : decode cL_law 492 = .ok (.iconst 3, 1) := by decide +kernel
theorem dL_law_493 : decode cL_law 493 = .ok (.iadd, 1) := by decide +kernel
theorem dL_law_494 : decode cL_law 494 = .ok (.iaload, 1) := by decide +kernel
theorem dL_law_495 : decode cL_law 495 = .ok (.aload_n 0, 1) := by decide +kernel
theorem dL_law_496 : decode cL_law 496 = .ok (.iload 4, 2) := by decide +kernel
theorem dL_law_498 : decode cL_law 498 = .ok (.iconst 4, 1) := by decide +kernel
theorem dL_law_499 : decode cL_law 499 = .ok (.iadd, 1) := by decide +kernel
theorem dL_law_500 : decode cL_law 500 = .ok (.iaload, 1) := by decide +kernel
theorem dL_law_501 : decode cL_law 501 = .ok (.aload_n 3, 1) := by decide +kernel
theorem dL_law_502 : decode cL_law 502 = .ok (.invokestatic 76, 3) := by decide +kernel
theorem dL_law_505 : decode cL_law 505 = .ok (.istore 5, 2) := by decide +kernel
theorem dL_law_507 : decode cL_law 507 = .ok (.aload_n 2, 1) := by decide +kernel
theorem dL_law_508 : decode cL_law 508 = .ok (.aload_n 0, 1) := by decide +kernel
theorem dL_law_509 : decode cL_law 509 = .ok (.iload 4, 2) := by decide +kernel
theorem dL_law_511 : decode cL_law 511 = .ok (.iconst 1, 1) := by decide +kernel
theorem dL_law_512 : decode cL_law 512 = .ok (.iadd, 1) := by decide +kernel
theorem dL_law_513 : decode cL_law 513 = .ok (.iaload, 1) := by decide +kernel
theorem dL_law_514 : decode cL_law 514 = .ok (.aload_n 0, 1) := by decide +kernel
theorem dL_law_515 : decode cL_law 515 = .ok (.iload 4, 2) := by decide +kernel
theorem dL_law_517 : decode cL_law 517 = .ok (.iconst 2, 1) := by decide +kernel
theorem dL_law_518 : decode cL_law 518 = .ok (.iadd, 1) := by decide +kernel
theorem dL_law_519 : decode cL_law 519 = .ok (.iaload, 1) := by decide +kernel
theorem dL_law_520 : decode cL_law 520 = .ok (.aload_n 0, 1) := by decide +kernel
theorem dL_law_521 : decode cL_law 521 = .ok (.iload 4, 2) := by decide +kernel
theorem dL_law_523 : decode cL_law 523 = .ok (.iconst 3, 1) := by decide +kernel
theorem dL_law_524 : decode cL_law 524 = .ok (.iadd, 1) := by decide +kernel
theorem dL_law_525 : decode cL_law 525 = .ok (.iaload, 1) := by decide +kernel
theorem dL_law_526 : decode cL_law 526 = .ok (.aload_n 0, 1) := by decide +kernel
theorem dL_law_527 : decode cL_law 527 = .ok (.iload 4, 2) := by decide +kernel
theorem dL_law_529 : decode cL_law 529 = .ok (.iconst 4, 1) := by decide +kernel
theorem dL_law_530 : decode cL_law 530 = .ok (.iadd, 1) := by decide +kernel
theorem dL_law_531 : decode cL_law 531 = .ok (.iaload, 1) := by decide +kernel
theorem dL_law_532 : decode cL_law 532 = .ok (.invokevirtual 78, 3) := by decide +kernel
theorem dL_law_535 : decode cL_law 535 = .ok (.istore 6, 2) := by decide +kernel
theorem dL_law_537 : decode cL_law 537 = .ok (.aload_n 2, 1) := by decide +kernel
theorem dL_law_538 : decode cL_law 538 = .ok (.invokevirtual 58, 3) := by decide +kernel
theorem dL_law_541 : decode cL_law 541 = .ok (.iload 5, 2) := by decide +kernel
theorem dL_law_543 : decode cL_law 543 = .ok (.if_icmp .eq 5, 3) := by decide +kernel
theorem dL_law_546 : decode cL_law 546 = .ok (.iconst 0, 1) := by decide +kernel
theorem dL_law_547 : decode cL_law 547 = .ok (.ireturn, 1) := by decide +kernel
theorem dL_law_548 : decode cL_law 548 = .ok (.iload 5, 2) := by decide +kernel
theorem dL_law_550 : decode cL_law 550 = .ok (.ifCond .ne 15, 3) := by decide +kernel
theorem dL_law_553 : decode cL_law 553 = .ok (.aload_n 3, 1) := by decide +kernel
theorem dL_law_554 : decode cL_law 554 = .ok (.iconst 0, 1) := by decide +kernel
theorem dL_law_555 : decode cL_law 555 = .ok (.laload, 1) := by decide +kernel
theorem dL_law_556 : decode cL_law 556 = .ok (.iload 6, 2) := by decide +kernel
theorem dL_law_558 : decode cL_law 558 = .ok (.i2l, 1) := by decide +kernel
theorem dL_law_559 : decode cL_law 559 = .ok (.lcmp, 1) := by decide +kernel
theorem dL_law_560 : decode cL_law 560 = .ok (.ifCond .eq 5, 3) := by decide +kernel
theorem dL_law_563 : decode cL_law 563 = .ok (.iconst 0, 1) := by decide +kernel
theorem dL_law_564 : decode cL_law 564 = .ok (.ireturn, 1) := by decide +kernel
theorem dL_law_565 : decode cL_law 565 = .ok (.goto 366, 3) := by decide +kernel
theorem dL_law_568 : decode cL_law 568 = .ok (.aload_n 1, 1) := by decide +kernel
theorem dL_law_569 : decode cL_law 569 = .ok (.aload_n 0, 1) := by decide +kernel
theorem dL_law_570 : decode cL_law 570 = .ok (.iload 4, 2) := by decide +kernel
theorem dL_law_572 : decode cL_law 572 = .ok (.iconst 1, 1) := by decide +kernel
theorem dL_law_573 : decode cL_law 573 = .ok (.iadd, 1) := by decide +kernel
theorem dL_law_574 : decode cL_law 574 = .ok (.iaload, 1) := by decide +kernel
theorem dL_law_575 : decode cL_law 575 = .ok (.aload_n 0, 1) := by decide +kernel
theorem dL_law_576 : decode cL_law 576 = .ok (.iload 4, 2) := by decide +kernel
theorem dL_law_578 : decode cL_law 578 = .ok (.iconst 2, 1) := by decide +kernel
theorem dL_law_579 : decode cL_law 579 = .ok (.iadd, 1) := by decide +kernel
theorem dL_law_580 : decode cL_law 580 = .ok (.iaload, 1) := by decide +kernel
theorem dL_law_581 : decode cL_law 581 = .ok (.aload_n 3, 1) := by decide +kernel
theorem dL_law_582 : decode cL_law 582 = .ok (.invokestatic 79, 3) := by decide +kernel
theorem dL_law_585 : decode cL_law 585 = .ok (.istore 5, 2) := by decide +kernel
theorem dL_law_587 : decode cL_law 587 = .ok (.aload_n 2, 1) := by decide +kernel
theorem dL_law_588 : decode cL_law 588 = .ok (.aload_n 0, 1) := by decide +kernel
theorem dL_law_589 : decode cL_law 589 = .ok (.iload 4, 2) := by decide +kernel
theorem dL_law_591 : decode cL_law 591 = .ok (.iconst 1, 1) := by decide +kernel
theorem dL_law_592 : decode cL_law 592 = .ok (.iadd, 1) := by decide +kernel
theorem dL_law_593 : decode cL_law 593 = .ok (.iaload, 1) := by decide +kernel
theorem dL_law_594 : decode cL_law 594 = .ok (.aload_n 0, 1) := by decide +kernel
theorem dL_law_595 : decode cL_law 595 = .ok (.iload 4, 2) := by decide +kernel
theorem dL_law_597 : decode cL_law 597 = .ok (.iconst 2, 1) := by decide +kernel
theorem dL_law_598 : decode cL_law 598 = .ok (.iadd, 1) := by decide +kernel
theorem dL_law_599 : decode cL_law 599 = .ok (.iaload, 1) := by decide +kernel
theorem dL_law_600 : decode cL_law 600 = .ok (.invokevirtual 81, 3) := by decide +kernel
theorem dL_law_603 : decode cL_law 603 = .ok (.istore 6, 2) := by decide +kernel
theorem dL_law_605 : decode cL_law 605 = .ok (.aload_n 2, 1) := by decide +kernel
theorem dL_law_606 : decode cL_law 606 = .ok (.invokevirtual 58, 3) := by decide +kernel
theorem dL_law_609 : decode cL_law 609 = .ok (.iload 5, 2) := by decide +kernel
theorem dL_law_611 : decode cL_law 611 = .ok (.if_icmp .eq 5, 3) := by decide +kernel
theorem dL_law_614 : decode cL_law 614 = .ok (.iconst 0, 1) := by decide +kernel
theorem dL_law_615 : decode cL_law 615 = .ok (.ireturn, 1) := by decide +kernel
theorem dL_law_616 : decode cL_law 616 = .ok (.iload 5, 2) := by decide +kernel
theorem dL_law_618 : decode cL_law 618 = .ok (.ifCond .ne 15, 3) := by decide +kernel
theorem dL_law_621 : decode cL_law 621 = .ok (.aload_n 3, 1) := by decide +kernel
theorem dL_law_622 : decode cL_law 622 = .ok (.iconst 0, 1) := by decide +kernel
theorem dL_law_623 : decode cL_law 623 = .ok (.laload, 1) := by decide +kernel
theorem dL_law_624 : decode cL_law 624 = .ok (.iload 6, 2) := by decide +kernel
theorem dL_law_626 : decode cL_law 626 = .ok (.i2l, 1) := by decide +kernel
theorem dL_law_627 : decode cL_law 627 = .ok (.lcmp, 1) := by decide +kernel
theorem dL_law_628 : decode cL_law 628 = .ok (.ifCond .eq 5, 3) := by decide +kernel
theorem dL_law_631 : decode cL_law 631 = .ok (.iconst 0, 1) := by decide +kernel
theorem dL_law_632 : decode cL_law 632 = .ok (.ireturn, 1) := by decide +kernel
theorem dL_law_633 : decode cL_law 633 = .ok (.goto 298, 3) := by decide +kernel
theorem dL_law_636 : decode cL_law 636 = .ok (.aload_n 1, 1) := by decide +kernel
theorem dL_law_637 : decode cL_law 637 = .ok (.aload_n 0, 1) := by decide +kernel
theorem dL_law_638 : decode cL_law 638 = .ok (.iload 4, 2) := by decide +kernel
theorem dL_law_640 : decode cL_law 640 = .ok (.iconst 1, 1) := by decide +kernel
theorem dL_law_641 : decode cL_law 641 = .ok (.iadd, 1) := by decide +kernel
theorem dL_law_642 : decode cL_law 642 = .ok (.iaload, 1) := by decide +kernel
theorem dL_law_643 : decode cL_law 643 = .ok (.aload_n 3, 1) := by decide +kernel
theorem dL_law_644 : decode cL_law 644 = .ok (.invokestatic 82, 3) := by decide +kernel
theorem dL_law_647 : decode cL_law 647 = .ok (.istore 5, 2) := by decide +kernel
theorem dL_law_649 : decode cL_law 649 = .ok (.aload_n 2, 1) := by decide +kernel
theorem dL_law_650 : decode cL_law 650 = .ok (.aload_n 0, 1) := by decide +kernel
theorem dL_law_651 : decode cL_law 651 = .ok (.iload 4, 2) := by decide +kernel
theorem dL_law_653 : decode cL_law 653 = .ok (.iconst 1, 1) := by decide +kernel
theorem dL_law_654 : decode cL_law 654 = .ok (.iadd, 1) := by decide +kernel
theorem dL_law_655 : decode cL_law 655 = .ok (.iaload, 1) := by decide +kernel
theorem dL_law_656 : decode cL_law 656 = .ok (.invokevirtual 84, 3) := by decide +kernel
theorem dL_law_659 : decode cL_law 659 = .ok (.istore 6, 2) := by decide +kernel
theorem dL_law_661 : decode cL_law 661 = .ok (.aload_n 2, 1) := by decide +kernel
theorem dL_law_662 : decode cL_law 662 = .ok (.invokevirtual 58, 3) := by decide +kernel
theorem dL_law_665 : decode cL_law 665 = .ok (.iload 5, 2) := by decide +kernel
theorem dL_law_667 : decode cL_law 667 = .ok (.if_icmp .eq 5, 3) := by decide +kernel
theorem dL_law_670 : decode cL_law 670 = .ok (.iconst 0, 1) := by decide +kernel
theorem dL_law_671 : decode cL_law 671 = .ok (.ireturn, 1) := by decide +kernel
theorem dL_law_672 : decode cL_law 672 = .ok (.iload 5, 2) := by decide +kernel
theorem dL_law_674 : decode cL_law 674 = .ok (.ifCond .ne 15, 3) := by decide +kernel
theorem dL_law_677 : decode cL_law 677 = .ok (.aload_n 3, 1) := by decide +kernel
theorem dL_law_678 : decode cL_law 678 = .ok (.iconst 0, 1) := by decide +kernel
theorem dL_law_679 : decode cL_law 679 = .ok (.laload, 1) := by decide +kernel
theorem dL_law_680 : decode cL_law 680 = .ok (.iload 6, 2) := by decide +kernel
theorem dL_law_682 : decode cL_law 682 = .ok (.i2l, 1) := by decide +kernel
theorem dL_law_683 : decode cL_law 683 = .ok (.lcmp, 1) := by decide +kernel
theorem dL_law_684 : decode cL_law 684 = .ok (.ifCond .eq 5, 3) := by decide +kernel
theorem dL_law_687 : decode cL_law 687 = .ok (.iconst 0, 1) := by decide +kernel
theorem dL_law_688 : decode cL_law 688 = .ok (.ireturn, 1) := by decide +kernel
theorem dL_law_689 : decode cL_law 689 = .ok (.goto 242, 3) := by decide +kernel
theorem dL_law_692 : decode cL_law 692 = .ok (.aload_n 1, 1) := by decide +kernel
theorem dL_law_693 : decode cL_law 693 = .ok (.aload_n 0, 1) := by decide +kernel
theorem dL_law_694 : decode cL_law 694 = .ok (.iload 4, 2) := by decide +kernel
theorem dL_law_696 : decode cL_law 696 = .ok (.iconst 1, 1) := by decide +kernel
theorem dL_law_697 : decode cL_law 697 = .ok (.iadd, 1) := by decide +kernel
theorem dL_law_698 : decode cL_law 698 = .ok (.iaload, 1) := by decide +kernel
theorem dL_law_699 : decode cL_law 699 = .ok (.aload_n 0, 1) := by decide +kernel
theorem dL_law_700 : decode cL_law 700 = .ok (.iload 4, 2) := by decide +kernel
theorem dL_law_702 : decode cL_law 702 = .ok (.iconst 2, 1) := by decide +kernel
theorem dL_law_703 : decode cL_law 703 = .ok (.iadd, 1) := by decide +kernel
theorem dL_law_704 : decode cL_law 704 = .ok (.iaload, 1) := by decide +kernel
theorem dL_law_705 : decode cL_law 705 = .ok (.aload_n 0, 1) := by decide +kernel
theorem dL_law_706 : decode cL_law 706 = .ok (.iload 4, 2) := by decide +kernel
theorem dL_law_708 : decode cL_law 708 = .ok (.iconst 3, 1) := by decide +kernel
theorem dL_law_709 : decode cL_law 709 = .ok (.iadd, 1) := by decide +kernel
theorem dL_law_710 : decode cL_law 710 = .ok (.iaload, 1) := by decide +kernel
theorem dL_law_711 : decode cL_law 711 = .ok (.aload_n 0, 1) := by decide +kernel
theorem dL_law_712 : decode cL_law 712 = .ok (.iload 4, 2) := by decide +kernel
theorem dL_law_714 : decode cL_law 714 = .ok (.iconst 4, 1) := by decide +kernel
theorem dL_law_715 : decode cL_law 715 = .ok (.iadd, 1) := by decide +kernel
theorem dL_law_716 : decode cL_law 716 = .ok (.iaload, 1) := by decide +kernel
theorem dL_law_717 : decode cL_law 717 = .ok (.aload_n 3, 1) := by decide +kernel
theorem dL_law_718 : decode cL_law 718 = .ok (.invokestatic 85, 3) := by decide +kernel
theorem dL_law_721 : decode cL_law 721 = .ok (.istore 5, 2) := by decide +kernel
theorem dL_law_723 : decode cL_law 723 = .ok (.aload_n 2, 1) := by decide +kernel
theorem dL_law_724 : decode cL_law 724 = .ok (.aload_n 0, 1) := by decide +kernel
theorem dL_law_725 : decode cL_law 725 = .ok (.iload 4, 2) := by decide +kernel
theorem dL_law_727 : decode cL_law 727 = .ok (.iconst 1, 1) := by decide +kernel
theorem dL_law_728 : decode cL_law 728 = .ok (.iadd, 1) := by decide +kernel
theorem dL_law_729 : decode cL_law 729 = .ok (.iaload, 1) := by decide +kernel
theorem dL_law_730 : decode cL_law 730 = .ok (.aload_n 0, 1) := by decide +kernel
theorem dL_law_731 : decode cL_law 731 = .ok (.iload 4, 2) := by decide +kernel
theorem dL_law_733 : decode cL_law 733 = .ok (.iconst 2, 1) := by decide +kernel
theorem dL_law_734 : decode cL_law 734 = .ok (.iadd, 1) := by decide +kernel
theorem dL_law_735 : decode cL_law 735 = .ok (.iaload, 1) := by decide +kernel
theorem dL_law_736 : decode cL_law 736 = .ok (.aload_n 0, 1) := by decide +kernel
theorem dL_law_737 : decode cL_law 737 = .ok (.iload 4, 2) := by decide +kernel
theorem dL_law_739 : decode cL_law 739 = .ok (.iconst 3, 1) := by decide +kernel
theorem dL_law_740 : decode cL_law 740 = .ok (.iadd, 1) := by decide +kernel
theorem dL_law_741 : decode cL_law 741 = .ok (.iaload, 1) := by decide +kernel
theorem dL_law_742 : decode cL_law 742 = .ok (.aload_n 0, 1) := by decide +kernel
theorem dL_law_743 : decode cL_law 743 = .ok (.iload 4, 2) := by decide +kernel
theorem dL_law_745 : decode cL_law 745 = .ok (.iconst 4, 1) := by decide +kernel
theorem dL_law_746 : decode cL_law 746 = .ok (.iadd, 1) := by decide +kernel
theorem dL_law_747 : decode cL_law 747 = .ok (.iaload, 1) := by decide +kernel
theorem dL_law_748 : decode cL_law 748 = .ok (.invokevirtual 87, 3) := by decide +kernel
theorem dL_law_751 : decode cL_law 751 = .ok (.istore 6, 2) := by decide +kernel
theorem dL_law_753 : decode cL_law 753 = .ok (.aload_n 2, 1) := by decide +kernel
theorem dL_law_754 : decode cL_law 754 = .ok (.invokevirtual 58, 3) := by decide +kernel
theorem dL_law_757 : decode cL_law 757 = .ok (.iload 5, 2) := by decide +kernel
theorem dL_law_759 : decode cL_law 759 = .ok (.if_icmp .eq 5, 3) := by decide +kernel
theorem dL_law_762 : decode cL_law 762 = .ok (.iconst 0, 1) := by decide +kernel
theorem dL_law_763 : decode cL_law 763 = .ok (.ireturn, 1) := by decide +kernel
theorem dL_law_764 : decode cL_law 764 = .ok (.iload 5, 2) := by decide +kernel
theorem dL_law_766 : decode cL_law 766 = .ok (.ifCond .ne 15, 3) := by decide +kernel
theorem dL_law_769 : decode cL_law 769 = .ok (.aload_n 3, 1) := by decide +kernel
theorem dL_law_770 : decode cL_law 770 = .ok (.iconst 0, 1) := by decide +kernel
theorem dL_law_771 : decode cL_law 771 = .ok (.laload, 1) := by decide +kernel
theorem dL_law_772 : decode cL_law 772 = .ok (.iload 6, 2) := by decide +kernel
theorem dL_law_774 : decode cL_law 774 = .ok (.i2l, 1) := by decide +kernel
theorem dL_law_775 : decode cL_law 775 = .ok (.lcmp, 1) := by decide +kernel
theorem dL_law_776 : decode cL_law 776 = .ok (.ifCond .eq 5, 3) := by decide +kernel
theorem dL_law_779 : decode cL_law 779 = .ok (.iconst 0, 1) := by decide +kernel
theorem dL_law_780 : decode cL_law 780 = .ok (.ireturn, 1) := by decide +kernel
theorem dL_law_781 : decode cL_law 781 = .ok (.goto 150, 3) := by decide +kernel
theorem dL_law_784 : decode cL_law 784 = .ok (.aload_n 1, 1) := by decide +kernel
theorem dL_law_785 : decode cL_law 785 = .ok (.aload_n 0, 1) := by decide +kernel
theorem dL_law_786 : decode cL_law 786 = .ok (.iload 4, 2) := by decide +kernel
theorem dL_law_788 : decode cL_law 788 = .ok (.iconst 1, 1) := by decide +kernel
theorem dL_law_789 : decode cL_law 789 = .ok (.iadd, 1) := by decide +kernel
theorem dL_law_790 : decode cL_law 790 = .ok (.iaload, 1) := by decide +kernel
theorem dL_law_791 : decode cL_law 791 = .ok (.aload_n 0, 1) := by decide +kernel
theorem dL_law_792 : decode cL_law 792 = .ok (.iload 4, 2) := by decide +kernel
theorem dL_law_794 : decode cL_law 794 = .ok (.iconst 2, 1) := by decide +kernel
theorem dL_law_795 : decode cL_law 795 = .ok (.iadd, 1) := by decide +kernel
theorem dL_law_796 : decode cL_law 796 = .ok (.iaload, 1) := by decide +kernel
theorem dL_law_797 : decode cL_law 797 = .ok (.aload_n 0, 1) := by decide +kernel
theorem dL_law_798 : decode cL_law 798 = .ok (.iload 4, 2) := by decide +kernel
theorem dL_law_800 : decode cL_law 800 = .ok (.iconst 3, 1) := by decide +kernel
theorem dL_law_801 : decode cL_law 801 = .ok (.iadd, 1) := by decide +kernel
theorem dL_law_802 : decode cL_law 802 = .ok (.iaload, 1) := by decide +kernel
theorem dL_law_803 : decode cL_law 803 = .ok (.aload_n 0, 1) := by decide +kernel
theorem dL_law_804 : decode cL_law 804 = .ok (.iload 4, 2) := by decide +kernel
theorem dL_law_806 : decode cL_law 806 = .ok (.iconst 4, 1) := by decide +kernel
theorem dL_law_807 : decode cL_law 807 = .ok (.iadd, 1) := by decide +kernel
theorem dL_law_808 : decode cL_law 808 = .ok (.iaload, 1) := by decide +kernel
theorem dL_law_809 : decode cL_law 809 = .ok (.aload_n 3, 1) := by decide +kernel
theorem dL_law_810 : decode cL_law 810 = .ok (.invokestatic 88, 3) := by decide +kernel
theorem dL_law_813 : decode cL_law 813 = .ok (.istore 5, 2) := by decide +kernel
theorem dL_law_815 : decode cL_law 815 = .ok (.aload_n 2, 1) := by decide +kernel
theorem dL_law_816 : decode cL_law 816 = .ok (.aload_n 0, 1) := by decide +kernel
theorem dL_law_817 : decode cL_law 817 = .ok (.iload 4, 2) := by decide +kernel
theorem dL_law_819 : decode cL_law 819 = .ok (.iconst 1, 1) := by decide +kernel
theorem dL_law_820 : decode cL_law 820 = .ok (.iadd, 1) := by decide +kernel
theorem dL_law_821 : decode cL_law 821 = .ok (.iaload, 1) := by decide +kernel
theorem dL_law_822 : decode cL_law 822 = .ok (.aload_n 0, 1) := by decide +kernel
theorem dL_law_823 : decode cL_law 823 = .ok (.iload 4, 2) := by decide +kernel
theorem dL_law_825 : decode cL_law 825 = .ok (.iconst 2, 1) := by decide +kernel
theorem dL_law_826 : decode cL_law 826 = .ok (.iadd, 1) := by decide +kernel
theorem dL_law_827 : decode cL_law 827 = .ok (.iaload, 1) := by decide +kernel
theorem dL_law_828 : decode cL_law 828 = .ok (.aload_n 0, 1) := by decide +kernel
theorem dL_law_829 : decode cL_law 829 = .ok (.iload 4, 2) := by decide +kernel
theorem dL_law_831 : decode cL_law 831 = .ok (.iconst 3, 1) := by decide +kernel
theorem dL_law_832 : decode cL_law 832 = .ok (.iadd, 1) := by decide +kernel
theorem dL_law_833 : decode cL_law 833 = .ok (.iaload, 1) := by decide +kernel
theorem dL_law_834 : decode cL_law 834 = .ok (.aload_n 0, 1) := by decide +kernel
theorem dL_law_835 : decode cL_law 835 = .ok (.iload 4, 2) := by decide +kernel
theorem dL_law_837 : decode cL_law 837 = .ok (.iconst 4, 1) := by decide +kernel
theorem dL_law_838 : decode cL_law 838 = .ok (.iadd, 1) := by decide +kernel
theorem dL_law_839 : decode cL_law 839 = .ok (.iaload, 1) := by decide +kernel
theorem dL_law_840 : decode cL_law 840 = .ok (.invokevirtual 90, 3) := by decide +kernel
theorem dL_law_843 : decode cL_law 843 = .ok (.istore 6, 2) := by decide +kernel
theorem dL_law_845 : decode cL_law 845 = .ok (.aload_n 2, 1) := by decide +kernel
theorem dL_law_846 : decode cL_law 846 = .ok (.invokevirtual 58, 3) := by decide +kernel
theorem dL_law_849 : decode cL_law 849 = .ok (.iload 5, 2) := by decide +kernel
theorem dL_law_851 : decode cL_law 851 = .ok (.if_icmp .eq 5, 3) := by decide +kernel
theorem dL_law_854 : decode cL_law 854 = .ok (.iconst 0, 1) := by decide +kernel
theorem dL_law_855 : decode cL_law 855 = .ok (.ireturn, 1) := by decide +kernel
theorem dL_law_856 : decode cL_law 856 = .ok (.iload 5, 2) := by decide +kernel
theorem dL_law_858 : decode cL_law 858 = .ok (.ifCond .ne 15, 3) := by decide +kernel
theorem dL_law_861 : decode cL_law 861 = .ok (.aload_n 3, 1) := by decide +kernel
theorem dL_law_862 : decode cL_law 862 = .ok (.iconst 0, 1) := by decide +kernel
theorem dL_law_863 : decode cL_law 863 = .ok (.laload, 1) := by decide +kernel
theorem dL_law_864 : decode cL_law 864 = .ok (.iload 6, 2) := by decide +kernel
theorem dL_law_866 : decode cL_law 866 = .ok (.i2l, 1) := by decide +kernel
theorem dL_law_867 : decode cL_law 867 = .ok (.lcmp, 1) := by decide +kernel
theorem dL_law_868 : decode cL_law 868 = .ok (.ifCond .eq 5, 3) := by decide +kernel
theorem dL_law_871 : decode cL_law 871 = .ok (.iconst 0, 1) := by decide +kernel
theorem dL_law_872 : decode cL_law 872 = .ok (.ireturn, 1) := by decide +kernel
theorem dL_law_873 : decode cL_law 873 = .ok (.goto 58, 3) := by decide +kernel
theorem dL_law_876 : decode cL_law 876 = .ok (.aload_n 1, 1) := by decide +kernel
theorem dL_law_877 : decode cL_law 877 = .ok (.invokevirtual 91, 3) := by decide +kernel
theorem dL_law_880 : decode cL_law 880 = .ok (.dstore 5, 2) := by decide +kernel
theorem dL_law_882 : decode cL_law 882 = .ok (.aload_n 2, 1) := by decide +kernel
theorem dL_law_883 : decode cL_law 883 = .ok (.invokevirtual 95, 3) := by decide +kernel
theorem dL_law_886 : decode cL_law 886 = .ok (.dstore 7, 2) := by decide +kernel
theorem dL_law_888 : decode cL_law 888 = .ok (.dload 5, 2) := by decide +kernel
theorem dL_law_890 : decode cL_law 890 = .ok (.dload 7, 2) := by decide +kernel
theorem dL_law_892 : decode cL_law 892 = .ok (.dcmp .l, 1) := by decide +kernel
theorem dL_law_893 : decode cL_law 893 = .ok (.ifCond .eq 21, 3) := by decide +kernel
theorem dL_law_896 : decode cL_law 896 = .ok (.dload 5, 2) := by decide +kernel
theorem dL_law_898 : decode cL_law 898 = .ok (.dload 5, 2) := by decide +kernel
theorem dL_law_900 : decode cL_law 900 = .ok (.dcmp .l, 1) := by decide +kernel
theorem dL_law_901 : decode cL_law 901 = .ok (.ifCond .eq 11, 3) := by decide +kernel
theorem dL_law_904 : decode cL_law 904 = .ok (.dload 7, 2) := by decide +kernel
theorem dL_law_906 : decode cL_law 906 = .ok (.dload 7, 2) := by decide +kernel
theorem dL_law_908 : decode cL_law 908 = .ok (.dcmp .l, 1) := by decide +kernel
theorem dL_law_909 : decode cL_law 909 = .ok (.ifCond .ne 5, 3) := by decide +kernel
theorem dL_law_912 : decode cL_law 912 = .ok (.iconst 0, 1) := by decide +kernel
theorem dL_law_913 : decode cL_law 913 = .ok (.ireturn, 1) := by decide +kernel
theorem dL_law_914 : decode cL_law 914 = .ok (.goto 17, 3) := by decide +kernel
theorem dL_law_917 : decode cL_law 917 = .ok (.aload_n 1, 1) := by decide +kernel
theorem dL_law_918 : decode cL_law 918 = .ok (.invokevirtual 96, 3) := by decide +kernel
theorem dL_law_921 : decode cL_law 921 = .ok (.aload_n 2, 1) := by decide +kernel
theorem dL_law_922 : decode cL_law 922 = .ok (.invokevirtual 100, 3) := by decide +kernel
theorem dL_law_925 : decode cL_law 925 = .ok (.lcmp, 1) := by decide +kernel
theorem dL_law_926 : decode cL_law 926 = .ok (.ifCond .eq 5, 3) := by decide +kernel
theorem dL_law_929 : decode cL_law 929 = .ok (.iconst 0, 1) := by decide +kernel
theorem dL_law_930 : decode cL_law 930 = .ok (.ireturn, 1) := by decide +kernel
theorem dL_law_931 : decode cL_law 931 = .ok (.iinc 4 5, 3) := by decide +kernel
theorem dL_law_934 : decode cL_law 934 = .ok (.goto (-911), 3) := by decide +kernel
theorem dL_law_937 : decode cL_law 937 = .ok (.iconst 1, 1) := by decide +kernel
theorem dL_law_938 : decode cL_law 938 = .ok (.ireturn, 1) := by decide +kernel
abbrev vwCl : List vw_C := [(RX0, TX0, 9), (RX1, TX1, 4), (RX2, TX2, 14)]
