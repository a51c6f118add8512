theorem wd.lt {D : va_G} {M : AH} {H : Heap} (h : wd D M H) {q : Nat} {e : va_E} (hq : M q = some e) : q < H.size := (h q e hq).lt
theorem dm_of_lt {M : AH} {sz q : Nat} (h : dm M sz q) (hl : q < sz) : M q ≠ none := by
  rcases h with h | h
  · exact h
  · omega
theorem zret_nar {x : Int32} (h : x = 0 ∨ x = 1) : narrow .boolean (.int x) = .int x := by
  rcases h with rfl | rfl <;> decide
set_option maxHeartbeats 4000000 in
theorem fin_of {p : Program} {l : Launch} {e : Env} {R : Room} {s : State} {m : MethodId} {args : Array Value} {below : List Frame} {meth : Method} {c : Code} {D : va_G} {T : CT3} {cc : ByteArray} {nL : Nat} {ret : Option FieldType} {mc ms : Nat} {M0 : AH} {sz0 : Nat} {post : Option Value → AH → Nat → Prop}
    (hexec : p.tables.exec = Jvm.exec) (hb : c.code = cc) (hr : meth.sig.returnType = ret) (hlocks : meth.locks = false) (hs0 : s.heap.size = sz0) (hM0 : ∀ q, M0 q ≠ none → q < sz0) :
    Fnl (p, l, e, R, s, m, args, below, meth, c, MQ below (QG D M0 sz0 post) args s mc ms (dm M0 sz0), dm M0 sz0, D, T) cc nL ret mc ms post := by
  intro v M sz a b pc L w hpost ha hb2 hret hdg H locs ls hsz hwd hS hl hMA
  refine W.widen (k := mc) (n := ms) ha hb2 ?_
  have hq : ∀ t : State, t.heap = H → s.WarmedH t.vm → QG D M0 sz0 post args s (.returned v) t := by
    intro t ht hW
    refine ⟨⟨v, M, rfl, by rw [ht, hsz]; exact hpost, by rw [ht]; exact hwd, hMA⟩, ?_⟩
    exact hS.F ht
  rcases hret with ⟨h1, h2, h3⟩ | ⟨x, h1, h2, h3⟩ | ⟨x, h1, h2, h4, h3⟩ | ⟨x, h1, h2, h3⟩ | ⟨x, h1, h2, h3⟩ | ⟨C, r, h1, h2, h3⟩
  · subst h1; subst h2; subst h3
    exact W.vret hexec hb hr hq hS.2.2 hdg
  · subst h1; subst h2; subst h3
    exact W.iret hexec hb hr hq hS.2.2 hdg
  · subst h1; subst h2; subst h3
    exact W.zret hexec hb hr (zret_nar h4) hq hS.2.2 hdg
  · subst h1; subst h2; subst h3
    exact W.lret hexec hb hr hq hS.2.2 hdg
  · subst h1; subst h2; subst h3
    exact W.dret hexec hb hr hq hS.2.2 hdg
  · subst h1; subst h2; subst h3
    exact W.aret hexec hb hr (Or.inl ⟨C, rfl⟩) (by cases r with
      | none => exact Or.inl rfl
      | some a => exact Or.inr ⟨a, rfl⟩) hq hS.2.2 hdg
set_option maxHeartbeats 4000000 in
/-- a method's contract out of a walk of its body -/
theorem Ct.of {l : Launch} (hl : l.stackTraces = false) {T : CT3} {D : va_G} {y : MethodName} {cc : ByteArray} {nL : Nat} {ret : Option FieldType} {fr lo mc ms : Nat} {as : List Value} {M : AH} {sz : Nat} {post : Option Value → AH → Nat → Prop}
    (hy : plainName y.cls = true) (hn : (lg_sl as).length ≤ nL)
    (body : ∀ X : Cx, Ok X y cc nL fr lo mc ms → Fnl X cc nL ret mc ms post → G X nL M sz 0 0 0 (lv_args 0 as) []) : Ct l T D y cc nL ret fr lo mc ms as M sz post := by
  refine Met.ofW (cc := cc) (maxL := nL) (ret := ret) hy rfl ?_
  intro p e s m args below meth c s₁ B hml hv
  obtain ⟨rfl, hsz, hwd, hK⟩ := hv
  have hown : s.vm.findClass y.cls = some m.cls := findClass_of_methodNamed B.named
  have hM0 : ∀ q, M q ≠ none → q < sz := by
    intro q hq
    cases hm : M q with
    | none => exact absurd hm hq
    | some e => rw [← hsz]; exact hwd.lt hm
  have hlen := lv_entry as (n := nL) hn
  rw [lg_entry_eq]
  exact body (p, l, e, (headSpec [.code y cc nL ret] { frames := fr, cells := mc, slots := ms, locals := lo }).room, s, m, as.toArray, below, meth, c, MQ below (QG D M sz post) as.toArray s mc ms (dm M sz), dm M sz, D, T)
    ⟨B.exec, B.bytes, hml, hown, B.notSynchronized, (name_of_methodNamed B.named B.method).1, hK, rfl, fun q hq => Or.inr (by rw [← hsz]; exact hq), hl⟩
    (fin_of B.exec B.bytes B.returns B.notSynchronized hsz hM0) s.heap [] _ hsz hwd va_S.rf hlen (fun q hq => Or.inl hq)
