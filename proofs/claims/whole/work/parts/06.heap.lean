theorem va_P_one {D : va_G} {M : AH} {H : Heap} {q : Nat} {e : va_E} (h : wd D M H) (hq : M q = some e) : va_P D vwCl [(q, e)] H := by
  intro k x hx
  have hk : k < 1 := (List.getElem?_eq_some_iff.mp hx).1
  rw [show k = 0 by omega] at hx
  cases hx
  exact h q e hq
theorem wd_up {D : va_G} {M : AH} {H H' : Heap} {q : Nat} {e : va_E} (h : wd D M H) (he : va_at D vwCl (q, e) H') (ho : ∀ x, x ≠ q → H'[x]? = H[x]?) : wd D (va_up M q (some e)) H' := by
  intro x f hx
  by_cases hq : x = q
  · subst hq
    rw [va_up_self] at hx
    cases hx
    exact he
  · rw [va_up_ne _ _ hq] at hx
    exact (h x f hx).kept (ho x hq)
theorem wd_new {D : va_G} {M : AH} {H H' : Heap} {e : va_E} (h : wd D M H) (he : va_at D vwCl (H.size, e) H') (ho : ∀ x, x < H.size → H'[x]? = H[x]?) : wd D (va_up M H.size (some e)) H' := by
  intro x f hx
  by_cases hq : x = H.size
  · subst hq
    rw [va_up_self] at hx
    cases hx
    exact he
  · rw [va_up_ne _ _ hq] at hx
    exact (h x f hx).kept (ho x (h.lt hx))
theorem dom_up {M : AH} {A : Nat → Prop} {q : Nat} {e : Option va_E} (h : ∀ x, M x ≠ none → A x) (hq : A q) : ∀ x, va_up M q e x ≠ none → A x := by
  intro x hx
  by_cases hq2 : x = q
  · subst hq2; exact hq
  · rw [va_up_ne _ _ hq2] at hx; exact h x hx
theorem TW.use {s : State} {args : Array Value} {w : Cond} (h : TW s) (hw : w ∈ lw_tbl) (ho : okw w = true) : w.before args s = true := okw_any ho (h w hw ho)
def InW (ws : List Cond) : Prop := ∀ w ∈ ws, w ∈ lw_tbl ∧ okw w = true
theorem InW.use {ws : List Cond} {s : State} {args : Array Value} (h : InW ws) (ht : TW s) : ∀ w ∈ ws, w.before args s = true := fun w hw => ht.use (h w hw).1 (h w hw).2
section HeapRows
variable {X : Cx} {y : MethodName} {cc : ByteArray} {nL fr lo mc ms : Nat} {M : AH} {sz a b pc : Nat} {L : List (Nat × Value)} {st : List Value}
set_option maxHeartbeats 1000000 in
theorem g_get (hX : Ok X y cc nL fr lo mc ms) {ci N : Nat} {C : String} {Tt : u_T} (hc : vwCl[ci]? = some (C, Tt, N)) (hin : InW (u_ws C Tt N)) {q : Nat} {fs : List Value} (hM : M q = some (.inr (ci, fs))) (k : Nat) (hk : k < N) {idx : Nat} (hlk : Cond.fieldLink y.cls idx (Tt k).1 (Tt k).2.1 (Tt k).2.2.1 ∈ lw_tbl) {v : Value} (hv : fs[k]? = some v) (hdg : decode cc pc = .ok (.getfield idx, 3))
    (kk : G X nL M sz a b (pc + 3) L (v :: st)) : G X nL M sz a b pc L (.ref q :: st) := by
  obtain ⟨p, l, e, R, s, m, args, below, meth, c, Q, A, D, T⟩ := X
  obtain ⟨hexec, hb, hml, hown, hlocks, hname, hK, hR, hA, hst⟩ := hX
  intro H locs ls hsz hwd hS hl hMA
  exact va_get (D := D) (cl := vwCl) (ci := ci) hexec hb (hin.use hK.2) (fun w h => h) hown hK.1 (va_P_one hwd hM) 0 rfl hc k hk (hK.2.use hlk rfl) (fun _ h => h) hv hdg (kk H locs ls hsz hwd hS hl hMA)
set_option maxHeartbeats 1000000 in
theorem g_getN (hX : Ok X y cc nL fr lo mc ms) {ci N : Nat} {C host : String} {Tt : u_T} (hc : vwCl[ci]? = some (C, Tt, N)) (hin : InW (u_ws C Tt N)) {q : Nat} {fs : List Value} (hM : M q = some (.inr (ci, fs))) (k : Nat) (hk : k < N) {idx : Nat} (hlk : Cond.fieldLinkNest y.cls idx (Tt k).1 (Tt k).2.1 (Tt k).2.2.1 host ∈ lw_tbl) {v : Value} (hv : fs[k]? = some v) (hdg : decode cc pc = .ok (.getfield idx, 3))
    (kk : G X nL M sz a b (pc + 3) L (v :: st)) : G X nL M sz a b pc L (.ref q :: st) := by
  obtain ⟨p, l, e, R, s, m, args, below, meth, c, Q, A, D, T⟩ := X
  obtain ⟨hexec, hb, hml, hown, hlocks, hname, hK, hR, hA, hst⟩ := hX
  intro H locs ls hsz hwd hS hl hMA
  exact va_getN (D := D) (cl := vwCl) (ci := ci) hexec hb (hin.use hK.2) (fun w h => h) hown hK.1 (va_P_one hwd hM) 0 rfl hc k hk (hK.2.use hlk rfl) (fun _ h => h) hv hdg (kk H locs ls hsz hwd hS hl hMA)
/-- what a class's field tables must say -/
def Fld (C : String) (Tt : u_T) (N : Nat) (ty0 : Nat → FieldType) : Prop := InW (u_ws C Tt N) ∧ (∀ k, k < N → parseFieldDescriptor (Tt k).2.2.1 = some (ty0 k)) ∧ (∀ a, a < N → ∀ b, b < N → a ≠ b → (Tt a).2.1 ≠ (Tt b).2.1)
set_option maxHeartbeats 1000000 in
theorem g_put (hX : Ok X y cc nL fr lo mc ms) {ci N : Nat} {C : String} {Tt : u_T} {ty0 : Nat → FieldType} (hc : vwCl[ci]? = some (C, Tt, N)) (hF : Fld C Tt N ty0) {q : Nat} {fs : List Value} (hM : M q = some (.inr (ci, fs))) (k : Nat) (hk : k < N) {idx : Nat} (hlk : Cond.fieldLink y.cls idx (Tt k).1 (Tt k).2.1 (Tt k).2.2.1 ∈ lw_tbl) (hfin : (Tt k).2.2.2 = false) {v : Value} (hn : narrow (ty0 k) v = v) (hfit : fits (ty0 k) v = true) (hl : k < fs.length) (hdg : decode cc pc = .ok (.putfield idx, 3))
    (kk : G X nL (va_up M q (some (.inr (ci, fs.set k v)))) sz a b (pc + 3) L st) : G X nL M sz a b pc L (v :: .ref q :: st) := by
  obtain ⟨p, l, e, R, s, m, args, below, meth, c, Q, A, D, T⟩ := X
  obtain ⟨hexec, hb, hml, hown, hlocks, hname, hK, hR, hA, hst⟩ := hX
  intro H locs ls hsz hwd hS hlv hMA
  obtain ⟨hin, hty, hnm⟩ := hF
  have hts := hin.use (args := args) hK.2
  have hap := va_apart (own := y.cls) hts (fun w h => h) ty0 hty hnm hK.1 hc
  obtain ⟨r, h1, cell, q1, q2, q3, q4⟩ := hwd q _ hM
  have hr : r = (C, Tt, N) := Option.some.inj (h1.symm.trans hc)
  subst hr
  obtain ⟨hSl, hfc, kC, hkC, hkind⟩ := hK.1.1 ci _ hc
  obtain ⟨cf, kf, fi, f, hi, hsl⟩ := hSl k hk
  have hlay := hts _ (u_in_lay hk)
  unfold u_lay at hlay
  rw [if_neg (by rw [hfin]; decide)] at hlay
  have hst2 := (u_facts hfc hkC (u_lays hts (fun w h => h) hk) hi).1
  have h6 := u_store hfc hkC hkind hlay hi (hty k hk) hn hfit
  refine W.putK hexec hb (f := f) ⟨hown, hK.2.use hlk rfl, ⟨_, _, _, hi⟩, hst2⟩ (by rw [q2]; exact h6) q1 q3 (by rw [hsl]; exact k2_hasslot (q4 k hk)) rfl rfl hdg fun H' e1 e2 e3 => ?_
  rw [hsl] at e1 ⊢
  exact kk H' _ ls (by rw [e2]; exact hsz) (wd_up hwd ⟨_, hc, t_OB.to (V := updV (vp_V fs) k v) ⟨_, e1, q2, q3, t_set q4 hap hk v⟩ (fun j _ => vp_updV_set hl v j)⟩ e3) (hS.put e2 e3 (hMA q (by rw [hM]; exact fun h => by cases h))) hlv (dom_up hMA (hMA q (by rw [hM]; exact fun h => by cases h)))
set_option maxHeartbeats 1000000 in
theorem g_putF (hX : Ok X y cc nL fr lo mc ms) {ci N : Nat} {C : String} {Tt : u_T} {ty0 : Nat → FieldType} (hc : vwCl[ci]? = some (C, Tt, N)) (hF : Fld C Tt N ty0) {q : Nat} {fs : List Value} (hM : M q = some (.inr (ci, fs))) (k : Nat) (hk : k < N) {idx : Nat} (hlk : Cond.fieldLink y.cls idx (Tt k).1 (Tt k).2.1 (Tt k).2.2.1 ∈ lw_tbl) (hfin : (Tt k).2.2.2 = true) (hyn : y.name = "<init>") (hdecl : (Tt k).1 = y.cls) {v : Value} (hn : narrow (ty0 k) v = v) (hfit : fits (ty0 k) v = true) (hl : k < fs.length) (hdg : decode cc pc = .ok (.putfield idx, 3))
    (kk : G X nL (va_up M q (some (.inr (ci, fs.set k v)))) sz a b (pc + 3) L st) : G X nL M sz a b pc L (v :: .ref q :: st) := by
  obtain ⟨p, l, e, R, s, m, args, below, meth, c, Q, A, D, T⟩ := X
  obtain ⟨hexec, hb, hml, hown, hlocks, hname, hK, hR, hA, hst⟩ := hX
  intro H locs ls hsz hwd hS hlv hMA
  obtain ⟨hin, hty, hnm⟩ := hF
  have hts := hin.use (args := args) hK.2
  have hap := va_apart (own := y.cls) hts (fun w h => h) ty0 hty hnm hK.1 hc
  obtain ⟨r, h1, cell, q1, q2, q3, q4⟩ := hwd q _ hM
  have hr : r = (C, Tt, N) := Option.some.inj (h1.symm.trans hc)
  subst hr
  obtain ⟨hSl, hfc, kC, hkC, hkind⟩ := hK.1.1 ci _ hc
  obtain ⟨cf, kf, fi, f, hi, hsl⟩ := hSl k hk
  have hlay := hts _ (u_in_lay hk)
  unfold u_lay at hlay
  rw [if_pos hfin] at hlay
  have hst2 := (u_facts hfc hkC (u_lays hts (fun w h => h) hk) hi).1
  have hcf : m.cls = cf := by
    obtain ⟨_, _, c', _, _, _, -, -, hf', -, -, -, hown2, -⟩ := Cond.laysFinal_spec hlay
    have e1 : c' = cf := by have := hi.symm.trans hf'; simp at this; exact this.1.symm
    rw [hdecl] at hown2
    rw [← e1]; exact Option.some.inj (hown.symm.trans hown2)
  have h6 := u_fits hfc hkC hkind (Or.inr hlay) hi (hty k hk) hn hfit
  refine W.putFinK hexec hb hown (hK.2.use hlk rfl) hi hst2 hcf (hname.trans hyn) (by rw [q2]; exact h6) q1 q3 (by rw [hsl]; exact k2_hasslot (q4 k hk)) rfl rfl hdg fun H' e1 e2 e3 => ?_
  rw [hsl] at e1 ⊢
  exact kk H' _ ls (by rw [e2]; exact hsz) (wd_up hwd ⟨_, hc, t_OB.to (V := updV (vp_V fs) k v) ⟨_, e1, q2, q3, t_set q4 hap hk v⟩ (fun j _ => vp_updV_set hl v j)⟩ e3) (hS.put e2 e3 (hMA q (by rw [hM]; exact fun h => by cases h))) hlv (dom_up hMA (hMA q (by rw [hM]; exact fun h => by cases h)))
set_option maxHeartbeats 1000000 in
theorem g_new (hX : Ok X y cc nL fr lo mc ms) {ci N : Nat} {C : String} {Tt : u_T} {ty0 : Nat → FieldType} (hc : vwCl[ci]? = some (C, Tt, N)) (hF : Fld C Tt N ty0) {idx : Nat} (hcl : Cond.classLink y.cls idx C ∈ lw_tbl) (hinst : Cond.instantiable C N ∈ lw_tbl) (hini : Cond.initialized C ∈ lw_tbl) {fs : List Value} (hfs : ∀ j, j < N → defaultValue (ty0 j) = vp_V fs j) (hcells : a + 1 ≤ mc) (hslots : b + N ≤ ms) (hdg : decode cc pc = .ok (.new idx, 3))
    (kk : G X nL (va_up M sz (some (.inr (ci, fs)))) (sz + 1) (a + 1) (b + N) (pc + 3) L (.ref sz :: st)) : G X nL M sz a b pc L st := by
  obtain ⟨p, l, e, R, s, m, args, below, meth, c, Q, A, D, T⟩ := X
  obtain ⟨hexec, hb, hml, hown, hlocks, hname, hK, hR, hA, hst⟩ := hX
  intro H locs ls hsz hwd hS hlv hMA
  obtain ⟨hin, hty, hnm⟩ := hF
  have hKn := hK.1.1 ci _ hc
  subst hsz
  refine W.newcK hexec hb hown (hK.2.use hcl rfl) (hK.2.use hinst rfl) (hK.2.use hini rfl) rfl hdg (by rw [hR]; exact hcells) (by rw [hR]; exact hslots) hKn.2.1 rfl fun H1 kC hkC e1 z1 o1 => ?_
  have hAq : A H.size := hA _ hS.1
  exact kk H1 locs ls z1 (wd_new hwd ⟨_, hc, (u_born ty0 (hin.use (args := args) hK.2) (fun w h => h) hKn hkC e1 hty).to hfs⟩ o1) ⟨Nat.le_trans hS.1 (by omega), fun x h1 h2 => (o1 x (Nat.lt_of_lt_of_le h1 hS.1)).trans (hS.2.1 x h1 h2), hS.2.2⟩ hlv (dom_up hMA hAq)
set_option maxHeartbeats 1000000 in
theorem g_anew (hX : Ok X y cc nL fr lo mc ms) {idx : Nat} (hcl : Cond.classLink y.cls idx RX0 ∈ lw_tbl) (hov : Cond.arrayOver (.object RX0) ∈ lw_tbl) {n : Int32} {N : Nat} (hn : n = nI N) (hN : N < 1000) (hcells : a + 1 ≤ mc) (hslots : b + N ≤ ms) (hdg : decode cc pc = .ok (.anewarray idx, 3))
    (kk : G X nL (va_up M sz (some (eR (cxT X) N (fun _ => none)))) (sz + 1) (a + 1) (b + N) (pc + 3) L (.ref sz :: st)) : G X nL M sz a b pc L (.int n :: st) := by
  obtain ⟨p, l, e, R, s, m, args, below, meth, c, Q, A, D, T⟩ := X
  obtain ⟨hexec, hb, hml, hown, hlocks, hname, hK, hR, hA, hst⟩ := hX
  intro H locs ls hsz hwd hS hlv hMA
  subst hsz
  subst hn
  have hcl2 : (nI N).toNatClampNeg = N := nI_clamp (by omega)
  have hover : va_AO RX0 s := hK.2 _ hov rfl
  refine W.anew hexec hb hown (hK.2.use hcl rfl) (va_AO.use hover) rfl hdg rfl (nI_pos (by omega)) (by rw [hcl2]; omega) (by rw [hR]; exact hcells) (by rw [hR, hcl2]; exact hslots) fun cA kA comp f1 f2 f3 f4 => ?_
  rw [hcl2]
  generalize hH1 : H.push ({ cls := cA, slots := Array.replicate N .null, vm := .none } : Cell) = H1
  have z1 : H1.size = H.size + 1 := by rw [← hH1, Array.size_push]
  have e1 : H1[H.size]? = some (arrV cA N (fun _ => .null)) := by rw [← hH1, Array.getElem?_push_size, ← arrV_new]
  have o1 : ∀ q : Nat, q < H.size → H1[q]? = H[q]? := fun q hq => by rw [← hH1, Array.getElem?_push, if_neg (Nat.ne_of_lt hq)]
  have hcA : cA = T.2.1 := by
    obtain ⟨-, kA2, comp2, g1, g2, g3, g4⟩ := hK.1.2 1 _ rfl
    exact Option.some.inj (f1.symm.trans g4)
  have hAq : A H.size := hA _ hS.1
  subst hcA
  exact kk H1 locs ls z1 (wd_new hwd e1 o1) ⟨Nat.le_trans hS.1 (by omega), fun x h1 h2 => (o1 x (Nat.lt_of_lt_of_le h1 hS.1)).trans (hS.2.1 x h1 h2), hS.2.2⟩ hlv (dom_up hMA hAq)
end HeapRows
