section ArrRows
variable {X : Cx} {y : MethodName} {cc : ByteArray} {nL fr lo mc ms : Nat} {M : AH} {sz a b pc : Nat} {L : List (Nat × Value)} {st : List Value}
set_option maxHeartbeats 1000000 in
theorem g_iald (hX : Ok X y cc nL fr lo mc ms) {q n : Nat} {f : Nat → Int32} (hM : M q = some (eI (cxT X) n f)) {i : Int32} (j : Nat) (hi : i = nI j) (hj : j < n) (hn : n < 100000) (hdg : decode cc pc = .ok (.iaload, 1))
    (kk : G X nL M sz a b (pc + 1) L (.int (f j) :: st)) : G X nL M sz a b pc L (.int i :: .ref q :: st) := by
  obtain ⟨p, l, e, R, s, m, args, below, meth, c, Q, A, D, T⟩ := X
  obtain ⟨hexec, hb, hml, hown, hlocks, hname, hK, hR, hA, hst⟩ := hX
  intro H locs ls hsz hwd hS hl hMA
  subst hi
  refine va_iald (D := D) (cl := vwCl) (tys := tyG T) hexec hb hK.1 (va_P_one hwd hM) 0 0 rfl rfl (vp_in_nI hj (by omega)) hdg ?_
  rw [nI_clamp (by omega)]
  exact kk H locs ls hsz hwd hS hl hMA
set_option maxHeartbeats 1000000 in
theorem g_aald (hX : Ok X y cc nL fr lo mc ms) {q n : Nat} {f : Nat → Option Nat} (hM : M q = some (eR (cxT X) n f)) {i : Int32} (j : Nat) (hi : i = nI j) (hj : j < n) (hn : n < 100000) (hdg : decode cc pc = .ok (.aaload, 1))
    (kk : G X nL M sz a b (pc + 1) L (va_rf (f j) :: st)) : G X nL M sz a b pc L (.int i :: .ref q :: st) := by
  obtain ⟨p, l, e, R, s, m, args, below, meth, c, Q, A, D, T⟩ := X
  obtain ⟨hexec, hb, hml, hown, hlocks, hname, hK, hR, hA, hst⟩ := hX
  intro H locs ls hsz hwd hS hl hMA
  subst hi
  refine va_aldq (D := D) (cl := vwCl) (tys := tyG T) (C := RX0) hexec hb hK.1 (va_P_one hwd hM) 0 1 rfl rfl (vp_in_nI hj (by omega)) hdg ?_
  rw [nI_clamp (by omega)]
  exact kk H locs ls hsz hwd hS hl hMA
set_option maxHeartbeats 1000000 in
theorem g_lald (hX : Ok X y cc nL fr lo mc ms) {q n : Nat} {f : Nat → Int64} (hM : M q = some (eL (cxT X) n f)) {i : Int32} (j : Nat) (hi : i = nI j) (hj : j < n) (hn : n < 100000) (hdg : decode cc pc = .ok (.laload, 1))
    (kk : G X nL M sz a b (pc + 1) L (.long (f j) :: st)) : G X nL M sz a b pc L (.int i :: .ref q :: st) := by
  obtain ⟨p, l, e, R, s, m, args, below, meth, c, Q, A, D, T⟩ := X
  obtain ⟨hexec, hb, hml, hown, hlocks, hname, hK, hR, hA, hst⟩ := hX
  intro H locs ls hsz hwd hS hl hMA
  subst hi
  refine va_lald (D := D) (cl := vwCl) (tys := tyG T) hexec hb hK.1 (va_P_one hwd hM) 0 2 rfl rfl (vp_in_nI hj (by omega)) hdg ?_
  rw [nI_clamp (by omega)]
  exact kk H locs ls hsz hwd hS hl hMA
set_option maxHeartbeats 1000000 in
theorem g_alen (hX : Ok X y cc nL fr lo mc ms) {q n : Nat} {f : Nat → Option Nat} (hM : M q = some (eR (cxT X) n f)) (hdg : decode cc pc = .ok (.arraylength, 1))
    (kk : G X nL M sz a b (pc + 1) L (.int (nI n) :: st)) : G X nL M sz a b pc L (.ref q :: st) := by
  obtain ⟨p, l, e, R, s, m, args, below, meth, c, Q, A, D, T⟩ := X
  obtain ⟨hexec, hb, hml, hown, hlocks, hname, hK, hR, hA, hst⟩ := hX
  intro H locs ls hsz hwd hS hl hMA
  exact va_alen (D := D) (cl := vwCl) (tys := tyG T) hexec hb hK.1 (va_P_one hwd hM) 0 1 rfl (ty := .object RX0) rfl rfl hdg (kk H locs ls hsz hwd hS hl hMA)
set_option maxHeartbeats 1000000 in
theorem g_iast (hX : Ok X y cc nL fr lo mc ms) {q n : Nat} {f : Nat → Int32} (hM : M q = some (eI (cxT X) n f)) {i x : Int32} (j : Nat) (hi : i = nI j) (hj : j < n) (hn : n < 100000) (hdg : decode cc pc = .ok (.iastore, 1))
    (kk : G X nL (va_up M q (some (eI (cxT X) n (va_up f j x)))) sz a b (pc + 1) L st) : G X nL M sz a b pc L (.int x :: .int i :: .ref q :: st) := by
  obtain ⟨p, l, e, R, s, m, args, below, meth, c, Q, A, D, T⟩ := X
  obtain ⟨hexec, hb, hml, hown, hlocks, hname, hK, hR, hA, hst⟩ := hX
  intro H locs ls hsz hwd hS hl hMA
  subst hi
  have hAq := hMA q (by rw [hM]; exact fun h => by cases h)
  have hcl : (nI j).toNatClampNeg = j := nI_clamp (by omega)
  refine W.iast hexec hb (hwd q _ hM) ((hK.1.2 0 _ rfl).1 n (fun j => .int (f j))) (fun q => by cases q) (by show ¬ (nI j < 0 ∨ (arrV _ _ _).slots.size ≤ _); rw [arrV_size]; exact vp_in_nI hj (show n < 2 ^ 31 by omega)) rfl rfl hdg fun H1 e z oq => ?_
  refine kk H1 _ ls (by rw [z]; exact hsz) (wd_up hwd ?_ oq) (hS.put z oq hAq) hl (dom_up hMA hAq)
  show H1[q]? = some (vp_cell _ _)
  rw [e, vp_cell_i, vp_cell_i, arrV_store, hcl]
  congr 2
  funext k
  by_cases hk : k = j
  · subst hk
    simp [updV, va_up]
  · simp [updV, va_up, hk]
set_option maxHeartbeats 1000000 in
theorem g_last (hX : Ok X y cc nL fr lo mc ms) {q n : Nat} {f : Nat → Int64} (hM : M q = some (eL (cxT X) n f)) {i : Int32} {x : Int64} (j : Nat) (hi : i = nI j) (hj : j < n) (hn : n < 100000) (hdg : decode cc pc = .ok (.lastore, 1))
    (kk : G X nL (va_up M q (some (eL (cxT X) n (va_up f j x)))) sz a b (pc + 1) L st) : G X nL M sz a b pc L (.long x :: .int i :: .ref q :: st) := by
  obtain ⟨p, l, e, R, s, m, args, below, meth, c, Q, A, D, T⟩ := X
  obtain ⟨hexec, hb, hml, hown, hlocks, hname, hK, hR, hA, hst⟩ := hX
  intro H locs ls hsz hwd hS hl hMA
  subst hi
  have hAq := hMA q (by rw [hM]; exact fun h => by cases h)
  have hcl : (nI j).toNatClampNeg = j := nI_clamp (by omega)
  refine W.last hexec hb (hwd q _ hM) ((hK.1.2 2 _ rfl).1 n (fun j => .long (f j))) (fun q => by cases q) (by show ¬ (nI j < 0 ∨ (arrV _ _ _).slots.size ≤ _); rw [arrV_size]; exact vp_in_nI hj (show n < 2 ^ 31 by omega)) rfl rfl hdg fun H1 e z oq => ?_
  refine kk H1 _ ls (by rw [z]; exact hsz) (wd_up hwd ?_ oq) (hS.put z oq hAq) hl (dom_up hMA hAq)
  show H1[q]? = some (vp_cell _ _)
  rw [e, vp_cell_l, vp_cell_l, arrV_store, hcl]
  congr 2
  funext k
  by_cases hk : k = j
  · subst hk
    simp [updV, va_up]
  · simp [updV, va_up, hk]
set_option maxHeartbeats 1000000 in
theorem g_aast (hX : Ok X y cc nL fr lo mc ms) {q n v : Nat} {f : Nat → Option Nat} (hM : M q = some (eR (cxT X) n f)) {fs : List Value} (hv : M v = some (.inr (0, fs))) {i : Int32} (j : Nat) (hi : i = nI j) (hj : j < n) (hn : n < 100000) (hdg : decode cc pc = .ok (.aastore, 1))
    (kk : G X nL (va_up M q (some (eR (cxT X) n (va_up f j (some v))))) sz a b (pc + 1) L st) : G X nL M sz a b pc L (.ref v :: .int i :: .ref q :: st) := by
  obtain ⟨p, l, e, R, s, m, args, below, meth, c, Q, A, D, T⟩ := X
  obtain ⟨hexec, hb, hml, hown, hlocks, hname, hK, hR, hA, hst⟩ := hX
  intro H locs ls hsz hwd hS hl hMA
  subst hi
  have hAq := hMA q (by rw [hM]; exact fun h => by cases h)
  have hcl : (nI j).toNatClampNeg = j := nI_clamp (by omega)
  obtain ⟨r', hr', cellV, g1, g2, g3, -⟩ := hwd v _ hv
  have hcls := (hK.1.1 0 _ rfl).2
  obtain ⟨kA, comp, k1, k2, k3, -⟩ := (hK.1.2 1 _ rfl).2
  have hcomp : comp = D.1 0 := Option.some.inj (k3.symm.trans hcls.1)
  subst hcomp
  obtain ⟨kC, hkC, -⟩ := id hcls.2
  refine W.aast hexec hb (hwd q _ hM) (fun q h => by cases h) (fun h => by cases h) k1 k2 rfl hkC ⟨nI_pos (by omega), by show _ < (arrV _ _ _).slots.size; rw [arrV_size, hcl]; exact hj⟩ g1 (fun q h => by rw [g3] at h; cases h) (by rw [g2]; exact hkC) (by rw [g2]; exact va_assign hcls) rfl rfl hdg fun H1 e z oq => ?_
  refine kk H1 _ ls (by rw [z]; exact hsz) (wd_up hwd ?_ oq) (hS.put z oq hAq) hl (dom_up hMA hAq)
  show H1[q]? = some (vp_cell _ _)
  rw [e, vp_cell_q, vp_cell_q, arrV_store, hcl]
  congr 2
  funext k
  by_cases hk : k = j
  · subst hk
    simp [updV, va_up, va_rf]
  · simp [updV, va_up, hk]
set_option maxHeartbeats 1000000 in
theorem g_aastN (hX : Ok X y cc nL fr lo mc ms) {q n : Nat} {f : Nat → Option Nat} (hM : M q = some (eR (cxT X) n f)) {i : Int32} (j : Nat) (hi : i = nI j) (hj : j < n) (hn : n < 100000) (hdg : decode cc pc = .ok (.aastore, 1))
    (kk : G X nL (va_up M q (some (eR (cxT X) n (va_up f j none)))) sz a b (pc + 1) L st) : G X nL M sz a b pc L (.null :: .int i :: .ref q :: st) := by
  obtain ⟨p, l, e, R, s, m, args, below, meth, c, Q, A, D, T⟩ := X
  obtain ⟨hexec, hb, hml, hown, hlocks, hname, hK, hR, hA, hst⟩ := hX
  intro H locs ls hsz hwd hS hl hMA
  subst hi
  have hAq := hMA q (by rw [hM]; exact fun h => by cases h)
  have hcl : (nI j).toNatClampNeg = j := nI_clamp (by omega)
  refine va_WaastN (C := RX0) hexec hb (hwd q _ hM) ((hK.1.2 1 _ rfl).1 n (fun j => va_rf (f j))) (fun h => by cases h) (by show ¬ (nI j < 0 ∨ (arrV _ _ _).slots.size ≤ _); rw [arrV_size]; exact vp_in_nI hj (show n < 2 ^ 31 by omega)) rfl rfl hdg fun H1 e z oq => ?_
  refine kk H1 _ ls (by rw [z]; exact hsz) (wd_up hwd ?_ oq) (hS.put z oq hAq) hl (dom_up hMA hAq)
  show H1[q]? = some (vp_cell _ _)
  rw [e, vp_cell_q, vp_cell_q, arrV_store, hcl]
  congr 2
  funext k
  by_cases hk : k = j
  · subst hk
    simp [updV, va_up, va_rf]
  · simp [updV, va_up, hk]
theorem g_aastQ (hX : Ok X y cc nL fr lo mc ms) {q n : Nat} {r : Option Nat} {f : Nat → Option Nat} (hM : M q = some (eR (cxT X) n f)) (hv : ∀ v, r = some v → ∃ fs, M v = some (.inr (0, fs))) {i : Int32} (j : Nat) (hi : i = nI j) (hj : j < n) (hn : n < 100000) (hdg : decode cc pc = .ok (.aastore, 1))
    (kk : G X nL (va_up M q (some (eR (cxT X) n (va_up f j r)))) sz a b (pc + 1) L st) : G X nL M sz a b pc L (va_rf r :: .int i :: .ref q :: st) := by
  cases r with
  | none => exact g_aastN hX hM j hi hj hn hdg kk
  | some v =>
    obtain ⟨fs, h⟩ := hv v rfl
    exact g_aast hX hM h j hi hj hn hdg kk
set_option maxHeartbeats 1000000 in
theorem g_newI (hX : Ok X y cc nL fr lo mc ms) (harr : Cond.arrayClass .int ∈ lw_tbl) {n : Int32} (N : Nat) (hn : n = nI N) (hN : N < 100000) (hcells : a + 1 ≤ mc) (hslots : b + N ≤ ms) (hdg : decode cc pc = .ok (.newarray .int, 2))
    (kk : G X nL (va_up M sz (some (eI (cxT X) N (fun _ => 0)))) (sz + 1) (a + 1) (b + N) (pc + 2) L (.ref sz :: st)) : G X nL M sz a b pc L (.int n :: st) := by
  obtain ⟨p, l, e, R, s, m, args, below, meth, c, Q, A, D, T⟩ := X
  obtain ⟨hexec, hb, hml, hown, hlocks, hname, hK, hR, hA, hst⟩ := hX
  intro H locs ls hsz hwd hS hlv hMA
  subst hsz
  subst hn
  refine va_newaK (atype := .int) hexec hb (hK.2.use harr rfl) rfl hdg rfl (nI_pos (by omega)) (nI_clamp (n := N) (by omega)) (by show N * 4 ≤ _; omega) (by rw [hR]; exact hcells) (by rw [hR]; exact hslots) rfl fun H1 cA e1 z1 o1 hAr hNm => ?_
  have hcA : cA = T.1 := by
    have g := (hK.1.2 0 _ rfl).2
    exact Option.some.inj (hNm.symm.trans g)
  subst hcA
  exact kk H1 locs ls z1 (wd_new hwd e1 o1) ⟨Nat.le_trans hS.1 (by omega), fun x h1 h2 => (o1 x (Nat.lt_of_lt_of_le h1 hS.1)).trans (hS.2.1 x h1 h2), hS.2.2⟩ hlv (dom_up hMA (hA _ hS.1))
set_option maxHeartbeats 1000000 in
theorem g_newL (hX : Ok X y cc nL fr lo mc ms) (harr : Cond.arrayClass .long ∈ lw_tbl) {n : Int32} (N : Nat) (hn : n = nI N) (hN : N < 100000) (hcells : a + 1 ≤ mc) (hslots : b + N ≤ ms) (hdg : decode cc pc = .ok (.newarray .long, 2))
    (kk : G X nL (va_up M sz (some (eL (cxT X) N (fun _ => 0)))) (sz + 1) (a + 1) (b + N) (pc + 2) L (.ref sz :: st)) : G X nL M sz a b pc L (.int n :: st) := by
  obtain ⟨p, l, e, R, s, m, args, below, meth, c, Q, A, D, T⟩ := X
  obtain ⟨hexec, hb, hml, hown, hlocks, hname, hK, hR, hA, hst⟩ := hX
  intro H locs ls hsz hwd hS hlv hMA
  subst hsz
  subst hn
  refine va_newaK (atype := .long) hexec hb (hK.2.use harr rfl) rfl hdg rfl (nI_pos (by omega)) (nI_clamp (n := N) (by omega)) (by show N * 8 ≤ _; omega) (by rw [hR]; exact hcells) (by rw [hR]; exact hslots) rfl fun H1 cA e1 z1 o1 hAr hNm => ?_
  have hcA : cA = T.2.2 := by
    have g := (hK.1.2 2 _ rfl).2
    exact Option.some.inj (hNm.symm.trans g)
  subst hcA
  exact kk H1 locs ls z1 (wd_new hwd e1 o1) ⟨Nat.le_trans hS.1 (by omega), fun x h1 h2 => (o1 x (Nat.lt_of_lt_of_le h1 hS.1)).trans (hS.2.1 x h1 h2), hS.2.2⟩ hlv (dom_up hMA (hA _ hS.1))
end ArrRows
