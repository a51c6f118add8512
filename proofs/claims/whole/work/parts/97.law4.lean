/-! each call of the law, from its state to its state -/
theorem Ct.rq {l : Launch} {T : CT3} {D : va_G} {y : MethodName} {cc : ByteArray} {nL : Nat} {ret : Option FieldType} {fr lo mc ms : Nat} {as : List Value} {M N : AH} {o z : Nat} {P : PS} {F : FS} {S : RS} {φ al : Nat → Nat} {L : Nat → Prop} {h : Nat} {c ans : Int32} (hI : Inv P F S φ al L h) (hc : Ct l T D y cc nL ret fr lo mc ms as M z (fun v M' z' => v = some (.int c) ∧ (∃ S', M' = ovR T N o S' ∧ SE S S' ∧ rC S' 0 = 0) ∧ z = z')) (e : c = ans) : Ct l T D y cc nL ret fr lo mc ms as M z (fun v M' z' => v = some (.int ans) ∧ (∃ S', M' = ovR T N o S' ∧ (∃ φ' al' L' h', Inv P F S' φ' al' L' h') ∧ rC S' 0 = 0) ∧ z = z') := by
  subst e
  refine hc.po (fun v M' z' h => ?_)
  obtain ⟨h1, ⟨S', h2, h3, h4⟩, h5⟩ := h
  exact ⟨h1, ⟨S', h2, ⟨_, _, _, _, hI.se h3⟩, h4⟩, h5⟩
theorem rect_r (P : PS) (S : RS) (sz : Nat) (n : Int32) (x1 y1 x2 y2 : Int32) : ∀ j, j < 4 → pB (nwP P sz n 0 (bx4 x1 y1 x2 y2) 0) sz j = rR (tkR (uC S 0 0) x1 y1 x2 y2) j := by
  intro j hj
  rw [show pB (nwP P sz n 0 (bx4 x1 y1 x2 y2) 0) sz = bx4 x1 y1 x2 y2 from va_up_self _ _ _]
  rcases i4 hj with rfl | rfl | rfl | rfl <;> rfl
theorem isA_inv {S : RS} {n : Int32} (h : isA S n = true) (hc : rC S 1 ≤ 60) : ∃ a, a < rC S 1 ∧ n = nI a := by
  unfold isA at h
  simp only [Bool.and_eq_true, decide_eq_true_eq] at h
  obtain ⟨h1, h2⟩ := h
  have h3 : n ≤ 99 := by
    refine Int32.le_of_lt (Int32.lt_of_lt_of_le h2 ?_)
    exact (nI_leI (a := rC S 1) (b := 99) (by omega) (by omega)).mpr (by omega)
  obtain ⟨a, ha, rfl⟩ := i32_nat h1 h3
  exact ⟨a, (nI_ltI (by omega) (by omega)).mp h2, rfl⟩
theorem Inv.alN {P : PS} {F : FS} {S : RS} {φ al : Nat → Nat} {L : Nat → Prop} {h : Nat} (i : Inv P F S φ al L h) {n : Int32} (hA : isA S n = false) : alI F n = none := by
  unfold alI
  unfold isA at hA
  rw [i.2.2.1.1]
  by_cases h1 : n < 0
  · rw [if_pos h1]
  · rw [if_neg h1]
    rw [decide_eq_true (Int32.not_lt.mp h1), Bool.true_and] at hA
    rw [if_pos (Int32.not_lt.mp (of_decide_eq_false hA))]
theorem isQ_inv {w : Int32} (h : isQ w = true) : ∃ n, n ≤ 8 ∧ w = nI n := by
  unfold isQ at h
  simp only [Bool.and_eq_true, decide_eq_true_eq] at h
  obtain ⟨n, hn, rfl⟩ := i32_nat h.1 (Int32.le_trans h.2 (by decide))
  exact ⟨n, (nI_leI (a := n) (b := 8) (by omega) (by omega)).mp h.2, rfl⟩
theorem isQ_f {w : Int32} (h : isQ w = false) : ¬ (0 ≤ w ∧ w ≤ 8) := by
  rintro ⟨h1, h2⟩
  unfold isQ at h
  rw [decide_eq_true h1, decide_eq_true h2] at h
  exact absurd h (by decide)
theorem nn_inv {y : Int32} (h : 0 ≤ y) : ∃ n, n < 2147483648 ∧ y = nI n := by
  have a1 := Int32.le_iff_toInt_le.mp h
  rw [show (0 : Int32).toInt = 0 by decide] at a1
  have a2 := Int32.toInt_lt y
  refine ⟨y.toInt.toNat, by omega, ?_⟩
  apply Int32.toInt_inj.mp
  show y.toInt = (Int32.ofNat y.toInt.toNat).toInt
  rw [Int32.toInt_ofNat_of_lt (by omega)]
  omega
/-- a way where there is one -/
theorem Inv.wayO {P : PS} {F : FS} {S : RS} {φ al : Nat → Nat} {L : Nat → Prop} {h : Nat} (i : Inv P F S φ al L h) {a : Nat} (ha : a < rC S 1) : ∃ fr ps, (rD S a = 1 → Way S L (rC S 4) h fr ps h ∧ ps h < rM S (fr h) ∧ rk S (fr h) (ps h) = a) ∧ (rD S a = 1 → Pth S h a fr ps ∧ fr 0 = rC S 4) := by
  by_cases hd : rD S a = 1
  · obtain ⟨fr, ps, h1, h2, h3, h4⟩ := i.way ha hd
    exact ⟨fr, ps, fun _ => ⟨h1, h2, h3⟩, fun _ => h4⟩
  · exact ⟨fun _ => 0, fun _ => 0, fun h => absurd h hd, fun h => absurd h hd⟩
set_option maxHeartbeats 1000000 in
theorem st_overlaps {X : Cx} {nm : String} (hX : Ok X (yLn nm) cL_law 9 2048 84000 630684 7204052) (hT : ThL X) {bs n : Nat} {xs : Nat → Int32} (hS : ScX X bs n xs) (hn : n ≤ 2560) {i : Nat} (hi : i + 4 < n) {x sz a b : Nat} {P : PS} {F : FS} {S : RS} {φ al : Nat → Nat} {L : Nat → Prop} {h : Nat} {f : Nat → Int64} (hg : Gm x P F sz) (hI : Inv P F S φ al L h) (ra : a + 60 ≤ 630684) (rb : b + 400 ≤ 7204052) (kk : ∀ M' z' a' b', LW (cxT X) x M' z' → a' ≤ a + 60 → b' ≤ b + 400 → G X 9 M' z' a' b' 931 [(0, .ref bs), (1, .ref x), (2, .ref (x + 4)), (3, .ref (x + 13)), (4, .int (nI i))] []) : G X 9 (Wd (cxT X) x P F S f) sz a b 384 [(0, .ref bs), (1, .ref x), (2, .ref (x + 4)), (3, .ref (x + 13)), (4, .int (nI i))] [] := by
  have ex := hg.1
  subst ex
  have hw := hg.2.1
  have hal := hI.alok
  have hh := hI.2.2.2.1.h
  have hc60 := hI.c60
  have hd1 := hI.d1
  by_cases hr : isR (xs (i + 1)) (xs (i + 2)) (xs (i + 3)) (xs (i + 4)) = true
  · have hI1 := hI.agr (Agr.nw hg.pn (-1) 0 (bx4 (xs (i + 1)) (xs (i + 2)) (xs (i + 3)) (xs (i + 4))) 0)
    have hI2 := hI1.se (SE.tk0 S (xs (i + 1)) (xs (i + 2)) (xs (i + 3)) (xs (i + 4)))
    have hRR := rect_r P S sz (-1) (xs (i + 1)) (xs (i + 2)) (xs (i + 3)) (xs (i + 4))
    have hV : VB (rR (tkR (uC S 0 0) (xs (i + 1)) (xs (i + 2)) (xs (i + 3)) (xs (i + 4)))) := isR_nat hr
    refine stV_overlaps hX hT hS hn hi hg (hg.nw (-1) 0 (bx4 (xs (i + 1)) (xs (i + 2)) (xs (i + 3)) (xs (i + 4))) 0) ra rb (ct_overlaps hX.st sz hw hal (xs (i + 1)) (xs (i + 2)) (xs (i + 3)) (xs (i + 4)) hr) ⟨by omega, by omega, by omega, by omega⟩ (fun N => (cr_overlaps hX.st _ hc60 hd1 (xs (i + 1)) (xs (i + 2)) (xs (i + 3)) (xs (i + 4)) hr).rq hI1 (hI2.overlapsV hRR).symm) ⟨by omega, by omega⟩ kk
  · have hr : isR (xs (i + 1)) (xs (i + 2)) (xs (i + 3)) (xs (i + 4)) = false := by simpa using hr
    exact stN_overlaps hX hT hS hn hi hg hI ra rb 1 (Or.inl rfl) (lh_overlaps_no hX.st sz hw (xs (i + 1)) (xs (i + 2)) (xs (i + 3)) (xs (i + 4)) hr).n (fun N z => cr_overlaps_no hX.st z (xs (i + 1)) (xs (i + 2)) (xs (i + 3)) (xs (i + 4)) hr) kk
set_option maxHeartbeats 1000000 in
theorem st_looks {X : Cx} {nm : String} (hX : Ok X (yLn nm) cL_law 9 2048 84000 630684 7204052) (hT : ThL X) {bs n : Nat} {xs : Nat → Int32} (hS : ScX X bs n xs) (hn : n ≤ 2560) {i : Nat} (hi : i + 4 < n) {x sz a b : Nat} {P : PS} {F : FS} {S : RS} {φ al : Nat → Nat} {L : Nat → Prop} {h : Nat} {f : Nat → Int64} (hg : Gm x P F sz) (hI : Inv P F S φ al L h) (ra : a + 60 ≤ 630684) (rb : b + 400 ≤ 7204052) (kk : ∀ M' z' a' b', LW (cxT X) x M' z' → a' ≤ a + 60 → b' ≤ b + 400 → G X 9 M' z' a' b' 931 [(0, .ref bs), (1, .ref x), (2, .ref (x + 4)), (3, .ref (x + 13)), (4, .int (nI i))] []) : G X 9 (Wd (cxT X) x P F S f) sz a b 476 [(0, .ref bs), (1, .ref x), (2, .ref (x + 4)), (3, .ref (x + 13)), (4, .int (nI i))] [] := by
  have ex := hg.1
  subst ex
  have hw := hg.2.1
  have hal := hI.alok
  have hh := hI.2.2.2.1.h
  have hc60 := hI.c60
  have hd1 := hI.d1
  by_cases hr : isR (xs (i + 1)) (xs (i + 2)) (xs (i + 3)) (xs (i + 4)) = true
  · have hI1 := hI.agr (Agr.nw hg.pn (-1) 0 (bx4 (xs (i + 1)) (xs (i + 2)) (xs (i + 3)) (xs (i + 4))) 0)
    have hI2 := hI1.se (SE.tk0 S (xs (i + 1)) (xs (i + 2)) (xs (i + 3)) (xs (i + 4)))
    have hRR := rect_r P S sz (-1) (xs (i + 1)) (xs (i + 2)) (xs (i + 3)) (xs (i + 4))
    have hV : VB (rR (tkR (uC S 0 0) (xs (i + 1)) (xs (i + 2)) (xs (i + 3)) (xs (i + 4)))) := isR_nat hr
    refine stV_looks hX hT hS hn hi hg (hg.nw (-1) 0 (bx4 (xs (i + 1)) (xs (i + 2)) (xs (i + 3)) (xs (i + 4))) 0) ra rb (ct_looks hX.st sz hw hal (xs (i + 1)) (xs (i + 2)) (xs (i + 3)) (xs (i + 4)) hr hI1.trP (by omega)) ⟨by omega, by omega, by omega, by omega⟩ (fun N => (cr_looks hX.st _ hI.trR (by omega) (xs (i + 1)) (xs (i + 2)) (xs (i + 3)) (xs (i + 4)) hr).rq hI1 ?_) ⟨by omega, by omega⟩ kk
    have e := hI2.lk hRR h (rC S 4) hI.2.1.1 hI.2.1.2.2.1
    rw [← hI.2.2.1.2.2.1] at e
    exact e.symm
  · have hr : isR (xs (i + 1)) (xs (i + 2)) (xs (i + 3)) (xs (i + 4)) = false := by simpa using hr
    exact stN_looks hX hT hS hn hi hg hI ra rb 1 (Or.inl rfl) (lh_looks_no hX.st sz hw (xs (i + 1)) (xs (i + 2)) (xs (i + 3)) (xs (i + 4)) hr).n (fun N z => cr_looks_no hX.st z (xs (i + 1)) (xs (i + 2)) (xs (i + 3)) (xs (i + 4)) hr) kk
set_option maxHeartbeats 1000000 in
theorem st_grows {X : Cx} {nm : String} (hX : Ok X (yLn nm) cL_law 9 2048 84000 630684 7204052) (hT : ThL X) {bs n : Nat} {xs : Nat → Int32} (hS : ScX X bs n xs) (hn : n ≤ 2560) {i : Nat} (hi : i + 4 < n) {x sz a b : Nat} {P : PS} {F : FS} {S : RS} {φ al : Nat → Nat} {L : Nat → Prop} {h : Nat} {f : Nat → Int64} (hg : Gm x P F sz) (hI : Inv P F S φ al L h) (ra : a + 60 ≤ 630684) (rb : b + 400 ≤ 7204052) (kk : ∀ M' z' a' b', LW (cxT X) x M' z' → a' ≤ a + 60 → b' ≤ b + 400 → G X 9 M' z' a' b' 931 [(0, .ref bs), (1, .ref x), (2, .ref (x + 4)), (3, .ref (x + 13)), (4, .int (nI i))] []) : G X 9 (Wd (cxT X) x P F S f) sz a b 692 [(0, .ref bs), (1, .ref x), (2, .ref (x + 4)), (3, .ref (x + 13)), (4, .int (nI i))] [] := by
  have ex := hg.1
  subst ex
  have hw := hg.2.1
  have hal := hI.alok
  have hh := hI.2.2.2.1.h
  have hc60 := hI.c60
  have hd1 := hI.d1
  by_cases hr : isR (xs (i + 1)) (xs (i + 2)) (xs (i + 3)) (xs (i + 4)) = true
  · have hI1 := hI.agr (Agr.nw hg.pn (-1) 0 (bx4 (xs (i + 1)) (xs (i + 2)) (xs (i + 3)) (xs (i + 4))) 0)
    have hI2 := hI1.se (SE.tk0 S (xs (i + 1)) (xs (i + 2)) (xs (i + 3)) (xs (i + 4)))
    have hRR := rect_r P S sz (-1) (xs (i + 1)) (xs (i + 2)) (xs (i + 3)) (xs (i + 4))
    have hV : VB (rR (tkR (uC S 0 0) (xs (i + 1)) (xs (i + 2)) (xs (i + 3)) (xs (i + 4)))) := isR_nat hr
    obtain ⟨g1, g2⟩ := hI2.growsV hRR hV
    refine stV_grows hX hT hS hn hi hg (hg.nw (-1) 0 (bx4 (xs (i + 1)) (xs (i + 2)) (xs (i + 3)) (xs (i + 4))) 0) ra rb (ct_grows hX.st sz hw hal (xs (i + 1)) (xs (i + 2)) (xs (i + 3)) (xs (i + 4)) hr hI1.trP (by omega) g1) ⟨by omega, by omega, by omega, by omega⟩ (fun N => (cr_grows hX.st _ hI.trR (by omega) (xs (i + 1)) (xs (i + 2)) (xs (i + 3)) (xs (i + 4)) hr).rq hI1 g2.symm) ⟨by omega, by omega⟩ kk
  · have hr : isR (xs (i + 1)) (xs (i + 2)) (xs (i + 3)) (xs (i + 4)) = false := by simpa using hr
    exact stN_grows hX hT hS hn hi hg hI ra rb 1 (Or.inl rfl) (lh_grows_no hX.st sz hw (xs (i + 1)) (xs (i + 2)) (xs (i + 3)) (xs (i + 4)) hr).n (fun N z => cr_grows_no hX.st z (xs (i + 1)) (xs (i + 2)) (xs (i + 3)) (xs (i + 4)) hr) kk
set_option maxHeartbeats 1000000 in
theorem st_splits {X : Cx} {nm : String} (hX : Ok X (yLn nm) cL_law 9 2048 84000 630684 7204052) (hT : ThL X) {bs n : Nat} {xs : Nat → Int32} (hS : ScX X bs n xs) (hn : n ≤ 2560) {i : Nat} (hi : i + 4 < n) {x sz a b : Nat} {P : PS} {F : FS} {S : RS} {φ al : Nat → Nat} {L : Nat → Prop} {h : Nat} {f : Nat → Int64} (hg : Gm x P F sz) (hI : Inv P F S φ al L h) (ra : a + 60 ≤ 630684) (rb : b + 400 ≤ 7204052) (kk : ∀ M' z' a' b', LW (cxT X) x M' z' → a' ≤ a + 60 → b' ≤ b + 400 → G X 9 M' z' a' b' 931 [(0, .ref bs), (1, .ref x), (2, .ref (x + 4)), (3, .ref (x + 13)), (4, .int (nI i))] []) : G X 9 (Wd (cxT X) x P F S f) sz a b 784 [(0, .ref bs), (1, .ref x), (2, .ref (x + 4)), (3, .ref (x + 13)), (4, .int (nI i))] [] := by
  have ex := hg.1
  subst ex
  have hw := hg.2.1
  have hal := hI.alok
  have hh := hI.2.2.2.1.h
  have hc60 := hI.c60
  have hd1 := hI.d1
  by_cases hr : isR (xs (i + 1)) (xs (i + 2)) (xs (i + 3)) (xs (i + 4)) = true
  · have hI1 := hI.agr (Agr.nw hg.pn (-1) 0 (bx4 (xs (i + 1)) (xs (i + 2)) (xs (i + 3)) (xs (i + 4))) 0)
    have hI2 := hI1.se (SE.tk0 S (xs (i + 1)) (xs (i + 2)) (xs (i + 3)) (xs (i + 4)))
    have hRR := rect_r P S sz (-1) (xs (i + 1)) (xs (i + 2)) (xs (i + 3)) (xs (i + 4))
    have hV : VB (rR (tkR (uC S 0 0) (xs (i + 1)) (xs (i + 2)) (xs (i + 3)) (xs (i + 4)))) := isR_nat hr
    have hup : UpI (fun f => pD (rcP P sz (xs (i + 1)) (xs (i + 2)) (xs (i + 3)) (xs (i + 4))) f = true ∧ pS (rcP P sz (xs (i + 1)) (xs (i + 2)) (xs (i + 3)) (xs (i + 4))) f < 1000) (pH (rcP P sz (xs (i + 1)) (xs (i + 2)) (xs (i + 3)) (xs (i + 4)))) (h + 1) (some (ffP (rcP P sz (xs (i + 1)) (xs (i + 2)) (xs (i + 3)) (xs (i + 4))) sz h (fT F))) := by
      have hw := hI2.go
      obtain ⟨c0, c1⟩ := hI2.chain hw
      rw [hI2.ff hRR hV]
      exact upI_all (q := fun j => φ (pthR (tkR (uC S 0 0) (xs (i + 1)) (xs (i + 2)) (xs (i + 3)) (xs (i + 4))) h (rC (tkR (uC S 0 0) (xs (i + 1)) (xs (i + 2)) (xs (i + 3)) (xs (i + 4))) 4) j)) c0 h c1 (fun j hj => by
        have h1 := hI2.1.lv (hw.2.1 j hj).1
        exact ⟨h1.1, by rw [h1.2.2.2.1]; have := h1.2.2.2.2.1; omega⟩)
    refine stV_splits hX hT hS hn hi hg (hg.nw (-1) 0 (bx4 (xs (i + 1)) (xs (i + 2)) (xs (i + 3)) (xs (i + 4))) 0) ra rb (ct_splits hX.st sz hw hal (xs (i + 1)) (xs (i + 2)) (xs (i + 3)) (xs (i + 4)) hr hI1.trP (by omega) hup) ⟨by omega, by omega, by omega, by omega⟩ (fun N => (cr_splits hX.st _ hI.trR (by omega) (xs (i + 1)) (xs (i + 2)) (xs (i + 3)) (xs (i + 4)) hr).po (fun v M' z' h => ?_)) ⟨by omega, by omega⟩ kk
    obtain ⟨⟨j, h1, h2, h3, h4⟩, ⟨S', h5, h6, h7⟩, h8⟩ := h
    have e := (hI2.splitsV hRR hV h2 h3 h4).2
    exact ⟨by rw [h1, e], ⟨S', h5, ⟨_, _, _, _, hI1.se h6⟩, h7⟩, h8⟩
  · have hr : isR (xs (i + 1)) (xs (i + 2)) (xs (i + 3)) (xs (i + 4)) = false := by simpa using hr
    exact stN_splits hX hT hS hn hi hg hI ra rb 1 (Or.inl rfl) (lh_splits_no hX.st sz hw (xs (i + 1)) (xs (i + 2)) (xs (i + 3)) (xs (i + 4)) hr).n (fun N z => cr_splits_no hX.st z (xs (i + 1)) (xs (i + 2)) (xs (i + 3)) (xs (i + 4)) hr) kk
set_option maxHeartbeats 1000000 in
theorem st_nearest {X : Cx} {nm : String} (hX : Ok X (yLn nm) cL_law 9 2048 84000 630684 7204052) (hT : ThL X) {bs n : Nat} {xs : Nat → Int32} (hS : ScX X bs n xs) (hn : n ≤ 2560) {i : Nat} (hi : i + 4 < n) {x sz a b : Nat} {P : PS} {F : FS} {S : RS} {φ al : Nat → Nat} {L : Nat → Prop} {h : Nat} {f : Nat → Int64} (hg : Gm x P F sz) (hI : Inv P F S φ al L h) (ra : a + 60 ≤ 630684) (rb : b + 400 ≤ 7204052) (kk : ∀ M' z' a' b', LW (cxT X) x M' z' → a' ≤ a + 60 → b' ≤ b + 400 → G X 9 M' z' a' b' 931 [(0, .ref bs), (1, .ref x), (2, .ref (x + 4)), (3, .ref (x + 13)), (4, .int (nI i))] []) : G X 9 (Wd (cxT X) x P F S f) sz a b 568 [(0, .ref bs), (1, .ref x), (2, .ref (x + 4)), (3, .ref (x + 13)), (4, .int (nI i))] [] := by
  have ex := hg.1
  subst ex
  have hw := hg.2.1
  have hal := hI.alok
  have hh := hI.2.2.2.1.h
  have hc60 := hI.c60
  have hd1 := hI.d1
  by_cases hr : isR (xs (i + 1)) (xs (i + 2)) (xs (i + 1)) (xs (i + 2)) = true
  · exact stV_nearest hX hT hS hn hi hg hg ra rb (ct_nearest hX.st sz hw hal (xs (i + 1)) (xs (i + 2)) hr) ⟨by omega, by omega, by omega, by omega⟩ (fun N => (cr_nearest hX.st _ hc60 hd1 (xs (i + 1)) (xs (i + 2)) hr).rq hI (hI.nearE hr).symm) ⟨by omega, by omega⟩ kk
  · have hr : isR (xs (i + 1)) (xs (i + 2)) (xs (i + 1)) (xs (i + 2)) = false := by simpa using hr
    exact stN_nearest hX hT hS hn hi hg hI ra rb 1 (Or.inl rfl) (lh_nearest_no hX.st sz hw (xs (i + 1)) (xs (i + 2)) hr).n (fun N z => cr_nearest_no hX.st z (xs (i + 1)) (xs (i + 2)) hr) kk
set_option maxHeartbeats 1000000 in
theorem st_count {X : Cx} {nm : String} (hX : Ok X (yLn nm) cL_law 9 2048 84000 630684 7204052) (hT : ThL X) {bs n : Nat} {xs : Nat → Int32} (hS : ScX X bs n xs) (hn : n ≤ 2560) {i : Nat} (hi : i + 4 < n) {x sz a b : Nat} {P : PS} {F : FS} {S : RS} {φ al : Nat → Nat} {L : Nat → Prop} {h : Nat} {f : Nat → Int64} (hg : Gm x P F sz) (hI : Inv P F S φ al L h) (ra : a + 60 ≤ 630684) (rb : b + 400 ≤ 7204052) (kk : ∀ M' z' a' b', LW (cxT X) x M' z' → a' ≤ a + 60 → b' ≤ b + 400 → G X 9 M' z' a' b' 931 [(0, .ref bs), (1, .ref x), (2, .ref (x + 4)), (3, .ref (x + 13)), (4, .int (nI i))] []) : G X 9 (Wd (cxT X) x P F S f) sz a b 636 [(0, .ref bs), (1, .ref x), (2, .ref (x + 4)), (3, .ref (x + 13)), (4, .int (nI i))] [] := by
  have ex := hg.1
  subst ex
  have hw := hg.2.1
  have hal := hI.alok
  have hh := hI.2.2.2.1.h
  have hc60 := hI.c60
  have hd1 := hI.d1
  by_cases hq : isQ (xs (i + 1)) = true
  · obtain ⟨w, hw8, ew⟩ := isQ_inv hq
    have c1 := ct_count hX.st (T := cxT X) (D := cxD X) (N := ovR (cxT X) (N2 (cxT X) (fO F + 13) f) (fO F + 4) S) sz hw hal hI.trP (by omega) hw8
    have c2 := fun N => (cr_count hX.st (T := cxT X) (D := cxD X) (N := N) (o := fO F + 4) sz hI.trR (by omega) hc60 hw8).rq hI (hI.countV w hw8).symm
    rw [← ew] at c1 c2
    exact stV_count hX hT hS hn hi hg hg ra rb c1 ⟨by omega, by omega, by omega, by omega⟩ c2 ⟨by omega, by omega⟩ kk
  · have hq : isQ (xs (i + 1)) = false := by simpa using hq
    exact stN_count hX hT hS hn hi hg hI ra rb 1 (Or.inl rfl) (lh_count_no hX.st sz hw (xs (i + 1)) hq).n (fun N z => cr_count_no hX.st z (isQ_f hq)) kk
set_option maxHeartbeats 1000000 in
theorem st_told {X : Cx} {nm : String} (hX : Ok X (yLn nm) cL_law 9 2048 84000 630684 7204052) (hT : ThL X) {bs n : Nat} {xs : Nat → Int32} (hS : ScX X bs n xs) (hn : n ≤ 2560) {i : Nat} (hi : i + 4 < n) {x sz a b : Nat} {P : PS} {F : FS} {S : RS} {φ al : Nat → Nat} {L : Nat → Prop} {h : Nat} {f : Nat → Int64} (hg : Gm x P F sz) (hI : Inv P F S φ al L h) (ra : a + 60 ≤ 630684) (rb : b + 400 ≤ 7204052) (kk : ∀ M' z' a' b', LW (cxT X) x M' z' → a' ≤ a + 60 → b' ≤ b + 400 → G X 9 M' z' a' b' 931 [(0, .ref bs), (1, .ref x), (2, .ref (x + 4)), (3, .ref (x + 13)), (4, .int (nI i))] []) : G X 9 (Wd (cxT X) x P F S f) sz a b 248 [(0, .ref bs), (1, .ref x), (2, .ref (x + 4)), (3, .ref (x + 13)), (4, .int (nI i))] [] := by
  have ex := hg.1
  subst ex
  have hw := hg.2.1
  have hal := hI.alok
  have hh := hI.2.2.2.1.h
  have hc60 := hI.c60
  have hd1 := hI.d1
  by_cases hA : isA S (xs (i + 1)) = true
  · obtain ⟨c, hcl, ec⟩ := isA_inv hA hc60
    have hal1 := hI.alE hcl
    by_cases hq : isQ (xs (i + 2)) = true
    · obtain ⟨w, hw8, ew⟩ := isQ_inv hq
      obtain ⟨fr, ps, hp1, hp2⟩ := hI.wayO hcl
      obtain ⟨t1, t2⟩ := hI.toldV hcl hp1 (pl := fun _ => ps h) rfl
      have c1 := ct_told hX.st (T := cxT X) (D := cxD X) (N := ovR (cxT X) (N2 (cxT X) (fO F + 13) f) (fO F + 4) S) sz hw hal (nI c) hal1 (fun _ => ps h) t1 hw8
      have c2 := fun N => (cr_told hX.st (T := cxT X) (D := cxD X) (N := N) (o := fO F + 4) sz hI.trR (by omega) hc60 hd1 hcl hp2 hw8).rq hI (t2 w hw8).symm
      rw [← ec, ← ew] at c1 c2
      exact stV_told hX hT hS hn hi hg hg ra rb c1 ⟨by omega, by omega, by omega, by omega⟩ c2 ⟨by omega, by omega⟩ kk
    · have hq : isQ (xs (i + 2)) = false := by simpa using hq
      exact stN_told hX hT hS hn hi hg hI ra rb 1 (Or.inl rfl) (lh_told_no2 hX.st sz hw hal (xs (i + 1)) (xs (i + 2)) (by rw [ec]; exact hal1) hq).n (fun N z => cr_told_no hX.st z (fun e => isQ_f hq e.2)) kk
  · have hA : isA S (xs (i + 1)) = false := by simpa using hA
    exact stN_told hX hT hS hn hi hg hI ra rb 1 (Or.inl rfl) (lh_told_no1 hX.st sz hw hal (xs (i + 1)) (xs (i + 2)) (hI.alN hA)).n (fun N z => cr_told_no hX.st z (fun e => by rw [hA] at e; exact absurd e.1 (by decide))) kk
set_option maxHeartbeats 1000000 in
theorem st_way {X : Cx} {nm : String} (hX : Ok X (yLn nm) cL_law 9 2048 84000 630684 7204052) (hT : ThL X) {bs n : Nat} {xs : Nat → Int32} (hS : ScX X bs n xs) (hn : n ≤ 2560) {i : Nat} (hi : i + 4 < n) {x sz a b : Nat} {P : PS} {F : FS} {S : RS} {φ al : Nat → Nat} {L : Nat → Prop} {h : Nat} {f : Nat → Int64} (hg : Gm x P F sz) (hI : Inv P F S φ al L h) (ra : a + 60 ≤ 630684) (rb : b + 400 ≤ 7204052) (kk : ∀ M' z' a' b', LW (cxT X) x M' z' → a' ≤ a + 60 → b' ≤ b + 400 → G X 9 M' z' a' b' 931 [(0, .ref bs), (1, .ref x), (2, .ref (x + 4)), (3, .ref (x + 13)), (4, .int (nI i))] []) : G X 9 (Wd (cxT X) x P F S f) sz a b 316 [(0, .ref bs), (1, .ref x), (2, .ref (x + 4)), (3, .ref (x + 13)), (4, .int (nI i))] [] := by
  have ex := hg.1
  subst ex
  have hw := hg.2.1
  have hal := hI.alok
  have hh := hI.2.2.2.1.h
  have hc60 := hI.c60
  have hd1 := hI.d1
  by_cases hA : isA S (xs (i + 1)) = true
  · obtain ⟨c, hcl, ec⟩ := isA_inv hA hc60
    have hal1 := hI.alE hcl
    by_cases hy : xs (i + 2) < 0
    · exact stN_way hX hT hS hn hi hg hI ra rb 1 (Or.inl rfl) (lh_way_no2 hX.st sz hw hal (xs (i + 1)) (xs (i + 2)) (by rw [ec]; exact hal1) hy).n (fun N z => cr_way_no hX.st z (fun e => absurd e.2 (Int32.not_le.mpr hy))) kk
    · obtain ⟨w, hw8, ew⟩ := nn_inv (Int32.not_lt.mp hy)
      obtain ⟨fr, ps, hp1, hp2⟩ := hI.wayO hcl
      have htd : pD P (fT F) = true := hI.trP.d
      have c2 := fun N => cr_way hX.st (T := cxT X) (D := cxD X) (N := N) (o := fO F + 4) sz hI.trR (by omega) hc60 hd1 hcl hp2 w hw8
      by_cases hwh : w < h
      · obtain ⟨w1, w2, w3, w4⟩ := hI.wayV hcl hp1 hwh
        have c1 := ct_way hX.st (T := cxT X) (D := cxD X) (N := ovR (cxT X) (N2 (cxT X) (fO F + 13) f) (fO F + 4) S) sz hw hal (nI c) hal1 htd hw8 w1 (by omega) (by omega) w2 (fun _ => ps w) w3
        have c2 := fun N => (c2 N).rq hI w4.symm
        rw [← ec, ← ew] at c1 c2
        exact stV_way hX hT hS hn hi hg hg ra rb c1 ⟨by omega, by omega, by omega, by omega⟩ c2 ⟨by omega, by omega⟩ kk
      · have c1 := ct_way_lo hX.st (T := cxT X) (D := cxD X) (N := ovR (cxT X) (N2 (cxT X) (fO F + 13) f) (fO F + 4) S) sz hw hal (nI c) hal1 htd hw8 (hI.wayL hwh hw8)
        have e1 : (if rD S c = 0 then (-1 : Int32) else if w < h then nI (ps w) else -1) = -1 := by
          by_cases e : rD S c = 0
          · rw [if_pos e]
          · rw [if_neg e, if_neg hwh]
        have c2 := fun N => (c2 N).rq hI e1
        rw [← ec, ← ew] at c1 c2
        exact stV_way hX hT hS hn hi hg hg ra rb c1 ⟨by omega, by omega, by omega, by omega⟩ c2 ⟨by omega, by omega⟩ kk
  · have hA : isA S (xs (i + 1)) = false := by simpa using hA
    exact stN_way hX hT hS hn hi hg hI ra rb 1 (Or.inl rfl) (lh_way_no1 hX.st sz hw hal (xs (i + 1)) (xs (i + 2)) (hI.alN hA)).n (fun N z => cr_way_no hX.st z (fun e => by rw [hA] at e; exact absurd e.1 (by decide))) kk
