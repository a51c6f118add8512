/-! coming, going, the mean, the checksum -/
theorem spR_C0 (S : RS) (n f : Nat) : rC (spR S n f) 0 = rC S 0 := rfl
theorem gtR_C0 (S : RS) : rC (gtR S) 0 = rC S 0 := rfl
theorem spu_C0 (Pt Pl : Nat → Nat) (h : Nat) : ∀ (k : Nat) (S : RS), rC (spuR Pt Pl h k S) 0 = rC S 0 := by
  intro k
  induction k with
  | zero =>
    intro S
    by_cases g : 4 < rM S (Pt 0)
    · rw [spu_0t g, ptR_C, gtR_C0, spR_C0]
    · rw [spu_0f g]
  | succ k ih =>
    intro S
    by_cases g : 4 < rM S (Pt (k + 1))
    · rw [spu_st g, ih, ptR_C, spR_C0]
    · rw [spu_sf g]
theorem cm3_C0 (S : RS) (x1 y1 x2 y2 : Int32) (h : Nat) (w p : Nat → Nat) (c f : Nat) : rC (cm3 (cm1 S x1 y1 x2 y2 h w p) c f) 0 = 0 := by
  unfold cm3
  rw [ptR_C, cm2_C]
  rfl
theorem uC1_0 (S : RS) (v : Nat) : rC (uC S 1 v) 0 = rC S 0 := rfl
theorem uC1_1 (S : RS) (v : Nat) : rC (uC S 1 v) 1 = v := va_up_self (rC S) 1 v
set_option maxHeartbeats 4000000 in
theorem st_come {X : Cx} {nm : String} (hX : Ok X (yLn nm) cL_law 9 2048 84000 630684 7204052) (hT : ThL X) {bs n : Nat} {xs : Nat → Int32} (hS : ScX X bs n xs) (hn : n ≤ 2560) {i : Nat} (hi : i + 4 < n) {x sz a b : Nat} {P : PS} {F : FS} {S : RS} {φ al : Nat → Nat} {L : Nat → Prop} {h : Nat} {f : Nat → Int64} (hg : Gm x P F sz) (hI : Inv P F S φ al L h) (ra : a + 60 ≤ 630684) (rb : b + 400 ≤ 7204052) (kk : ∀ M' z' a' b', LW (cxT X) x M' z' → a' ≤ a + 60 → b' ≤ b + 400 → G X 9 M' z' a' b' 931 [(0, .ref bs), (1, .ref x), (2, .ref (x + 4)), (3, .ref (x + 13)), (4, .int (nI i))] []) : G X 9 (Wd (cxT X) x P F S f) sz a b 100 [(0, .ref bs), (1, .ref x), (2, .ref (x + 4)), (3, .ref (x + 13)), (4, .int (nI i))] [] := by
  have ex := hg.1
  subst ex
  have hw := hg.2.1
  have hal := hI.alok
  have hh := hI.2.2.2.1.h
  have hc60 := hI.c60
  have hd1 := hI.d1
  by_cases hr : isR (xs (i + 1)) (xs (i + 2)) (xs (i + 3)) (xs (i + 4)) = true
  · by_cases hc : rC S 1 < 60
    · obtain ⟨f0, pl, ef, hL, hm4, htr, hff, htig, hsw, hsc, hall⟩ := hI.come hw hg.dom hg.ob hc hr
      have hcr := (hall (fun _ => 0) (fun _ => 0)).2
      have hk : h + 2 ≤ 12 := by omega
      have hR : ∃ R, R = scP pl (h + 2) (apP (fpP P F sz (xs (i + 1)) (xs (i + 2)) (xs (i + 3)) (xs (i + 4))) (φ f0) sz) (cF2 F sz) (sz + 1 + 1) (some (φ f0)) := ⟨_, rfl⟩
      obtain ⟨R, hR⟩ := hR
      rw [← hR] at hcr
      obtain ⟨⟨φ1, L1, h1, i1⟩, q2, q3, q4, q5, q6⟩ := hcr
      have hA := i1.1.am (a := rC S 1) (by rw [uC1_1]; omega)
      have hsz : va_up al (rC S 1) sz (rC S 1) = sz := va_up_self _ _ _
      unfold AlF at hA
      rw [hsz] at hA
      have hz0 : pD (fpP P F sz (xs (i + 1)) (xs (i + 2)) (xs (i + 3)) (xs (i + 4))) sz = true := va_up_self _ _ _
      have c1 := ct_come hX.st (T := cxT X) (D := cxD X) (N := ovR (cxT X) (N2 (cxT X) (fO F + 13) f) (fO F + 4) S) sz hw (n := h) (k := h + 2) hal (xs (i + 1)) (xs (i + 2)) (xs (i + 3)) (xs (i + 4)) hr (by rw [hI.2.2.1.1]; exact hc) htr (by omega) (by omega) pl (by rw [hff]; exact htig.1) (by rw [hff]; exact hsw) (by rw [hff]; exact htig.2.2.1) (by rw [hff]; exact htig.2.2.2.ch) (by rw [hff]; exact hsc) (by rw [hff, ← hR]; exact hA.1)
      rw [hff, ← hR, hA.2.1] at c1
      have hg' : Gm (fO F) R.1 R.2.1 R.2.2 := by
        refine ⟨q3, q2, fun q hq => ⟨q5 q hq, ?_⟩, by have := hg.2.2.2; omega⟩
        rcases q4 q hq with e | e
        · have e : va_up (pD P) sz true q = true := e
          by_cases e2 : q = sz
          · have := hg.2.2.2; omega
          · rw [va_up_ne _ _ e2] at e; exact (hg.2.2.1 q e).2
        · have := hg.2.2.2; omega
      subst ef
      refine stV_come hX hT hS hn hi hg hg' ra rb c1 ⟨by omega, by omega, by omega, by omega⟩ (fun N => (cr_come hX.st (T := cxT X) (D := cxD X) (N := N) (o := fO F + 4) R.2.2 hI.trR (by omega) hc (xs (i + 1)) (xs (i + 2)) (xs (i + 3)) (xs (i + 4)) hr rfl rfl hm4 (fun w p => (hall w p).1)).po (fun v M' z' hp => ?_)) ⟨by omega, by omega⟩ kk
      obtain ⟨hv, ⟨w, p, hM⟩, hz⟩ := hp
      have hcr2 := (hall w p).2
      rw [← hR] at hcr2
      obtain ⟨⟨φ2, L2, h2, i2⟩, _⟩ := hcr2
      exact ⟨hv, ⟨_, hM, ⟨_, _, _, _, i2⟩, by rw [uC1_0, spu_C0, cm3_C0]⟩, hz⟩
    · have h60 : rC S 1 = 60 := by omega
      exact stN_come hX hT hS hn hi hg hI ra rb 2 (Or.inr rfl) (lh_come_no2 hX.st sz hw (xs (i + 1)) (xs (i + 2)) (xs (i + 3)) (xs (i + 4)) hr (by rw [hI.2.2.1.1]; exact h60)) (fun N z => cr_come_no2 hX.st z (xs (i + 1)) (xs (i + 2)) (xs (i + 3)) (xs (i + 4)) hr h60) kk
  · have hr : isR (xs (i + 1)) (xs (i + 2)) (xs (i + 3)) (xs (i + 4)) = false := by simpa using hr
    exact stN_come hX hT hS hn hi hg hI ra rb 1 (Or.inl rfl) (lh_come_no1 hX.st sz hw (xs (i + 1)) (xs (i + 2)) (xs (i + 3)) (xs (i + 4)) hr).n (fun N z => cr_come_no1 hX.st z (xs (i + 1)) (xs (i + 2)) (xs (i + 3)) (xs (i + 4)) hr) kk
theorem aro_cg {S S' : RS} (he : rE S' = rE S) (a : Nat) : aroR S' a = aroR S a := by unfold aroR; rw [he]
theorem uD_E (S : RS) (a v : Nat) : rE (uD S a v) = rE S := rfl
theorem uD_C (S : RS) (a v : Nat) : rC (uD S a v) = rC S := rfl
theorem rm_E (S : RS) (f p : Nat) : rE (rmR S f p) = rE S := rfl
theorem low_1 (n : Nat) : ∀ S : RS, rC (lowR n S) 1 = rC S 1 := by
  induction n with
  | zero => intro S; rfl
  | succ n ih =>
    intro S
    by_cases g : rM S (rC S 4) = 1
    · rw [low_t g, ih]; rfl
    · rw [low_f g]
set_option maxHeartbeats 4000000 in
theorem st_go {X : Cx} {nm : String} (hX : Ok X (yLn nm) cL_law 9 2048 84000 630684 7204052) (hT : ThL X) {bs n : Nat} {xs : Nat → Int32} (hS : ScX X bs n xs) (hn : n ≤ 2560) {i : Nat} (hi : i + 4 < n) {x sz a b : Nat} {P : PS} {F : FS} {S : RS} {φ al : Nat → Nat} {L : Nat → Prop} {h : Nat} {f : Nat → Int64} (hg : Gm x P F sz) (hI : Inv P F S φ al L h) (ra : a + 60 ≤ 630684) (rb : b + 400 ≤ 7204052) (kk : ∀ M' z' a' b', LW (cxT X) x M' z' → a' ≤ a + 60 → b' ≤ b + 400 → G X 9 M' z' a' b' 931 [(0, .ref bs), (1, .ref x), (2, .ref (x + 4)), (3, .ref (x + 13)), (4, .int (nI i))] []) : G X 9 (Wd (cxT X) x P F S f) sz a b 192 [(0, .ref bs), (1, .ref x), (2, .ref (x + 4)), (3, .ref (x + 13)), (4, .int (nI i))] [] := by
  have ex := hg.1
  subst ex
  have hw := hg.2.1
  have hal := hI.alok
  have hh := hI.2.2.2.1.h
  have hc60 := hI.c60
  have hd1 := hI.d1
  by_cases hA : isA S (xs (i + 1)) = true
  · obtain ⟨c, hcl, ec⟩ := isA_inv hA hc60
    have hal1 := hI.alE hcl
    by_cases hd : rD S c = 1
    · obtain ⟨fr, ps, pl, k0, g1, g2, g3, g4, g5, g6, g7, L', h', i1⟩ := hI.left hcl hd
      have hR : ∃ R, R = lwP 40 (drpP pl (h + 1) (tkP P (φ (fr h)) (al c) k0) (some (φ (fr h)))) F := ⟨_, rfl⟩
      obtain ⟨R, hR⟩ := hR
      have c1 := ct_go hX.st (T := cxT X) (D := cxD X) (N := ovR (cxT X) (N2 (cxT X) (fO F + 13) f) (fO F + 4) S) sz hw hal (nI c) hal1 g3 g4 pl g5 g7
      have hD : pD R.1 = pD P := by rw [hR, lw_D, drp_D]; rfl
      have hO : fO R.2 = fO F := by rw [hR, lw_O]
      rw [← hR] at i1 c1
      have hE : rE (uD (lowR h (gnR fr ps h (rmR S (fr h) (ps h)))) c 0) = rE S := by rw [uD_E, low_E, gn_E, rm_E]
      have hC : rC (uD (lowR h (gnR fr ps h (rmR S (fr h) (ps h)))) c 0) 1 = rC S 1 := by rw [uD_C, low_1, gn_C, rm_C]
      have hans : arB R.1 (al c) = aroR S c := by
        have hb := (i1.1.am (a := c) (by rw [hC]; exact hcl)).2.2.2.1
        rw [hE] at hb
        show areaI (pB R.1 (al c) 0) (pB R.1 (al c) 1) (pB R.1 (al c) 2) (pB R.1 (al c) 3) = _
        rw [hb 0 (by omega), hb 1 (by omega), hb 2 (by omega), hb 3 (by omega)]
        rfl
      rw [hans, ← ec] at c1
      have hg' : Gm (fO F) R.1 R.2 sz := ⟨hO, hw.of hD hO, fun q hq => hg.2.2.1 q (by rw [← hD]; exact hq), hg.2.2.2⟩
      have c2 := fun N => (cr_go hX.st (T := cxT X) (D := cxD X) (N := N) (o := fO F + 4) sz hI.trR (by omega) hc60 hcl hd g1 g2 g6)
      rw [← ec] at c2
      refine stV_go hX hT hS hn hi hg hg' ra rb c1 ⟨by omega, by omega, by omega, by omega⟩ (fun N => (c2 N).po (fun v M' z' hp => ?_)) ⟨by omega, by omega⟩ kk
      obtain ⟨hv, ⟨S', hM, hse, h0⟩, hz⟩ := hp
      exact ⟨hv, ⟨S', hM, ⟨_, _, _, _, i1.se hse⟩, h0⟩, hz⟩
    · have hd0 : rD S c = 0 ∧ pH P (al c) = none := by
        rcases (hI.1.am hcl).2.2.2.2.2 with e | e
        · exact e
        · exact absurd e.1 hd
      exact stN_go hX hT hS hn hi hg hI ra rb 2 (Or.inr rfl) (lh_go_no2 hX.st sz hw hal (xs (i + 1)) (by rw [ec]; exact hal1) (hI.1.am hcl).1 hd0.2) (fun N z => by rw [ec]; exact cr_go_no2 hX.st z hc60 hcl hd0.1) kk
  · have hA : isA S (xs (i + 1)) = false := by simpa using hA
    exact stN_go hX hT hS hn hi hg hI ra rb 1 (Or.inl rfl) (lh_go_no1 hX.st sz hw hal (xs (i + 1)) (hI.alN hA)).n (fun N z => cr_go_no1 hX.st z (xs (i + 1)) hA) kk
set_option maxHeartbeats 1000000 in
theorem st_mean {X : Cx} {nm : String} (hX : Ok X (yLn nm) cL_law 9 2048 84000 630684 7204052) (hT : ThL X) {bs n : Nat} {xs : Nat → Int32} (hS : ScX X bs n xs) (hn : n ≤ 2560) {i : Nat} (hi : i + 4 < n) {x sz a b : Nat} {P : PS} {F : FS} {S : RS} {φ al : Nat → Nat} {L : Nat → Prop} {h : Nat} {f : Nat → Int64} (hg : Gm x P F sz) (hI : Inv P F S φ al L h) (ra : a + 60 ≤ 630684) (rb : b + 400 ≤ 7204052) (kk : ∀ M' z' a' b', LW (cxT X) x M' z' → a' ≤ a + 60 → b' ≤ b + 400 → G X 9 M' z' a' b' 931 [(0, .ref bs), (1, .ref x), (2, .ref (x + 4)), (3, .ref (x + 13)), (4, .int (nI i))] []) : G X 9 (Wd (cxT X) x P F S f) sz a b 876 [(0, .ref bs), (1, .ref x), (2, .ref (x + 4)), (3, .ref (x + 13)), (4, .int (nI i))] [] := by
  have ex := hg.1
  subst ex
  have hw := hg.2.1
  have hal := hI.alok
  have hh := hI.2.2.2.1.h
  have hc60 := hI.c60
  have hd1 := hI.d1
  obtain ⟨m1, m2, m3⟩ := hI.meanV
  have m4 := dcmp_self hI.mnN
  have c1 := ct_mean hX.st (T := cxT X) (D := cxD X) (N := ovR (cxT X) (N2 (cxT X) (fO F + 13) f) (fO F + 4) S) sz hw hal (by rw [m1, m2]; exact m3)
  rw [m1, m2] at c1
  refine law_mean hX (x := fO F) (o := fO F + 4) (qo := fO F + 13) (Wd_x hg) m4 (A1 := fun M' z' => M' = Wd (cxT X) (fO F) P F S f ∧ z' = sz) (A2 := LW (cxT X) (fO F)) (c1.po (fun v M' z' hp => ⟨hp.1, hp.2.1, hp.2.2.symm⟩)) ⟨by omega, by omega⟩ (fun M' z' hp => ?_) (fun M' z' hp => kk M' z' a b hp (by omega) (by omega))
  obtain ⟨rfl, rfl⟩ := hp
  refine ⟨⟨_, Wd_o hg⟩, ?_⟩
  have c2 := cr_mean hX.st (T := cxT X) (D := cxD X) (N := Wd (cxT X) (fO F) P F S f) (o := fO F + 4) (S := S) z' hc60 m3
  rw [Wd_R hg] at c2
  refine c2.po (fun v M' z' hp => ?_)
  obtain ⟨hv, ⟨S', hM, hse, h0⟩, hz⟩ := hp
  exact ⟨hv, P, F, S', φ, al, L, h, f, by rw [hM, Wd_R hg], by rw [← hz]; exact hg, hI.se hse⟩
set_option maxHeartbeats 1000000 in
theorem st_digest {X : Cx} {nm : String} (hX : Ok X (yLn nm) cL_law 9 2048 84000 630684 7204052) (hT : ThL X) {bs n : Nat} {xs : Nat → Int32} (hS : ScX X bs n xs) (hn : n ≤ 2560) {i : Nat} (hi : i + 4 < n) {x sz a b : Nat} {P : PS} {F : FS} {S : RS} {φ al : Nat → Nat} {L : Nat → Prop} {h : Nat} {f : Nat → Int64} (hg : Gm x P F sz) (hI : Inv P F S φ al L h) (ra : a + 60 ≤ 630684) (rb : b + 400 ≤ 7204052) (kk : ∀ M' z' a' b', LW (cxT X) x M' z' → a' ≤ a + 60 → b' ≤ b + 400 → G X 9 M' z' a' b' 931 [(0, .ref bs), (1, .ref x), (2, .ref (x + 4)), (3, .ref (x + 13)), (4, .int (nI i))] []) : G X 9 (Wd (cxT X) x P F S f) sz a b 917 [(0, .ref bs), (1, .ref x), (2, .ref (x + 4)), (3, .ref (x + 13)), (4, .int (nI i))] [] := by
  have ex := hg.1
  subst ex
  have hw := hg.2.1
  have hal := hI.alok
  have hh := hI.2.2.2.1.h
  have hc60 := hI.c60
  have hd1 := hI.d1
  obtain ⟨fr, ps, d1, d2, d3⟩ := hI.digV
  have c1 := ct_digest hX.st (T := cxT X) (D := cxD X) (N := ovR (cxT X) (N2 (cxT X) (fO F + 13) f) (fO F + 4) S) sz hw hal hI.trP (by omega) (pl := fun a _ => ps a h) d2
  rw [d3] at c1
  refine law_digest hX (x := fO F) (o := fO F + 4) (qo := fO F + 13) (Wd_x hg) (A1 := fun M' z' => M' = Wd (cxT X) (fO F) P F S f ∧ z' = sz) (A2 := LW (cxT X) (fO F)) (c1.po (fun v M' z' hp => ⟨hp.1, hp.2.1, hp.2.2.symm⟩)) ⟨by omega, by omega⟩ ⟨by omega, by omega⟩ (fr2 := 3 * h + 10) (lo2 := 60 * h + 200) (fun M' z' hp => ?_) ⟨by omega, by omega⟩ (fun M' z' hp => kk M' z' a b hp (by omega) (by omega))
  obtain ⟨rfl, rfl⟩ := hp
  refine ⟨⟨_, Wd_o hg⟩, ?_⟩
  have c2 := cr_digest hX.st (T := cxT X) (D := cxD X) (N := Wd (cxT X) (fO F) P F S f) (o := fO F + 4) (S := S) z' hI.trR (by omega) hc60 hd1 d1
  rw [Wd_R hg] at c2
  refine c2.po (fun v M' z' hp => ?_)
  obtain ⟨hv, ⟨S', hM, hse, h0⟩, hz⟩ := hp
  exact ⟨hv, P, F, S', φ, al, L, h, f, by rw [hM, Wd_R hg], by rw [← hz]; exact hg, hI.se hse⟩
