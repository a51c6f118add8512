/-! the new one's place -/
def PlS (S S' : RS) (b : Nat → Int32) (f c : Nat) : Prop := (∀ j, ¬ (4 * c ≤ j ∧ j < 4 * c + 4) → rE S' j = rE S j) ∧ (∀ i, i < 4 → rE S' (4 * c + i) = b i) ∧ (∀ a, rD S' a = if a = c then 1 else rD S a) ∧ (∀ g, rG S' g = rG S g) ∧ (∀ g, rM S' g = if g = f then rM S f + 1 else rM S g) ∧ (∀ g k, k < 5 → rk S' g k = if g = f then insG (rk S f) (rM S f) (rM S f) c k else rk S g k) ∧ rC S' 2 = rC S 2 ∧ rC S' 3 = rC S 3 ∧ rC S' 4 = rC S 4
theorem cm1_f (S : RS) (x1 y1 x2 y2 : Int32) (h : Nat) (w p : Nat → Nat) : rE (cm1 S x1 y1 x2 y2 h w p) = rE S ∧ rD (cm1 S x1 y1 x2 y2 h w p) = rD S ∧ rM (cm1 S x1 y1 x2 y2 h w p) = rM S ∧ rK (cm1 S x1 y1 x2 y2 h w p) = rK S ∧ rG (cm1 S x1 y1 x2 y2 h w p) = rG S ∧ rC (cm1 S x1 y1 x2 y2 h w p) 2 = rC S 2 ∧ rC (cm1 S x1 y1 x2 y2 h w p) 3 = rC S 3 ∧ rC (cm1 S x1 y1 x2 y2 h w p) 4 = rC S 4 ∧ ∀ i, i < 4 → rR (cm1 S x1 y1 x2 y2 h w p) i = bx4 x1 y1 x2 y2 i := by
  refine ⟨rfl, rfl, rfl, rfl, rfl, rfl, rfl, rfl, fun i hi => ?_⟩
  rcases i4 hi with rfl | rfl | rfl | rfl <;> rfl
theorem cm2_f (A : RS) (c : Nat) : rE (cm2 A c) = va_cpy (rR A) (rE A) 0 (4 * c) 4 ∧ rD (cm2 A c) = va_up (rD A) c 1 ∧ rM (cm2 A c) = rM A ∧ rK (cm2 A c) = rK A ∧ rG (cm2 A c) = rG A ∧ rC (cm2 A c) = rC A := ⟨rfl, rfl, rfl, rfl, rfl, rfl⟩
theorem cm3_s (S : RS) (x1 y1 x2 y2 : Int32) (h : Nat) (w p : Nat → Nat) (c f : Nat) : PlS S (cm3 (cm1 S x1 y1 x2 y2 h w p) c f) (bx4 x1 y1 x2 y2) f c := by
  obtain ⟨a1, a2, a3, a4, a5, a6, a7, a8, a9⟩ := cm1_f S x1 y1 x2 y2 h w p
  generalize cm1 S x1 y1 x2 y2 h w p = A at *
  obtain ⟨b1, b2, b3, b4, b5, b6⟩ := cm2_f A c
  unfold cm3
  generalize cm2 A c = B at *
  obtain ⟨o1, o2, o3, o4⟩ := ptR_o B f (rM B f) c
  have oM : ∀ g, rM (ptR B f (rM B f) c) g = if g = f then rM B f + 1 else rM B g := fun g => ptR_M
  have oK : ∀ g k, k < 5 → rk (ptR B f (rM B f) c) g k = if g = f then insG (rk B f) (rM B f) (rM B f) c k else rk B g k := fun g k hk => ptR_k hk
  generalize ptR B f (rM B f) c = G at *
  have eK : ∀ g, rk B g = rk S g := fun g => by unfold rk; rw [b4, a4]
  refine ⟨fun j hj => ?_, fun i hi => ?_, fun a => ?_, fun g => by rw [o3, b5, a5], fun g => by rw [oM, b3, a3], fun g k hk => by rw [oK g k hk, b3, a3, eK, eK], by rw [o4, b6, a6], by rw [o4, b6, a7], by rw [o4, b6, a8]⟩
  · rw [o1, b1, a1]; unfold va_cpy; rw [if_neg hj]
  · rw [o1, b1, ← a9 i hi]; unfold va_cpy; rw [if_pos (by omega)]; congr 1; omega
  · rw [o2, b2, a2]; rfl
theorem pl_ex {q ps : Nat → Nat} : ∀ n, (∀ i j, i < n → j < n → i ≠ j → q i ≠ q j) → ∃ pl : Nat → Nat, ∀ i, i < n → pl (q i) = ps i := by
  intro n
  induction n with
  | zero => intro _; exact ⟨fun _ => 0, fun i hi => absurd hi (by omega)⟩
  | succ n ih =>
    intro h
    obtain ⟨pl, hp⟩ := ih (fun i j hi hj => h i j (by omega) (by omega))
    refine ⟨va_up pl (q n) (ps n), fun i hi => ?_⟩
    by_cases e : i = n
    · rw [e, va_up_self]
    · rw [va_up_ne _ _ (h i n hi (by omega) e)]; exact hp i (by omega)
section
variable {P P1 : PS} {S S' : RS} {φ al : Nat → Nat} {c t h f z : Nat} {L X : Nat → Prop} {b : Nat → Int32}
theorem apP_D (P1 : PS) (q r x : Nat) : pD (apP P1 q r) x = pD P1 x ∧ pN (apP P1 q r) x = pN P1 x ∧ pL (apP P1 q r) x = pL P1 x ∧ pB (apP P1 q r) x = pB P1 x ∧ pW (apP P1 q r) x = pW P1 x ∧ pH (apP P1 q r) x = (if x = r then some q else pH P1 x) ∧ pS (apP P1 q r) x = (if x = q then pS P1 q + 1 else pS P1 x) ∧ pA (apP P1 q r) x = (if x = q then insF (pA P1 q) (pS P1 q) (pS P1 q) r else pA P1 x) := ⟨rfl, rfl, rfl, rfl, rfl, rfl, rfl, rfl⟩
theorem Sm.pla (hs : Sm P S φ al c L (fun _ => False)) (hf : L f) (hg : rG S f = 0) (hm : rM S f ≤ 4) (hz : ∀ x, pD P x = true → x ≠ z) (hc : c < 60) (hr : isR (b 0) (b 1) (b 2) (b 3) = true) (n : Int32) (hn : n = nI c) (pls : PlS S S' b f c) (hX : X f) : Sm (apP (nwP P z n 0 b 0) (φ f) z) S' φ (va_up al c z) (c + 1) L X := by
  obtain ⟨s1, s2, s3, s4, s5, s6, s7, s8, s9⟩ := pls
  have hφz : ∀ g, L g → φ g ≠ z := fun g hg => hz _ (hs.lv hg).1
  have hkz : ∀ j x, OkK S c L j x → kaF φ al j x ≠ z := fun j x hx => hz _ (hs.kaD hx)
  have hok : ∀ j x, OkK S c L j x → OkK S' (c + 1) L j x ∧ kaF φ (va_up al c z) j x = kaF φ al j x := by
    intro j x hx
    cases j with
    | zero =>
      have h1 := hx.1
      exact ⟨⟨by omega, by rw [s3, if_neg (by omega)]; exact hx.2⟩, va_up_ne _ _ (by omega)⟩
    | succ j => exact ⟨⟨hx.1, by rw [s4]; exact hx.2⟩, rfl⟩
  have hF : ∀ x, x ≠ z → pD (nwP P z n 0 b 0) x = pD P x ∧ pN (nwP P z n 0 b 0) x = pN P x ∧ pL (nwP P z n 0 b 0) x = pL P x ∧ pB (nwP P z n 0 b 0) x = pB P x ∧ pW (nwP P z n 0 b 0) x = pW P x ∧ pH (nwP P z n 0 b 0) x = pH P x ∧ pS (nwP P z n 0 b 0) x = pS P x ∧ pA (nwP P z n 0 b 0) x = pA P x := fun x hx => ⟨va_up_ne _ _ hx, va_up_ne _ _ hx, va_up_ne _ _ hx, va_up_ne _ _ hx, va_up_ne _ _ hx, va_up_ne _ _ hx, va_up_ne _ _ hx, va_up_ne _ _ hx⟩
  have hZ : pD (nwP P z n 0 b 0) z = true ∧ pN (nwP P z n 0 b 0) z = n ∧ pL (nwP P z n 0 b 0) z = 0 ∧ pB (nwP P z n 0 b 0) z = b := ⟨va_up_self _ _ _, va_up_self _ _ _, va_up_self _ _ _, va_up_self _ _ _⟩
  generalize nwP P z n 0 b 0 = P1 at *
  have hA := apP_D P1 (φ f) z
  have hfl := hs.lv hf
  refine ⟨fun g hg' => ⟨?_, fun k hk => ?_, fun hx i hi => ?_⟩, fun a ha => ?_, hs.2.2.1, by omega⟩
  · have hl := hs.lv hg'
    obtain ⟨u1, u2, u3, u4, u5, u6, u7, u8⟩ := hA (φ g)
    obtain ⟨v1, v2, v3, v4, v5, v6, v7, v8⟩ := hF (φ g) (hφz g hg')
    unfold LvF
    rw [u1, v1, u3, v3, u5, v5, u7, s4, s5, s8]
    refine ⟨hl.1, hl.2.1, hl.2.2.1, ?_, ?_, hl.2.2.2.2.2⟩
    · by_cases e : g = f
      · rw [e, if_pos rfl, if_pos rfl, (hF (φ f) (hφz f hf)).2.2.2.2.2.2.1, hfl.2.2.2.1]
      · rw [if_neg (fun e2 => e (hs.inj hg' hf e2)), if_neg e, v7]; exact hl.2.2.2.1
    · by_cases e : g = f
      · rw [if_pos e]; omega
      · rw [if_neg e]; exact hl.2.2.2.2.1
  · rw [s5] at hk
    obtain ⟨u1, u2, u3, u4, u5, u6, u7, u8⟩ := hA (φ g)
    have v8 := (hF (φ g) (hφz g hg')).2.2.2.2.2.2.2
    have hold : ∀ j, j < rM S g → rk S' g j = rk S g j := by
      intro j hj
      have h5 := (hs.lv hg').2.2.2.2.1
      rw [s6 g j (by omega)]
      by_cases e : g = f
      · rw [if_pos e, ← e]; unfold insG; rw [if_pos hj]
      · rw [if_neg e]
    by_cases k1 : k < rM S g
    · have h1 := hs.kx hg' k k1
      obtain ⟨o1, o2⟩ := hok _ _ h1.1
      rw [hold k k1, s4, o2]
      have hk := hkz _ _ h1.1
      refine ⟨o1, ?_, ?_, fun j hj => by rw [hold j (by omega)]; exact h1.2.2.2 j hj⟩
      · rw [u8]
        by_cases e : g = f
        · rw [e, if_pos rfl, (hF (φ f) (hφz f hf)).2.2.2.2.2.2.2, (hF (φ f) (hφz f hf)).2.2.2.2.2.2.1, hfl.2.2.2.1]
          unfold insF
          rw [if_pos (by rw [← e]; exact k1), ← e]; exact h1.2.1
        · rw [if_neg (fun e2 => e (hs.inj hg' hf e2)), v8]; exact h1.2.1
      · rw [(hA _).2.2.2.2.2.1, if_neg hk, (hF _ hk).2.2.2.2.2.1]; exact h1.2.2.1
    · have e : g = f := by
        by_cases e : g = f
        · exact e
        · rw [if_neg e] at hk; omega
      subst e
      rw [if_pos rfl] at hk
      obtain rfl : k = rM S g := by omega
      have hI : rk S' g (rM S g) = c := by
        rw [s6 g _ (by omega), if_pos rfl]; unfold insG; rw [if_neg (by omega), if_pos rfl]
      have hz0 : kaF φ (va_up al c z) 0 c = z := va_up_self _ _ _
      rw [hI, s4, hg, hz0]
      refine ⟨⟨by omega, by rw [s3, if_pos rfl]⟩, ?_, ?_, fun j hj => ?_⟩
      · rw [u8, if_pos rfl, (hF (φ g) (hφz g hf)).2.2.2.2.2.2.1, hfl.2.2.2.1]
        unfold insF
        rw [if_neg (by omega), if_pos rfl]
      · rw [(hA z).2.2.2.2.2.1, if_pos rfl]
      · rw [hold j hj]
        have := (hs.kx hf j hj).1
        rw [hg] at this
        have := this.1
        omega
  · have e : g ≠ f := fun e => hx (e ▸ hX)
    have h5 := (hs.lv hg').2.2.2.2.1
    rw [(hA (φ g)).2.2.2.1, (hF (φ g) (hφz g hg')).2.2.2.1, hs.bx hg' id i hi, s5, if_neg e]
    by_cases h0 : rM S g = 0
    · rw [if_pos h0, if_pos h0]
    · rw [if_neg h0, if_neg h0]
      unfold hulK
      rw [s5, if_neg e, s4]
      refine hulL_cg _ (fun k hk j hj => ?_) i hi
      have h1 := hs.kx hg' k (by omega)
      rw [s6 g k (by omega), if_neg e, (hok _ _ h1.1).2, (hA _).2.2.2.1, (hF _ (hkz _ _ h1.1)).2.2.2.1]
  · by_cases e : a = c
    · subst e
      unfold AlF
      rw [va_up_self, (hA z).1, (hA z).2.1, (hA z).2.2.1, (hA z).2.2.2.1, hZ.1, hZ.2.1, hZ.2.2.1, hZ.2.2.2]
      refine ⟨rfl, hn, rfl, fun i hi => (s2 i hi).symm, ?_, Or.inr ⟨by rw [s3, if_pos rfl], f, rM S f, hf, by rw [s4]; exact hg, by rw [s5, if_pos rfl]; omega, ?_⟩⟩
      · rw [show 4 * a = 4 * a + 0 from rfl, s2 0 (by omega), show 4 * a + 0 + 1 = 4 * a + 1 from rfl, s2 1 (by omega), show 4 * a + 0 + 2 = 4 * a + 2 from rfl, s2 2 (by omega), show 4 * a + 0 + 3 = 4 * a + 3 from rfl, s2 3 (by omega)]
        exact hr
      · rw [s6 f _ (by omega), if_pos rfl]; unfold insG; rw [if_neg (by omega), if_pos rfl]
    · have h1 := hs.am (a := a) (by omega)
      have haz : al a ≠ z := hz _ h1.1
      unfold AlF
      rw [va_up_ne _ _ e, (hA _).1, (hA _).2.1, (hA _).2.2.1, (hA _).2.2.2.1, (hA _).2.2.2.2.2.1, if_neg haz, (hF _ haz).1, (hF _ haz).2.1, (hF _ haz).2.2.1, (hF _ haz).2.2.2.1, (hF _ haz).2.2.2.2.2.1]
      refine ⟨h1.1, h1.2.1, h1.2.2.1, fun i hi => ?_, ?_, ?_⟩
      · rw [s1 _ (by omega)]; exact h1.2.2.2.1 i hi
      · rw [s1 _ (by omega), s1 _ (by omega), s1 _ (by omega), s1 _ (by omega)]; exact h1.2.2.2.2.1
      · rw [s3, if_neg e]
        rcases h1.2.2.2.2.2 with h2 | h2
        · exact Or.inl h2
        · obtain ⟨d1, g, k, hg1, hg0, hk, hx⟩ := h2
          have h5 := (hs.lv hg1).2.2.2.2.1
          refine Or.inr ⟨d1, g, k, hg1, by rw [s4]; exact hg0, ?_, ?_⟩
          · rw [s5]
            by_cases e2 : g = f
            · rw [if_pos e2, ← e2]; omega
            · rw [if_neg e2]; exact hk
          · rw [s6 g k (by omega)]
            by_cases e2 : g = f
            · rw [if_pos e2, ← e2]; unfold insG; rw [if_pos hk]; exact hx
            · rw [if_neg e2]; exact hx
theorem Tp.pla (ht : Tp P S φ L t h) (hs : Sm P S φ al c L X) (hf : L f) (hm : rM S f ≤ 4) (hz : ∀ x, pD P x = true → x ≠ z) (n : Int32) (pls : PlS S S' b f c) : Tp (apP (nwP P z n 0 b 0) (φ f) z) S' φ L t h := by
  obtain ⟨s1, s2, s3, s4, s5, s6, s7, s8, s9⟩ := pls
  have hzt := hz _ (hs.lv ht.1).1
  refine ⟨ht.1, ?_, by rw [s4]; exact ht.2.2.1, fun g hg e => ?_⟩
  · rw [(apP_D _ _ _ _).2.2.2.2.2.1, if_neg hzt, pH_nwP, va_up_ne _ _ hzt]; exact ht.2.1
  · obtain ⟨u, g1, k1, v1, v2, v3, v4⟩ := ht.2.2.2 g hg e
    have h5 := (hs.lv v1).2.2.2.2.1
    refine ⟨by rw [s4]; exact u, g1, k1, v1, by rw [s4, s4]; exact v2, ?_, ?_⟩
    · rw [s5]
      by_cases e2 : g1 = f
      · rw [if_pos e2, ← e2]; omega
      · rw [if_neg e2]; exact v3
    · rw [s6 g1 k1 (by omega)]
      by_cases e2 : g1 = f
      · rw [if_pos e2, ← e2]; unfold insG; rw [if_pos v3]; exact v4
      · rw [if_neg e2]; exact v4
end
set_option maxHeartbeats 2000000 in
/-- all that coming needs, and what it leaves -/
theorem Inv.come {P : PS} {F : FS} {S : RS} {φ al : Nat → Nat} {h sz : Nat} {L : Nat → Prop} (i : Inv P F S φ al L h) (hw : WfF P F) (hd : ∀ x, pD P x = true → x + 1 < sz) (ho : fO F + 1 < sz) (hc : rC S 1 < 60) {x1 y1 x2 y2 : Int32} (hr : isR x1 y1 x2 y2 = true) : ∃ (f : Nat) (pl : Nat → Nat), f = pthR (tkR (uC S 0 0) x1 y1 x2 y2) h (rC S 4) h ∧ L f ∧ rM S f ≤ 4 ∧ TrP (fpP P F sz x1 y1 x2 y2) h (fT F) ∧ ffP (fpP P F sz x1 y1 x2 y2) sz h (fT F) = φ f ∧ TigI (fpP P F sz x1 y1 x2 y2) (φ f) ∧ pS (fpP P F sz x1 y1 x2 y2) (φ f) < pW (fpP P F sz x1 y1 x2 y2) (φ f) ∧ ScI pl (h + 2) (apP (fpP P F sz x1 y1 x2 y2) (φ f) sz) (cF2 F sz) (sz + 1 + 1) (some (φ f)) ∧ ∀ w p, SpI (pthR (tkR (uC S 0 0) x1 y1 x2 y2) h (rC S 4)) (plcR (tkR (uC S 0 0) x1 y1 x2 y2) h (rC S 4)) h h (cm3 (cm1 S x1 y1 x2 y2 h w p) (rC S 1) f) ∧ CR (va_up al (rC S 1) sz) (rC S 1 + 1) (apP (fpP P F sz x1 y1 x2 y2) (φ f) sz) (cF2 F sz) (sz + 1 + 1) (scP pl (h + 2) (apP (fpP P F sz x1 y1 x2 y2) (φ f) sz) (cF2 F sz) (sz + 1 + 1) (some (φ f))) (spuR (pthR (tkR (uC S 0 0) x1 y1 x2 y2) h (rC S 4)) (plcR (tkR (uC S 0 0) x1 y1 x2 y2) h (rC S 4)) h h (cm3 (cm1 S x1 y1 x2 y2 h w p) (rC S 1) f)) := by
  have hzn : pD P sz = false := by
    cases e : pD P sz with
    | false => rfl
    | true => have := hd sz e; omega
  have hse := SE.tk0 S x1 y1 x2 y2
  have i1 : Inv (fpP P F sz x1 y1 x2 y2) F (tkR (uC S 0 0) x1 y1 x2 y2) φ al L h := (i.agr (Agr.nw hzn _ _ _ _)).se hse
  have e4 : rC (tkR (uC S 0 0) x1 y1 x2 y2) 4 = rC S 4 := hse.2.2.2.2.2.2.2.2
  have hR : ∀ j, j < 4 → pB (fpP P F sz x1 y1 x2 y2) sz j = rR (tkR (uC S 0 0) x1 y1 x2 y2) j := by
    intro j hj
    rw [show pB (fpP P F sz x1 y1 x2 y2) sz = bx4 x1 y1 x2 y2 from va_up_self _ _ _]
    rcases i4 hj with rfl | rfl | rfl | rfl <;> rfl
  have hV : VB (rR (tkR (uC S 0 0) x1 y1 x2 y2)) := isR_nat hr
  have hff := i1.ff hR hV
  have hgo := i1.go
  rw [e4] at hff hgo
  have hM : rM (tkR (uC S 0 0) x1 y1 x2 y2) = rM S := rfl
  have hG : rG (tkR (uC S 0 0) x1 y1 x2 y2) = rG S := rfl
  have hK : rK (tkR (uC S 0 0) x1 y1 x2 y2) = rK S := rfl
  have hgo : Way S L (rC S 4) h (pthR (tkR (uC S 0 0) x1 y1 x2 y2) h (rC S 4)) (plcR (tkR (uC S 0 0) x1 y1 x2 y2) h (rC S 4)) h := by
    unfold Way rk at hgo ⊢
    rw [hM, hG, hK] at hgo
    exact hgo
  have htr := i1.trP
  generalize pthR (tkR (uC S 0 0) x1 y1 x2 y2) h (rC S 4) = fr at *
  generalize plcR (tkR (uC S 0 0) x1 y1 x2 y2) h (rC S 4) = ps at *
  have hf := hgo.2.1 h (Nat.le_refl h)
  have hg0 : rG S (fr h) = 0 := by omega
  have hm4 := (i.2.2.2.2.1 _ hf.1).1
  have hinj : ∀ a b, a < h → b < h → a ≠ b → φ (fr (a + 1)) ≠ φ (fr (b + 1)) := by
    intro a b ha hb hab e
    have h1 := hgo.2.1 (a + 1) (by omega)
    have h2 := hgo.2.1 (b + 1) (by omega)
    have e2 := i.1.inj h1.1 h2.1 e
    rw [e2] at h1
    omega
  obtain ⟨pl, hpl⟩ := pl_ex (q := fun i => φ (fr (i + 1))) (ps := ps) h hinj
  have hzz : ∀ x, pD P x = true → x ≠ sz := fun x hx e => by have := hd x hx; omega
  have hW1 : WfF (fpP P F sz x1 y1 x2 y2) F := hw.nw hd ho _ _ _ _
  obtain ⟨f1, f2, f3, f4, f5⟩ := i.2.2.1
  have hl1 := i1.1.lv hf.1
  have hCI : ∀ w p, CIg (apP (fpP P F sz x1 y1 x2 y2) (φ (fr h)) sz) (cF2 F sz) (cm3 (cm1 S x1 y1 x2 y2 h w p) (rC S 1) (fr h)) φ (va_up al (rC S 1) sz) (rC S 1 + 1) L fr ps pl h h h (sz + 1 + 1) := by
    intro w p
    have pls := cm3_s S x1 y1 x2 y2 h w p (rC S 1) (fr h)
    generalize cm3 (cm1 S x1 y1 x2 y2 h w p) (rC S 1) (fr h) = S' at *
    have k1 := i.1.pla (X := fun g => ∃ i, i ≤ h ∧ g = fr i) hf.1 hg0 hm4 hzz hc hr (nI (fC F)) (by rw [f1]) pls ⟨h, Nat.le_refl h, rfl⟩
    have k2 := i.2.1.pla i.1 hf.1 hm4 hzz (nI (fC F)) pls
    obtain ⟨s1, s2, s3, s4, s5, s6, s7, s8, s9⟩ := pls
    obtain ⟨b1, b2, b3, b4, b5⟩ := i.2.2.2.1
    refine ⟨k1, by rw [s9]; exact k2, ?_, ⟨by rw [s9]; exact hgo.1, fun j hj => ⟨(hgo.2.1 j hj).1, by rw [s4]; exact (hgo.2.1 j hj).2⟩, fun j hj => ?_⟩, ⟨fun g hg e => ?_, fun g hg => ?_⟩, ⟨?_, by rw [s8, s7]; exact b2, by rw [s7]; exact b3, fun _ => by rw [s7, Nat.sub_self]; exact b3, fun g hg => ?_⟩, ⟨fun x hx => ?_, ?_, by show fO F + 1 < _; omega⟩, hpl, fun a ha => ?_, fun hh => ?_, Nat.le_refl h⟩
    · refine ⟨by show fC F + 1 = _; rw [f1], by rw [s7]; exact f2, by rw [s9]; exact f3, fun a ha => ?_, fun a q hq => ?_⟩
      · show va_up (fA F) (fC F) (some sz) a = _
        rw [f1]
        by_cases e : a = rC S 1
        · rw [e, va_up_self, va_up_self]
        · rw [va_up_ne _ _ e, va_up_ne _ _ e]; exact f4 a (by omega)
      · have hq : va_up (fA F) (fC F) (some sz) a = some q := hq
        rw [f1] at hq
        by_cases e : a = rC S 1
        · omega
        · rw [va_up_ne _ _ e] at hq
          have := f5 a q hq
          omega
    · have h1 := hgo.2.2 j hj
      have n1 : fr j ≠ fr h := fun e => by have h1 := (hgo.2.1 j (by omega)).2; rw [e] at h1; omega
      rw [s5, if_neg n1, s6 _ _ (by have := (i.2.2.2.2.1 _ (hgo.2.1 j (by omega)).1).1; omega), if_neg n1]
      exact h1
    · rw [s5, if_neg e]; exact (i.2.2.2.2.1 g hg).1
    · rw [s5]
      by_cases e : g = fr h
      · rw [if_pos e]; omega
      · rw [if_neg e]
        by_cases e2 : g = rC S 4
        · by_cases h0 : 0 < h
          · rw [e2]; exact i.t0 h0
          · obtain rfl : h = 0 := by omega
            exact absurd (e2.trans hgo.1.symm) e
        · exact (i.2.2.2.2.1 g hg).2 e2
    · have u1 := sumE_up (f := fun g => if g = fr h then rM S (fr h) + 1 - 3 else rM S g - 3) (g := fun g => rM S g - 3) (p := fr h) (fun j hj => if_neg hj) 400 (by have := (i.1.lv hf.1).2.2.2.2.2; have := i.2.2.2.1.m; omega)
      have u4 : sumE (fun g => rM S' g - 3) 400 = sumE (fun g => if g = fr h then rM S (fr h) + 1 - 3 else rM S g - 3) 400 := by
        refine sumE_c 400 (fun g hg => ?_)
        show rM S' g - 3 = _
        rw [s5]
        by_cases q1 : g = fr h
        · rw [if_pos q1, if_pos q1]
        · rw [if_neg q1, if_neg q1]
      simp only [if_pos] at u1
      rw [u4, s7]
      omega
    · rw [s8] at hg
      rw [s5, if_neg (by have := (i.1.lv hf.1).2.2.2.2.2; omega)]
      exact b4 g hg
    · have hx : va_up (pD P) sz true x = true := hx
      by_cases e : x = sz
      · omega
      · rw [va_up_ne _ _ e] at hx
        have := hd x hx
        omega
    · exact WfF.of hW1 rfl rfl
    · rw [s3, if_neg (by omega)]; exact i.2.2.2.2.2.2 a (by omega)
    · rw [s9, s5]
      have := i.2.2.2.2.2.1 hh
      by_cases e : rC S 4 = fr h
      · rw [if_pos e, ← e]; omega
      · rw [if_neg e]; exact this
  refine ⟨fr h, pl, rfl, hf.1, hm4, htr, hff, i1.1.tigI hf.1, ?_, ?_, fun w p => ?_⟩
  · rw [hl1.2.2.2.1, hl1.2.2.1, hM]; omega
  · exact ((come_loop h _ _ _ _ _ _ (hCI (fun _ => 0) (fun _ => 0))).2 (h + 2) (Nat.le_refl _)).1
  · have := come_loop h _ _ _ _ _ _ (hCI w p)
    exact ⟨this.1, (this.2 (h + 2) (Nat.le_refl _)).2⟩
