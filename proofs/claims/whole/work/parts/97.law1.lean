/-! the cases of the law's switch -/
set_option maxHeartbeats 1000000 in
set_option maxRecDepth 100000 in
theorem law_come {X : Cx} {nm : String} (hX : Ok X (yLn nm) cL_law 9 2048 84000 630684 7204052) (hT : ThL X) {bs n : Nat} {xs : Nat → Int32} (hS : ScX X bs n xs) (hn : n ≤ 2560) {i : Nat} (hi : i + 4 < n) {M : AH} {sz a b x o qo fr1 lo1 mc1 ms1 fr2 lo2 : Nat} {A1 : Int32 → AH → Nat → Prop} {A2 : Int32 → Int32 → AH → Nat → Prop} (hH : CtN (cxl X) (cxT X) (cxD X) yL_come cL_come 7 (some .int) [(0, 14, 17, 13), (0, 14, 21, 15)] fr1 lo1 mc1 ms1 [.ref x, .int (xs (i + 1)), .int (xs (i + 2)), .int (xs (i + 3)), .int (xs (i + 4)), .ref qo] M sz (fun v M' z' => ∃ k, v = some (.int k) ∧ A1 k M' z')) (r1 : fr1 + 1 ≤ 2048 ∧ 8 + (7 + 11) + lo1 ≤ 84000) (r2 : a + mc1 ≤ 630684 ∧ b + ms1 ≤ 7204052) (hR : ∀ k M' z', A1 k M' z' → (∃ fs, M' o = some (.inr (2, fs))) ∧ Ct (cxl X) (cxT X) (cxD X) yX2_come cX2_come 7 (some .int) fr2 lo2 0 0 [.ref o, .int (xs (i + 1)), .int (xs (i + 2)), .int (xs (i + 3)), .int (xs (i + 4))] M' z' (fun v M'' z'' => ∃ c, v = some (.int c) ∧ A2 k c M'' z'')) (r3 : fr2 + 1 ≤ 2048 ∧ 8 + (7 + 11) + lo2 ≤ 84000) (hV : ∀ k c M' z', A2 k c M' z' → (∃ fs, M' o = some (.inr (2, fs))) ∧ Ct (cxl X) (cxT X) (cxD X) yX2_thrown cX2_thrown 1 (some .int) 0 0 0 0 [.ref o] M' z' (fun v M'' z'' => v = some (.int k) ∧ M'' = M' ∧ z' = z'') ∧ (k = 0 → ∃ f, M' qo = some (eL (cxT X) 1 f) ∧ f 0 = c.toInt64)) (kk : ∀ k c M' z', A2 k c M' z' → G X 9 M' z' (a + mc1) (b + ms1) 931 [(0, .ref bs), (1, .ref x), (2, .ref o), (3, .ref qo), (4, .int (nI i))] []) : G X 9 M sz a b 100 [(0, .ref bs), (1, .ref x), (2, .ref o), (3, .ref qo), (4, .int (nI i))] [] := by
  refine g_aload_n hX dL_law_100 1 rfl ?_
  refine g_aload_n hX dL_law_101 0 rfl ?_
  refine g_iload hX dL_law_102 4 rfl ?_
  refine g_iconst (v := 1) hX dL_law_104 (by decide) ?_
  refine g_iadd hX dL_law_105 ?_
  refine g_sld hX hS (i + 1) (by omega) hn (nI_add i 1) dL_law_106 ?_
  refine g_aload_n hX dL_law_107 0 rfl ?_
  refine g_iload hX dL_law_108 4 rfl ?_
  refine g_iconst (v := 2) hX dL_law_110 (by decide) ?_
  refine g_iadd hX dL_law_111 ?_
  refine g_sld hX hS (i + 2) (by omega) hn (nI_add i 2) dL_law_112 ?_
  refine g_aload_n hX dL_law_113 0 rfl ?_
  refine g_iload hX dL_law_114 4 rfl ?_
  refine g_iconst (v := 3) hX dL_law_116 (by decide) ?_
  refine g_iadd hX dL_law_117 ?_
  refine g_sld hX hS (i + 3) (by omega) hn (nI_add i 3) dL_law_118 ?_
  refine g_aload_n hX dL_law_119 0 rfl ?_
  refine g_iload hX dL_law_120 4 rfl ?_
  refine g_iconst (v := 4) hX dL_law_122 (by decide) ?_
  refine g_iadd hX dL_law_123 ?_
  refine g_sld hX hS (i + 4) (by omega) hn (nI_add i 4) dL_law_124 ?_
  refine g_aload_n hX dL_law_125 3 rfl ?_
  refine g_callN [] hX hT hH ch_come stt_L_come lk_L_52 r1 r2 (Nat.le_of_ble_eq_true rfl) rfl dL_law_126 rfl (fun v5 M5 z5 hp5 hz5 hd5 => ?_)
  obtain ⟨k, rfl, hA1⟩ := hp5
  obtain ⟨⟨fs1, ho1⟩, hR1⟩ := hR k _ _ hA1
  refine g_istore (L' := [(5, .int k), (0, .ref bs), (1, .ref x), (2, .ref o), (3, .ref qo), (4, .int (nI i))]) hX dL_law_129 (by decide) rfl ?_
  refine g_aload_n hX dL_law_131 3 rfl ?_
  refine g_aload_n hX dL_law_132 1 rfl ?_
  refine g_iload hX dL_law_133 5 rfl ?_
  refine g_iconst (v := 1) hX dL_law_135 (by decide) ?_
  refine g_iadd hX dL_law_136 ?_
  refine g_sld hX hS (i + 1) (by omega) hn (nI_add i 1) dL_law_137 ?_
  refine g_aload_n hX dL_law_138 1 rfl ?_
  refine g_iload hX dL_law_139 5 rfl ?_
  refine g_iconst (v := 2) hX dL_law_141 (by decide) ?_
  refine g_iadd hX dL_law_142 ?_
  refine g_sld hX hS (i + 2) (by omega) hn (nI_add i 2) dL_law_143 ?_
  refine g_aload_n hX dL_law_144 1 rfl ?_
  refine g_iload hX dL_law_145 5 rfl ?_
  refine g_iconst (v := 3) hX dL_law_147 (by decide) ?_
  refine g_iadd hX dL_law_148 ?_
  refine g_sld hX hS (i + 3) (by omega) hn (nI_add i 3) dL_law_149 ?_
  refine g_aload_n hX dL_law_150 1 rfl ?_
  refine g_iload hX dL_law_151 5 rfl ?_
  refine g_iconst (v := 4) hX dL_law_153 (by decide) ?_
  refine g_iadd hX dL_law_154 ?_
  refine g_sld hX hS (i + 4) (by omega) hn (nI_add i 4) dL_law_155 ?_
  refine g_callV [] hX hR1 cw_X2_come cv_X2_come lk_L_57 (ci := 2) rfl rfl ho1 r3 r2 (Nat.le_of_ble_eq_true rfl) rfl dL_law_156 rfl (fun v6 M6 z6 hp6 hz6 hd6 => ?_)
  obtain ⟨c, rfl, hA2⟩ := hp6
  obtain ⟨⟨fs2, ho2⟩, hV1, hV2⟩ := hV k c _ _ hA2
  refine g_istore (L' := [(6, .int c), (5, .int k), (0, .ref bs), (1, .ref x), (2, .ref o), (3, .ref qo), (4, .int (nI i))]) hX dL_law_159 (by decide) rfl ?_
  refine g_aload_n hX dL_law_161 4 rfl ?_
  refine g_callV [] hX hV1 cw_X2_thrown cv_X2_thrown lk_L_58 (ci := 2) rfl rfl ho2 ⟨by omega, by omega⟩ r2 (Nat.le_of_ble_eq_true rfl) rfl dL_law_162 rfl (fun v7 M7 z7 hp7 hz7 hd7 => ?_)
  obtain ⟨rfl, rfl, rfl⟩ := hp7
  have hk := kk k c _ _ hA2
  refine g_iload hX dL_law_165 1 rfl ?_
  refine g_icmp_eq hX 172 dL_law_167 (by decide) (fun _ => ?_) (fun h => absurd rfl h)
  refine g_iload hX dL_law_172 1 rfl ?_
  have hend : G X 9 M7 z6 (a + mc1) (b + ms1) 189 [(6, .int c), (5, .int k), (0, .ref bs), (1, .ref x), (2, .ref o), (3, .ref qo), (4, .int (nI i))] [] := by
    refine g_goto hX 931 dL_law_189 (by decide) ?_
    exact g_sub [2, 3, 4, 5, 6] rfl hk
  refine g_if_ne hX 189 dL_law_174 (by decide) (fun _ => hend) (fun h0 => ?_)
  obtain ⟨f, hf1, hf2⟩ := hV2 h0
  refine g_aload_n hX dL_law_177 5 rfl ?_
  refine g_iconst (v := 0) hX dL_law_178 (by decide) ?_
  refine g_lald hX hf1 0 rfl (by decide) (by decide) dL_law_179 ?_
  rw [hf2]
  refine g_iload hX dL_law_180 0 rfl ?_
  refine g_i2l hX dL_law_182 ?_
  refine g_lcmpE hX dL_law_183 ?_
  exact g_if_eq hX 189 dL_law_184 (by decide) (fun _ => hend) (fun h => absurd rfl h)

set_option maxHeartbeats 1000000 in
set_option maxRecDepth 100000 in
theorem law_go {X : Cx} {nm : String} (hX : Ok X (yLn nm) cL_law 9 2048 84000 630684 7204052) (hT : ThL X) {bs n : Nat} {xs : Nat → Int32} (hS : ScX X bs n xs) (hn : n ≤ 2560) {i : Nat} (hi : i + 4 < n) {M : AH} {sz a b x o qo fr1 lo1 mc1 ms1 fr2 lo2 : Nat} {A1 : Int32 → AH → Nat → Prop} {A2 : Int32 → Int32 → AH → Nat → Prop} (hH : CtN (cxl X) (cxT X) (cxD X) yL_go cL_go 4 (some .int) [(0, 9, 12, 21), (0, 9, 15, 15)] fr1 lo1 mc1 ms1 [.ref x, .int (xs (i + 1)), .ref qo] M sz (fun v M' z' => ∃ k, v = some (.int k) ∧ A1 k M' z')) (r1 : fr1 + 1 ≤ 2048 ∧ 8 + (4 + 11) + lo1 ≤ 84000) (r2 : a + mc1 ≤ 630684 ∧ b + ms1 ≤ 7204052) (hR : ∀ k M' z', A1 k M' z' → (∃ fs, M' o = some (.inr (2, fs))) ∧ Ct (cxl X) (cxT X) (cxD X) yX2_go cX2_go 4 (some .int) fr2 lo2 0 0 [.ref o, .int (xs (i + 1))] M' z' (fun v M'' z'' => ∃ c, v = some (.int c) ∧ A2 k c M'' z'')) (r3 : fr2 + 1 ≤ 2048 ∧ 8 + (4 + 11) + lo2 ≤ 84000) (hV : ∀ k c M' z', A2 k c M' z' → (∃ fs, M' o = some (.inr (2, fs))) ∧ Ct (cxl X) (cxT X) (cxD X) yX2_thrown cX2_thrown 1 (some .int) 0 0 0 0 [.ref o] M' z' (fun v M'' z'' => v = some (.int k) ∧ M'' = M' ∧ z' = z'') ∧ (k = 0 → ∃ f, M' qo = some (eL (cxT X) 1 f) ∧ f 0 = c.toInt64)) (kk : ∀ k c M' z', A2 k c M' z' → G X 9 M' z' (a + mc1) (b + ms1) 931 [(0, .ref bs), (1, .ref x), (2, .ref o), (3, .ref qo), (4, .int (nI i))] []) : G X 9 M sz a b 192 [(0, .ref bs), (1, .ref x), (2, .ref o), (3, .ref qo), (4, .int (nI i))] [] := by
  refine g_aload_n hX dL_law_192 1 rfl ?_
  refine g_aload_n hX dL_law_193 0 rfl ?_
  refine g_iload hX dL_law_194 4 rfl ?_
  refine g_iconst (v := 1) hX dL_law_196 (by decide) ?_
  refine g_iadd hX dL_law_197 ?_
  refine g_sld hX hS (i + 1) (by omega) hn (nI_add i 1) dL_law_198 ?_
  refine g_aload_n hX dL_law_199 3 rfl ?_
  refine g_callN [] hX hT hH ch_go stt_L_go lk_L_62 r1 r2 (Nat.le_of_ble_eq_true rfl) rfl dL_law_200 rfl (fun v5 M5 z5 hp5 hz5 hd5 => ?_)
  obtain ⟨k, rfl, hA1⟩ := hp5
  obtain ⟨⟨fs1, ho1⟩, hR1⟩ := hR k _ _ hA1
  refine g_istore (L' := [(5, .int k), (0, .ref bs), (1, .ref x), (2, .ref o), (3, .ref qo), (4, .int (nI i))]) hX dL_law_203 (by decide) rfl ?_
  refine g_aload_n hX dL_law_205 3 rfl ?_
  refine g_aload_n hX dL_law_206 1 rfl ?_
  refine g_iload hX dL_law_207 5 rfl ?_
  refine g_iconst (v := 1) hX dL_law_209 (by decide) ?_
  refine g_iadd hX dL_law_210 ?_
  refine g_sld hX hS (i + 1) (by omega) hn (nI_add i 1) dL_law_211 ?_
  refine g_callV [] hX hR1 cw_X2_go cv_X2_go lk_L_65 (ci := 2) rfl rfl ho1 r3 r2 (Nat.le_of_ble_eq_true rfl) rfl dL_law_212 rfl (fun v6 M6 z6 hp6 hz6 hd6 => ?_)
  obtain ⟨c, rfl, hA2⟩ := hp6
  obtain ⟨⟨fs2, ho2⟩, hV1, hV2⟩ := hV k c _ _ hA2
  refine g_istore (L' := [(6, .int c), (5, .int k), (0, .ref bs), (1, .ref x), (2, .ref o), (3, .ref qo), (4, .int (nI i))]) hX dL_law_215 (by decide) rfl ?_
  refine g_aload_n hX dL_law_217 4 rfl ?_
  refine g_callV [] hX hV1 cw_X2_thrown cv_X2_thrown lk_L_58 (ci := 2) rfl rfl ho2 ⟨by omega, by omega⟩ r2 (Nat.le_of_ble_eq_true rfl) rfl dL_law_218 rfl (fun v7 M7 z7 hp7 hz7 hd7 => ?_)
  obtain ⟨rfl, rfl, rfl⟩ := hp7
  have hk := kk k c _ _ hA2
  refine g_iload hX dL_law_221 1 rfl ?_
  refine g_icmp_eq hX 228 dL_law_223 (by decide) (fun _ => ?_) (fun h => absurd rfl h)
  refine g_iload hX dL_law_228 1 rfl ?_
  have hend : G X 9 M7 z6 (a + mc1) (b + ms1) 245 [(6, .int c), (5, .int k), (0, .ref bs), (1, .ref x), (2, .ref o), (3, .ref qo), (4, .int (nI i))] [] := by
    refine g_goto hX 931 dL_law_245 (by decide) ?_
    exact g_sub [2, 3, 4, 5, 6] rfl hk
  refine g_if_ne hX 245 dL_law_230 (by decide) (fun _ => hend) (fun h0 => ?_)
  obtain ⟨f, hf1, hf2⟩ := hV2 h0
  refine g_aload_n hX dL_law_233 5 rfl ?_
  refine g_iconst (v := 0) hX dL_law_234 (by decide) ?_
  refine g_lald hX hf1 0 rfl (by decide) (by decide) dL_law_235 ?_
  rw [hf2]
  refine g_iload hX dL_law_236 0 rfl ?_
  refine g_i2l hX dL_law_238 ?_
  refine g_lcmpE hX dL_law_239 ?_
  exact g_if_eq hX 245 dL_law_240 (by decide) (fun _ => hend) (fun h => absurd rfl h)

set_option maxHeartbeats 1000000 in
set_option maxRecDepth 100000 in
theorem law_told {X : Cx} {nm : String} (hX : Ok X (yLn nm) cL_law 9 2048 84000 630684 7204052) (hT : ThL X) {bs n : Nat} {xs : Nat → Int32} (hS : ScX X bs n xs) (hn : n ≤ 2560) {i : Nat} (hi : i + 4 < n) {M : AH} {sz a b x o qo fr1 lo1 mc1 ms1 fr2 lo2 : Nat} {A1 : Int32 → AH → Nat → Prop} {A2 : Int32 → Int32 → AH → Nat → Prop} (hH : CtN (cxl X) (cxT X) (cxD X) yL_told cL_told 5 (some .int) [(0, 10, 13, 21)] fr1 lo1 mc1 ms1 [.ref x, .int (xs (i + 1)), .int (xs (i + 2)), .ref qo] M sz (fun v M' z' => ∃ k, v = some (.int k) ∧ A1 k M' z')) (r1 : fr1 + 1 ≤ 2048 ∧ 8 + (5 + 11) + lo1 ≤ 84000) (r2 : a + mc1 ≤ 630684 ∧ b + ms1 ≤ 7204052) (hR : ∀ k M' z', A1 k M' z' → (∃ fs, M' o = some (.inr (2, fs))) ∧ Ct (cxl X) (cxT X) (cxD X) yX2_told cX2_told 3 (some .int) fr2 lo2 0 0 [.ref o, .int (xs (i + 1)), .int (xs (i + 2))] M' z' (fun v M'' z'' => ∃ c, v = some (.int c) ∧ A2 k c M'' z'')) (r3 : fr2 + 1 ≤ 2048 ∧ 8 + (3 + 11) + lo2 ≤ 84000) (hV : ∀ k c M' z', A2 k c M' z' → (∃ fs, M' o = some (.inr (2, fs))) ∧ Ct (cxl X) (cxT X) (cxD X) yX2_thrown cX2_thrown 1 (some .int) 0 0 0 0 [.ref o] M' z' (fun v M'' z'' => v = some (.int k) ∧ M'' = M' ∧ z' = z'') ∧ (k = 0 → ∃ f, M' qo = some (eL (cxT X) 1 f) ∧ f 0 = c.toInt64)) (kk : ∀ k c M' z', A2 k c M' z' → G X 9 M' z' (a + mc1) (b + ms1) 931 [(0, .ref bs), (1, .ref x), (2, .ref o), (3, .ref qo), (4, .int (nI i))] []) : G X 9 M sz a b 248 [(0, .ref bs), (1, .ref x), (2, .ref o), (3, .ref qo), (4, .int (nI i))] [] := by
  refine g_aload_n hX dL_law_248 1 rfl ?_
  refine g_aload_n hX dL_law_249 0 rfl ?_
  refine g_iload hX dL_law_250 4 rfl ?_
  refine g_iconst (v := 1) hX dL_law_252 (by decide) ?_
  refine g_iadd hX dL_law_253 ?_
  refine g_sld hX hS (i + 1) (by omega) hn (nI_add i 1) dL_law_254 ?_
  refine g_aload_n hX dL_law_255 0 rfl ?_
  refine g_iload hX dL_law_256 4 rfl ?_
  refine g_iconst (v := 2) hX dL_law_258 (by decide) ?_
  refine g_iadd hX dL_law_259 ?_
  refine g_sld hX hS (i + 2) (by omega) hn (nI_add i 2) dL_law_260 ?_
  refine g_aload_n hX dL_law_261 3 rfl ?_
  refine g_callN [] hX hT hH ch_told stt_L_told lk_L_66 r1 r2 (Nat.le_of_ble_eq_true rfl) rfl dL_law_262 rfl (fun v5 M5 z5 hp5 hz5 hd5 => ?_)
  obtain ⟨k, rfl, hA1⟩ := hp5
  obtain ⟨⟨fs1, ho1⟩, hR1⟩ := hR k _ _ hA1
  refine g_istore (L' := [(5, .int k), (0, .ref bs), (1, .ref x), (2, .ref o), (3, .ref qo), (4, .int (nI i))]) hX dL_law_265 (by decide) rfl ?_
  refine g_aload_n hX dL_law_267 3 rfl ?_
  refine g_aload_n hX dL_law_268 1 rfl ?_
  refine g_iload hX dL_law_269 5 rfl ?_
  refine g_iconst (v := 1) hX dL_law_271 (by decide) ?_
  refine g_iadd hX dL_law_272 ?_
  refine g_sld hX hS (i + 1) (by omega) hn (nI_add i 1) dL_law_273 ?_
  refine g_aload_n hX dL_law_274 1 rfl ?_
  refine g_iload hX dL_law_275 5 rfl ?_
  refine g_iconst (v := 2) hX dL_law_277 (by decide) ?_
  refine g_iadd hX dL_law_278 ?_
  refine g_sld hX hS (i + 2) (by omega) hn (nI_add i 2) dL_law_279 ?_
  refine g_callV [] hX hR1 cw_X2_told cv_X2_told lk_L_69 (ci := 2) rfl rfl ho1 r3 r2 (Nat.le_of_ble_eq_true rfl) rfl dL_law_280 rfl (fun v6 M6 z6 hp6 hz6 hd6 => ?_)
  obtain ⟨c, rfl, hA2⟩ := hp6
  obtain ⟨⟨fs2, ho2⟩, hV1, hV2⟩ := hV k c _ _ hA2
  refine g_istore (L' := [(6, .int c), (5, .int k), (0, .ref bs), (1, .ref x), (2, .ref o), (3, .ref qo), (4, .int (nI i))]) hX dL_law_283 (by decide) rfl ?_
  refine g_aload_n hX dL_law_285 4 rfl ?_
  refine g_callV [] hX hV1 cw_X2_thrown cv_X2_thrown lk_L_58 (ci := 2) rfl rfl ho2 ⟨by omega, by omega⟩ r2 (Nat.le_of_ble_eq_true rfl) rfl dL_law_286 rfl (fun v7 M7 z7 hp7 hz7 hd7 => ?_)
  obtain ⟨rfl, rfl, rfl⟩ := hp7
  have hk := kk k c _ _ hA2
  refine g_iload hX dL_law_289 1 rfl ?_
  refine g_icmp_eq hX 296 dL_law_291 (by decide) (fun _ => ?_) (fun h => absurd rfl h)
  refine g_iload hX dL_law_296 1 rfl ?_
  have hend : G X 9 M7 z6 (a + mc1) (b + ms1) 313 [(6, .int c), (5, .int k), (0, .ref bs), (1, .ref x), (2, .ref o), (3, .ref qo), (4, .int (nI i))] [] := by
    refine g_goto hX 931 dL_law_313 (by decide) ?_
    exact g_sub [2, 3, 4, 5, 6] rfl hk
  refine g_if_ne hX 313 dL_law_298 (by decide) (fun _ => hend) (fun h0 => ?_)
  obtain ⟨f, hf1, hf2⟩ := hV2 h0
  refine g_aload_n hX dL_law_301 5 rfl ?_
  refine g_iconst (v := 0) hX dL_law_302 (by decide) ?_
  refine g_lald hX hf1 0 rfl (by decide) (by decide) dL_law_303 ?_
  rw [hf2]
  refine g_iload hX dL_law_304 0 rfl ?_
  refine g_i2l hX dL_law_306 ?_
  refine g_lcmpE hX dL_law_307 ?_
  exact g_if_eq hX 313 dL_law_308 (by decide) (fun _ => hend) (fun h => absurd rfl h)

set_option maxHeartbeats 1000000 in
set_option maxRecDepth 100000 in
theorem law_way {X : Cx} {nm : String} (hX : Ok X (yLn nm) cL_law 9 2048 84000 630684 7204052) (hT : ThL X) {bs n : Nat} {xs : Nat → Int32} (hS : ScX X bs n xs) (hn : n ≤ 2560) {i : Nat} (hi : i + 4 < n) {M : AH} {sz a b x o qo fr1 lo1 mc1 ms1 fr2 lo2 : Nat} {A1 : Int32 → AH → Nat → Prop} {A2 : Int32 → Int32 → AH → Nat → Prop} (hH : CtN (cxl X) (cxT X) (cxD X) yL_way cL_way 5 (some .int) [(0, 10, 13, 21)] fr1 lo1 mc1 ms1 [.ref x, .int (xs (i + 1)), .int (xs (i + 2)), .ref qo] M sz (fun v M' z' => ∃ k, v = some (.int k) ∧ A1 k M' z')) (r1 : fr1 + 1 ≤ 2048 ∧ 8 + (5 + 11) + lo1 ≤ 84000) (r2 : a + mc1 ≤ 630684 ∧ b + ms1 ≤ 7204052) (hR : ∀ k M' z', A1 k M' z' → (∃ fs, M' o = some (.inr (2, fs))) ∧ Ct (cxl X) (cxT X) (cxD X) yX2_way cX2_way 3 (some .int) fr2 lo2 0 0 [.ref o, .int (xs (i + 1)), .int (xs (i + 2))] M' z' (fun v M'' z'' => ∃ c, v = some (.int c) ∧ A2 k c M'' z'')) (r3 : fr2 + 1 ≤ 2048 ∧ 8 + (3 + 11) + lo2 ≤ 84000) (hV : ∀ k c M' z', A2 k c M' z' → (∃ fs, M' o = some (.inr (2, fs))) ∧ Ct (cxl X) (cxT X) (cxD X) yX2_thrown cX2_thrown 1 (some .int) 0 0 0 0 [.ref o] M' z' (fun v M'' z'' => v = some (.int k) ∧ M'' = M' ∧ z' = z'') ∧ (k = 0 → ∃ f, M' qo = some (eL (cxT X) 1 f) ∧ f 0 = c.toInt64)) (kk : ∀ k c M' z', A2 k c M' z' → G X 9 M' z' (a + mc1) (b + ms1) 931 [(0, .ref bs), (1, .ref x), (2, .ref o), (3, .ref qo), (4, .int (nI i))] []) : G X 9 M sz a b 316 [(0, .ref bs), (1, .ref x), (2, .ref o), (3, .ref qo), (4, .int (nI i))] [] := by
  refine g_aload_n hX dL_law_316 1 rfl ?_
  refine g_aload_n hX dL_law_317 0 rfl ?_
  refine g_iload hX dL_law_318 4 rfl ?_
  refine g_iconst (v := 1) hX dL_law_320 (by decide) ?_
  refine g_iadd hX dL_law_321 ?_
  refine g_sld hX hS (i + 1) (by omega) hn (nI_add i 1) dL_law_322 ?_
  refine g_aload_n hX dL_law_323 0 rfl ?_
  refine g_iload hX dL_law_324 4 rfl ?_
  refine g_iconst (v := 2) hX dL_law_326 (by decide) ?_
  refine g_iadd hX dL_law_327 ?_
  refine g_sld hX hS (i + 2) (by omega) hn (nI_add i 2) dL_law_328 ?_
  refine g_aload_n hX dL_law_329 3 rfl ?_
  refine g_callN [] hX hT hH ch_way stt_L_way lk_L_70 r1 r2 (Nat.le_of_ble_eq_true rfl) rfl dL_law_330 rfl (fun v5 M5 z5 hp5 hz5 hd5 => ?_)
  obtain ⟨k, rfl, hA1⟩ := hp5
  obtain ⟨⟨fs1, ho1⟩, hR1⟩ := hR k _ _ hA1
  refine g_istore (L' := [(5, .int k), (0, .ref bs), (1, .ref x), (2, .ref o), (3, .ref qo), (4, .int (nI i))]) hX dL_law_333 (by decide) rfl ?_
  refine g_aload_n hX dL_law_335 3 rfl ?_
  refine g_aload_n hX dL_law_336 1 rfl ?_
  refine g_iload hX dL_law_337 5 rfl ?_
  refine g_iconst (v := 1) hX dL_law_339 (by decide) ?_
  refine g_iadd hX dL_law_340 ?_
  refine g_sld hX hS (i + 1) (by omega) hn (nI_add i 1) dL_law_341 ?_
  refine g_aload_n hX dL_law_342 1 rfl ?_
  refine g_iload hX dL_law_343 5 rfl ?_
  refine g_iconst (v := 2) hX dL_law_345 (by decide) ?_
  refine g_iadd hX dL_law_346 ?_
  refine g_sld hX hS (i + 2) (by omega) hn (nI_add i 2) dL_law_347 ?_
  refine g_callV [] hX hR1 cw_X2_way cv_X2_way lk_L_72 (ci := 2) rfl rfl ho1 r3 r2 (Nat.le_of_ble_eq_true rfl) rfl dL_law_348 rfl (fun v6 M6 z6 hp6 hz6 hd6 => ?_)
  obtain ⟨c, rfl, hA2⟩ := hp6
  obtain ⟨⟨fs2, ho2⟩, hV1, hV2⟩ := hV k c _ _ hA2
  refine g_istore (L' := [(6, .int c), (5, .int k), (0, .ref bs), (1, .ref x), (2, .ref o), (3, .ref qo), (4, .int (nI i))]) hX dL_law_351 (by decide) rfl ?_
  refine g_aload_n hX dL_law_353 4 rfl ?_
  refine g_callV [] hX hV1 cw_X2_thrown cv_X2_thrown lk_L_58 (ci := 2) rfl rfl ho2 ⟨by omega, by omega⟩ r2 (Nat.le_of_ble_eq_true rfl) rfl dL_law_354 rfl (fun v7 M7 z7 hp7 hz7 hd7 => ?_)
  obtain ⟨rfl, rfl, rfl⟩ := hp7
  have hk := kk k c _ _ hA2
  refine g_iload hX dL_law_357 1 rfl ?_
  refine g_icmp_eq hX 364 dL_law_359 (by decide) (fun _ => ?_) (fun h => absurd rfl h)
  refine g_iload hX dL_law_364 1 rfl ?_
  have hend : G X 9 M7 z6 (a + mc1) (b + ms1) 381 [(6, .int c), (5, .int k), (0, .ref bs), (1, .ref x), (2, .ref o), (3, .ref qo), (4, .int (nI i))] [] := by
    refine g_goto hX 931 dL_law_381 (by decide) ?_
    exact g_sub [2, 3, 4, 5, 6] rfl hk
  refine g_if_ne hX 381 dL_law_366 (by decide) (fun _ => hend) (fun h0 => ?_)
  obtain ⟨f, hf1, hf2⟩ := hV2 h0
  refine g_aload_n hX dL_law_369 5 rfl ?_
  refine g_iconst (v := 0) hX dL_law_370 (by decide) ?_
  refine g_lald hX hf1 0 rfl (by decide) (by decide) dL_law_371 ?_
  rw [hf2]
  refine g_iload hX dL_law_372 0 rfl ?_
  refine g_i2l hX dL_law_374 ?_
  refine g_lcmpE hX dL_law_375 ?_
  exact g_if_eq hX 381 dL_law_376 (by decide) (fun _ => hend) (fun h => absurd rfl h)

set_option maxHeartbeats 1000000 in
set_option maxRecDepth 100000 in
theorem law_overlaps {X : Cx} {nm : String} (hX : Ok X (yLn nm) cL_law 9 2048 84000 630684 7204052) (hT : ThL X) {bs n : Nat} {xs : Nat → Int32} (hS : ScX X bs n xs) (hn : n ≤ 2560) {i : Nat} (hi : i + 4 < n) {M : AH} {sz a b x o qo fr1 lo1 mc1 ms1 fr2 lo2 : Nat} {A1 : Int32 → AH → Nat → Prop} {A2 : Int32 → Int32 → AH → Nat → Prop} (hH : CtN (cxl X) (cxT X) (cxD X) yL_overlaps cL_overlaps 7 (some .int) [(0, 14, 17, 13)] fr1 lo1 mc1 ms1 [.ref x, .int (xs (i + 1)), .int (xs (i + 2)), .int (xs (i + 3)), .int (xs (i + 4)), .ref qo] M sz (fun v M' z' => ∃ k, v = some (.int k) ∧ A1 k M' z')) (r1 : fr1 + 1 ≤ 2048 ∧ 8 + (7 + 11) + lo1 ≤ 84000) (r2 : a + mc1 ≤ 630684 ∧ b + ms1 ≤ 7204052) (hR : ∀ k M' z', A1 k M' z' → (∃ fs, M' o = some (.inr (2, fs))) ∧ Ct (cxl X) (cxT X) (cxD X) yX2_overlaps cX2_overlaps 5 (some .int) fr2 lo2 0 0 [.ref o, .int (xs (i + 1)), .int (xs (i + 2)), .int (xs (i + 3)), .int (xs (i + 4))] M' z' (fun v M'' z'' => ∃ c, v = some (.int c) ∧ A2 k c M'' z'')) (r3 : fr2 + 1 ≤ 2048 ∧ 8 + (5 + 11) + lo2 ≤ 84000) (hV : ∀ k c M' z', A2 k c M' z' → (∃ fs, M' o = some (.inr (2, fs))) ∧ Ct (cxl X) (cxT X) (cxD X) yX2_thrown cX2_thrown 1 (some .int) 0 0 0 0 [.ref o] M' z' (fun v M'' z'' => v = some (.int k) ∧ M'' = M' ∧ z' = z'') ∧ (k = 0 → ∃ f, M' qo = some (eL (cxT X) 1 f) ∧ f 0 = c.toInt64)) (kk : ∀ k c M' z', A2 k c M' z' → G X 9 M' z' (a + mc1) (b + ms1) 931 [(0, .ref bs), (1, .ref x), (2, .ref o), (3, .ref qo), (4, .int (nI i))] []) : G X 9 M sz a b 384 [(0, .ref bs), (1, .ref x), (2, .ref o), (3, .ref qo), (4, .int (nI i))] [] := by
  refine g_aload_n hX dL_law_384 1 rfl ?_
  refine g_aload_n hX dL_law_385 0 rfl ?_
  refine g_iload hX dL_law_386 4 rfl ?_
  refine g_iconst (v := 1) hX dL_law_388 (by decide) ?_
  refine g_iadd hX dL_law_389 ?_
  refine g_sld hX hS (i + 1) (by omega) hn (nI_add i 1) dL_law_390 ?_
  refine g_aload_n hX dL_law_391 0 rfl ?_
  refine g_iload hX dL_law_392 4 rfl ?_
  refine g_iconst (v := 2) hX dL_law_394 (by decide) ?_
  refine g_iadd hX dL_law_395 ?_
  refine g_sld hX hS (i + 2) (by omega) hn (nI_add i 2) dL_law_396 ?_
  refine g_aload_n hX dL_law_397 0 rfl ?_
  refine g_iload hX dL_law_398 4 rfl ?_
  refine g_iconst (v := 3) hX dL_law_400 (by decide) ?_
  refine g_iadd hX dL_law_401 ?_
  refine g_sld hX hS (i + 3) (by omega) hn (nI_add i 3) dL_law_402 ?_
  refine g_aload_n hX dL_law_403 0 rfl ?_
  refine g_iload hX dL_law_404 4 rfl ?_
  refine g_iconst (v := 4) hX dL_law_406 (by decide) ?_
  refine g_iadd hX dL_law_407 ?_
  refine g_sld hX hS (i + 4) (by omega) hn (nI_add i 4) dL_law_408 ?_
  refine g_aload_n hX dL_law_409 3 rfl ?_
  refine g_callN [] hX hT hH ch_overlaps stt_L_overlaps lk_L_73 r1 r2 (Nat.le_of_ble_eq_true rfl) rfl dL_law_410 rfl (fun v5 M5 z5 hp5 hz5 hd5 => ?_)
  obtain ⟨k, rfl, hA1⟩ := hp5
  obtain ⟨⟨fs1, ho1⟩, hR1⟩ := hR k _ _ hA1
  refine g_istore (L' := [(5, .int k), (0, .ref bs), (1, .ref x), (2, .ref o), (3, .ref qo), (4, .int (nI i))]) hX dL_law_413 (by decide) rfl ?_
  refine g_aload_n hX dL_law_415 3 rfl ?_
  refine g_aload_n hX dL_law_416 1 rfl ?_
  refine g_iload hX dL_law_417 5 rfl ?_
  refine g_iconst (v := 1) hX dL_law_419 (by decide) ?_
  refine g_iadd hX dL_law_420 ?_
  refine g_sld hX hS (i + 1) (by omega) hn (nI_add i 1) dL_law_421 ?_
  refine g_aload_n hX dL_law_422 1 rfl ?_
  refine g_iload hX dL_law_423 5 rfl ?_
  refine g_iconst (v := 2) hX dL_law_425 (by decide) ?_
  refine g_iadd hX dL_law_426 ?_
  refine g_sld hX hS (i + 2) (by omega) hn (nI_add i 2) dL_law_427 ?_
  refine g_aload_n hX dL_law_428 1 rfl ?_
  refine g_iload hX dL_law_429 5 rfl ?_
  refine g_iconst (v := 3) hX dL_law_431 (by decide) ?_
  refine g_iadd hX dL_law_432 ?_
  refine g_sld hX hS (i + 3) (by omega) hn (nI_add i 3) dL_law_433 ?_
  refine g_aload_n hX dL_law_434 1 rfl ?_
  refine g_iload hX dL_law_435 5 rfl ?_
  refine g_iconst (v := 4) hX dL_law_437 (by decide) ?_
  refine g_iadd hX dL_law_438 ?_
  refine g_sld hX hS (i + 4) (by omega) hn (nI_add i 4) dL_law_439 ?_
  refine g_callV [] hX hR1 cw_X2_overlaps cv_X2_overlaps lk_L_75 (ci := 2) rfl rfl ho1 r3 r2 (Nat.le_of_ble_eq_true rfl) rfl dL_law_440 rfl (fun v6 M6 z6 hp6 hz6 hd6 => ?_)
  obtain ⟨c, rfl, hA2⟩ := hp6
  obtain ⟨⟨fs2, ho2⟩, hV1, hV2⟩ := hV k c _ _ hA2
  refine g_istore (L' := [(6, .int c), (5, .int k), (0, .ref bs), (1, .ref x), (2, .ref o), (3, .ref qo), (4, .int (nI i))]) hX dL_law_443 (by decide) rfl ?_
  refine g_aload_n hX dL_law_445 4 rfl ?_
  refine g_callV [] hX hV1 cw_X2_thrown cv_X2_thrown lk_L_58 (ci := 2) rfl rfl ho2 ⟨by omega, by omega⟩ r2 (Nat.le_of_ble_eq_true rfl) rfl dL_law_446 rfl (fun v7 M7 z7 hp7 hz7 hd7 => ?_)
  obtain ⟨rfl, rfl, rfl⟩ := hp7
  have hk := kk k c _ _ hA2
  refine g_iload hX dL_law_449 1 rfl ?_
  refine g_icmp_eq hX 456 dL_law_451 (by decide) (fun _ => ?_) (fun h => absurd rfl h)
  refine g_iload hX dL_law_456 1 rfl ?_
  have hend : G X 9 M7 z6 (a + mc1) (b + ms1) 473 [(6, .int c), (5, .int k), (0, .ref bs), (1, .ref x), (2, .ref o), (3, .ref qo), (4, .int (nI i))] [] := by
    refine g_goto hX 931 dL_law_473 (by decide) ?_
    exact g_sub [2, 3, 4, 5, 6] rfl hk
  refine g_if_ne hX 473 dL_law_458 (by decide) (fun _ => hend) (fun h0 => ?_)
  obtain ⟨f, hf1, hf2⟩ := hV2 h0
  refine g_aload_n hX dL_law_461 5 rfl ?_
  refine g_iconst (v := 0) hX dL_law_462 (by decide) ?_
  refine g_lald hX hf1 0 rfl (by decide) (by decide) dL_law_463 ?_
  rw [hf2]
  refine g_iload hX dL_law_464 0 rfl ?_
  refine g_i2l hX dL_law_466 ?_
  refine g_lcmpE hX dL_law_467 ?_
  exact g_if_eq hX 473 dL_law_468 (by decide) (fun _ => hend) (fun h => absurd rfl h)

set_option maxHeartbeats 1000000 in
set_option maxRecDepth 100000 in
theorem law_looks {X : Cx} {nm : String} (hX : Ok X (yLn nm) cL_law 9 2048 84000 630684 7204052) (hT : ThL X) {bs n : Nat} {xs : Nat → Int32} (hS : ScX X bs n xs) (hn : n ≤ 2560) {i : Nat} (hi : i + 4 < n) {M : AH} {sz a b x o qo fr1 lo1 mc1 ms1 fr2 lo2 : Nat} {A1 : Int32 → AH → Nat → Prop} {A2 : Int32 → Int32 → AH → Nat → Prop} (hH : CtN (cxl X) (cxT X) (cxD X) yL_looks cL_looks 7 (some .int) [(0, 14, 17, 13)] fr1 lo1 mc1 ms1 [.ref x, .int (xs (i + 1)), .int (xs (i + 2)), .int (xs (i + 3)), .int (xs (i + 4)), .ref qo] M sz (fun v M' z' => ∃ k, v = some (.int k) ∧ A1 k M' z')) (r1 : fr1 + 1 ≤ 2048 ∧ 8 + (7 + 11) + lo1 ≤ 84000) (r2 : a + mc1 ≤ 630684 ∧ b + ms1 ≤ 7204052) (hR : ∀ k M' z', A1 k M' z' → (∃ fs, M' o = some (.inr (2, fs))) ∧ Ct (cxl X) (cxT X) (cxD X) yX2_looks cX2_looks 5 (some .int) fr2 lo2 0 0 [.ref o, .int (xs (i + 1)), .int (xs (i + 2)), .int (xs (i + 3)), .int (xs (i + 4))] M' z' (fun v M'' z'' => ∃ c, v = some (.int c) ∧ A2 k c M'' z'')) (r3 : fr2 + 1 ≤ 2048 ∧ 8 + (5 + 11) + lo2 ≤ 84000) (hV : ∀ k c M' z', A2 k c M' z' → (∃ fs, M' o = some (.inr (2, fs))) ∧ Ct (cxl X) (cxT X) (cxD X) yX2_thrown cX2_thrown 1 (some .int) 0 0 0 0 [.ref o] M' z' (fun v M'' z'' => v = some (.int k) ∧ M'' = M' ∧ z' = z'') ∧ (k = 0 → ∃ f, M' qo = some (eL (cxT X) 1 f) ∧ f 0 = c.toInt64)) (kk : ∀ k c M' z', A2 k c M' z' → G X 9 M' z' (a + mc1) (b + ms1) 931 [(0, .ref bs), (1, .ref x), (2, .ref o), (3, .ref qo), (4, .int (nI i))] []) : G X 9 M sz a b 476 [(0, .ref bs), (1, .ref x), (2, .ref o), (3, .ref qo), (4, .int (nI i))] [] := by
  refine g_aload_n hX dL_law_476 1 rfl ?_
  refine g_aload_n hX dL_law_477 0 rfl ?_
  refine g_iload hX dL_law_478 4 rfl ?_
  refine g_iconst (v := 1) hX dL_law_480 (by decide) ?_
  refine g_iadd hX dL_law_481 ?_
  refine g_sld hX hS (i + 1) (by omega) hn (nI_add i 1) dL_law_482 ?_
  refine g_aload_n hX dL_law_483 0 rfl ?_
  refine g_iload hX dL_law_484 4 rfl ?_
  refine g_iconst (v := 2) hX dL_law_486 (by decide) ?_
  refine g_iadd hX dL_law_487 ?_
  refine g_sld hX hS (i + 2) (by omega) hn (nI_add i 2) dL_law_488 ?_
  refine g_aload_n hX dL_law_489 0 rfl ?_
  refine g_iload hX dL_law_490 4 rfl ?_
  refine g_iconst (v := 3) hX dL_law_492 (by decide) ?_
  refine g_iadd hX dL_law_493 ?_
  refine g_sld hX hS (i + 3) (by omega) hn (nI_add i 3) dL_law_494 ?_
  refine g_aload_n hX dL_law_495 0 rfl ?_
  refine g_iload hX dL_law_496 4 rfl ?_
  refine g_iconst (v := 4) hX dL_law_498 (by decide) ?_
  refine g_iadd hX dL_law_499 ?_
  refine g_sld hX hS (i + 4) (by omega) hn (nI_add i 4) dL_law_500 ?_
  refine g_aload_n hX dL_law_501 3 rfl ?_
  refine g_callN [] hX hT hH ch_looks stt_L_looks lk_L_76 r1 r2 (Nat.le_of_ble_eq_true rfl) rfl dL_law_502 rfl (fun v5 M5 z5 hp5 hz5 hd5 => ?_)
  obtain ⟨k, rfl, hA1⟩ := hp5
  obtain ⟨⟨fs1, ho1⟩, hR1⟩ := hR k _ _ hA1
  refine g_istore (L' := [(5, .int k), (0, .ref bs), (1, .ref x), (2, .ref o), (3, .ref qo), (4, .int (nI i))]) hX dL_law_505 (by decide) rfl ?_
  refine g_aload_n hX dL_law_507 3 rfl ?_
  refine g_aload_n hX dL_law_508 1 rfl ?_
  refine g_iload hX dL_law_509 5 rfl ?_
  refine g_iconst (v := 1) hX dL_law_511 (by decide) ?_
  refine g_iadd hX dL_law_512 ?_
  refine g_sld hX hS (i + 1) (by omega) hn (nI_add i 1) dL_law_513 ?_
  refine g_aload_n hX dL_law_514 1 rfl ?_
  refine g_iload hX dL_law_515 5 rfl ?_
  refine g_iconst (v := 2) hX dL_law_517 (by decide) ?_
  refine g_iadd hX dL_law_518 ?_
  refine g_sld hX hS (i + 2) (by omega) hn (nI_add i 2) dL_law_519 ?_
  refine g_aload_n hX dL_law_520 1 rfl ?_
  refine g_iload hX dL_law_521 5 rfl ?_
  refine g_iconst (v := 3) hX dL_law_523 (by decide) ?_
  refine g_iadd hX dL_law_524 ?_
  refine g_sld hX hS (i + 3) (by omega) hn (nI_add i 3) dL_law_525 ?_
  refine g_aload_n hX dL_law_526 1 rfl ?_
  refine g_iload hX dL_law_527 5 rfl ?_
  refine g_iconst (v := 4) hX dL_law_529 (by decide) ?_
  refine g_iadd hX dL_law_530 ?_
  refine g_sld hX hS (i + 4) (by omega) hn (nI_add i 4) dL_law_531 ?_
  refine g_callV [] hX hR1 cw_X2_looks cv_X2_looks lk_L_78 (ci := 2) rfl rfl ho1 r3 r2 (Nat.le_of_ble_eq_true rfl) rfl dL_law_532 rfl (fun v6 M6 z6 hp6 hz6 hd6 => ?_)
  obtain ⟨c, rfl, hA2⟩ := hp6
  obtain ⟨⟨fs2, ho2⟩, hV1, hV2⟩ := hV k c _ _ hA2
  refine g_istore (L' := [(6, .int c), (5, .int k), (0, .ref bs), (1, .ref x), (2, .ref o), (3, .ref qo), (4, .int (nI i))]) hX dL_law_535 (by decide) rfl ?_
  refine g_aload_n hX dL_law_537 4 rfl ?_
  refine g_callV [] hX hV1 cw_X2_thrown cv_X2_thrown lk_L_58 (ci := 2) rfl rfl ho2 ⟨by omega, by omega⟩ r2 (Nat.le_of_ble_eq_true rfl) rfl dL_law_538 rfl (fun v7 M7 z7 hp7 hz7 hd7 => ?_)
  obtain ⟨rfl, rfl, rfl⟩ := hp7
  have hk := kk k c _ _ hA2
  refine g_iload hX dL_law_541 1 rfl ?_
  refine g_icmp_eq hX 548 dL_law_543 (by decide) (fun _ => ?_) (fun h => absurd rfl h)
  refine g_iload hX dL_law_548 1 rfl ?_
  have hend : G X 9 M7 z6 (a + mc1) (b + ms1) 565 [(6, .int c), (5, .int k), (0, .ref bs), (1, .ref x), (2, .ref o), (3, .ref qo), (4, .int (nI i))] [] := by
    refine g_goto hX 931 dL_law_565 (by decide) ?_
    exact g_sub [2, 3, 4, 5, 6] rfl hk
  refine g_if_ne hX 565 dL_law_550 (by decide) (fun _ => hend) (fun h0 => ?_)
  obtain ⟨f, hf1, hf2⟩ := hV2 h0
  refine g_aload_n hX dL_law_553 5 rfl ?_
  refine g_iconst (v := 0) hX dL_law_554 (by decide) ?_
  refine g_lald hX hf1 0 rfl (by decide) (by decide) dL_law_555 ?_
  rw [hf2]
  refine g_iload hX dL_law_556 0 rfl ?_
  refine g_i2l hX dL_law_558 ?_
  refine g_lcmpE hX dL_law_559 ?_
  exact g_if_eq hX 565 dL_law_560 (by decide) (fun _ => hend) (fun h => absurd rfl h)

set_option maxHeartbeats 1000000 in
set_option maxRecDepth 100000 in
theorem law_nearest {X : Cx} {nm : String} (hX : Ok X (yLn nm) cL_law 9 2048 84000 630684 7204052) (hT : ThL X) {bs n : Nat} {xs : Nat → Int32} (hS : ScX X bs n xs) (hn : n ≤ 2560) {i : Nat} (hi : i + 4 < n) {M : AH} {sz a b x o qo fr1 lo1 mc1 ms1 fr2 lo2 : Nat} {A1 : Int32 → AH → Nat → Prop} {A2 : Int32 → Int32 → AH → Nat → Prop} (hH : CtN (cxl X) (cxT X) (cxD X) yL_nearest cL_nearest 5 (some .int) [(0, 10, 13, 13)] fr1 lo1 mc1 ms1 [.ref x, .int (xs (i + 1)), .int (xs (i + 2)), .ref qo] M sz (fun v M' z' => ∃ k, v = some (.int k) ∧ A1 k M' z')) (r1 : fr1 + 1 ≤ 2048 ∧ 8 + (5 + 11) + lo1 ≤ 84000) (r2 : a + mc1 ≤ 630684 ∧ b + ms1 ≤ 7204052) (hR : ∀ k M' z', A1 k M' z' → (∃ fs, M' o = some (.inr (2, fs))) ∧ Ct (cxl X) (cxT X) (cxD X) yX2_nearest cX2_nearest 5 (some .int) fr2 lo2 0 0 [.ref o, .int (xs (i + 1)), .int (xs (i + 2))] M' z' (fun v M'' z'' => ∃ c, v = some (.int c) ∧ A2 k c M'' z'')) (r3 : fr2 + 1 ≤ 2048 ∧ 8 + (5 + 11) + lo2 ≤ 84000) (hV : ∀ k c M' z', A2 k c M' z' → (∃ fs, M' o = some (.inr (2, fs))) ∧ Ct (cxl X) (cxT X) (cxD X) yX2_thrown cX2_thrown 1 (some .int) 0 0 0 0 [.ref o] M' z' (fun v M'' z'' => v = some (.int k) ∧ M'' = M' ∧ z' = z'') ∧ (k = 0 → ∃ f, M' qo = some (eL (cxT X) 1 f) ∧ f 0 = c.toInt64)) (kk : ∀ k c M' z', A2 k c M' z' → G X 9 M' z' (a + mc1) (b + ms1) 931 [(0, .ref bs), (1, .ref x), (2, .ref o), (3, .ref qo), (4, .int (nI i))] []) : G X 9 M sz a b 568 [(0, .ref bs), (1, .ref x), (2, .ref o), (3, .ref qo), (4, .int (nI i))] [] := by
  refine g_aload_n hX dL_law_568 1 rfl ?_
  refine g_aload_n hX dL_law_569 0 rfl ?_
  refine g_iload hX dL_law_570 4 rfl ?_
  refine g_iconst (v := 1) hX dL_law_572 (by decide) ?_
  refine g_iadd hX dL_law_573 ?_
  refine g_sld hX hS (i + 1) (by omega) hn (nI_add i 1) dL_law_574 ?_
  refine g_aload_n hX dL_law_575 0 rfl ?_
  refine g_iload hX dL_law_576 4 rfl ?_
  refine g_iconst (v := 2) hX dL_law_578 (by decide) ?_
  refine g_iadd hX dL_law_579 ?_
  refine g_sld hX hS (i + 2) (by omega) hn (nI_add i 2) dL_law_580 ?_
  refine g_aload_n hX dL_law_581 3 rfl ?_
  refine g_callN [] hX hT hH ch_nearest stt_L_nearest lk_L_79 r1 r2 (Nat.le_of_ble_eq_true rfl) rfl dL_law_582 rfl (fun v5 M5 z5 hp5 hz5 hd5 => ?_)
  obtain ⟨k, rfl, hA1⟩ := hp5
  obtain ⟨⟨fs1, ho1⟩, hR1⟩ := hR k _ _ hA1
  refine g_istore (L' := [(5, .int k), (0, .ref bs), (1, .ref x), (2, .ref o), (3, .ref qo), (4, .int (nI i))]) hX dL_law_585 (by decide) rfl ?_
  refine g_aload_n hX dL_law_587 3 rfl ?_
  refine g_aload_n hX dL_law_588 1 rfl ?_
  refine g_iload hX dL_law_589 5 rfl ?_
  refine g_iconst (v := 1) hX dL_law_591 (by decide) ?_
  refine g_iadd hX dL_law_592 ?_
  refine g_sld hX hS (i + 1) (by omega) hn (nI_add i 1) dL_law_593 ?_
  refine g_aload_n hX dL_law_594 1 rfl ?_
  refine g_iload hX dL_law_595 5 rfl ?_
  refine g_iconst (v := 2) hX dL_law_597 (by decide) ?_
  refine g_iadd hX dL_law_598 ?_
  refine g_sld hX hS (i + 2) (by omega) hn (nI_add i 2) dL_law_599 ?_
  refine g_callV [] hX hR1 cw_X2_nearest cv_X2_nearest lk_L_81 (ci := 2) rfl rfl ho1 r3 r2 (Nat.le_of_ble_eq_true rfl) rfl dL_law_600 rfl (fun v6 M6 z6 hp6 hz6 hd6 => ?_)
  obtain ⟨c, rfl, hA2⟩ := hp6
  obtain ⟨⟨fs2, ho2⟩, hV1, hV2⟩ := hV k c _ _ hA2
  refine g_istore (L' := [(6, .int c), (5, .int k), (0, .ref bs), (1, .ref x), (2, .ref o), (3, .ref qo), (4, .int (nI i))]) hX dL_law_603 (by decide) rfl ?_
  refine g_aload_n hX dL_law_605 4 rfl ?_
  refine g_callV [] hX hV1 cw_X2_thrown cv_X2_thrown lk_L_58 (ci := 2) rfl rfl ho2 ⟨by omega, by omega⟩ r2 (Nat.le_of_ble_eq_true rfl) rfl dL_law_606 rfl (fun v7 M7 z7 hp7 hz7 hd7 => ?_)
  obtain ⟨rfl, rfl, rfl⟩ := hp7
  have hk := kk k c _ _ hA2
  refine g_iload hX dL_law_609 1 rfl ?_
  refine g_icmp_eq hX 616 dL_law_611 (by decide) (fun _ => ?_) (fun h => absurd rfl h)
  refine g_iload hX dL_law_616 1 rfl ?_
  have hend : G X 9 M7 z6 (a + mc1) (b + ms1) 633 [(6, .int c), (5, .int k), (0, .ref bs), (1, .ref x), (2, .ref o), (3, .ref qo), (4, .int (nI i))] [] := by
    refine g_goto hX 931 dL_law_633 (by decide) ?_
    exact g_sub [2, 3, 4, 5, 6] rfl hk
  refine g_if_ne hX 633 dL_law_618 (by decide) (fun _ => hend) (fun h0 => ?_)
  obtain ⟨f, hf1, hf2⟩ := hV2 h0
  refine g_aload_n hX dL_law_621 5 rfl ?_
  refine g_iconst (v := 0) hX dL_law_622 (by decide) ?_
  refine g_lald hX hf1 0 rfl (by decide) (by decide) dL_law_623 ?_
  rw [hf2]
  refine g_iload hX dL_law_624 0 rfl ?_
  refine g_i2l hX dL_law_626 ?_
  refine g_lcmpE hX dL_law_627 ?_
  exact g_if_eq hX 633 dL_law_628 (by decide) (fun _ => hend) (fun h => absurd rfl h)

set_option maxHeartbeats 1000000 in
set_option maxRecDepth 100000 in
theorem law_count {X : Cx} {nm : String} (hX : Ok X (yLn nm) cL_law 9 2048 84000 630684 7204052) (hT : ThL X) {bs n : Nat} {xs : Nat → Int32} (hS : ScX X bs n xs) (hn : n ≤ 2560) {i : Nat} (hi : i + 4 < n) {M : AH} {sz a b x o qo fr1 lo1 mc1 ms1 fr2 lo2 : Nat} {A1 : Int32 → AH → Nat → Prop} {A2 : Int32 → Int32 → AH → Nat → Prop} (hH : CtN (cxl X) (cxT X) (cxD X) yL_count cL_count 4 (some .int) [(0, 9, 12, 21)] fr1 lo1 mc1 ms1 [.ref x, .int (xs (i + 1)), .ref qo] M sz (fun v M' z' => ∃ k, v = some (.int k) ∧ A1 k M' z')) (r1 : fr1 + 1 ≤ 2048 ∧ 8 + (4 + 11) + lo1 ≤ 84000) (r2 : a + mc1 ≤ 630684 ∧ b + ms1 ≤ 7204052) (hR : ∀ k M' z', A1 k M' z' → (∃ fs, M' o = some (.inr (2, fs))) ∧ Ct (cxl X) (cxT X) (cxD X) yX2_count cX2_count 2 (some .int) fr2 lo2 0 0 [.ref o, .int (xs (i + 1))] M' z' (fun v M'' z'' => ∃ c, v = some (.int c) ∧ A2 k c M'' z'')) (r3 : fr2 + 1 ≤ 2048 ∧ 8 + (2 + 11) + lo2 ≤ 84000) (hV : ∀ k c M' z', A2 k c M' z' → (∃ fs, M' o = some (.inr (2, fs))) ∧ Ct (cxl X) (cxT X) (cxD X) yX2_thrown cX2_thrown 1 (some .int) 0 0 0 0 [.ref o] M' z' (fun v M'' z'' => v = some (.int k) ∧ M'' = M' ∧ z' = z'') ∧ (k = 0 → ∃ f, M' qo = some (eL (cxT X) 1 f) ∧ f 0 = c.toInt64)) (kk : ∀ k c M' z', A2 k c M' z' → G X 9 M' z' (a + mc1) (b + ms1) 931 [(0, .ref bs), (1, .ref x), (2, .ref o), (3, .ref qo), (4, .int (nI i))] []) : G X 9 M sz a b 636 [(0, .ref bs), (1, .ref x), (2, .ref o), (3, .ref qo), (4, .int (nI i))] [] := by
  refine g_aload_n hX dL_law_636 1 rfl ?_
  refine g_aload_n hX dL_law_637 0 rfl ?_
  refine g_iload hX dL_law_638 4 rfl ?_
  refine g_iconst (v := 1) hX dL_law_640 (by decide) ?_
  refine g_iadd hX dL_law_641 ?_
  refine g_sld hX hS (i + 1) (by omega) hn (nI_add i 1) dL_law_642 ?_
  refine g_aload_n hX dL_law_643 3 rfl ?_
  refine g_callN [] hX hT hH ch_count stt_L_count lk_L_82 r1 r2 (Nat.le_of_ble_eq_true rfl) rfl dL_law_644 rfl (fun v5 M5 z5 hp5 hz5 hd5 => ?_)
  obtain ⟨k, rfl, hA1⟩ := hp5
  obtain ⟨⟨fs1, ho1⟩, hR1⟩ := hR k _ _ hA1
  refine g_istore (L' := [(5, .int k), (0, .ref bs), (1, .ref x), (2, .ref o), (3, .ref qo), (4, .int (nI i))]) hX dL_law_647 (by decide) rfl ?_
  refine g_aload_n hX dL_law_649 3 rfl ?_
  refine g_aload_n hX dL_law_650 1 rfl ?_
  refine g_iload hX dL_law_651 5 rfl ?_
  refine g_iconst (v := 1) hX dL_law_653 (by decide) ?_
  refine g_iadd hX dL_law_654 ?_
  refine g_sld hX hS (i + 1) (by omega) hn (nI_add i 1) dL_law_655 ?_
  refine g_callV [] hX hR1 cw_X2_count cv_X2_count lk_L_84 (ci := 2) rfl rfl ho1 r3 r2 (Nat.le_of_ble_eq_true rfl) rfl dL_law_656 rfl (fun v6 M6 z6 hp6 hz6 hd6 => ?_)
  obtain ⟨c, rfl, hA2⟩ := hp6
  obtain ⟨⟨fs2, ho2⟩, hV1, hV2⟩ := hV k c _ _ hA2
  refine g_istore (L' := [(6, .int c), (5, .int k), (0, .ref bs), (1, .ref x), (2, .ref o), (3, .ref qo), (4, .int (nI i))]) hX dL_law_659 (by decide) rfl ?_
  refine g_aload_n hX dL_law_661 4 rfl ?_
  refine g_callV [] hX hV1 cw_X2_thrown cv_X2_thrown lk_L_58 (ci := 2) rfl rfl ho2 ⟨by omega, by omega⟩ r2 (Nat.le_of_ble_eq_true rfl) rfl dL_law_662 rfl (fun v7 M7 z7 hp7 hz7 hd7 => ?_)
  obtain ⟨rfl, rfl, rfl⟩ := hp7
  have hk := kk k c _ _ hA2
  refine g_iload hX dL_law_665 1 rfl ?_
  refine g_icmp_eq hX 672 dL_law_667 (by decide) (fun _ => ?_) (fun h => absurd rfl h)
  refine g_iload hX dL_law_672 1 rfl ?_
  have hend : G X 9 M7 z6 (a + mc1) (b + ms1) 689 [(6, .int c), (5, .int k), (0, .ref bs), (1, .ref x), (2, .ref o), (3, .ref qo), (4, .int (nI i))] [] := by
    refine g_goto hX 931 dL_law_689 (by decide) ?_
    exact g_sub [2, 3, 4, 5, 6] rfl hk
  refine g_if_ne hX 689 dL_law_674 (by decide) (fun _ => hend) (fun h0 => ?_)
  obtain ⟨f, hf1, hf2⟩ := hV2 h0
  refine g_aload_n hX dL_law_677 5 rfl ?_
  refine g_iconst (v := 0) hX dL_law_678 (by decide) ?_
  refine g_lald hX hf1 0 rfl (by decide) (by decide) dL_law_679 ?_
  rw [hf2]
  refine g_iload hX dL_law_680 0 rfl ?_
  refine g_i2l hX dL_law_682 ?_
  refine g_lcmpE hX dL_law_683 ?_
  exact g_if_eq hX 689 dL_law_684 (by decide) (fun _ => hend) (fun h => absurd rfl h)

set_option maxHeartbeats 1000000 in
set_option maxRecDepth 100000 in
theorem law_grows {X : Cx} {nm : String} (hX : Ok X (yLn nm) cL_law 9 2048 84000 630684 7204052) (hT : ThL X) {bs n : Nat} {xs : Nat → Int32} (hS : ScX X bs n xs) (hn : n ≤ 2560) {i : Nat} (hi : i + 4 < n) {M : AH} {sz a b x o qo fr1 lo1 mc1 ms1 fr2 lo2 : Nat} {A1 : Int32 → AH → Nat → Prop} {A2 : Int32 → Int32 → AH → Nat → Prop} (hH : CtN (cxl X) (cxT X) (cxD X) yL_grows cL_grows 7 (some .int) [(0, 14, 17, 13)] fr1 lo1 mc1 ms1 [.ref x, .int (xs (i + 1)), .int (xs (i + 2)), .int (xs (i + 3)), .int (xs (i + 4)), .ref qo] M sz (fun v M' z' => ∃ k, v = some (.int k) ∧ A1 k M' z')) (r1 : fr1 + 1 ≤ 2048 ∧ 8 + (7 + 11) + lo1 ≤ 84000) (r2 : a + mc1 ≤ 630684 ∧ b + ms1 ≤ 7204052) (hR : ∀ k M' z', A1 k M' z' → (∃ fs, M' o = some (.inr (2, fs))) ∧ Ct (cxl X) (cxT X) (cxD X) yX2_grows cX2_grows 7 (some .int) fr2 lo2 0 0 [.ref o, .int (xs (i + 1)), .int (xs (i + 2)), .int (xs (i + 3)), .int (xs (i + 4))] M' z' (fun v M'' z'' => ∃ c, v = some (.int c) ∧ A2 k c M'' z'')) (r3 : fr2 + 1 ≤ 2048 ∧ 8 + (7 + 11) + lo2 ≤ 84000) (hV : ∀ k c M' z', A2 k c M' z' → (∃ fs, M' o = some (.inr (2, fs))) ∧ Ct (cxl X) (cxT X) (cxD X) yX2_thrown cX2_thrown 1 (some .int) 0 0 0 0 [.ref o] M' z' (fun v M'' z'' => v = some (.int k) ∧ M'' = M' ∧ z' = z'') ∧ (k = 0 → ∃ f, M' qo = some (eL (cxT X) 1 f) ∧ f 0 = c.toInt64)) (kk : ∀ k c M' z', A2 k c M' z' → G X 9 M' z' (a + mc1) (b + ms1) 931 [(0, .ref bs), (1, .ref x), (2, .ref o), (3, .ref qo), (4, .int (nI i))] []) : G X 9 M sz a b 692 [(0, .ref bs), (1, .ref x), (2, .ref o), (3, .ref qo), (4, .int (nI i))] [] := by
  refine g_aload_n hX dL_law_692 1 rfl ?_
  refine g_aload_n hX dL_law_693 0 rfl ?_
  refine g_iload hX dL_law_694 4 rfl ?_
  refine g_iconst (v := 1) hX dL_law_696 (by decide) ?_
  refine g_iadd hX dL_law_697 ?_
  refine g_sld hX hS (i + 1) (by omega) hn (nI_add i 1) dL_law_698 ?_
  refine g_aload_n hX dL_law_699 0 rfl ?_
  refine g_iload hX dL_law_700 4 rfl ?_
  refine g_iconst (v := 2) hX dL_law_702 (by decide) ?_
  refine g_iadd hX dL_law_703 ?_
  refine g_sld hX hS (i + 2) (by omega) hn (nI_add i 2) dL_law_704 ?_
  refine g_aload_n hX dL_law_705 0 rfl ?_
  refine g_iload hX dL_law_706 4 rfl ?_
  refine g_iconst (v := 3) hX dL_law_708 (by decide) ?_
  refine g_iadd hX dL_law_709 ?_
  refine g_sld hX hS (i + 3) (by omega) hn (nI_add i 3) dL_law_710 ?_
  refine g_aload_n hX dL_law_711 0 rfl ?_
  refine g_iload hX dL_law_712 4 rfl ?_
  refine g_iconst (v := 4) hX dL_law_714 (by decide) ?_
  refine g_iadd hX dL_law_715 ?_
  refine g_sld hX hS (i + 4) (by omega) hn (nI_add i 4) dL_law_716 ?_
  refine g_aload_n hX dL_law_717 3 rfl ?_
  refine g_callN [] hX hT hH ch_grows stt_L_grows lk_L_85 r1 r2 (Nat.le_of_ble_eq_true rfl) rfl dL_law_718 rfl (fun v5 M5 z5 hp5 hz5 hd5 => ?_)
  obtain ⟨k, rfl, hA1⟩ := hp5
  obtain ⟨⟨fs1, ho1⟩, hR1⟩ := hR k _ _ hA1
  refine g_istore (L' := [(5, .int k), (0, .ref bs), (1, .ref x), (2, .ref o), (3, .ref qo), (4, .int (nI i))]) hX dL_law_721 (by decide) rfl ?_
  refine g_aload_n hX dL_law_723 3 rfl ?_
  refine g_aload_n hX dL_law_724 1 rfl ?_
  refine g_iload hX dL_law_725 5 rfl ?_
  refine g_iconst (v := 1) hX dL_law_727 (by decide) ?_
  refine g_iadd hX dL_law_728 ?_
  refine g_sld hX hS (i + 1) (by omega) hn (nI_add i 1) dL_law_729 ?_
  refine g_aload_n hX dL_law_730 1 rfl ?_
  refine g_iload hX dL_law_731 5 rfl ?_
  refine g_iconst (v := 2) hX dL_law_733 (by decide) ?_
  refine g_iadd hX dL_law_734 ?_
  refine g_sld hX hS (i + 2) (by omega) hn (nI_add i 2) dL_law_735 ?_
  refine g_aload_n hX dL_law_736 1 rfl ?_
  refine g_iload hX dL_law_737 5 rfl ?_
  refine g_iconst (v := 3) hX dL_law_739 (by decide) ?_
  refine g_iadd hX dL_law_740 ?_
  refine g_sld hX hS (i + 3) (by omega) hn (nI_add i 3) dL_law_741 ?_
  refine g_aload_n hX dL_law_742 1 rfl ?_
  refine g_iload hX dL_law_743 5 rfl ?_
  refine g_iconst (v := 4) hX dL_law_745 (by decide) ?_
  refine g_iadd hX dL_law_746 ?_
  refine g_sld hX hS (i + 4) (by omega) hn (nI_add i 4) dL_law_747 ?_
  refine g_callV [] hX hR1 cw_X2_grows cv_X2_grows lk_L_87 (ci := 2) rfl rfl ho1 r3 r2 (Nat.le_of_ble_eq_true rfl) rfl dL_law_748 rfl (fun v6 M6 z6 hp6 hz6 hd6 => ?_)
  obtain ⟨c, rfl, hA2⟩ := hp6
  obtain ⟨⟨fs2, ho2⟩, hV1, hV2⟩ := hV k c _ _ hA2
  refine g_istore (L' := [(6, .int c), (5, .int k), (0, .ref bs), (1, .ref x), (2, .ref o), (3, .ref qo), (4, .int (nI i))]) hX dL_law_751 (by decide) rfl ?_
  refine g_aload_n hX dL_law_753 4 rfl ?_
  refine g_callV [] hX hV1 cw_X2_thrown cv_X2_thrown lk_L_58 (ci := 2) rfl rfl ho2 ⟨by omega, by omega⟩ r2 (Nat.le_of_ble_eq_true rfl) rfl dL_law_754 rfl (fun v7 M7 z7 hp7 hz7 hd7 => ?_)
  obtain ⟨rfl, rfl, rfl⟩ := hp7
  have hk := kk k c _ _ hA2
  refine g_iload hX dL_law_757 1 rfl ?_
  refine g_icmp_eq hX 764 dL_law_759 (by decide) (fun _ => ?_) (fun h => absurd rfl h)
  refine g_iload hX dL_law_764 1 rfl ?_
  have hend : G X 9 M7 z6 (a + mc1) (b + ms1) 781 [(6, .int c), (5, .int k), (0, .ref bs), (1, .ref x), (2, .ref o), (3, .ref qo), (4, .int (nI i))] [] := by
    refine g_goto hX 931 dL_law_781 (by decide) ?_
    exact g_sub [2, 3, 4, 5, 6] rfl hk
  refine g_if_ne hX 781 dL_law_766 (by decide) (fun _ => hend) (fun h0 => ?_)
  obtain ⟨f, hf1, hf2⟩ := hV2 h0
  refine g_aload_n hX dL_law_769 5 rfl ?_
  refine g_iconst (v := 0) hX dL_law_770 (by decide) ?_
  refine g_lald hX hf1 0 rfl (by decide) (by decide) dL_law_771 ?_
  rw [hf2]
  refine g_iload hX dL_law_772 0 rfl ?_
  refine g_i2l hX dL_law_774 ?_
  refine g_lcmpE hX dL_law_775 ?_
  exact g_if_eq hX 781 dL_law_776 (by decide) (fun _ => hend) (fun h => absurd rfl h)

set_option maxHeartbeats 1000000 in
set_option maxRecDepth 100000 in
theorem law_splits {X : Cx} {nm : String} (hX : Ok X (yLn nm) cL_law 9 2048 84000 630684 7204052) (hT : ThL X) {bs n : Nat} {xs : Nat → Int32} (hS : ScX X bs n xs) (hn : n ≤ 2560) {i : Nat} (hi : i + 4 < n) {M : AH} {sz a b x o qo fr1 lo1 mc1 ms1 fr2 lo2 : Nat} {A1 : Int32 → AH → Nat → Prop} {A2 : Int32 → Int32 → AH → Nat → Prop} (hH : CtN (cxl X) (cxT X) (cxD X) yL_splits cL_splits 7 (some .int) [(0, 14, 17, 13)] fr1 lo1 mc1 ms1 [.ref x, .int (xs (i + 1)), .int (xs (i + 2)), .int (xs (i + 3)), .int (xs (i + 4)), .ref qo] M sz (fun v M' z' => ∃ k, v = some (.int k) ∧ A1 k M' z')) (r1 : fr1 + 1 ≤ 2048 ∧ 8 + (7 + 11) + lo1 ≤ 84000) (r2 : a + mc1 ≤ 630684 ∧ b + ms1 ≤ 7204052) (hR : ∀ k M' z', A1 k M' z' → (∃ fs, M' o = some (.inr (2, fs))) ∧ Ct (cxl X) (cxT X) (cxD X) yX2_splits cX2_splits 7 (some .int) fr2 lo2 0 0 [.ref o, .int (xs (i + 1)), .int (xs (i + 2)), .int (xs (i + 3)), .int (xs (i + 4))] M' z' (fun v M'' z'' => ∃ c, v = some (.int c) ∧ A2 k c M'' z'')) (r3 : fr2 + 1 ≤ 2048 ∧ 8 + (7 + 11) + lo2 ≤ 84000) (hV : ∀ k c M' z', A2 k c M' z' → (∃ fs, M' o = some (.inr (2, fs))) ∧ Ct (cxl X) (cxT X) (cxD X) yX2_thrown cX2_thrown 1 (some .int) 0 0 0 0 [.ref o] M' z' (fun v M'' z'' => v = some (.int k) ∧ M'' = M' ∧ z' = z'') ∧ (k = 0 → ∃ f, M' qo = some (eL (cxT X) 1 f) ∧ f 0 = c.toInt64)) (kk : ∀ k c M' z', A2 k c M' z' → G X 9 M' z' (a + mc1) (b + ms1) 931 [(0, .ref bs), (1, .ref x), (2, .ref o), (3, .ref qo), (4, .int (nI i))] []) : G X 9 M sz a b 784 [(0, .ref bs), (1, .ref x), (2, .ref o), (3, .ref qo), (4, .int (nI i))] [] := by
  refine g_aload_n hX dL_law_784 1 rfl ?_
  refine g_aload_n hX dL_law_785 0 rfl ?_
  refine g_iload hX dL_law_786 4 rfl ?_
  refine g_iconst (v := 1) hX dL_law_788 (by decide) ?_
  refine g_iadd hX dL_law_789 ?_
  refine g_sld hX hS (i + 1) (by omega) hn (nI_add i 1) dL_law_790 ?_
  refine g_aload_n hX dL_law_791 0 rfl ?_
  refine g_iload hX dL_law_792 4 rfl ?_
  refine g_iconst (v := 2) hX dL_law_794 (by decide) ?_
  refine g_iadd hX dL_law_795 ?_
  refine g_sld hX hS (i + 2) (by omega) hn (nI_add i 2) dL_law_796 ?_
  refine g_aload_n hX dL_law_797 0 rfl ?_
  refine g_iload hX dL_law_798 4 rfl ?_
  refine g_iconst (v := 3) hX dL_law_800 (by decide) ?_
  refine g_iadd hX dL_law_801 ?_
  refine g_sld hX hS (i + 3) (by omega) hn (nI_add i 3) dL_law_802 ?_
  refine g_aload_n hX dL_law_803 0 rfl ?_
  refine g_iload hX dL_law_804 4 rfl ?_
  refine g_iconst (v := 4) hX dL_law_806 (by decide) ?_
  refine g_iadd hX dL_law_807 ?_
  refine g_sld hX hS (i + 4) (by omega) hn (nI_add i 4) dL_law_808 ?_
  refine g_aload_n hX dL_law_809 3 rfl ?_
  refine g_callN [] hX hT hH ch_splits stt_L_splits lk_L_88 r1 r2 (Nat.le_of_ble_eq_true rfl) rfl dL_law_810 rfl (fun v5 M5 z5 hp5 hz5 hd5 => ?_)
  obtain ⟨k, rfl, hA1⟩ := hp5
  obtain ⟨⟨fs1, ho1⟩, hR1⟩ := hR k _ _ hA1
  refine g_istore (L' := [(5, .int k), (0, .ref bs), (1, .ref x), (2, .ref o), (3, .ref qo), (4, .int (nI i))]) hX dL_law_813 (by decide) rfl ?_
  refine g_aload_n hX dL_law_815 3 rfl ?_
  refine g_aload_n hX dL_law_816 1 rfl ?_
  refine g_iload hX dL_law_817 5 rfl ?_
  refine g_iconst (v := 1) hX dL_law_819 (by decide) ?_
  refine g_iadd hX dL_law_820 ?_
  refine g_sld hX hS (i + 1) (by omega) hn (nI_add i 1) dL_law_821 ?_
  refine g_aload_n hX dL_law_822 1 rfl ?_
  refine g_iload hX dL_law_823 5 rfl ?_
  refine g_iconst (v := 2) hX dL_law_825 (by decide) ?_
  refine g_iadd hX dL_law_826 ?_
  refine g_sld hX hS (i + 2) (by omega) hn (nI_add i 2) dL_law_827 ?_
  refine g_aload_n hX dL_law_828 1 rfl ?_
  refine g_iload hX dL_law_829 5 rfl ?_
  refine g_iconst (v := 3) hX dL_law_831 (by decide) ?_
  refine g_iadd hX dL_law_832 ?_
  refine g_sld hX hS (i + 3) (by omega) hn (nI_add i 3) dL_law_833 ?_
  refine g_aload_n hX dL_law_834 1 rfl ?_
  refine g_iload hX dL_law_835 5 rfl ?_
  refine g_iconst (v := 4) hX dL_law_837 (by decide) ?_
  refine g_iadd hX dL_law_838 ?_
  refine g_sld hX hS (i + 4) (by omega) hn (nI_add i 4) dL_law_839 ?_
  refine g_callV [] hX hR1 cw_X2_splits cv_X2_splits lk_L_90 (ci := 2) rfl rfl ho1 r3 r2 (Nat.le_of_ble_eq_true rfl) rfl dL_law_840 rfl (fun v6 M6 z6 hp6 hz6 hd6 => ?_)
  obtain ⟨c, rfl, hA2⟩ := hp6
  obtain ⟨⟨fs2, ho2⟩, hV1, hV2⟩ := hV k c _ _ hA2
  refine g_istore (L' := [(6, .int c), (5, .int k), (0, .ref bs), (1, .ref x), (2, .ref o), (3, .ref qo), (4, .int (nI i))]) hX dL_law_843 (by decide) rfl ?_
  refine g_aload_n hX dL_law_845 4 rfl ?_
  refine g_callV [] hX hV1 cw_X2_thrown cv_X2_thrown lk_L_58 (ci := 2) rfl rfl ho2 ⟨by omega, by omega⟩ r2 (Nat.le_of_ble_eq_true rfl) rfl dL_law_846 rfl (fun v7 M7 z7 hp7 hz7 hd7 => ?_)
  obtain ⟨rfl, rfl, rfl⟩ := hp7
  have hk := kk k c _ _ hA2
  refine g_iload hX dL_law_849 1 rfl ?_
  refine g_icmp_eq hX 856 dL_law_851 (by decide) (fun _ => ?_) (fun h => absurd rfl h)
  refine g_iload hX dL_law_856 1 rfl ?_
  have hend : G X 9 M7 z6 (a + mc1) (b + ms1) 873 [(6, .int c), (5, .int k), (0, .ref bs), (1, .ref x), (2, .ref o), (3, .ref qo), (4, .int (nI i))] [] := by
    refine g_goto hX 931 dL_law_873 (by decide) ?_
    exact g_sub [2, 3, 4, 5, 6] rfl hk
  refine g_if_ne hX 873 dL_law_858 (by decide) (fun _ => hend) (fun h0 => ?_)
  obtain ⟨f, hf1, hf2⟩ := hV2 h0
  refine g_aload_n hX dL_law_861 5 rfl ?_
  refine g_iconst (v := 0) hX dL_law_862 (by decide) ?_
  refine g_lald hX hf1 0 rfl (by decide) (by decide) dL_law_863 ?_
  rw [hf2]
  refine g_iload hX dL_law_864 0 rfl ?_
  refine g_i2l hX dL_law_866 ?_
  refine g_lcmpE hX dL_law_867 ?_
  exact g_if_eq hX 873 dL_law_868 (by decide) (fun _ => hend) (fun h => absurd rfl h)

set_option maxHeartbeats 1000000 in
set_option maxRecDepth 100000 in
theorem law_mean {X : Cx} {nm : String} (hX : Ok X (yLn nm) cL_law 9 2048 84000 630684 7204052) {bs i : Nat} {M : AH} {sz a b x o qo : Nat} {fs : List Value} (hx : M x = some (.inr (1, fs))) {e : UInt64} (he : FP.dcmp e e = some .eq) {A1 A2 : AH → Nat → Prop} (hH : Ct (cxl X) (cxT X) (cxD X) yX1_mean cX1_mean 5 (some .double) 3 80 0 0 [.ref x] M sz (fun v M' z' => v = some (.double e) ∧ A1 M' z')) (r2 : a ≤ 630684 ∧ b ≤ 7204052) (hR : ∀ M' z', A1 M' z' → (∃ fs, M' o = some (.inr (2, fs))) ∧ Ct (cxl X) (cxT X) (cxD X) yX2_mean cX2_mean 3 (some .double) 3 100 0 0 [.ref o] M' z' (fun v M'' z'' => v = some (.double e) ∧ A2 M'' z'')) (kk : ∀ M' z', A2 M' z' → G X 9 M' z' a b 931 [(0, .ref bs), (1, .ref x), (2, .ref o), (3, .ref qo), (4, .int (nI i))] []) : G X 9 M sz a b 876 [(0, .ref bs), (1, .ref x), (2, .ref o), (3, .ref qo), (4, .int (nI i))] [] := by
  refine g_aload_n hX dL_law_876 1 rfl ?_
  refine g_callV [] hX hH cw_X1_mean cv_X1_mean lk_L_91 (ci := 1) rfl rfl hx ⟨by omega, by omega⟩ r2 (Nat.le_of_ble_eq_true rfl) rfl dL_law_877 rfl (fun v5 M5 z5 hp5 hz5 hd5 => ?_)
  obtain ⟨rfl, hA1⟩ := hp5
  obtain ⟨⟨fs1, ho1⟩, hR1⟩ := hR _ _ hA1
  refine g_dstore (L' := [(5, .double e), (0, .ref bs), (1, .ref x), (2, .ref o), (3, .ref qo), (4, .int (nI i))]) hX dL_law_880 (by decide) rfl ?_
  refine g_aload_n hX dL_law_882 3 rfl ?_
  refine g_callV [] hX hR1 cw_X2_mean cv_X2_mean lk_L_95 (ci := 2) rfl rfl ho1 ⟨by omega, by omega⟩ r2 (Nat.le_of_ble_eq_true rfl) rfl dL_law_883 rfl (fun v6 M6 z6 hp6 hz6 hd6 => ?_)
  obtain ⟨rfl, hA2⟩ := hp6
  have hk := kk _ _ hA2
  refine g_dstore (L' := [(7, .double e), (5, .double e), (0, .ref bs), (1, .ref x), (2, .ref o), (3, .ref qo), (4, .int (nI i))]) hX dL_law_886 (by decide) rfl ?_
  refine g_dload hX dL_law_888 1 rfl ?_
  refine g_dload hX dL_law_890 0 rfl ?_
  refine g_dcmp hX dL_law_892 ?_
  rw [he]
  refine g_if_eq hX 914 dL_law_893 (by decide) (fun _ => ?_) (fun h => absurd rfl h)
  refine g_goto hX 931 dL_law_914 (by decide) ?_
  exact g_sub [2, 3, 4, 5, 6] rfl hk
set_option maxHeartbeats 1000000 in
set_option maxRecDepth 100000 in
theorem law_digest {X : Cx} {nm : String} (hX : Ok X (yLn nm) cL_law 9 2048 84000 630684 7204052) {bs i : Nat} {M : AH} {sz a b x o qo fr1 lo1 fr2 lo2 : Nat} {fs : List Value} (hx : M x = some (.inr (1, fs))) {e : Int64} {A1 A2 : AH → Nat → Prop} (hH : Ct (cxl X) (cxT X) (cxD X) yX1_digest cX1_digest 6 (some .long) fr1 lo1 0 0 [.ref x] M sz (fun v M' z' => v = some (.long e) ∧ A1 M' z')) (r1 : fr1 + 1 ≤ 2048 ∧ 8 + (6 + 11) + lo1 ≤ 84000) (r2 : a ≤ 630684 ∧ b ≤ 7204052) (hR : ∀ M' z', A1 M' z' → (∃ fs, M' o = some (.inr (2, fs))) ∧ Ct (cxl X) (cxT X) (cxD X) yX2_digest cX2_digest 5 (some .long) fr2 lo2 0 0 [.ref o] M' z' (fun v M'' z'' => v = some (.long e) ∧ A2 M'' z'')) (r3 : fr2 + 1 ≤ 2048 ∧ 8 + (5 + 11) + lo2 ≤ 84000) (kk : ∀ M' z', A2 M' z' → G X 9 M' z' a b 931 [(0, .ref bs), (1, .ref x), (2, .ref o), (3, .ref qo), (4, .int (nI i))] []) : G X 9 M sz a b 917 [(0, .ref bs), (1, .ref x), (2, .ref o), (3, .ref qo), (4, .int (nI i))] [] := by
  refine g_aload_n hX dL_law_917 1 rfl ?_
  refine g_callV [] hX hH cw_X1_digest cv_X1_digest lk_L_96 (ci := 1) rfl rfl hx r1 r2 (Nat.le_of_ble_eq_true rfl) rfl dL_law_918 rfl (fun v5 M5 z5 hp5 hz5 hd5 => ?_)
  obtain ⟨rfl, hA1⟩ := hp5
  obtain ⟨⟨fs1, ho1⟩, hR1⟩ := hR _ _ hA1
  refine g_aload_n hX dL_law_921 2 rfl ?_
  refine g_callV [.long e] hX hR1 cw_X2_digest cv_X2_digest lk_L_100 (ci := 2) rfl rfl ho1 r3 r2 (Nat.le_of_ble_eq_true rfl) rfl dL_law_922 rfl (fun v6 M6 z6 hp6 hz6 hd6 => ?_)
  obtain ⟨rfl, hA2⟩ := hp6
  refine g_lcmpE hX dL_law_925 ?_
  exact g_if_eq hX 931 dL_law_926 (by decide) (fun _ => kk _ _ hA2) (fun h => absurd rfl h)
