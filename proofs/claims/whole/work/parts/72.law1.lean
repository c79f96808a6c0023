/-! the law's cases -/
theorem mv_up2 {S : ST} {A : AB} {c1 c2 : Nat} {z1 z2 v1 v2 : Int} (h : MV9 S A) (h1 : ∀ c ∈ RFC, c ≠ c1) (h2 : ∀ c ∈ RFC, c ≠ c2) : MV9 (upS (upS S c1 z1 v1) c2 z2 v2) A := mv_fr h AE.rf (fun c hc => by rw [upS_fn _ _ _ (h2 c hc), upS_fn _ _ _ (h1 c hc)])
theorem mv_can {S S9 S1 : ST} {A : AB} {v : Int} (h : MV9 S A) (hF : Fr [103, 104, 64, 65] S S9) (hS : S1 = upS S9 1280 0 v) : MV9 S1 A := mv_fr h AE.rf (fun c hc => by rw [hS, upS_fn _ _ _ ((by decide : ∀ c ∈ RFC, c ≠ 1280) c hc), hF.fn ((by decide : ∀ c ∈ RFC, c ∉ [103, 104, 64, 65]) c hc)])
theorem inv_w {S : ST} {A : AB} (hI : INV S A) : ∀ i, 0 ≤ i → i ≤ 5 → 0 ≤ S 288 i ∧ S 288 i ≤ 100 := fun i i0 i1 => by rw [hI.2.2.2.1 i i0 i1]; exact hI.1.2.2.2.2 i i0 i1
theorem inv_5 {S : ST} {A : AB} (hI : INV S A) : A.2 5 ≤ 100000 := by
  have h1 := hI.2.2.2.2.1
  have h2 := (mv_pre hI.1).2.2.1
  omega
set_option maxRecDepth 20000 in
theorem lw_c0 {G : GT} {l : Launch} (hfl : l.stackTraces = false) {b0 L : Nat} {xs : Nat → Int32} {mn : String} {tb : List ExceptionTableEntry} {J : JT} {X : XT} (C : Cx G l room_1 cL_law 8 RL mn tb J X) (CL : CxL G l room_1 cL_law 8 RL mn tb b0 L xs J X) {S : ST} {A : AB} {k n : Nat} {i : Int} (hI : INV S A) (hi : 0 ≤ i ∧ i + 6 ≤ L) (hL : L ≤ 3072) (hk : k + 70 ≤ 601024) (hn : n + 300 ≤ 7293034) (next : ∀ (S' : ST) (A' : AB) (k' n' : Nat), INV S' A' → k' ≤ k + 70 → n' ≤ n + 300 → J 2009 [some (.ref b0), some (vR A' 6 0), some (vR A' 7 0), some (vR A' 40 0), some (vI i), none, none, none] [] S' A' k' n') : J 156 [some (.ref b0), some (vR A 6 0), some (vR A 7 0), some (vR A 40 0), some (vI i), none, none, none] [] S A k n := by
  refine r_aload_n C dL_law_156 lg_1 ?_
  refine r_aloadq_n C dL_law_157 lg_0 ?_
  refine r_iload C dL_law_158 lg_4 ?_
  refine r_iconst C dL_law_160 ?_
  refine r_iadd C dL_law_161 ?_
  refine r_sld CL dL_law_162 (by omega) (by omega) (by omega) ?_
  refine r_aloadq_n C dL_law_163 lg_0 ?_
  refine r_iload C dL_law_164 lg_4 ?_
  refine r_iconst C dL_law_166 ?_
  refine r_iadd C dL_law_167 ?_
  refine r_sld CL dL_law_168 (by omega) (by omega) (by omega) ?_
  refine r_aloadq_n C dL_law_169 lg_0 ?_
  refine r_iload C dL_law_170 lg_4 ?_
  refine r_iconst C dL_law_172 ?_
  refine r_iadd C dL_law_173 ?_
  refine r_sld CL dL_law_174 (by omega) (by omega) (by omega) ?_
  refine r_aloadq_n C dL_law_175 lg_0 ?_
  refine r_iload C dL_law_176 lg_4 ?_
  refine r_iconst C dL_law_178 ?_
  refine r_iadd C dL_law_179 ?_
  refine r_sld CL dL_law_180 (by omega) (by omega) (by omega) ?_
  refine r_aload_n C dL_law_181 lg_3 ?_
  refine r_W6I C (cL_receive_ hfl (R := rwM S) hI.2.1 hI.1.2.1.1 (sc_r xs _) (sc_r xs _) (sc_r xs _) (sc_r xs _) hI.2.2.2.2.2) dL_law_182 lk_L_101 ⟨Nat.le_of_ble_eq_true rfl, Nat.le_of_ble_eq_true rfl⟩ (catLe (Nat.le_of_ble_eq_true rfl)) 8 51 ⟨rfl, rfl⟩ (show _ ≤ 601024 by omega) (show _ ≤ 7293034 by omega) (fun _ _ _ h9 => h9.elim) (fun z182 S182 A182 i182 p182 => ?_)
  have hW := p182
  have hE : AE A A182 := by
    rcases hW with ⟨_, _, S9, _, hC, hS⟩ | ⟨_, _, rfl, rfl⟩ | ⟨_, _, rfl, rfl⟩
    · exact hC.1
    · exact AE.rf
    · exact AE.rf
  have hM : MV9 S182 A182 := by
    rcases hW with ⟨_, _, S9, _, hC, hS⟩ | ⟨_, _, rfl, rfl⟩ | ⟨_, _, rfl, rfl⟩
    · exact mv_cn hI.1 hC hS
    · exact hI.1
    · exact hI.1
  obtain ⟨m1, m2, m3, m4, m5, m6⟩ := mv_pre hM
  rw [← (hE 6 0 hI.2.1.1.1.2).1, ← (hE 7 0 hI.1.1.1.2).1, ← (hE 40 0 hI.2.2.2.2.2.2).1]
  refine r_istore C dL_law_185 (ls1_5 rfl rfl) ?_
  refine r_aload_n C dL_law_187 lg_2 ?_
  refine r_aloadq_n C dL_law_188 lg_0 ?_
  refine r_iload C dL_law_189 lg_4 ?_
  refine r_iconst C dL_law_191 ?_
  refine r_iadd C dL_law_192 ?_
  refine r_sld CL dL_law_193 (by omega) (by omega) (by omega) ?_
  refine r_aloadq_n C dL_law_194 lg_0 ?_
  refine r_iload C dL_law_195 lg_4 ?_
  refine r_iconst C dL_law_197 ?_
  refine r_iadd C dL_law_198 ?_
  refine r_sld CL dL_law_199 (by omega) (by omega) (by omega) ?_
  refine r_aloadq_n C dL_law_200 lg_0 ?_
  refine r_iload C dL_law_201 lg_4 ?_
  refine r_iconst C dL_law_203 ?_
  refine r_iadd C dL_law_204 ?_
  refine r_sld CL dL_law_205 (by omega) (by omega) (by omega) ?_
  refine r_aloadq_n C dL_law_206 lg_0 ?_
  refine r_iload C dL_law_207 lg_4 ?_
  refine r_iconst C dL_law_209 ?_
  refine r_iadd C dL_law_210 ?_
  refine r_sld CL dL_law_211 (by omega) (by omega) (by omega) ?_
  refine q_V4I C (cM_receive hfl hM.1 (sc_r xs _) (sc_r xs _) (sc_r xs _) (sc_r xs _) m2 m3 m4) dL_law_212 lk_L_106 hM.1.1 ⟨Nat.le_of_ble_eq_true rfl, Nat.le_of_ble_eq_true rfl⟩ (catLe (Nat.le_of_ble_eq_true rfl)) ⟨rfl, rfl⟩ rfl (show _ ≤ 601024 by omega) (show _ ≤ 7293034 by omega) (fun z212 S212 A212 i212 p212 => ?_)
  obtain ⟨rfl, hz⟩ := p212
  obtain ⟨⟨w1, w2⟩, hI2⟩ := u_receive hI hW hz
  refine r_istore C dL_law_215 (ls1_6 rfl rfl) ?_
  refine r_aload_n C dL_law_217 lg_2 ?_
  refine q_V0I C (cM_thrown hfl hI2.1.1) dL_law_218 lk_L_107 hI2.1.1.1 ⟨Nat.le_of_ble_eq_true rfl, Nat.le_of_ble_eq_true rfl⟩ (catLe (Nat.le_of_ble_eq_true rfl)) ⟨rfl, rfl⟩ rfl (show _ ≤ 601024 by omega) (show _ ≤ 7293034 by omega) (fun z218 S218 A218 i218 p218 => ?_)
  obtain ⟨rfl, rfl, rfl⟩ := p218
  refine r_iload C dL_law_221 lg_5 ?_
  refine r_iceq C (tgt := 228) dL_law_223 (by decide) (by omega) (by omega) (fun c223 => ?_) (fun c223 => ?_)
  · refine r_iload C dL_law_228 lg_5 ?_
    refine r_ifne C (tgt := 245) dL_law_230 (by decide) (by omega) (fun c230 => ?_) (fun c230 => ?_)
    · refine r_goto C (tgt := 2009) dL_law_245 (by decide) ?_
      refine r_le C (lle_k (lle_k (lle_k (lle_k (lle_k (lle_f (lle_f (lle_k lle_0)))))))) ?_
      exact next _ _ _ _ hI2 (by omega) (by omega)
    · have w3 := w2 (by omega)
      refine r_aload_n C dL_law_233 lg_3 ?_
      refine r_iconst C dL_law_234 ?_
      refine r_lald C (N := 1) 1280 dL_law_235 (by decide) rfl rfl hI2.2.2.2.2.2 (by omega) (by omega) (by omega) (fun g235 => ?_)
      refine r_iload C dL_law_236 lg_6 ?_
      refine r_i2l C dL_law_238 (by omega) ?_
      refine r_lceq C (tgt := 245) dL_law_239 dL_law_240 (by decide) (by omega) (by omega) (fun c239 => ?_) (fun c239 => ?_)
      · refine r_goto C (tgt := 2009) dL_law_245 (by decide) ?_
        refine r_le C (lle_k (lle_k (lle_k (lle_k (lle_k (lle_f (lle_f (lle_k lle_0)))))))) ?_
        exact next _ _ _ _ hI2 (by omega) (by omega)
      · exfalso; omega
  · exfalso; omega
set_option maxRecDepth 20000 in
theorem lw_c1 {G : GT} {l : Launch} (hfl : l.stackTraces = false) {b0 L : Nat} {xs : Nat → Int32} {mn : String} {tb : List ExceptionTableEntry} {J : JT} {X : XT} (C : Cx G l room_1 cL_law 8 RL mn tb J X) (CL : CxL G l room_1 cL_law 8 RL mn tb b0 L xs J X) {S : ST} {A : AB} {k n : Nat} {i : Int} (hI : INV S A) (hi : 0 ≤ i ∧ i + 6 ≤ L) (hL : L ≤ 3072) (hk : k + 70 ≤ 601024) (hn : n + 300 ≤ 7293034) (next : ∀ (S' : ST) (A' : AB) (k' n' : Nat), INV S' A' → k' ≤ k + 70 → n' ≤ n + 300 → J 2009 [some (.ref b0), some (vR A' 6 0), some (vR A' 7 0), some (vR A' 40 0), some (vI i), none, none, none] [] S' A' k' n') : J 248 [some (.ref b0), some (vR A 6 0), some (vR A 7 0), some (vR A 40 0), some (vI i), none, none, none] [] S A k n := by
  refine r_aload_n C dL_law_248 lg_1 ?_
  refine r_aloadq_n C dL_law_249 lg_0 ?_
  refine r_iload C dL_law_250 lg_4 ?_
  refine r_iconst C dL_law_252 ?_
  refine r_iadd C dL_law_253 ?_
  refine r_sld CL dL_law_254 (by omega) (by omega) (by omega) ?_
  refine r_aloadq_n C dL_law_255 lg_0 ?_
  refine r_iload C dL_law_256 lg_4 ?_
  refine r_iconst C dL_law_258 ?_
  refine r_iadd C dL_law_259 ?_
  refine r_sld CL dL_law_260 (by omega) (by omega) (by omega) ?_
  refine r_aloadq_n C dL_law_261 lg_0 ?_
  refine r_iload C dL_law_262 lg_4 ?_
  refine r_iconst C dL_law_264 ?_
  refine r_iadd C dL_law_265 ?_
  refine r_sld CL dL_law_266 (by omega) (by omega) (by omega) ?_
  refine r_aload_n C dL_law_267 lg_3 ?_
  refine r_W5I C (cL_issue_ hfl (R := rwM S) hI.2.1 hI.1.2.1.1 (sc_r xs _) (sc_r xs _) (sc_r xs _) hI.2.2.2.2.2) dL_law_268 lk_L_111 ⟨Nat.le_of_ble_eq_true rfl, Nat.le_of_ble_eq_true rfl⟩ (catLe (Nat.le_of_ble_eq_true rfl)) 8 51 ⟨rfl, rfl⟩ (show _ ≤ 601024 by omega) (show _ ≤ 7293034 by omega) (fun _ _ _ h9 => h9.elim) (fun z268 S268 A268 i268 p268 => ?_)
  have hW := p268
  have hE : AE A A268 := by
    rcases hW with ⟨_, _, S9, _, hC, hS⟩ | ⟨_, _, rfl, rfl⟩ | ⟨_, _, rfl, rfl⟩
    · exact hC.1
    · exact AE.rf
    · exact AE.rf
  have hM : MV9 S268 A268 := by
    rcases hW with ⟨_, _, S9, _, hC, hS⟩ | ⟨_, _, rfl, rfl⟩ | ⟨_, _, rfl, rfl⟩
    · exact mv_cn hI.1 hC hS
    · exact hI.1
    · exact hI.1
  obtain ⟨m1, m2, m3, m4, m5, m6⟩ := mv_pre hM
  rw [← (hE 6 0 hI.2.1.1.1.2).1, ← (hE 7 0 hI.1.1.1.2).1, ← (hE 40 0 hI.2.2.2.2.2.2).1]
  refine r_istore C dL_law_271 (ls1_5 rfl rfl) ?_
  refine r_aload_n C dL_law_273 lg_2 ?_
  refine r_aloadq_n C dL_law_274 lg_0 ?_
  refine r_iload C dL_law_275 lg_4 ?_
  refine r_iconst C dL_law_277 ?_
  refine r_iadd C dL_law_278 ?_
  refine r_sld CL dL_law_279 (by omega) (by omega) (by omega) ?_
  refine r_aloadq_n C dL_law_280 lg_0 ?_
  refine r_iload C dL_law_281 lg_4 ?_
  refine r_iconst C dL_law_283 ?_
  refine r_iadd C dL_law_284 ?_
  refine r_sld CL dL_law_285 (by omega) (by omega) (by omega) ?_
  refine r_aloadq_n C dL_law_286 lg_0 ?_
  refine r_iload C dL_law_287 lg_4 ?_
  refine r_iconst C dL_law_289 ?_
  refine r_iadd C dL_law_290 ?_
  refine r_sld CL dL_law_291 (by omega) (by omega) (by omega) ?_
  refine q_V3I C (cM_issue hfl hM.1 (sc_r xs _) (sc_r xs _) (sc_r xs _) m2 m3 m4) dL_law_292 lk_L_114 hM.1.1 ⟨Nat.le_of_ble_eq_true rfl, Nat.le_of_ble_eq_true rfl⟩ (catLe (Nat.le_of_ble_eq_true rfl)) ⟨rfl, rfl⟩ rfl (show _ ≤ 601024 by omega) (show _ ≤ 7293034 by omega) (fun z292 S292 A292 i292 p292 => ?_)
  obtain ⟨rfl, hz⟩ := p292
  obtain ⟨⟨w1, w2⟩, hI2⟩ := u_issue hI hW hz
  refine r_istore C dL_law_295 (ls1_6 rfl rfl) ?_
  refine r_aload_n C dL_law_297 lg_2 ?_
  refine q_V0I C (cM_thrown hfl hI2.1.1) dL_law_298 lk_L_107 hI2.1.1.1 ⟨Nat.le_of_ble_eq_true rfl, Nat.le_of_ble_eq_true rfl⟩ (catLe (Nat.le_of_ble_eq_true rfl)) ⟨rfl, rfl⟩ rfl (show _ ≤ 601024 by omega) (show _ ≤ 7293034 by omega) (fun z298 S298 A298 i298 p298 => ?_)
  obtain ⟨rfl, rfl, rfl⟩ := p298
  refine r_iload C dL_law_301 lg_5 ?_
  refine r_iceq C (tgt := 308) dL_law_303 (by decide) (by omega) (by omega) (fun c303 => ?_) (fun c303 => ?_)
  · refine r_iload C dL_law_308 lg_5 ?_
    refine r_ifne C (tgt := 325) dL_law_310 (by decide) (by omega) (fun c310 => ?_) (fun c310 => ?_)
    · refine r_goto C (tgt := 2009) dL_law_325 (by decide) ?_
      refine r_le C (lle_k (lle_k (lle_k (lle_k (lle_k (lle_f (lle_f (lle_k lle_0)))))))) ?_
      exact next _ _ _ _ hI2 (by omega) (by omega)
    · have w3 := w2 (by omega)
      refine r_aload_n C dL_law_313 lg_3 ?_
      refine r_iconst C dL_law_314 ?_
      refine r_lald C (N := 1) 1280 dL_law_315 (by decide) rfl rfl hI2.2.2.2.2.2 (by omega) (by omega) (by omega) (fun g315 => ?_)
      refine r_iload C dL_law_316 lg_6 ?_
      refine r_i2l C dL_law_318 (by omega) ?_
      refine r_lceq C (tgt := 325) dL_law_319 dL_law_320 (by decide) (by omega) (by omega) (fun c319 => ?_) (fun c319 => ?_)
      · refine r_goto C (tgt := 2009) dL_law_325 (by decide) ?_
        refine r_le C (lle_k (lle_k (lle_k (lle_k (lle_k (lle_f (lle_f (lle_k lle_0)))))))) ?_
        exact next _ _ _ _ hI2 (by omega) (by omega)
      · exfalso; omega
  · exfalso; omega
set_option maxRecDepth 20000 in
theorem lw_c2 {G : GT} {l : Launch} (hfl : l.stackTraces = false) {b0 L : Nat} {xs : Nat → Int32} {mn : String} {tb : List ExceptionTableEntry} {J : JT} {X : XT} (C : Cx G l room_1 cL_law 8 RL mn tb J X) (CL : CxL G l room_1 cL_law 8 RL mn tb b0 L xs J X) {S : ST} {A : AB} {k n : Nat} {i : Int} (hI : INV S A) (hi : 0 ≤ i ∧ i + 6 ≤ L) (hL : L ≤ 3072) (hk : k + 70 ≤ 601024) (hn : n + 300 ≤ 7293034) (next : ∀ (S' : ST) (A' : AB) (k' n' : Nat), INV S' A' → k' ≤ k + 70 → n' ≤ n + 300 → J 2009 [some (.ref b0), some (vR A' 6 0), some (vR A' 7 0), some (vR A' 40 0), some (vI i), none, none, none] [] S' A' k' n') : J 328 [some (.ref b0), some (vR A 6 0), some (vR A 7 0), some (vR A 40 0), some (vI i), none, none, none] [] S A k n := by
  refine r_aload_n C dL_law_328 lg_1 ?_
  refine r_aloadq_n C dL_law_329 lg_0 ?_
  refine r_iload C dL_law_330 lg_4 ?_
  refine r_iconst C dL_law_332 ?_
  refine r_iadd C dL_law_333 ?_
  refine r_sld CL dL_law_334 (by omega) (by omega) (by omega) ?_
  refine r_aloadq_n C dL_law_335 lg_0 ?_
  refine r_iload C dL_law_336 lg_4 ?_
  refine r_iconst C dL_law_338 ?_
  refine r_iadd C dL_law_339 ?_
  refine r_sld CL dL_law_340 (by omega) (by omega) (by omega) ?_
  refine r_aloadq_n C dL_law_341 lg_0 ?_
  refine r_iload C dL_law_342 lg_4 ?_
  refine r_iconst C dL_law_344 ?_
  refine r_iadd C dL_law_345 ?_
  refine r_sld CL dL_law_346 (by omega) (by omega) (by omega) ?_
  refine r_aloadq_n C dL_law_347 lg_0 ?_
  refine r_iload C dL_law_348 lg_4 ?_
  refine r_iconst C dL_law_350 ?_
  refine r_iadd C dL_law_351 ?_
  refine r_sld CL dL_law_352 (by omega) (by omega) (by omega) ?_
  refine r_aload_n C dL_law_353 lg_3 ?_
  refine r_W6I C (cL_revalue_ hfl (R := rwM S) hI.2.1 hI.1.2.1.1 (sc_r xs _) (sc_r xs _) (sc_r xs _) (sc_r xs _) hI.2.2.2.2.2) dL_law_354 lk_L_115 ⟨Nat.le_of_ble_eq_true rfl, Nat.le_of_ble_eq_true rfl⟩ (catLe (Nat.le_of_ble_eq_true rfl)) 9 57 ⟨rfl, rfl⟩ (show _ ≤ 601024 by omega) (show _ ≤ 7293034 by omega) (fun _ _ _ h9 => h9.elim) (fun z354 S354 A354 i354 p354 => ?_)
  have hW := p354
  have hE : AE A A354 := by
    rcases hW with ⟨_, _, S9, _, hC, hS⟩ | ⟨_, _, rfl, rfl⟩ | ⟨_, _, rfl, rfl⟩
    · exact hC.1
    · exact AE.rf
    · exact AE.rf
  have hM : MV9 S354 A354 := by
    rcases hW with ⟨_, _, S9, _, hC, hS⟩ | ⟨_, _, rfl, rfl⟩ | ⟨_, _, rfl, rfl⟩
    · exact mv_cn hI.1 hC hS
    · exact hI.1
    · exact hI.1
  obtain ⟨m1, m2, m3, m4, m5, m6⟩ := mv_pre hM
  rw [← (hE 6 0 hI.2.1.1.1.2).1, ← (hE 7 0 hI.1.1.1.2).1, ← (hE 40 0 hI.2.2.2.2.2.2).1]
  refine r_istore C dL_law_357 (ls1_5 rfl rfl) ?_
  refine r_aload_n C dL_law_359 lg_2 ?_
  refine r_aloadq_n C dL_law_360 lg_0 ?_
  refine r_iload C dL_law_361 lg_4 ?_
  refine r_iconst C dL_law_363 ?_
  refine r_iadd C dL_law_364 ?_
  refine r_sld CL dL_law_365 (by omega) (by omega) (by omega) ?_
  refine r_aloadq_n C dL_law_366 lg_0 ?_
  refine r_iload C dL_law_367 lg_4 ?_
  refine r_iconst C dL_law_369 ?_
  refine r_iadd C dL_law_370 ?_
  refine r_sld CL dL_law_371 (by omega) (by omega) (by omega) ?_
  refine r_aloadq_n C dL_law_372 lg_0 ?_
  refine r_iload C dL_law_373 lg_4 ?_
  refine r_iconst C dL_law_375 ?_
  refine r_iadd C dL_law_376 ?_
  refine r_sld CL dL_law_377 (by omega) (by omega) (by omega) ?_
  refine r_aloadq_n C dL_law_378 lg_0 ?_
  refine r_iload C dL_law_379 lg_4 ?_
  refine r_iconst C dL_law_381 ?_
  refine r_iadd C dL_law_382 ?_
  refine r_sld CL dL_law_383 (by omega) (by omega) (by omega) ?_
  refine q_V4I C (cM_revalue hfl hM.1 (sc_r xs _) (sc_r xs _) (sc_r xs _) (sc_r xs _) m2 m3 m4) dL_law_384 lk_L_117 hM.1.1 ⟨Nat.le_of_ble_eq_true rfl, Nat.le_of_ble_eq_true rfl⟩ (catLe (Nat.le_of_ble_eq_true rfl)) ⟨rfl, rfl⟩ rfl (show _ ≤ 601024 by omega) (show _ ≤ 7293034 by omega) (fun z384 S384 A384 i384 p384 => ?_)
  obtain ⟨rfl, hz⟩ := p384
  obtain ⟨⟨w1, w2⟩, hI2⟩ := u_revalue hI hW hz
  refine r_istore C dL_law_387 (ls1_6 rfl rfl) ?_
  refine r_aload_n C dL_law_389 lg_2 ?_
  refine q_V0I C (cM_thrown hfl hI2.1.1) dL_law_390 lk_L_107 hI2.1.1.1 ⟨Nat.le_of_ble_eq_true rfl, Nat.le_of_ble_eq_true rfl⟩ (catLe (Nat.le_of_ble_eq_true rfl)) ⟨rfl, rfl⟩ rfl (show _ ≤ 601024 by omega) (show _ ≤ 7293034 by omega) (fun z390 S390 A390 i390 p390 => ?_)
  obtain ⟨rfl, rfl, rfl⟩ := p390
  refine r_iload C dL_law_393 lg_5 ?_
  refine r_iceq C (tgt := 400) dL_law_395 (by decide) (by omega) (by omega) (fun c395 => ?_) (fun c395 => ?_)
  · refine r_iload C dL_law_400 lg_5 ?_
    refine r_ifne C (tgt := 417) dL_law_402 (by decide) (by omega) (fun c402 => ?_) (fun c402 => ?_)
    · refine r_goto C (tgt := 2009) dL_law_417 (by decide) ?_
      refine r_le C (lle_k (lle_k (lle_k (lle_k (lle_k (lle_f (lle_f (lle_k lle_0)))))))) ?_
      exact next _ _ _ _ hI2 (by omega) (by omega)
    · have w3 := w2 (by omega)
      refine r_aload_n C dL_law_405 lg_3 ?_
      refine r_iconst C dL_law_406 ?_
      refine r_lald C (N := 1) 1280 dL_law_407 (by decide) rfl rfl hI2.2.2.2.2.2 (by omega) (by omega) (by omega) (fun g407 => ?_)
      refine r_iload C dL_law_408 lg_6 ?_
      refine r_i2l C dL_law_410 (by omega) ?_
      refine r_lceq C (tgt := 417) dL_law_411 dL_law_412 (by decide) (by omega) (by omega) (fun c411 => ?_) (fun c411 => ?_)
      · refine r_goto C (tgt := 2009) dL_law_417 (by decide) ?_
        refine r_le C (lle_k (lle_k (lle_k (lle_k (lle_k (lle_f (lle_f (lle_k lle_0)))))))) ?_
        exact next _ _ _ _ hI2 (by omega) (by omega)
      · exfalso; omega
  · exfalso; omega
set_option maxRecDepth 20000 in
theorem lw_c3 {G : GT} {l : Launch} (hfl : l.stackTraces = false) {b0 L : Nat} {xs : Nat → Int32} {mn : String} {tb : List ExceptionTableEntry} {J : JT} {X : XT} (C : Cx G l room_1 cL_law 8 RL mn tb J X) (CL : CxL G l room_1 cL_law 8 RL mn tb b0 L xs J X) {S : ST} {A : AB} {k n : Nat} {i : Int} (hI : INV S A) (hi : 0 ≤ i ∧ i + 6 ≤ L) (hL : L ≤ 3072) (hk : k + 70 ≤ 601024) (hn : n + 300 ≤ 7293034) (next : ∀ (S' : ST) (A' : AB) (k' n' : Nat), INV S' A' → k' ≤ k + 70 → n' ≤ n + 300 → J 2009 [some (.ref b0), some (vR A' 6 0), some (vR A' 7 0), some (vR A' 40 0), some (vI i), none, none, none] [] S' A' k' n') : J 420 [some (.ref b0), some (vR A 6 0), some (vR A 7 0), some (vR A 40 0), some (vI i), none, none, none] [] S A k n := by
  refine r_aload_n C dL_law_420 lg_1 ?_
  refine r_aloadq_n C dL_law_421 lg_0 ?_
  refine r_iload C dL_law_422 lg_4 ?_
  refine r_iconst C dL_law_424 ?_
  refine r_iadd C dL_law_425 ?_
  refine r_sld CL dL_law_426 (by omega) (by omega) (by omega) ?_
  refine r_aloadq_n C dL_law_427 lg_0 ?_
  refine r_iload C dL_law_428 lg_4 ?_
  refine r_iconst C dL_law_430 ?_
  refine r_iadd C dL_law_431 ?_
  refine r_sld CL dL_law_432 (by omega) (by omega) (by omega) ?_
  refine r_aloadq_n C dL_law_433 lg_0 ?_
  refine r_iload C dL_law_434 lg_4 ?_
  refine r_iconst C dL_law_436 ?_
  refine r_iadd C dL_law_437 ?_
  refine r_sld CL dL_law_438 (by omega) (by omega) (by omega) ?_
  refine r_aloadq_n C dL_law_439 lg_0 ?_
  refine r_iload C dL_law_440 lg_4 ?_
  refine r_iconst C dL_law_442 ?_
  refine r_iadd C dL_law_443 ?_
  refine r_sld CL dL_law_444 (by omega) (by omega) (by omega) ?_
  refine r_i2l C dL_law_445 (sc_r xs _) ?_
  refine r_bipush C dL_law_446 (by decide) ?_
  refine r_lshl C dL_law_448 (fun b448 => ?_)
  refine r_aloadq_n C dL_law_449 lg_0 ?_
  refine r_iload C dL_law_450 lg_4 ?_
  refine r_iconst C dL_law_452 ?_
  refine r_iadd C dL_law_453 ?_
  refine r_sld CL dL_law_454 (by omega) (by omega) (by omega) ?_
  refine r_i2l C dL_law_455 (sc_r xs _) ?_
  refine r_ldc2 C dL_law_456 cs_L_118 (4294967295) (by decide) ?_
  refine r_land C dL_law_459 (fun b459 => ?_)
  refine r_lor C dL_law_460 (fun b460 => ?_)
  refine r_aload_n C dL_law_461 lg_3 ?_
  refine r_W6I C (cL_land_ hfl (R := rwM S) hI.2.1 hI.1.2.1.1 (sc_r xs _) (sc_r xs _) (sc_r xs _) (by assumption) (inv_w hI) (inv_5 hI) hI.2.2.2.2.2) dL_law_462 lk_L_120 ⟨Nat.le_of_ble_eq_true rfl, Nat.le_of_ble_eq_true rfl⟩ (catLe (Nat.le_of_ble_eq_true rfl)) 68 291 ⟨rfl, rfl⟩ (show _ ≤ 601024 by omega) (show _ ≤ 7293034 by omega) (fun _ _ _ h9 => h9.elim) (fun z462 S462 A462 i462 p462 => ?_)
  have hW := p462
  have hE : AE A A462 := by
    rcases hW with ⟨_, _, S9, _, hC, hS⟩ | ⟨_, _, rfl, rfl⟩ | ⟨_, _, rfl, rfl⟩ | ⟨_, _, rfl, rfl⟩
    · exact hC.1
    · exact AE.rf
    · exact AE.rf
    · exact AE.rf
  have hM : MV9 S462 A462 := by
    rcases hW with ⟨_, _, S9, _, hC, hS⟩ | ⟨_, _, rfl, rfl⟩ | ⟨_, _, rfl, rfl⟩ | ⟨_, _, rfl, rfl⟩
    · exact mv_cn hI.1 hC hS
    · exact hI.1
    · exact hI.1
    · exact hI.1
  obtain ⟨m1, m2, m3, m4, m5, m6⟩ := mv_pre hM
  rw [← (hE 6 0 hI.2.1.1.1.2).1, ← (hE 7 0 hI.1.1.1.2).1, ← (hE 40 0 hI.2.2.2.2.2.2).1]
  refine r_istore C dL_law_465 (ls1_5 rfl rfl) ?_
  refine r_aload_n C dL_law_467 lg_2 ?_
  refine r_aloadq_n C dL_law_468 lg_0 ?_
  refine r_iload C dL_law_469 lg_4 ?_
  refine r_iconst C dL_law_471 ?_
  refine r_iadd C dL_law_472 ?_
  refine r_sld CL dL_law_473 (by omega) (by omega) (by omega) ?_
  refine r_aloadq_n C dL_law_474 lg_0 ?_
  refine r_iload C dL_law_475 lg_4 ?_
  refine r_iconst C dL_law_477 ?_
  refine r_iadd C dL_law_478 ?_
  refine r_sld CL dL_law_479 (by omega) (by omega) (by omega) ?_
  refine r_aloadq_n C dL_law_480 lg_0 ?_
  refine r_iload C dL_law_481 lg_4 ?_
  refine r_iconst C dL_law_483 ?_
  refine r_iadd C dL_law_484 ?_
  refine r_sld CL dL_law_485 (by omega) (by omega) (by omega) ?_
  refine r_aloadq_n C dL_law_486 lg_0 ?_
  refine r_iload C dL_law_487 lg_4 ?_
  refine r_iconst C dL_law_489 ?_
  refine r_iadd C dL_law_490 ?_
  refine r_sld CL dL_law_491 (by omega) (by omega) (by omega) ?_
  refine r_i2l C dL_law_492 (sc_r xs _) ?_
  refine r_bipush C dL_law_493 (by decide) ?_
  refine r_lshl C dL_law_495 (fun b495 => ?_)
  refine r_aloadq_n C dL_law_496 lg_0 ?_
  refine r_iload C dL_law_497 lg_4 ?_
  refine r_iconst C dL_law_499 ?_
  refine r_iadd C dL_law_500 ?_
  refine r_sld CL dL_law_501 (by omega) (by omega) (by omega) ?_
  refine r_i2l C dL_law_502 (sc_r xs _) ?_
  refine r_ldc2 C dL_law_503 cs_L_118 (4294967295) (by decide) ?_
  refine r_land C dL_law_506 (fun b506 => ?_)
  refine r_lor C dL_law_507 (fun b507 => ?_)
  refine q_V4I C (cM_land hfl hM.1 (sc_r xs _) (sc_r xs _) (sc_r xs _) (by assumption) m2 m3 m4 m5 m6 hM.2.2.2.2) dL_law_508 lk_L_123 hM.1.1 ⟨Nat.le_of_ble_eq_true rfl, Nat.le_of_ble_eq_true rfl⟩ (catLe (Nat.le_of_ble_eq_true rfl)) ⟨rfl, rfl⟩ rfl (show _ ≤ 601024 by omega) (show _ ≤ 7293034 by omega) (fun z508 S508 A508 i508 p508 => ?_)
  obtain ⟨rfl, hz⟩ := p508
  obtain ⟨⟨w1, w2⟩, hI2⟩ := u_land hI hW hz
  refine r_istore C dL_law_511 (ls1_6 rfl rfl) ?_
  refine r_aload_n C dL_law_513 lg_2 ?_
  refine q_V0I C (cM_thrown hfl hI2.1.1) dL_law_514 lk_L_107 hI2.1.1.1 ⟨Nat.le_of_ble_eq_true rfl, Nat.le_of_ble_eq_true rfl⟩ (catLe (Nat.le_of_ble_eq_true rfl)) ⟨rfl, rfl⟩ rfl (show _ ≤ 601024 by omega) (show _ ≤ 7293034 by omega) (fun z514 S514 A514 i514 p514 => ?_)
  obtain ⟨rfl, rfl, rfl⟩ := p514
  refine r_iload C dL_law_517 lg_5 ?_
  refine r_iceq C (tgt := 524) dL_law_519 (by decide) (by omega) (by omega) (fun c519 => ?_) (fun c519 => ?_)
  · refine r_iload C dL_law_524 lg_5 ?_
    refine r_ifne C (tgt := 541) dL_law_526 (by decide) (by omega) (fun c526 => ?_) (fun c526 => ?_)
    · refine r_goto C (tgt := 2009) dL_law_541 (by decide) ?_
      refine r_le C (lle_k (lle_k (lle_k (lle_k (lle_k (lle_f (lle_f (lle_k lle_0)))))))) ?_
      exact next _ _ _ _ hI2 (by omega) (by omega)
    · have w3 := w2 (by omega)
      refine r_aload_n C dL_law_529 lg_3 ?_
      refine r_iconst C dL_law_530 ?_
      refine r_lald C (N := 1) 1280 dL_law_531 (by decide) rfl rfl hI2.2.2.2.2.2 (by omega) (by omega) (by omega) (fun g531 => ?_)
      refine r_iload C dL_law_532 lg_6 ?_
      refine r_i2l C dL_law_534 (by omega) ?_
      refine r_lceq C (tgt := 541) dL_law_535 dL_law_536 (by decide) (by omega) (by omega) (fun c535 => ?_) (fun c535 => ?_)
      · refine r_goto C (tgt := 2009) dL_law_541 (by decide) ?_
        refine r_le C (lle_k (lle_k (lle_k (lle_k (lle_k (lle_f (lle_f (lle_k lle_0)))))))) ?_
        exact next _ _ _ _ hI2 (by omega) (by omega)
      · exfalso; omega
  · exfalso; omega
set_option maxRecDepth 20000 in
theorem lw_c4 {G : GT} {l : Launch} (hfl : l.stackTraces = false) {b0 L : Nat} {xs : Nat → Int32} {mn : String} {tb : List ExceptionTableEntry} {J : JT} {X : XT} (C : Cx G l room_1 cL_law 8 RL mn tb J X) (CL : CxL G l room_1 cL_law 8 RL mn tb b0 L xs J X) {S : ST} {A : AB} {k n : Nat} {i : Int} (hI : INV S A) (hi : 0 ≤ i ∧ i + 6 ≤ L) (hL : L ≤ 3072) (hk : k + 70 ≤ 601024) (hn : n + 300 ≤ 7293034) (next : ∀ (S' : ST) (A' : AB) (k' n' : Nat), INV S' A' → k' ≤ k + 70 → n' ≤ n + 300 → J 2009 [some (.ref b0), some (vR A' 6 0), some (vR A' 7 0), some (vR A' 40 0), some (vI i), none, none, none] [] S' A' k' n') : J 544 [some (.ref b0), some (vR A 6 0), some (vR A 7 0), some (vR A 40 0), some (vI i), none, none, none] [] S A k n := by
  refine r_aload_n C dL_law_544 lg_1 ?_
  refine r_aloadq_n C dL_law_545 lg_0 ?_
  refine r_iload C dL_law_546 lg_4 ?_
  refine r_iconst C dL_law_548 ?_
  refine r_iadd C dL_law_549 ?_
  refine r_sld CL dL_law_550 (by omega) (by omega) (by omega) ?_
  refine r_aload_n C dL_law_551 lg_3 ?_
  refine r_W3I C (cL_cancel_ hfl (R := rwM S) hI.2.1 hI.1.2.1.1 (sc_r xs _) hI.2.2.2.2.2) dL_law_552 lk_L_124 ⟨Nat.le_of_ble_eq_true rfl, Nat.le_of_ble_eq_true rfl⟩ (catLe (Nat.le_of_ble_eq_true rfl)) 4 24 ⟨rfl, rfl⟩ (show _ ≤ 601024 by omega) (show _ ≤ 7293034 by omega) (fun _ _ _ h9 => h9.elim) (fun z552 S552 A552 i552 p552 => ?_)
  obtain ⟨rfl, hW⟩ := p552
  have hM : MV9 S552 A := by
    rcases hW with ⟨_, _, S9, _, hF9, hS9⟩ | ⟨_, _, rfl⟩ | ⟨_, _, rfl⟩
    · exact mv_can hI.1 hF9 hS9
    · exact hI.1
    · exact hI.1
  obtain ⟨m1, m2, m3, m4, m5, m6⟩ := mv_pre hM
  refine r_istore C dL_law_555 (ls1_5 rfl rfl) ?_
  refine r_aload_n C dL_law_557 lg_2 ?_
  refine r_aloadq_n C dL_law_558 lg_0 ?_
  refine r_iload C dL_law_559 lg_4 ?_
  refine r_iconst C dL_law_561 ?_
  refine r_iadd C dL_law_562 ?_
  refine r_sld CL dL_law_563 (by omega) (by omega) (by omega) ?_
  refine q_V1I C (cM_cancel hfl hM.1 (sc_r xs _) m1 m2 m3 m4) dL_law_564 lk_L_127 hM.1.1 ⟨Nat.le_of_ble_eq_true rfl, Nat.le_of_ble_eq_true rfl⟩ (catLe (Nat.le_of_ble_eq_true rfl)) ⟨rfl, rfl⟩ rfl (show _ ≤ 601024 by omega) (show _ ≤ 7293034 by omega) (fun z564 S564 A564 i564 p564 => ?_)
  obtain ⟨rfl, hz⟩ := p564
  obtain ⟨⟨w1, w2⟩, hI2⟩ := u_cancel hI hW hz
  refine r_istore C dL_law_567 (ls1_6 rfl rfl) ?_
  refine r_aload_n C dL_law_569 lg_2 ?_
  refine q_V0I C (cM_thrown hfl hI2.1.1) dL_law_570 lk_L_107 hI2.1.1.1 ⟨Nat.le_of_ble_eq_true rfl, Nat.le_of_ble_eq_true rfl⟩ (catLe (Nat.le_of_ble_eq_true rfl)) ⟨rfl, rfl⟩ rfl (show _ ≤ 601024 by omega) (show _ ≤ 7293034 by omega) (fun z570 S570 A570 i570 p570 => ?_)
  obtain ⟨rfl, rfl, rfl⟩ := p570
  refine r_iload C dL_law_573 lg_5 ?_
  refine r_iceq C (tgt := 580) dL_law_575 (by decide) (by omega) (by omega) (fun c575 => ?_) (fun c575 => ?_)
  · refine r_iload C dL_law_580 lg_5 ?_
    refine r_ifne C (tgt := 597) dL_law_582 (by decide) (by omega) (fun c582 => ?_) (fun c582 => ?_)
    · refine r_goto C (tgt := 2009) dL_law_597 (by decide) ?_
      refine r_le C (lle_k (lle_k (lle_k (lle_k (lle_k (lle_f (lle_f (lle_k lle_0)))))))) ?_
      exact next _ _ _ _ hI2 (by omega) (by omega)
    · have w3 := w2 (by omega)
      refine r_aload_n C dL_law_585 lg_3 ?_
      refine r_iconst C dL_law_586 ?_
      refine r_lald C (N := 1) 1280 dL_law_587 (by decide) rfl rfl hI2.2.2.2.2.2 (by omega) (by omega) (by omega) (fun g587 => ?_)
      refine r_iload C dL_law_588 lg_6 ?_
      refine r_i2l C dL_law_590 (by omega) ?_
      refine r_lceq C (tgt := 597) dL_law_591 dL_law_592 (by decide) (by omega) (by omega) (fun c591 => ?_) (fun c591 => ?_)
      · refine r_goto C (tgt := 2009) dL_law_597 (by decide) ?_
        refine r_le C (lle_k (lle_k (lle_k (lle_k (lle_k (lle_f (lle_f (lle_k lle_0)))))))) ?_
        exact next _ _ _ _ hI2 (by omega) (by omega)
      · exfalso; omega
  · exfalso; omega
set_option maxRecDepth 20000 in
theorem lw_c5 {G : GT} {l : Launch} (hfl : l.stackTraces = false) {b0 L : Nat} {xs : Nat → Int32} {mn : String} {tb : List ExceptionTableEntry} {J : JT} {X : XT} (C : Cx G l room_1 cL_law 8 RL mn tb J X) (CL : CxL G l room_1 cL_law 8 RL mn tb b0 L xs J X) {S : ST} {A : AB} {k n : Nat} {i : Int} (hI : INV S A) (hi : 0 ≤ i ∧ i + 6 ≤ L) (hL : L ≤ 3072) (hk : k + 70 ≤ 601024) (hn : n + 300 ≤ 7293034) (next : ∀ (S' : ST) (A' : AB) (k' n' : Nat), INV S' A' → k' ≤ k + 70 → n' ≤ n + 300 → J 2009 [some (.ref b0), some (vR A' 6 0), some (vR A' 7 0), some (vR A' 40 0), some (vI i), none, none, none] [] S' A' k' n') : J 600 [some (.ref b0), some (vR A 6 0), some (vR A 7 0), some (vR A 40 0), some (vI i), none, none, none] [] S A k n := by
  refine r_aload_n C dL_law_600 lg_1 ?_
  refine r_aloadq_n C dL_law_601 lg_0 ?_
  refine r_iload C dL_law_602 lg_4 ?_
  refine r_iconst C dL_law_604 ?_
  refine r_iadd C dL_law_605 ?_
  refine r_sld CL dL_law_606 (by omega) (by omega) (by omega) ?_
  refine r_aload_n C dL_law_607 lg_3 ?_
  refine r_W3I C (cL_close_ hfl hI.2.1.1.1 (sc_r xs _) hI.2.2.2.2.2) dL_law_608 lk_L_128 ⟨Nat.le_of_ble_eq_true rfl, Nat.le_of_ble_eq_true rfl⟩ (catLe (Nat.le_of_ble_eq_true rfl)) 2 12 ⟨rfl, rfl⟩ (show _ ≤ 601024 by omega) (show _ ≤ 7293034 by omega) (fun _ _ _ h9 => h9.elim) (fun z608 S608 A608 i608 p608 => ?_)
  obtain ⟨rfl, hW⟩ := p608
  have hM : MV9 S608 A := by
    rcases hW with ⟨_, _, hS9⟩ | ⟨_, _, rfl⟩ | ⟨_, _, rfl⟩
    · rw [hS9]; exact mv_up2 hI.1 (by decide) (by decide)
    · exact hI.1
    · exact hI.1
  obtain ⟨m1, m2, m3, m4, m5, m6⟩ := mv_pre hM
  refine r_istore C dL_law_611 (ls1_5 rfl rfl) ?_
  refine r_aload_n C dL_law_613 lg_2 ?_
  refine r_aloadq_n C dL_law_614 lg_0 ?_
  refine r_iload C dL_law_615 lg_4 ?_
  refine r_iconst C dL_law_617 ?_
  refine r_iadd C dL_law_618 ?_
  refine r_sld CL dL_law_619 (by omega) (by omega) (by omega) ?_
  refine q_V1I C (cM_close hfl hM.1 (sc_r xs _) m1) dL_law_620 lk_L_130 hM.1.1 ⟨Nat.le_of_ble_eq_true rfl, Nat.le_of_ble_eq_true rfl⟩ (catLe (Nat.le_of_ble_eq_true rfl)) ⟨rfl, rfl⟩ rfl (show _ ≤ 601024 by omega) (show _ ≤ 7293034 by omega) (fun z620 S620 A620 i620 p620 => ?_)
  obtain ⟨rfl, hz⟩ := p620
  obtain ⟨⟨w1, w2⟩, hI2⟩ := u_close hI hW hz
  refine r_istore C dL_law_623 (ls1_6 rfl rfl) ?_
  refine r_aload_n C dL_law_625 lg_2 ?_
  refine q_V0I C (cM_thrown hfl hI2.1.1) dL_law_626 lk_L_107 hI2.1.1.1 ⟨Nat.le_of_ble_eq_true rfl, Nat.le_of_ble_eq_true rfl⟩ (catLe (Nat.le_of_ble_eq_true rfl)) ⟨rfl, rfl⟩ rfl (show _ ≤ 601024 by omega) (show _ ≤ 7293034 by omega) (fun z626 S626 A626 i626 p626 => ?_)
  obtain ⟨rfl, rfl, rfl⟩ := p626
  refine r_iload C dL_law_629 lg_5 ?_
  refine r_iceq C (tgt := 636) dL_law_631 (by decide) (by omega) (by omega) (fun c631 => ?_) (fun c631 => ?_)
  · refine r_iload C dL_law_636 lg_5 ?_
    refine r_ifne C (tgt := 653) dL_law_638 (by decide) (by omega) (fun c638 => ?_) (fun c638 => ?_)
    · refine r_goto C (tgt := 2009) dL_law_653 (by decide) ?_
      refine r_le C (lle_k (lle_k (lle_k (lle_k (lle_k (lle_f (lle_f (lle_k lle_0)))))))) ?_
      exact next _ _ _ _ hI2 (by omega) (by omega)
    · have w3 := w2 (by omega)
      refine r_aload_n C dL_law_641 lg_3 ?_
      refine r_iconst C dL_law_642 ?_
      refine r_lald C (N := 1) 1280 dL_law_643 (by decide) rfl rfl hI2.2.2.2.2.2 (by omega) (by omega) (by omega) (fun g643 => ?_)
      refine r_iload C dL_law_644 lg_6 ?_
      refine r_i2l C dL_law_646 (by omega) ?_
      refine r_lceq C (tgt := 653) dL_law_647 dL_law_648 (by decide) (by omega) (by omega) (fun c647 => ?_) (fun c647 => ?_)
      · refine r_goto C (tgt := 2009) dL_law_653 (by decide) ?_
        refine r_le C (lle_k (lle_k (lle_k (lle_k (lle_k (lle_f (lle_f (lle_k lle_0)))))))) ?_
        exact next _ _ _ _ hI2 (by omega) (by omega)
      · exfalso; omega
  · exfalso; omega
set_option maxRecDepth 20000 in
theorem lw_c6 {G : GT} {l : Launch} (hfl : l.stackTraces = false) {b0 L : Nat} {xs : Nat → Int32} {mn : String} {tb : List ExceptionTableEntry} {J : JT} {X : XT} (C : Cx G l room_1 cL_law 8 RL mn tb J X) (CL : CxL G l room_1 cL_law 8 RL mn tb b0 L xs J X) {S : ST} {A : AB} {k n : Nat} {i : Int} (hI : INV S A) (hi : 0 ≤ i ∧ i + 6 ≤ L) (hL : L ≤ 3072) (hk : k + 70 ≤ 601024) (hn : n + 300 ≤ 7293034) (next : ∀ (S' : ST) (A' : AB) (k' n' : Nat), INV S' A' → k' ≤ k + 70 → n' ≤ n + 300 → J 2009 [some (.ref b0), some (vR A' 6 0), some (vR A' 7 0), some (vR A' 40 0), some (vI i), none, none, none] [] S' A' k' n') : J 656 [some (.ref b0), some (vR A 6 0), some (vR A 7 0), some (vR A 40 0), some (vI i), none, none, none] [] S A k n := by
  refine r_aload_n C dL_law_656 lg_1 ?_
  refine r_aloadq_n C dL_law_657 lg_0 ?_
  refine r_iload C dL_law_658 lg_4 ?_
  refine r_iconst C dL_law_660 ?_
  refine r_iadd C dL_law_661 ?_
  refine r_sld CL dL_law_662 (by omega) (by omega) (by omega) ?_
  refine r_aloadq_n C dL_law_663 lg_0 ?_
  refine r_iload C dL_law_664 lg_4 ?_
  refine r_iconst C dL_law_666 ?_
  refine r_iadd C dL_law_667 ?_
  refine r_sld CL dL_law_668 (by omega) (by omega) (by omega) ?_
  refine r_aload_n C dL_law_669 lg_3 ?_
  refine r_W4I C (cL_setWeight_ hfl hI.2.1.1.1 hI.2.1.1.2.2.2.2.2 hI.2.1.2.1.2.2.2.2 (sc_r xs _) (sc_r xs _) hI.2.2.2.2.2) dL_law_670 lk_L_131 ⟨Nat.le_of_ble_eq_true rfl, Nat.le_of_ble_eq_true rfl⟩ (catLe (Nat.le_of_ble_eq_true rfl)) 2 12 ⟨rfl, rfl⟩ (show _ ≤ 601024 by omega) (show _ ≤ 7293034 by omega) (fun _ _ _ h9 => h9.elim) (fun z670 S670 A670 i670 p670 => ?_)
  obtain ⟨rfl, hW⟩ := p670
  have hM : MV9 S670 A := by
    rcases hW with ⟨_, _, hS9⟩ | ⟨_, _, rfl⟩
    · rw [hS9]; exact mv_up2 hI.1 (by decide) (by decide)
    · exact hI.1
  obtain ⟨m1, m2, m3, m4, m5, m6⟩ := mv_pre hM
  refine r_istore C dL_law_673 (ls1_5 rfl rfl) ?_
  refine r_aload_n C dL_law_675 lg_2 ?_
  refine r_aloadq_n C dL_law_676 lg_0 ?_
  refine r_iload C dL_law_677 lg_4 ?_
  refine r_iconst C dL_law_679 ?_
  refine r_iadd C dL_law_680 ?_
  refine r_sld CL dL_law_681 (by omega) (by omega) (by omega) ?_
  refine r_aloadq_n C dL_law_682 lg_0 ?_
  refine r_iload C dL_law_683 lg_4 ?_
  refine r_iconst C dL_law_685 ?_
  refine r_iadd C dL_law_686 ?_
  refine r_sld CL dL_law_687 (by omega) (by omega) (by omega) ?_
  refine q_V2I C (cM_setWeight hfl hM.1 (sc_r xs _) (sc_r xs _)) dL_law_688 lk_L_134 hM.1.1 ⟨Nat.le_of_ble_eq_true rfl, Nat.le_of_ble_eq_true rfl⟩ (catLe (Nat.le_of_ble_eq_true rfl)) ⟨rfl, rfl⟩ rfl (show _ ≤ 601024 by omega) (show _ ≤ 7293034 by omega) (fun z688 S688 A688 i688 p688 => ?_)
  obtain ⟨rfl, hz⟩ := p688
  obtain ⟨⟨w1, w2⟩, hI2⟩ := u_setWeight hI hW hz
  refine r_istore C dL_law_691 (ls1_6 rfl rfl) ?_
  refine r_aload_n C dL_law_693 lg_2 ?_
  refine q_V0I C (cM_thrown hfl hI2.1.1) dL_law_694 lk_L_107 hI2.1.1.1 ⟨Nat.le_of_ble_eq_true rfl, Nat.le_of_ble_eq_true rfl⟩ (catLe (Nat.le_of_ble_eq_true rfl)) ⟨rfl, rfl⟩ rfl (show _ ≤ 601024 by omega) (show _ ≤ 7293034 by omega) (fun z694 S694 A694 i694 p694 => ?_)
  obtain ⟨rfl, rfl, rfl⟩ := p694
  refine r_iload C dL_law_697 lg_5 ?_
  refine r_iceq C (tgt := 704) dL_law_699 (by decide) (by omega) (by omega) (fun c699 => ?_) (fun c699 => ?_)
  · refine r_iload C dL_law_704 lg_5 ?_
    refine r_ifne C (tgt := 721) dL_law_706 (by decide) (by omega) (fun c706 => ?_) (fun c706 => ?_)
    · refine r_goto C (tgt := 2009) dL_law_721 (by decide) ?_
      refine r_le C (lle_k (lle_k (lle_k (lle_k (lle_k (lle_f (lle_f (lle_k lle_0)))))))) ?_
      exact next _ _ _ _ hI2 (by omega) (by omega)
    · have w3 := w2 (by omega)
      refine r_aload_n C dL_law_709 lg_3 ?_
      refine r_iconst C dL_law_710 ?_
      refine r_lald C (N := 1) 1280 dL_law_711 (by decide) rfl rfl hI2.2.2.2.2.2 (by omega) (by omega) (by omega) (fun g711 => ?_)
      refine r_iload C dL_law_712 lg_6 ?_
      refine r_i2l C dL_law_714 (by omega) ?_
      refine r_lceq C (tgt := 721) dL_law_715 dL_law_716 (by decide) (by omega) (by omega) (fun c715 => ?_) (fun c715 => ?_)
      · refine r_goto C (tgt := 2009) dL_law_721 (by decide) ?_
        refine r_le C (lle_k (lle_k (lle_k (lle_k (lle_k (lle_f (lle_f (lle_k lle_0)))))))) ?_
        exact next _ _ _ _ hI2 (by omega) (by omega)
      · exfalso; omega
  · exfalso; omega
set_option maxRecDepth 20000 in
theorem lw_c7 {G : GT} {l : Launch} (hfl : l.stackTraces = false) {b0 L : Nat} {xs : Nat → Int32} {mn : String} {tb : List ExceptionTableEntry} {J : JT} {X : XT} (C : Cx G l room_1 cL_law 8 RL mn tb J X) (CL : CxL G l room_1 cL_law 8 RL mn tb b0 L xs J X) {S : ST} {A : AB} {k n : Nat} {i : Int} (hI : INV S A) (hi : 0 ≤ i ∧ i + 6 ≤ L) (hL : L ≤ 3072) (hk : k + 70 ≤ 601024) (hn : n + 300 ≤ 7293034) (next : ∀ (S' : ST) (A' : AB) (k' n' : Nat), INV S' A' → k' ≤ k + 70 → n' ≤ n + 300 → J 2009 [some (.ref b0), some (vR A' 6 0), some (vR A' 7 0), some (vR A' 40 0), some (vI i), none, none, none] [] S' A' k' n') : J 724 [some (.ref b0), some (vR A 6 0), some (vR A 7 0), some (vR A 40 0), some (vI i), none, none, none] [] S A k n := by
  refine r_aload_n C dL_law_724 lg_1 ?_
  refine q_V0I C (cB_movements hfl hI.2.1.1.1) dL_law_725 lk_L_135 hI.2.1.1.1 ⟨Nat.le_of_ble_eq_true rfl, Nat.le_of_ble_eq_true rfl⟩ (catLe (Nat.le_of_ble_eq_true rfl)) ⟨rfl, rfl⟩ rfl (show _ ≤ 601024 by omega) (show _ ≤ 7293034 by omega) (fun z725 S725 A725 i725 p725 => ?_)
  obtain ⟨rfl, rfl, rfl⟩ := p725
  refine r_aload_n C dL_law_728 lg_2 ?_
  refine q_V0I C (cM_movements hfl hI.1.1) dL_law_729 lk_L_138 hI.1.1.1 ⟨Nat.le_of_ble_eq_true rfl, Nat.le_of_ble_eq_true rfl⟩ (catLe (Nat.le_of_ble_eq_true rfl)) ⟨rfl, rfl⟩ rfl (show _ ≤ 601024 by omega) (show _ ≤ 7293034 by omega) (fun z729 S729 A729 i729 p729 => ?_)
  obtain ⟨rfl, rfl, rfl⟩ := p729
  have e9 : S 197 0 = S 232 0 := hI.2.1.2.2.1.1
  refine r_iceq C (tgt := 2009) dL_law_732 (by decide) (by omega) (by omega) (fun c732 => ?_) (fun c732 => ?_)
  · exact next _ _ _ _ (inv_fr hI (Fr.up (by decide))) (by omega) (by omega)
  · exfalso; omega
set_option maxRecDepth 20000 in
theorem lw_c8 {G : GT} {l : Launch} (hfl : l.stackTraces = false) {b0 L : Nat} {xs : Nat → Int32} {mn : String} {tb : List ExceptionTableEntry} {J : JT} {X : XT} (C : Cx G l room_1 cL_law 8 RL mn tb J X) (CL : CxL G l room_1 cL_law 8 RL mn tb b0 L xs J X) {S : ST} {A : AB} {k n : Nat} {i : Int} (hI : INV S A) (hi : 0 ≤ i ∧ i + 6 ≤ L) (hL : L ≤ 3072) (hk : k + 70 ≤ 601024) (hn : n + 300 ≤ 7293034) (next : ∀ (S' : ST) (A' : AB) (k' n' : Nat), INV S' A' → k' ≤ k + 70 → n' ≤ n + 300 → J 2009 [some (.ref b0), some (vR A' 6 0), some (vR A' 7 0), some (vR A' 40 0), some (vI i), none, none, none] [] S' A' k' n') : J 737 [some (.ref b0), some (vR A 6 0), some (vR A 7 0), some (vR A 40 0), some (vI i), none, none, none] [] S A k n := by
  refine r_aload_n C dL_law_737 lg_1 ?_
  refine r_aloadq_n C dL_law_738 lg_0 ?_
  refine r_iload C dL_law_739 lg_4 ?_
  refine r_iconst C dL_law_741 ?_
  refine r_iadd C dL_law_742 ?_
  refine r_sld CL dL_law_743 (by omega) (by omega) (by omega) ?_
  refine r_aload_n C dL_law_744 lg_3 ?_
  refine r_W3I C (cL_kindOf_ hfl (R := rwM S) hI.2.1 hI.1.2.1.1 (sc_r xs _) hI.2.2.2.2.2) dL_law_745 lk_L_139 ⟨Nat.le_of_ble_eq_true rfl, Nat.le_of_ble_eq_true rfl⟩ (catLe (Nat.le_of_ble_eq_true rfl)) 1 6 ⟨rfl, rfl⟩ (show _ ≤ 601024 by omega) (show _ ≤ 7293034 by omega) (fun _ _ _ h9 => h9.elim) (fun z745 S745 A745 i745 p745 => ?_)
  obtain ⟨rfl, hF, hW⟩ := p745
  have hM := (inv_fr hI hF).1
  obtain ⟨m1, m2, m3, m4, m5, m6⟩ := mv_pre hM
  refine r_istore C dL_law_748 (ls1_5 rfl rfl) ?_
  refine r_aload_n C dL_law_750 lg_2 ?_
  refine r_aloadq_n C dL_law_751 lg_0 ?_
  refine r_iload C dL_law_752 lg_4 ?_
  refine r_iconst C dL_law_754 ?_
  refine r_iadd C dL_law_755 ?_
  refine r_sld CL dL_law_756 (by omega) (by omega) (by omega) ?_
  refine q_V1I C (cM_kindOf hfl hM.1 (sc_r xs _) m2 m3) dL_law_757 lk_L_141 hM.1.1 ⟨Nat.le_of_ble_eq_true rfl, Nat.le_of_ble_eq_true rfl⟩ (catLe (Nat.le_of_ble_eq_true rfl)) ⟨rfl, rfl⟩ rfl (show _ ≤ 601024 by omega) (show _ ≤ 7293034 by omega) (fun z757 S757 A757 i757 p757 => ?_)
  obtain ⟨hz, hS, rfl⟩ := p757
  obtain ⟨⟨w1, w2⟩, hI2⟩ := u_kindOf hI hF hW hz hS
  refine r_istore C dL_law_760 (ls1_6 rfl rfl) ?_
  refine r_aload_n C dL_law_762 lg_2 ?_
  refine q_V0I C (cM_thrown hfl hI2.1.1) dL_law_763 lk_L_107 hI2.1.1.1 ⟨Nat.le_of_ble_eq_true rfl, Nat.le_of_ble_eq_true rfl⟩ (catLe (Nat.le_of_ble_eq_true rfl)) ⟨rfl, rfl⟩ rfl (show _ ≤ 601024 by omega) (show _ ≤ 7293034 by omega) (fun z763 S763 A763 i763 p763 => ?_)
  obtain ⟨rfl, rfl, rfl⟩ := p763
  refine r_iload C dL_law_766 lg_5 ?_
  refine r_iceq C (tgt := 773) dL_law_768 (by decide) (by omega) (by omega) (fun c768 => ?_) (fun c768 => ?_)
  · refine r_iload C dL_law_773 lg_5 ?_
    refine r_ifne C (tgt := 790) dL_law_775 (by decide) (by omega) (fun c775 => ?_) (fun c775 => ?_)
    · refine r_goto C (tgt := 2009) dL_law_790 (by decide) ?_
      refine r_le C (lle_k (lle_k (lle_k (lle_k (lle_k (lle_f (lle_f (lle_k lle_0)))))))) ?_
      exact next _ _ _ _ hI2 (by omega) (by omega)
    · have w3 := w2 (by omega)
      refine r_aload_n C dL_law_778 lg_3 ?_
      refine r_iconst C dL_law_779 ?_
      refine r_lald C (N := 1) 1280 dL_law_780 (by decide) rfl rfl hI2.2.2.2.2.2 (by omega) (by omega) (by omega) (fun g780 => ?_)
      refine r_iload C dL_law_781 lg_6 ?_
      refine r_i2l C dL_law_783 (by omega) ?_
      refine r_lceq C (tgt := 790) dL_law_784 dL_law_785 (by decide) (by omega) (by omega) (fun c784 => ?_) (fun c784 => ?_)
      · refine r_goto C (tgt := 2009) dL_law_790 (by decide) ?_
        refine r_le C (lle_k (lle_k (lle_k (lle_k (lle_k (lle_f (lle_f (lle_k lle_0)))))))) ?_
        exact next _ _ _ _ hI2 (by omega) (by omega)
      · exfalso; omega
  · exfalso; omega
set_option maxRecDepth 20000 in
theorem lw_c9 {G : GT} {l : Launch} (hfl : l.stackTraces = false) {b0 L : Nat} {xs : Nat → Int32} {mn : String} {tb : List ExceptionTableEntry} {J : JT} {X : XT} (C : Cx G l room_1 cL_law 8 RL mn tb J X) (CL : CxL G l room_1 cL_law 8 RL mn tb b0 L xs J X) {S : ST} {A : AB} {k n : Nat} {i : Int} (hI : INV S A) (hi : 0 ≤ i ∧ i + 6 ≤ L) (hL : L ≤ 3072) (hk : k + 70 ≤ 601024) (hn : n + 300 ≤ 7293034) (next : ∀ (S' : ST) (A' : AB) (k' n' : Nat), INV S' A' → k' ≤ k + 70 → n' ≤ n + 300 → J 2009 [some (.ref b0), some (vR A' 6 0), some (vR A' 7 0), some (vR A' 40 0), some (vI i), none, none, none] [] S' A' k' n') : J 793 [some (.ref b0), some (vR A 6 0), some (vR A 7 0), some (vR A 40 0), some (vI i), none, none, none] [] S A k n := by
  refine r_aload_n C dL_law_793 lg_1 ?_
  refine r_aloadq_n C dL_law_794 lg_0 ?_
  refine r_iload C dL_law_795 lg_4 ?_
  refine r_iconst C dL_law_797 ?_
  refine r_iadd C dL_law_798 ?_
  refine r_sld CL dL_law_799 (by omega) (by omega) (by omega) ?_
  refine r_aload_n C dL_law_800 lg_3 ?_
  refine r_W3I C (cL_dayOf_ hfl (R := rwM S) hI.2.1 hI.1.2.1.1 (sc_r xs _) hI.2.2.2.2.2) dL_law_801 lk_L_142 ⟨Nat.le_of_ble_eq_true rfl, Nat.le_of_ble_eq_true rfl⟩ (catLe (Nat.le_of_ble_eq_true rfl)) 1 6 ⟨rfl, rfl⟩ (show _ ≤ 601024 by omega) (show _ ≤ 7293034 by omega) (fun _ _ _ h9 => h9.elim) (fun z801 S801 A801 i801 p801 => ?_)
  obtain ⟨rfl, hF, hW⟩ := p801
  have hM := (inv_fr hI hF).1
  obtain ⟨m1, m2, m3, m4, m5, m6⟩ := mv_pre hM
  refine r_istore C dL_law_804 (ls1_5 rfl rfl) ?_
  refine r_aload_n C dL_law_806 lg_2 ?_
  refine r_aloadq_n C dL_law_807 lg_0 ?_
  refine r_iload C dL_law_808 lg_4 ?_
  refine r_iconst C dL_law_810 ?_
  refine r_iadd C dL_law_811 ?_
  refine r_sld CL dL_law_812 (by omega) (by omega) (by omega) ?_
  refine q_V1I C (cM_dayOf hfl hM.1 (sc_r xs _) m2 m3) dL_law_813 lk_L_144 hM.1.1 ⟨Nat.le_of_ble_eq_true rfl, Nat.le_of_ble_eq_true rfl⟩ (catLe (Nat.le_of_ble_eq_true rfl)) ⟨rfl, rfl⟩ rfl (show _ ≤ 601024 by omega) (show _ ≤ 7293034 by omega) (fun z813 S813 A813 i813 p813 => ?_)
  obtain ⟨hz, hS, rfl⟩ := p813
  obtain ⟨⟨w1, w2⟩, hI2⟩ := u_dayOf hI hF hW hz hS
  refine r_istore C dL_law_816 (ls1_6 rfl rfl) ?_
  refine r_aload_n C dL_law_818 lg_2 ?_
  refine q_V0I C (cM_thrown hfl hI2.1.1) dL_law_819 lk_L_107 hI2.1.1.1 ⟨Nat.le_of_ble_eq_true rfl, Nat.le_of_ble_eq_true rfl⟩ (catLe (Nat.le_of_ble_eq_true rfl)) ⟨rfl, rfl⟩ rfl (show _ ≤ 601024 by omega) (show _ ≤ 7293034 by omega) (fun z819 S819 A819 i819 p819 => ?_)
  obtain ⟨rfl, rfl, rfl⟩ := p819
  refine r_iload C dL_law_822 lg_5 ?_
  refine r_iceq C (tgt := 829) dL_law_824 (by decide) (by omega) (by omega) (fun c824 => ?_) (fun c824 => ?_)
  · refine r_iload C dL_law_829 lg_5 ?_
    refine r_ifne C (tgt := 846) dL_law_831 (by decide) (by omega) (fun c831 => ?_) (fun c831 => ?_)
    · refine r_goto C (tgt := 2009) dL_law_846 (by decide) ?_
      refine r_le C (lle_k (lle_k (lle_k (lle_k (lle_k (lle_f (lle_f (lle_k lle_0)))))))) ?_
      exact next _ _ _ _ hI2 (by omega) (by omega)
    · have w3 := w2 (by omega)
      refine r_aload_n C dL_law_834 lg_3 ?_
      refine r_iconst C dL_law_835 ?_
      refine r_lald C (N := 1) 1280 dL_law_836 (by decide) rfl rfl hI2.2.2.2.2.2 (by omega) (by omega) (by omega) (fun g836 => ?_)
      refine r_iload C dL_law_837 lg_6 ?_
      refine r_i2l C dL_law_839 (by omega) ?_
      refine r_lceq C (tgt := 846) dL_law_840 dL_law_841 (by decide) (by omega) (by omega) (fun c840 => ?_) (fun c840 => ?_)
      · refine r_goto C (tgt := 2009) dL_law_846 (by decide) ?_
        refine r_le C (lle_k (lle_k (lle_k (lle_k (lle_k (lle_f (lle_f (lle_k lle_0)))))))) ?_
        exact next _ _ _ _ hI2 (by omega) (by omega)
      · exfalso; omega
  · exfalso; omega
set_option maxRecDepth 20000 in
theorem lw_c10 {G : GT} {l : Launch} (hfl : l.stackTraces = false) {b0 L : Nat} {xs : Nat → Int32} {mn : String} {tb : List ExceptionTableEntry} {J : JT} {X : XT} (C : Cx G l room_1 cL_law 8 RL mn tb J X) (CL : CxL G l room_1 cL_law 8 RL mn tb b0 L xs J X) {S : ST} {A : AB} {k n : Nat} {i : Int} (hI : INV S A) (hi : 0 ≤ i ∧ i + 6 ≤ L) (hL : L ≤ 3072) (hk : k + 70 ≤ 601024) (hn : n + 300 ≤ 7293034) (next : ∀ (S' : ST) (A' : AB) (k' n' : Nat), INV S' A' → k' ≤ k + 70 → n' ≤ n + 300 → J 2009 [some (.ref b0), some (vR A' 6 0), some (vR A' 7 0), some (vR A' 40 0), some (vI i), none, none, none] [] S' A' k' n') : J 849 [some (.ref b0), some (vR A 6 0), some (vR A 7 0), some (vR A 40 0), some (vI i), none, none, none] [] S A k n := by
  refine r_aload_n C dL_law_849 lg_1 ?_
  refine r_aloadq_n C dL_law_850 lg_0 ?_
  refine r_iload C dL_law_851 lg_4 ?_
  refine r_iconst C dL_law_853 ?_
  refine r_iadd C dL_law_854 ?_
  refine r_sld CL dL_law_855 (by omega) (by omega) (by omega) ?_
  refine r_aload_n C dL_law_856 lg_3 ?_
  refine r_W3I C (cL_isCancelled_ hfl (R := rwM S) hI.2.1 hI.1.2.1.1 (sc_r xs _) hI.2.2.2.2.2) dL_law_857 lk_L_145 ⟨Nat.le_of_ble_eq_true rfl, Nat.le_of_ble_eq_true rfl⟩ (catLe (Nat.le_of_ble_eq_true rfl)) 1 6 ⟨rfl, rfl⟩ (show _ ≤ 601024 by omega) (show _ ≤ 7293034 by omega) (fun _ _ _ h9 => h9.elim) (fun z857 S857 A857 i857 p857 => ?_)
  obtain ⟨rfl, hF, hW⟩ := p857
  have hM := (inv_fr hI hF).1
  obtain ⟨m1, m2, m3, m4, m5, m6⟩ := mv_pre hM
  refine r_istore C dL_law_860 (ls1_5 rfl rfl) ?_
  refine r_aload_n C dL_law_862 lg_2 ?_
  refine r_aloadq_n C dL_law_863 lg_0 ?_
  refine r_iload C dL_law_864 lg_4 ?_
  refine r_iconst C dL_law_866 ?_
  refine r_iadd C dL_law_867 ?_
  refine r_sld CL dL_law_868 (by omega) (by omega) (by omega) ?_
  refine q_V1Z C (cM_isCancelled hfl hM.1 (sc_r xs _) m2 m3) dL_law_869 lk_L_147 hM.1.1 ⟨Nat.le_of_ble_eq_true rfl, Nat.le_of_ble_eq_true rfl⟩ (catLe (Nat.le_of_ble_eq_true rfl)) ⟨rfl, rfl⟩ rfl (show _ ≤ 601024 by omega) (show _ ≤ 7293034 by omega) (fun z869 S869 A869 i869 p869 => ?_)
  obtain ⟨hz, hS, rfl⟩ := p869
  obtain ⟨⟨w1, w2⟩, hI2⟩ := u_isCancelled hI hF hW hz hS
  refine r_istore C dL_law_872 (ls1_6 rfl rfl) ?_
  refine r_aload_n C dL_law_874 lg_2 ?_
  refine q_V0I C (cM_thrown hfl hI2.1.1) dL_law_875 lk_L_107 hI2.1.1.1 ⟨Nat.le_of_ble_eq_true rfl, Nat.le_of_ble_eq_true rfl⟩ (catLe (Nat.le_of_ble_eq_true rfl)) ⟨rfl, rfl⟩ rfl (show _ ≤ 601024 by omega) (show _ ≤ 7293034 by omega) (fun z875 S875 A875 i875 p875 => ?_)
  obtain ⟨rfl, rfl, rfl⟩ := p875
  refine r_iload C dL_law_878 lg_5 ?_
  refine r_iceq C (tgt := 885) dL_law_880 (by decide) (by omega) (by omega) (fun c880 => ?_) (fun c880 => ?_)
  · refine r_iload C dL_law_885 lg_5 ?_
    refine r_ifne C (tgt := 909) dL_law_887 (by decide) (by omega) (fun c887 => ?_) (fun c887 => ?_)
    · refine r_goto C (tgt := 2009) dL_law_909 (by decide) ?_
      refine r_le C (lle_k (lle_k (lle_k (lle_k (lle_k (lle_f (lle_f (lle_k lle_0)))))))) ?_
      exact next _ _ _ _ hI2 (by omega) (by omega)
    · have w3 := w2 (by omega)
      refine r_aload_n C dL_law_890 lg_3 ?_
      refine r_iconst C dL_law_891 ?_
      refine r_lald C (N := 1) 1280 dL_law_892 (by decide) rfl rfl hI2.2.2.2.2.2 (by omega) (by omega) (by omega) (fun g892 => ?_)
      refine r_iload C dL_law_893 lg_6 ?_
      refine r_ifeq C (tgt := 902) dL_law_895 (by decide) (by omega) (fun c895 => ?_) (fun c895 => ?_)
      · refine r_lconst C dL_law_902 0 rfl ?_
        refine r_lceq C (tgt := 909) dL_law_903 dL_law_904 (by decide) (by omega) (by omega) (fun c903 => ?_) (fun c903 => ?_)
        · refine r_goto C (tgt := 2009) dL_law_909 (by decide) ?_
          refine r_le C (lle_k (lle_k (lle_k (lle_k (lle_k (lle_f (lle_f (lle_k lle_0)))))))) ?_
          exact next _ _ _ _ hI2 (by omega) (by omega)
        · exfalso; omega
      · refine r_lconst C dL_law_898 1 rfl ?_
        refine r_goto C (tgt := 903) dL_law_899 (by decide) ?_
        refine r_lceq C (tgt := 909) dL_law_903 dL_law_904 (by decide) (by omega) (by omega) (fun c903 => ?_) (fun c903 => ?_)
        · refine r_goto C (tgt := 2009) dL_law_909 (by decide) ?_
          refine r_le C (lle_k (lle_k (lle_k (lle_k (lle_k (lle_f (lle_f (lle_k lle_0)))))))) ?_
          exact next _ _ _ _ hI2 (by omega) (by omega)
        · exfalso; omega
  · exfalso; omega
set_option maxRecDepth 20000 in
theorem lw_c11 {G : GT} {l : Launch} (hfl : l.stackTraces = false) {b0 L : Nat} {xs : Nat → Int32} {mn : String} {tb : List ExceptionTableEntry} {J : JT} {X : XT} (C : Cx G l room_1 cL_law 8 RL mn tb J X) (CL : CxL G l room_1 cL_law 8 RL mn tb b0 L xs J X) {S : ST} {A : AB} {k n : Nat} {i : Int} (hI : INV S A) (hi : 0 ≤ i ∧ i + 6 ≤ L) (hL : L ≤ 3072) (hk : k + 70 ≤ 601024) (hn : n + 300 ≤ 7293034) (next : ∀ (S' : ST) (A' : AB) (k' n' : Nat), INV S' A' → k' ≤ k + 70 → n' ≤ n + 300 → J 2009 [some (.ref b0), some (vR A' 6 0), some (vR A' 7 0), some (vR A' 40 0), some (vI i), none, none, none] [] S' A' k' n') : J 912 [some (.ref b0), some (vR A 6 0), some (vR A 7 0), some (vR A 40 0), some (vI i), none, none, none] [] S A k n := by
  refine r_aload_n C dL_law_912 lg_1 ?_
  refine r_aloadq_n C dL_law_913 lg_0 ?_
  refine r_iload C dL_law_914 lg_4 ?_
  refine r_iconst C dL_law_916 ?_
  refine r_iadd C dL_law_917 ?_
  refine r_sld CL dL_law_918 (by omega) (by omega) (by omega) ?_
  refine r_aload_n C dL_law_919 lg_3 ?_
  refine r_W3I C (cL_placeOf_ hfl (R := rwM S) hI.2.1 hI.1.2.1.1 (sc_r xs _) hI.2.2.2.2.2) dL_law_920 lk_L_148 ⟨Nat.le_of_ble_eq_true rfl, Nat.le_of_ble_eq_true rfl⟩ (catLe (Nat.le_of_ble_eq_true rfl)) 1 6 ⟨rfl, rfl⟩ (show _ ≤ 601024 by omega) (show _ ≤ 7293034 by omega) (fun _ _ _ h9 => h9.elim) (fun z920 S920 A920 i920 p920 => ?_)
  obtain ⟨rfl, hF, hW⟩ := p920
  have hM := (inv_fr hI hF).1
  obtain ⟨m1, m2, m3, m4, m5, m6⟩ := mv_pre hM
  refine r_istore C dL_law_923 (ls1_5 rfl rfl) ?_
  refine r_aload_n C dL_law_925 lg_2 ?_
  refine r_aloadq_n C dL_law_926 lg_0 ?_
  refine r_iload C dL_law_927 lg_4 ?_
  refine r_iconst C dL_law_929 ?_
  refine r_iadd C dL_law_930 ?_
  refine r_sld CL dL_law_931 (by omega) (by omega) (by omega) ?_
  refine q_V1I C (cM_placeOf hfl hM.1 (sc_r xs _) m2 m3) dL_law_932 lk_L_150 hM.1.1 ⟨Nat.le_of_ble_eq_true rfl, Nat.le_of_ble_eq_true rfl⟩ (catLe (Nat.le_of_ble_eq_true rfl)) ⟨rfl, rfl⟩ rfl (show _ ≤ 601024 by omega) (show _ ≤ 7293034 by omega) (fun z932 S932 A932 i932 p932 => ?_)
  obtain ⟨hz, hS, h9, rfl⟩ := p932
  obtain ⟨⟨w1, w2⟩, hI2⟩ := u_placeOf hI hF hW hz hS h9
  refine r_istore C dL_law_935 (ls1_6 rfl rfl) ?_
  refine r_aload_n C dL_law_937 lg_2 ?_
  refine q_V0I C (cM_thrown hfl hI2.1.1) dL_law_938 lk_L_107 hI2.1.1.1 ⟨Nat.le_of_ble_eq_true rfl, Nat.le_of_ble_eq_true rfl⟩ (catLe (Nat.le_of_ble_eq_true rfl)) ⟨rfl, rfl⟩ rfl (show _ ≤ 601024 by omega) (show _ ≤ 7293034 by omega) (fun z938 S938 A938 i938 p938 => ?_)
  obtain ⟨rfl, rfl, rfl⟩ := p938
  refine r_iload C dL_law_941 lg_5 ?_
  refine r_iceq C (tgt := 948) dL_law_943 (by decide) (by omega) (by omega) (fun c943 => ?_) (fun c943 => ?_)
  · refine r_iload C dL_law_948 lg_5 ?_
    refine r_ifne C (tgt := 965) dL_law_950 (by decide) (by omega) (fun c950 => ?_) (fun c950 => ?_)
    · refine r_goto C (tgt := 2009) dL_law_965 (by decide) ?_
      refine r_le C (lle_k (lle_k (lle_k (lle_k (lle_k (lle_f (lle_f (lle_k lle_0)))))))) ?_
      exact next _ _ _ _ hI2 (by omega) (by omega)
    · have w3 := w2 (by omega)
      refine r_aload_n C dL_law_953 lg_3 ?_
      refine r_iconst C dL_law_954 ?_
      refine r_lald C (N := 1) 1280 dL_law_955 (by decide) rfl rfl hI2.2.2.2.2.2 (by omega) (by omega) (by omega) (fun g955 => ?_)
      refine r_iload C dL_law_956 lg_6 ?_
      refine r_i2l C dL_law_958 (by omega) ?_
      refine r_lceq C (tgt := 965) dL_law_959 dL_law_960 (by decide) (by omega) (by omega) (fun c959 => ?_) (fun c959 => ?_)
      · refine r_goto C (tgt := 2009) dL_law_965 (by decide) ?_
        refine r_le C (lle_k (lle_k (lle_k (lle_k (lle_k (lle_f (lle_f (lle_k lle_0)))))))) ?_
        exact next _ _ _ _ hI2 (by omega) (by omega)
      · exfalso; omega
  · exfalso; omega
set_option maxRecDepth 20000 in
theorem lw_c12 {G : GT} {l : Launch} (hfl : l.stackTraces = false) {b0 L : Nat} {xs : Nat → Int32} {mn : String} {tb : List ExceptionTableEntry} {J : JT} {X : XT} (C : Cx G l room_1 cL_law 8 RL mn tb J X) (CL : CxL G l room_1 cL_law 8 RL mn tb b0 L xs J X) {S : ST} {A : AB} {k n : Nat} {i : Int} (hI : INV S A) (hi : 0 ≤ i ∧ i + 6 ≤ L) (hL : L ≤ 3072) (hk : k + 70 ≤ 601024) (hn : n + 300 ≤ 7293034) (next : ∀ (S' : ST) (A' : AB) (k' n' : Nat), INV S' A' → k' ≤ k + 70 → n' ≤ n + 300 → J 2009 [some (.ref b0), some (vR A' 6 0), some (vR A' 7 0), some (vR A' 40 0), some (vI i), none, none, none] [] S' A' k' n') : J 968 [some (.ref b0), some (vR A 6 0), some (vR A 7 0), some (vR A 40 0), some (vI i), none, none, none] [] S A k n := by
  refine r_aload_n C dL_law_968 lg_1 ?_
  refine r_aloadq_n C dL_law_969 lg_0 ?_
  refine r_iload C dL_law_970 lg_4 ?_
  refine r_iconst C dL_law_972 ?_
  refine r_iadd C dL_law_973 ?_
  refine r_sld CL dL_law_974 (by omega) (by omega) (by omega) ?_
  refine r_aloadq_n C dL_law_975 lg_0 ?_
  refine r_iload C dL_law_976 lg_4 ?_
  refine r_iconst C dL_law_978 ?_
  refine r_iadd C dL_law_979 ?_
  refine r_sld CL dL_law_980 (by omega) (by omega) (by omega) ?_
  refine r_aload_n C dL_law_981 lg_3 ?_
  refine r_W4I C (cL_partOf_ hfl (R := rwM S) hI.2.1 hI.1.2.1.1 (sc_r xs _) (sc_r xs _) hI.2.2.2.2.2) dL_law_982 lk_L_151 ⟨Nat.le_of_ble_eq_true rfl, Nat.le_of_ble_eq_true rfl⟩ (catLe (Nat.le_of_ble_eq_true rfl)) 3 18 ⟨rfl, rfl⟩ (show _ ≤ 601024 by omega) (show _ ≤ 7293034 by omega) (fun _ _ _ h9 => h9.elim) (fun z982 S982 A982 i982 p982 => ?_)
  obtain ⟨rfl, hF, hW⟩ := p982
  have hM := (inv_fr hI hF).1
  obtain ⟨m1, m2, m3, m4, m5, m6⟩ := mv_pre hM
  refine r_istore C dL_law_985 (ls1_5 rfl rfl) ?_
  refine r_aload_n C dL_law_987 lg_2 ?_
  refine r_aloadq_n C dL_law_988 lg_0 ?_
  refine r_iload C dL_law_989 lg_4 ?_
  refine r_iconst C dL_law_991 ?_
  refine r_iadd C dL_law_992 ?_
  refine r_sld CL dL_law_993 (by omega) (by omega) (by omega) ?_
  refine r_aloadq_n C dL_law_994 lg_0 ?_
  refine r_iload C dL_law_995 lg_4 ?_
  refine r_iconst C dL_law_997 ?_
  refine r_iadd C dL_law_998 ?_
  refine r_sld CL dL_law_999 (by omega) (by omega) (by omega) ?_
  refine q_V2I C (cM_partOf hfl hM.1 (sc_r xs _) (sc_r xs _) m2 m3) dL_law_1000 lk_L_153 hM.1.1 ⟨Nat.le_of_ble_eq_true rfl, Nat.le_of_ble_eq_true rfl⟩ (catLe (Nat.le_of_ble_eq_true rfl)) ⟨rfl, rfl⟩ rfl (show _ ≤ 601024 by omega) (show _ ≤ 7293034 by omega) (fun z1000 S1000 A1000 i1000 p1000 => ?_)
  obtain ⟨hz, hS, rfl⟩ := p1000
  obtain ⟨⟨w1, w2⟩, hI2⟩ := u_partOf hI hF hW hz hS
  refine r_istore C dL_law_1003 (ls1_6 rfl rfl) ?_
  refine r_aload_n C dL_law_1005 lg_2 ?_
  refine q_V0I C (cM_thrown hfl hI2.1.1) dL_law_1006 lk_L_107 hI2.1.1.1 ⟨Nat.le_of_ble_eq_true rfl, Nat.le_of_ble_eq_true rfl⟩ (catLe (Nat.le_of_ble_eq_true rfl)) ⟨rfl, rfl⟩ rfl (show _ ≤ 601024 by omega) (show _ ≤ 7293034 by omega) (fun z1006 S1006 A1006 i1006 p1006 => ?_)
  obtain ⟨rfl, rfl, rfl⟩ := p1006
  refine r_iload C dL_law_1009 lg_5 ?_
  refine r_iceq C (tgt := 1016) dL_law_1011 (by decide) (by omega) (by omega) (fun c1011 => ?_) (fun c1011 => ?_)
  · refine r_iload C dL_law_1016 lg_5 ?_
    refine r_ifne C (tgt := 1033) dL_law_1018 (by decide) (by omega) (fun c1018 => ?_) (fun c1018 => ?_)
    · refine r_goto C (tgt := 2009) dL_law_1033 (by decide) ?_
      refine r_le C (lle_k (lle_k (lle_k (lle_k (lle_k (lle_f (lle_f (lle_k lle_0)))))))) ?_
      exact next _ _ _ _ hI2 (by omega) (by omega)
    · have w3 := w2 (by omega)
      refine r_aload_n C dL_law_1021 lg_3 ?_
      refine r_iconst C dL_law_1022 ?_
      refine r_lald C (N := 1) 1280 dL_law_1023 (by decide) rfl rfl hI2.2.2.2.2.2 (by omega) (by omega) (by omega) (fun g1023 => ?_)
      refine r_iload C dL_law_1024 lg_6 ?_
      refine r_i2l C dL_law_1026 (by omega) ?_
      refine r_lceq C (tgt := 1033) dL_law_1027 dL_law_1028 (by decide) (by omega) (by omega) (fun c1027 => ?_) (fun c1027 => ?_)
      · refine r_goto C (tgt := 2009) dL_law_1033 (by decide) ?_
        refine r_le C (lle_k (lle_k (lle_k (lle_k (lle_k (lle_f (lle_f (lle_k lle_0)))))))) ?_
        exact next _ _ _ _ hI2 (by omega) (by omega)
      · exfalso; omega
  · exfalso; omega
set_option maxRecDepth 20000 in
theorem lw_c13 {G : GT} {l : Launch} (hfl : l.stackTraces = false) {b0 L : Nat} {xs : Nat → Int32} {mn : String} {tb : List ExceptionTableEntry} {J : JT} {X : XT} (C : Cx G l room_1 cL_law 8 RL mn tb J X) (CL : CxL G l room_1 cL_law 8 RL mn tb b0 L xs J X) {S : ST} {A : AB} {k n : Nat} {i : Int} (hI : INV S A) (hi : 0 ≤ i ∧ i + 6 ≤ L) (hL : L ≤ 3072) (hk : k + 70 ≤ 601024) (hn : n + 300 ≤ 7293034) (next : ∀ (S' : ST) (A' : AB) (k' n' : Nat), INV S' A' → k' ≤ k + 70 → n' ≤ n + 300 → J 2009 [some (.ref b0), some (vR A' 6 0), some (vR A' 7 0), some (vR A' 40 0), some (vI i), none, none, none] [] S' A' k' n') : J 1036 [some (.ref b0), some (vR A 6 0), some (vR A 7 0), some (vR A 40 0), some (vI i), none, none, none] [] S A k n := by
  by_cases hy9 : sc xs (i + 2) = 0
  · refine r_aload_n C dL_law_1036 lg_1 ?_
    refine r_aloadq_n C dL_law_1037 lg_0 ?_
    refine r_iload C dL_law_1038 lg_4 ?_
    refine r_iconst C dL_law_1040 ?_
    refine r_iadd C dL_law_1041 ?_
    refine r_sld CL dL_law_1042 (by omega) (by omega) (by omega) ?_
    refine r_aloadq_n C dL_law_1043 lg_0 ?_
    refine r_iload C dL_law_1044 lg_4 ?_
    refine r_iconst C dL_law_1046 ?_
    refine r_iadd C dL_law_1047 ?_
    refine r_sld CL dL_law_1048 (by omega) (by omega) (by omega) ?_
    refine r_ifeq C (tgt := 1056) dL_law_1049 (by decide) (sc_r xs _) (fun c1049 => ?_) (fun c1049 => ?_)
    · refine r_iconst C dL_law_1056 ?_
      refine r_aload_n C dL_law_1057 lg_3 ?_
      refine r_W4I C (cL_costOf_ hfl (R := rwM S) hI.2.1 hI.1.2.1.1 hI.1.2.1.2.1 hI.1.2.2.1 (sc_r xs _) (by omega) hI.2.2.2.2.2) dL_law_1058 lk_L_154 ⟨Nat.le_of_ble_eq_true rfl, Nat.le_of_ble_eq_true rfl⟩ (catLe (Nat.le_of_ble_eq_true rfl)) 2 12 ⟨rfl, rfl⟩ (show _ ≤ 601024 by omega) (show _ ≤ 7293034 by omega) (fun _ _ _ h9 => h9.elim) (fun z1058 S1058 A1058 i1058 p1058 => ?_)
      obtain ⟨rfl, hF, hW⟩ := p1058
      have hM := (inv_fr hI hF).1
      obtain ⟨m1, m2, m3, m4, m5, m6⟩ := mv_pre hM
      refine r_istore C dL_law_1061 (ls1_5 rfl rfl) ?_
      refine r_aload_n C dL_law_1063 lg_2 ?_
      refine r_aloadq_n C dL_law_1064 lg_0 ?_
      refine r_iload C dL_law_1065 lg_4 ?_
      refine r_iconst C dL_law_1067 ?_
      refine r_iadd C dL_law_1068 ?_
      refine r_sld CL dL_law_1069 (by omega) (by omega) (by omega) ?_
      refine r_aloadq_n C dL_law_1070 lg_0 ?_
      refine r_iload C dL_law_1071 lg_4 ?_
      refine r_iconst C dL_law_1073 ?_
      refine r_iadd C dL_law_1074 ?_
      refine r_sld CL dL_law_1075 (by omega) (by omega) (by omega) ?_
      refine r_ifeq C (tgt := 1083) dL_law_1076 (by decide) (sc_r xs _) (fun c1076 => ?_) (fun c1076 => ?_)
      · refine r_iconst C dL_law_1083 ?_
        refine q_V2J C (cM_costOf hfl hM.1 hM.2.1.1 hM.2.2.1 (sc_r xs _) (by omega)) dL_law_1084 lk_L_157 hM.1.1 ⟨Nat.le_of_ble_eq_true rfl, Nat.le_of_ble_eq_true rfl⟩ (catLe (Nat.le_of_ble_eq_true rfl)) ⟨rfl, rfl⟩ rfl (show _ ≤ 601024 by omega) (show _ ≤ 7293034 by omega) (fun z1084 S1084 A1084 i1084 p1084 => ?_)
        obtain ⟨rfl, hz⟩ := p1084
        obtain ⟨⟨w1, w2⟩, hI2⟩ := u_costOf hI hF hW hz
        refine r_lstore C dL_law_1087 (ls2_6 rfl rfl) ?_
        refine r_aload_n C dL_law_1089 lg_2 ?_
        refine q_V0I C (cM_thrown hfl hI2.1.1) dL_law_1090 lk_L_107 hI2.1.1.1 ⟨Nat.le_of_ble_eq_true rfl, Nat.le_of_ble_eq_true rfl⟩ (catLe (Nat.le_of_ble_eq_true rfl)) ⟨rfl, rfl⟩ rfl (show _ ≤ 601024 by omega) (show _ ≤ 7293034 by omega) (fun z1090 S1090 A1090 i1090 p1090 => ?_)
        obtain ⟨rfl, rfl, rfl⟩ := p1090
        refine r_iload C dL_law_1093 lg_5 ?_
        refine r_iceq C (tgt := 1100) dL_law_1095 (by decide) (by omega) (by omega) (fun c1095 => ?_) (fun c1095 => ?_)
        · refine r_iload C dL_law_1100 lg_5 ?_
          refine r_ifne C (tgt := 1116) dL_law_1102 (by decide) (by omega) (fun c1102 => ?_) (fun c1102 => ?_)
          · refine r_goto C (tgt := 2009) dL_law_1116 (by decide) ?_
            refine r_le C (lle_k (lle_k (lle_k (lle_k (lle_k (lle_f (lle_f (lle_k lle_0)))))))) ?_
            exact next _ _ _ _ hI2 (by omega) (by omega)
          · have w3 := w2 (by omega)
            refine r_aload_n C dL_law_1105 lg_3 ?_
            refine r_iconst C dL_law_1106 ?_
            refine r_lald C (N := 1) 1280 dL_law_1107 (by decide) rfl rfl hI2.2.2.2.2.2 (by omega) (by omega) (by omega) (fun g1107 => ?_)
            refine r_lload C dL_law_1108 lg_6 ?_
            refine r_lceq C (tgt := 1116) dL_law_1110 dL_law_1111 (by decide) (by omega) (by omega) (fun c1110 => ?_) (fun c1110 => ?_)
            · refine r_goto C (tgt := 2009) dL_law_1116 (by decide) ?_
              refine r_le C (lle_k (lle_k (lle_k (lle_k (lle_k (lle_f (lle_f (lle_k lle_0)))))))) ?_
              exact next _ _ _ _ hI2 (by omega) (by omega)
            · exfalso; omega
        · exfalso; omega
      · exfalso; omega
    · exfalso; omega
  · refine r_aload_n C dL_law_1036 lg_1 ?_
    refine r_aloadq_n C dL_law_1037 lg_0 ?_
    refine r_iload C dL_law_1038 lg_4 ?_
    refine r_iconst C dL_law_1040 ?_
    refine r_iadd C dL_law_1041 ?_
    refine r_sld CL dL_law_1042 (by omega) (by omega) (by omega) ?_
    refine r_aloadq_n C dL_law_1043 lg_0 ?_
    refine r_iload C dL_law_1044 lg_4 ?_
    refine r_iconst C dL_law_1046 ?_
    refine r_iadd C dL_law_1047 ?_
    refine r_sld CL dL_law_1048 (by omega) (by omega) (by omega) ?_
    refine r_ifeq C (tgt := 1056) dL_law_1049 (by decide) (sc_r xs _) (fun c1049 => ?_) (fun c1049 => ?_)
    · exfalso; omega
    · refine r_iconst C dL_law_1052 ?_
      refine r_goto C (tgt := 1057) dL_law_1053 (by decide) ?_
      refine r_aload_n C dL_law_1057 lg_3 ?_
      refine r_W4I C (cL_costOf_ hfl (R := rwM S) hI.2.1 hI.1.2.1.1 hI.1.2.1.2.1 hI.1.2.2.1 (sc_r xs _) (by omega) hI.2.2.2.2.2) dL_law_1058 lk_L_154 ⟨Nat.le_of_ble_eq_true rfl, Nat.le_of_ble_eq_true rfl⟩ (catLe (Nat.le_of_ble_eq_true rfl)) 2 12 ⟨rfl, rfl⟩ (show _ ≤ 601024 by omega) (show _ ≤ 7293034 by omega) (fun _ _ _ h9 => h9.elim) (fun z1058 S1058 A1058 i1058 p1058 => ?_)
      obtain ⟨rfl, hF, hW⟩ := p1058
      have hM := (inv_fr hI hF).1
      obtain ⟨m1, m2, m3, m4, m5, m6⟩ := mv_pre hM
      refine r_istore C dL_law_1061 (ls1_5 rfl rfl) ?_
      refine r_aload_n C dL_law_1063 lg_2 ?_
      refine r_aloadq_n C dL_law_1064 lg_0 ?_
      refine r_iload C dL_law_1065 lg_4 ?_
      refine r_iconst C dL_law_1067 ?_
      refine r_iadd C dL_law_1068 ?_
      refine r_sld CL dL_law_1069 (by omega) (by omega) (by omega) ?_
      refine r_aloadq_n C dL_law_1070 lg_0 ?_
      refine r_iload C dL_law_1071 lg_4 ?_
      refine r_iconst C dL_law_1073 ?_
      refine r_iadd C dL_law_1074 ?_
      refine r_sld CL dL_law_1075 (by omega) (by omega) (by omega) ?_
      refine r_ifeq C (tgt := 1083) dL_law_1076 (by decide) (sc_r xs _) (fun c1076 => ?_) (fun c1076 => ?_)
      · exfalso; omega
      · refine r_iconst C dL_law_1079 ?_
        refine r_goto C (tgt := 1084) dL_law_1080 (by decide) ?_
        refine q_V2J C (cM_costOf hfl hM.1 hM.2.1.1 hM.2.2.1 (sc_r xs _) (by omega)) dL_law_1084 lk_L_157 hM.1.1 ⟨Nat.le_of_ble_eq_true rfl, Nat.le_of_ble_eq_true rfl⟩ (catLe (Nat.le_of_ble_eq_true rfl)) ⟨rfl, rfl⟩ rfl (show _ ≤ 601024 by omega) (show _ ≤ 7293034 by omega) (fun z1084 S1084 A1084 i1084 p1084 => ?_)
        obtain ⟨rfl, hz⟩ := p1084
        obtain ⟨⟨w1, w2⟩, hI2⟩ := u_costOf hI hF hW hz
        refine r_lstore C dL_law_1087 (ls2_6 rfl rfl) ?_
        refine r_aload_n C dL_law_1089 lg_2 ?_
        refine q_V0I C (cM_thrown hfl hI2.1.1) dL_law_1090 lk_L_107 hI2.1.1.1 ⟨Nat.le_of_ble_eq_true rfl, Nat.le_of_ble_eq_true rfl⟩ (catLe (Nat.le_of_ble_eq_true rfl)) ⟨rfl, rfl⟩ rfl (show _ ≤ 601024 by omega) (show _ ≤ 7293034 by omega) (fun z1090 S1090 A1090 i1090 p1090 => ?_)
        obtain ⟨rfl, rfl, rfl⟩ := p1090
        refine r_iload C dL_law_1093 lg_5 ?_
        refine r_iceq C (tgt := 1100) dL_law_1095 (by decide) (by omega) (by omega) (fun c1095 => ?_) (fun c1095 => ?_)
        · refine r_iload C dL_law_1100 lg_5 ?_
          refine r_ifne C (tgt := 1116) dL_law_1102 (by decide) (by omega) (fun c1102 => ?_) (fun c1102 => ?_)
          · refine r_goto C (tgt := 2009) dL_law_1116 (by decide) ?_
            refine r_le C (lle_k (lle_k (lle_k (lle_k (lle_k (lle_f (lle_f (lle_k lle_0)))))))) ?_
            exact next _ _ _ _ hI2 (by omega) (by omega)
          · have w3 := w2 (by omega)
            refine r_aload_n C dL_law_1105 lg_3 ?_
            refine r_iconst C dL_law_1106 ?_
            refine r_lald C (N := 1) 1280 dL_law_1107 (by decide) rfl rfl hI2.2.2.2.2.2 (by omega) (by omega) (by omega) (fun g1107 => ?_)
            refine r_lload C dL_law_1108 lg_6 ?_
            refine r_lceq C (tgt := 1116) dL_law_1110 dL_law_1111 (by decide) (by omega) (by omega) (fun c1110 => ?_) (fun c1110 => ?_)
            · refine r_goto C (tgt := 2009) dL_law_1116 (by decide) ?_
              refine r_le C (lle_k (lle_k (lle_k (lle_k (lle_k (lle_f (lle_f (lle_k lle_0)))))))) ?_
              exact next _ _ _ _ hI2 (by omega) (by omega)
            · exfalso; omega
        · exfalso; omega
set_option maxRecDepth 20000 in
theorem lw_c14 {G : GT} {l : Launch} (hfl : l.stackTraces = false) {b0 L : Nat} {xs : Nat → Int32} {mn : String} {tb : List ExceptionTableEntry} {J : JT} {X : XT} (C : Cx G l room_1 cL_law 8 RL mn tb J X) (CL : CxL G l room_1 cL_law 8 RL mn tb b0 L xs J X) {S : ST} {A : AB} {k n : Nat} {i : Int} (hI : INV S A) (hi : 0 ≤ i ∧ i + 6 ≤ L) (hL : L ≤ 3072) (hk : k + 70 ≤ 601024) (hn : n + 300 ≤ 7293034) (next : ∀ (S' : ST) (A' : AB) (k' n' : Nat), INV S' A' → k' ≤ k + 70 → n' ≤ n + 300 → J 2009 [some (.ref b0), some (vR A' 6 0), some (vR A' 7 0), some (vR A' 40 0), some (vI i), none, none, none] [] S' A' k' n') : J 1119 [some (.ref b0), some (vR A 6 0), some (vR A 7 0), some (vR A 40 0), some (vI i), none, none, none] [] S A k n := by
  refine r_aload_n C dL_law_1119 lg_1 ?_
  refine r_aloadq_n C dL_law_1120 lg_0 ?_
  refine r_iload C dL_law_1121 lg_4 ?_
  refine r_iconst C dL_law_1123 ?_
  refine r_iadd C dL_law_1124 ?_
  refine r_sld CL dL_law_1125 (by omega) (by omega) (by omega) ?_
  refine r_aloadq_n C dL_law_1126 lg_0 ?_
  refine r_iload C dL_law_1127 lg_4 ?_
  refine r_iconst C dL_law_1129 ?_
  refine r_iadd C dL_law_1130 ?_
  refine r_sld CL dL_law_1131 (by omega) (by omega) (by omega) ?_
  refine r_aload_n C dL_law_1132 lg_3 ?_
  refine r_W4I C (cL_onHand_ hfl (R := rwM S) hI.2.1 hI.1.2.1.1 (sc_r xs _) (sc_r xs _) hI.2.2.2.2.2) dL_law_1133 lk_L_158 ⟨Nat.le_of_ble_eq_true rfl, Nat.le_of_ble_eq_true rfl⟩ (catLe (Nat.le_of_ble_eq_true rfl)) 2 12 ⟨rfl, rfl⟩ (show _ ≤ 601024 by omega) (show _ ≤ 7293034 by omega) (fun _ _ _ h9 => h9.elim) (fun z1133 S1133 A1133 i1133 p1133 => ?_)
  obtain ⟨rfl, hF, hW⟩ := p1133
  have hM := (inv_fr hI hF).1
  obtain ⟨m1, m2, m3, m4, m5, m6⟩ := mv_pre hM
  refine r_istore C dL_law_1136 (ls1_5 rfl rfl) ?_
  refine r_aload_n C dL_law_1138 lg_2 ?_
  refine r_aloadq_n C dL_law_1139 lg_0 ?_
  refine r_iload C dL_law_1140 lg_4 ?_
  refine r_iconst C dL_law_1142 ?_
  refine r_iadd C dL_law_1143 ?_
  refine r_sld CL dL_law_1144 (by omega) (by omega) (by omega) ?_
  refine r_aloadq_n C dL_law_1145 lg_0 ?_
  refine r_iload C dL_law_1146 lg_4 ?_
  refine r_iconst C dL_law_1148 ?_
  refine r_iadd C dL_law_1149 ?_
  refine r_sld CL dL_law_1150 (by omega) (by omega) (by omega) ?_
  refine q_V2I C (cM_onHand hfl hM.1 hM.2.1.1 (sc_r xs _) (sc_r xs _) hM.2.2.1) dL_law_1151 lk_L_160 hM.1.1 ⟨Nat.le_of_ble_eq_true rfl, Nat.le_of_ble_eq_true rfl⟩ (catLe (Nat.le_of_ble_eq_true rfl)) ⟨rfl, rfl⟩ rfl (show _ ≤ 601024 by omega) (show _ ≤ 7293034 by omega) (fun z1151 S1151 A1151 i1151 p1151 => ?_)
  obtain ⟨rfl, hz⟩ := p1151
  obtain ⟨⟨w1, w2⟩, hI2⟩ := u_onHand hI hF hW hz
  refine r_istore C dL_law_1154 (ls1_6 rfl rfl) ?_
  refine r_aload_n C dL_law_1156 lg_2 ?_
  refine q_V0I C (cM_thrown hfl hI2.1.1) dL_law_1157 lk_L_107 hI2.1.1.1 ⟨Nat.le_of_ble_eq_true rfl, Nat.le_of_ble_eq_true rfl⟩ (catLe (Nat.le_of_ble_eq_true rfl)) ⟨rfl, rfl⟩ rfl (show _ ≤ 601024 by omega) (show _ ≤ 7293034 by omega) (fun z1157 S1157 A1157 i1157 p1157 => ?_)
  obtain ⟨rfl, rfl, rfl⟩ := p1157
  refine r_iload C dL_law_1160 lg_5 ?_
  refine r_iceq C (tgt := 1167) dL_law_1162 (by decide) (by omega) (by omega) (fun c1162 => ?_) (fun c1162 => ?_)
  · refine r_iload C dL_law_1167 lg_5 ?_
    refine r_ifne C (tgt := 1184) dL_law_1169 (by decide) (by omega) (fun c1169 => ?_) (fun c1169 => ?_)
    · refine r_goto C (tgt := 2009) dL_law_1184 (by decide) ?_
      refine r_le C (lle_k (lle_k (lle_k (lle_k (lle_k (lle_f (lle_f (lle_k lle_0)))))))) ?_
      exact next _ _ _ _ hI2 (by omega) (by omega)
    · have w3 := w2 (by omega)
      refine r_aload_n C dL_law_1172 lg_3 ?_
      refine r_iconst C dL_law_1173 ?_
      refine r_lald C (N := 1) 1280 dL_law_1174 (by decide) rfl rfl hI2.2.2.2.2.2 (by omega) (by omega) (by omega) (fun g1174 => ?_)
      refine r_iload C dL_law_1175 lg_6 ?_
      refine r_i2l C dL_law_1177 (by omega) ?_
      refine r_lceq C (tgt := 1184) dL_law_1178 dL_law_1179 (by decide) (by omega) (by omega) (fun c1178 => ?_) (fun c1178 => ?_)
      · refine r_goto C (tgt := 2009) dL_law_1184 (by decide) ?_
        refine r_le C (lle_k (lle_k (lle_k (lle_k (lle_k (lle_f (lle_f (lle_k lle_0)))))))) ?_
        exact next _ _ _ _ hI2 (by omega) (by omega)
      · exfalso; omega
  · exfalso; omega
set_option maxRecDepth 20000 in
theorem lw_c15 {G : GT} {l : Launch} (hfl : l.stackTraces = false) {b0 L : Nat} {xs : Nat → Int32} {mn : String} {tb : List ExceptionTableEntry} {J : JT} {X : XT} (C : Cx G l room_1 cL_law 8 RL mn tb J X) (CL : CxL G l room_1 cL_law 8 RL mn tb b0 L xs J X) {S : ST} {A : AB} {k n : Nat} {i : Int} (hI : INV S A) (hi : 0 ≤ i ∧ i + 6 ≤ L) (hL : L ≤ 3072) (hk : k + 70 ≤ 601024) (hn : n + 300 ≤ 7293034) (next : ∀ (S' : ST) (A' : AB) (k' n' : Nat), INV S' A' → k' ≤ k + 70 → n' ≤ n + 300 → J 2009 [some (.ref b0), some (vR A' 6 0), some (vR A' 7 0), some (vR A' 40 0), some (vI i), none, none, none] [] S' A' k' n') : J 1187 [some (.ref b0), some (vR A 6 0), some (vR A 7 0), some (vR A 40 0), some (vI i), none, none, none] [] S A k n := by
  refine r_aload_n C dL_law_1187 lg_1 ?_
  refine r_aloadq_n C dL_law_1188 lg_0 ?_
  refine r_iload C dL_law_1189 lg_4 ?_
  refine r_iconst C dL_law_1191 ?_
  refine r_iadd C dL_law_1192 ?_
  refine r_sld CL dL_law_1193 (by omega) (by omega) (by omega) ?_
  refine r_aloadq_n C dL_law_1194 lg_0 ?_
  refine r_iload C dL_law_1195 lg_4 ?_
  refine r_iconst C dL_law_1197 ?_
  refine r_iadd C dL_law_1198 ?_
  refine r_sld CL dL_law_1199 (by omega) (by omega) (by omega) ?_
  refine r_aload_n C dL_law_1200 lg_3 ?_
  refine r_W4I C (cL_available_ hfl (R := rwM S) hI.2.1 hI.1.2.1.1 (sc_r xs _) (sc_r xs _) hI.2.2.2.2.2) dL_law_1201 lk_L_161 ⟨Nat.le_of_ble_eq_true rfl, Nat.le_of_ble_eq_true rfl⟩ (catLe (Nat.le_of_ble_eq_true rfl)) 2 12 ⟨rfl, rfl⟩ (show _ ≤ 601024 by omega) (show _ ≤ 7293034 by omega) (fun _ _ _ h9 => h9.elim) (fun z1201 S1201 A1201 i1201 p1201 => ?_)
  obtain ⟨rfl, hF, hW⟩ := p1201
  have hM := (inv_fr hI hF).1
  obtain ⟨m1, m2, m3, m4, m5, m6⟩ := mv_pre hM
  refine r_istore C dL_law_1204 (ls1_5 rfl rfl) ?_
  refine r_aload_n C dL_law_1206 lg_2 ?_
  refine r_aloadq_n C dL_law_1207 lg_0 ?_
  refine r_iload C dL_law_1208 lg_4 ?_
  refine r_iconst C dL_law_1210 ?_
  refine r_iadd C dL_law_1211 ?_
  refine r_sld CL dL_law_1212 (by omega) (by omega) (by omega) ?_
  refine r_aloadq_n C dL_law_1213 lg_0 ?_
  refine r_iload C dL_law_1214 lg_4 ?_
  refine r_iconst C dL_law_1216 ?_
  refine r_iadd C dL_law_1217 ?_
  refine r_sld CL dL_law_1218 (by omega) (by omega) (by omega) ?_
  refine q_V2I C (cM_available hfl hM.1 hM.2.1.1 (sc_r xs _) (sc_r xs _)) dL_law_1219 lk_L_163 hM.1.1 ⟨Nat.le_of_ble_eq_true rfl, Nat.le_of_ble_eq_true rfl⟩ (catLe (Nat.le_of_ble_eq_true rfl)) ⟨rfl, rfl⟩ rfl (show _ ≤ 601024 by omega) (show _ ≤ 7293034 by omega) (fun z1219 S1219 A1219 i1219 p1219 => ?_)
  obtain ⟨rfl, hz⟩ := p1219
  obtain ⟨⟨w1, w2⟩, hI2⟩ := u_available hI hF hW hz
  refine r_istore C dL_law_1222 (ls1_6 rfl rfl) ?_
  refine r_aload_n C dL_law_1224 lg_2 ?_
  refine q_V0I C (cM_thrown hfl hI2.1.1) dL_law_1225 lk_L_107 hI2.1.1.1 ⟨Nat.le_of_ble_eq_true rfl, Nat.le_of_ble_eq_true rfl⟩ (catLe (Nat.le_of_ble_eq_true rfl)) ⟨rfl, rfl⟩ rfl (show _ ≤ 601024 by omega) (show _ ≤ 7293034 by omega) (fun z1225 S1225 A1225 i1225 p1225 => ?_)
  obtain ⟨rfl, rfl, rfl⟩ := p1225
  refine r_iload C dL_law_1228 lg_5 ?_
  refine r_iceq C (tgt := 1235) dL_law_1230 (by decide) (by omega) (by omega) (fun c1230 => ?_) (fun c1230 => ?_)
  · refine r_iload C dL_law_1235 lg_5 ?_
    refine r_ifne C (tgt := 1252) dL_law_1237 (by decide) (by omega) (fun c1237 => ?_) (fun c1237 => ?_)
    · refine r_goto C (tgt := 2009) dL_law_1252 (by decide) ?_
      refine r_le C (lle_k (lle_k (lle_k (lle_k (lle_k (lle_f (lle_f (lle_k lle_0)))))))) ?_
      exact next _ _ _ _ hI2 (by omega) (by omega)
    · have w3 := w2 (by omega)
      refine r_aload_n C dL_law_1240 lg_3 ?_
      refine r_iconst C dL_law_1241 ?_
      refine r_lald C (N := 1) 1280 dL_law_1242 (by decide) rfl rfl hI2.2.2.2.2.2 (by omega) (by omega) (by omega) (fun g1242 => ?_)
      refine r_iload C dL_law_1243 lg_6 ?_
      refine r_i2l C dL_law_1245 (by omega) ?_
      refine r_lceq C (tgt := 1252) dL_law_1246 dL_law_1247 (by decide) (by omega) (by omega) (fun c1246 => ?_) (fun c1246 => ?_)
      · refine r_goto C (tgt := 2009) dL_law_1252 (by decide) ?_
        refine r_le C (lle_k (lle_k (lle_k (lle_k (lle_k (lle_f (lle_f (lle_k lle_0)))))))) ?_
        exact next _ _ _ _ hI2 (by omega) (by omega)
      · exfalso; omega
  · exfalso; omega
set_option maxRecDepth 20000 in
theorem lw_c16 {G : GT} {l : Launch} (hfl : l.stackTraces = false) {b0 L : Nat} {xs : Nat → Int32} {mn : String} {tb : List ExceptionTableEntry} {J : JT} {X : XT} (C : Cx G l room_1 cL_law 8 RL mn tb J X) (CL : CxL G l room_1 cL_law 8 RL mn tb b0 L xs J X) {S : ST} {A : AB} {k n : Nat} {i : Int} (hI : INV S A) (hi : 0 ≤ i ∧ i + 6 ≤ L) (hL : L ≤ 3072) (hk : k + 70 ≤ 601024) (hn : n + 300 ≤ 7293034) (next : ∀ (S' : ST) (A' : AB) (k' n' : Nat), INV S' A' → k' ≤ k + 70 → n' ≤ n + 300 → J 2009 [some (.ref b0), some (vR A' 6 0), some (vR A' 7 0), some (vR A' 40 0), some (vI i), none, none, none] [] S' A' k' n') : J 1255 [some (.ref b0), some (vR A 6 0), some (vR A 7 0), some (vR A 40 0), some (vI i), none, none, none] [] S A k n := by
  by_cases hy9 : sc xs (i + 3) = 0
  · refine r_aload_n C dL_law_1255 lg_1 ?_
    refine r_aloadq_n C dL_law_1256 lg_0 ?_
    refine r_iload C dL_law_1257 lg_4 ?_
    refine r_iconst C dL_law_1259 ?_
    refine r_iadd C dL_law_1260 ?_
    refine r_sld CL dL_law_1261 (by omega) (by omega) (by omega) ?_
    refine r_aloadq_n C dL_law_1262 lg_0 ?_
    refine r_iload C dL_law_1263 lg_4 ?_
    refine r_iconst C dL_law_1265 ?_
    refine r_iadd C dL_law_1266 ?_
    refine r_sld CL dL_law_1267 (by omega) (by omega) (by omega) ?_
    refine r_aloadq_n C dL_law_1268 lg_0 ?_
    refine r_iload C dL_law_1269 lg_4 ?_
    refine r_iconst C dL_law_1271 ?_
    refine r_iadd C dL_law_1272 ?_
    refine r_sld CL dL_law_1273 (by omega) (by omega) (by omega) ?_
    refine r_ifeq C (tgt := 1281) dL_law_1274 (by decide) (sc_r xs _) (fun c1274 => ?_) (fun c1274 => ?_)
    · refine r_iconst C dL_law_1281 ?_
      refine r_aload_n C dL_law_1282 lg_3 ?_
      refine r_W5I C (cL_value_ hfl (R := rwM S) hI.2.1 hI.1.2.1.1 hI.1.2.1.2.1 hI.1.2.2.1 (sc_r xs _) (sc_r xs _) (by omega) hI.2.2.2.2.2) dL_law_1283 lk_L_164 ⟨Nat.le_of_ble_eq_true rfl, Nat.le_of_ble_eq_true rfl⟩ (catLe (Nat.le_of_ble_eq_true rfl)) 2 12 ⟨rfl, rfl⟩ (show _ ≤ 601024 by omega) (show _ ≤ 7293034 by omega) (fun _ _ _ h9 => h9.elim) (fun z1283 S1283 A1283 i1283 p1283 => ?_)
      obtain ⟨rfl, hF, hW⟩ := p1283
      have hM := (inv_fr hI hF).1
      obtain ⟨m1, m2, m3, m4, m5, m6⟩ := mv_pre hM
      refine r_istore C dL_law_1286 (ls1_5 rfl rfl) ?_
      refine r_aload_n C dL_law_1288 lg_2 ?_
      refine r_aloadq_n C dL_law_1289 lg_0 ?_
      refine r_iload C dL_law_1290 lg_4 ?_
      refine r_iconst C dL_law_1292 ?_
      refine r_iadd C dL_law_1293 ?_
      refine r_sld CL dL_law_1294 (by omega) (by omega) (by omega) ?_
      refine r_aloadq_n C dL_law_1295 lg_0 ?_
      refine r_iload C dL_law_1296 lg_4 ?_
      refine r_iconst C dL_law_1298 ?_
      refine r_iadd C dL_law_1299 ?_
      refine r_sld CL dL_law_1300 (by omega) (by omega) (by omega) ?_
      refine r_aloadq_n C dL_law_1301 lg_0 ?_
      refine r_iload C dL_law_1302 lg_4 ?_
      refine r_iconst C dL_law_1304 ?_
      refine r_iadd C dL_law_1305 ?_
      refine r_sld CL dL_law_1306 (by omega) (by omega) (by omega) ?_
      refine r_ifeq C (tgt := 1314) dL_law_1307 (by decide) (sc_r xs _) (fun c1307 => ?_) (fun c1307 => ?_)
      · refine r_iconst C dL_law_1314 ?_
        refine q_V3J C (cM_value hfl hM.1 hM.2.1.1 (sc_r xs _) (sc_r xs _) hM.2.2.1 (by omega)) dL_law_1315 lk_L_167 hM.1.1 ⟨Nat.le_of_ble_eq_true rfl, Nat.le_of_ble_eq_true rfl⟩ (catLe (Nat.le_of_ble_eq_true rfl)) ⟨rfl, rfl⟩ rfl (show _ ≤ 601024 by omega) (show _ ≤ 7293034 by omega) (fun z1315 S1315 A1315 i1315 p1315 => ?_)
        obtain ⟨rfl, hz⟩ := p1315
        obtain ⟨⟨w1, w2⟩, hI2⟩ := u_value hI hF hW hz
        refine r_lstore C dL_law_1318 (ls2_6 rfl rfl) ?_
        refine r_aload_n C dL_law_1320 lg_2 ?_
        refine q_V0I C (cM_thrown hfl hI2.1.1) dL_law_1321 lk_L_107 hI2.1.1.1 ⟨Nat.le_of_ble_eq_true rfl, Nat.le_of_ble_eq_true rfl⟩ (catLe (Nat.le_of_ble_eq_true rfl)) ⟨rfl, rfl⟩ rfl (show _ ≤ 601024 by omega) (show _ ≤ 7293034 by omega) (fun z1321 S1321 A1321 i1321 p1321 => ?_)
        obtain ⟨rfl, rfl, rfl⟩ := p1321
        refine r_iload C dL_law_1324 lg_5 ?_
        refine r_iceq C (tgt := 1331) dL_law_1326 (by decide) (by omega) (by omega) (fun c1326 => ?_) (fun c1326 => ?_)
        · refine r_iload C dL_law_1331 lg_5 ?_
          refine r_ifne C (tgt := 1347) dL_law_1333 (by decide) (by omega) (fun c1333 => ?_) (fun c1333 => ?_)
          · refine r_goto C (tgt := 2009) dL_law_1347 (by decide) ?_
            refine r_le C (lle_k (lle_k (lle_k (lle_k (lle_k (lle_f (lle_f (lle_k lle_0)))))))) ?_
            exact next _ _ _ _ hI2 (by omega) (by omega)
          · have w3 := w2 (by omega)
            refine r_aload_n C dL_law_1336 lg_3 ?_
            refine r_iconst C dL_law_1337 ?_
            refine r_lald C (N := 1) 1280 dL_law_1338 (by decide) rfl rfl hI2.2.2.2.2.2 (by omega) (by omega) (by omega) (fun g1338 => ?_)
            refine r_lload C dL_law_1339 lg_6 ?_
            refine r_lceq C (tgt := 1347) dL_law_1341 dL_law_1342 (by decide) (by omega) (by omega) (fun c1341 => ?_) (fun c1341 => ?_)
            · refine r_goto C (tgt := 2009) dL_law_1347 (by decide) ?_
              refine r_le C (lle_k (lle_k (lle_k (lle_k (lle_k (lle_f (lle_f (lle_k lle_0)))))))) ?_
              exact next _ _ _ _ hI2 (by omega) (by omega)
            · exfalso; omega
        · exfalso; omega
      · exfalso; omega
    · exfalso; omega
  · refine r_aload_n C dL_law_1255 lg_1 ?_
    refine r_aloadq_n C dL_law_1256 lg_0 ?_
    refine r_iload C dL_law_1257 lg_4 ?_
    refine r_iconst C dL_law_1259 ?_
    refine r_iadd C dL_law_1260 ?_
    refine r_sld CL dL_law_1261 (by omega) (by omega) (by omega) ?_
    refine r_aloadq_n C dL_law_1262 lg_0 ?_
    refine r_iload C dL_law_1263 lg_4 ?_
    refine r_iconst C dL_law_1265 ?_
    refine r_iadd C dL_law_1266 ?_
    refine r_sld CL dL_law_1267 (by omega) (by omega) (by omega) ?_
    refine r_aloadq_n C dL_law_1268 lg_0 ?_
    refine r_iload C dL_law_1269 lg_4 ?_
    refine r_iconst C dL_law_1271 ?_
    refine r_iadd C dL_law_1272 ?_
    refine r_sld CL dL_law_1273 (by omega) (by omega) (by omega) ?_
    refine r_ifeq C (tgt := 1281) dL_law_1274 (by decide) (sc_r xs _) (fun c1274 => ?_) (fun c1274 => ?_)
    · exfalso; omega
    · refine r_iconst C dL_law_1277 ?_
      refine r_goto C (tgt := 1282) dL_law_1278 (by decide) ?_
      refine r_aload_n C dL_law_1282 lg_3 ?_
      refine r_W5I C (cL_value_ hfl (R := rwM S) hI.2.1 hI.1.2.1.1 hI.1.2.1.2.1 hI.1.2.2.1 (sc_r xs _) (sc_r xs _) (by omega) hI.2.2.2.2.2) dL_law_1283 lk_L_164 ⟨Nat.le_of_ble_eq_true rfl, Nat.le_of_ble_eq_true rfl⟩ (catLe (Nat.le_of_ble_eq_true rfl)) 2 12 ⟨rfl, rfl⟩ (show _ ≤ 601024 by omega) (show _ ≤ 7293034 by omega) (fun _ _ _ h9 => h9.elim) (fun z1283 S1283 A1283 i1283 p1283 => ?_)
      obtain ⟨rfl, hF, hW⟩ := p1283
      have hM := (inv_fr hI hF).1
      obtain ⟨m1, m2, m3, m4, m5, m6⟩ := mv_pre hM
      refine r_istore C dL_law_1286 (ls1_5 rfl rfl) ?_
      refine r_aload_n C dL_law_1288 lg_2 ?_
      refine r_aloadq_n C dL_law_1289 lg_0 ?_
      refine r_iload C dL_law_1290 lg_4 ?_
      refine r_iconst C dL_law_1292 ?_
      refine r_iadd C dL_law_1293 ?_
      refine r_sld CL dL_law_1294 (by omega) (by omega) (by omega) ?_
      refine r_aloadq_n C dL_law_1295 lg_0 ?_
      refine r_iload C dL_law_1296 lg_4 ?_
      refine r_iconst C dL_law_1298 ?_
      refine r_iadd C dL_law_1299 ?_
      refine r_sld CL dL_law_1300 (by omega) (by omega) (by omega) ?_
      refine r_aloadq_n C dL_law_1301 lg_0 ?_
      refine r_iload C dL_law_1302 lg_4 ?_
      refine r_iconst C dL_law_1304 ?_
      refine r_iadd C dL_law_1305 ?_
      refine r_sld CL dL_law_1306 (by omega) (by omega) (by omega) ?_
      refine r_ifeq C (tgt := 1314) dL_law_1307 (by decide) (sc_r xs _) (fun c1307 => ?_) (fun c1307 => ?_)
      · exfalso; omega
      · refine r_iconst C dL_law_1310 ?_
        refine r_goto C (tgt := 1315) dL_law_1311 (by decide) ?_
        refine q_V3J C (cM_value hfl hM.1 hM.2.1.1 (sc_r xs _) (sc_r xs _) hM.2.2.1 (by omega)) dL_law_1315 lk_L_167 hM.1.1 ⟨Nat.le_of_ble_eq_true rfl, Nat.le_of_ble_eq_true rfl⟩ (catLe (Nat.le_of_ble_eq_true rfl)) ⟨rfl, rfl⟩ rfl (show _ ≤ 601024 by omega) (show _ ≤ 7293034 by omega) (fun z1315 S1315 A1315 i1315 p1315 => ?_)
        obtain ⟨rfl, hz⟩ := p1315
        obtain ⟨⟨w1, w2⟩, hI2⟩ := u_value hI hF hW hz
        refine r_lstore C dL_law_1318 (ls2_6 rfl rfl) ?_
        refine r_aload_n C dL_law_1320 lg_2 ?_
        refine q_V0I C (cM_thrown hfl hI2.1.1) dL_law_1321 lk_L_107 hI2.1.1.1 ⟨Nat.le_of_ble_eq_true rfl, Nat.le_of_ble_eq_true rfl⟩ (catLe (Nat.le_of_ble_eq_true rfl)) ⟨rfl, rfl⟩ rfl (show _ ≤ 601024 by omega) (show _ ≤ 7293034 by omega) (fun z1321 S1321 A1321 i1321 p1321 => ?_)
        obtain ⟨rfl, rfl, rfl⟩ := p1321
        refine r_iload C dL_law_1324 lg_5 ?_
        refine r_iceq C (tgt := 1331) dL_law_1326 (by decide) (by omega) (by omega) (fun c1326 => ?_) (fun c1326 => ?_)
        · refine r_iload C dL_law_1331 lg_5 ?_
          refine r_ifne C (tgt := 1347) dL_law_1333 (by decide) (by omega) (fun c1333 => ?_) (fun c1333 => ?_)
          · refine r_goto C (tgt := 2009) dL_law_1347 (by decide) ?_
            refine r_le C (lle_k (lle_k (lle_k (lle_k (lle_k (lle_f (lle_f (lle_k lle_0)))))))) ?_
            exact next _ _ _ _ hI2 (by omega) (by omega)
          · have w3 := w2 (by omega)
            refine r_aload_n C dL_law_1336 lg_3 ?_
            refine r_iconst C dL_law_1337 ?_
            refine r_lald C (N := 1) 1280 dL_law_1338 (by decide) rfl rfl hI2.2.2.2.2.2 (by omega) (by omega) (by omega) (fun g1338 => ?_)
            refine r_lload C dL_law_1339 lg_6 ?_
            refine r_lceq C (tgt := 1347) dL_law_1341 dL_law_1342 (by decide) (by omega) (by omega) (fun c1341 => ?_) (fun c1341 => ?_)
            · refine r_goto C (tgt := 2009) dL_law_1347 (by decide) ?_
              refine r_le C (lle_k (lle_k (lle_k (lle_k (lle_k (lle_f (lle_f (lle_k lle_0)))))))) ?_
              exact next _ _ _ _ hI2 (by omega) (by omega)
            · exfalso; omega
        · exfalso; omega
set_option maxRecDepth 20000 in
theorem lw_c17 {G : GT} {l : Launch} (hfl : l.stackTraces = false) {b0 L : Nat} {xs : Nat → Int32} {mn : String} {tb : List ExceptionTableEntry} {J : JT} {X : XT} (C : Cx G l room_1 cL_law 8 RL mn tb J X) (CL : CxL G l room_1 cL_law 8 RL mn tb b0 L xs J X) {S : ST} {A : AB} {k n : Nat} {i : Int} (hI : INV S A) (hi : 0 ≤ i ∧ i + 6 ≤ L) (hL : L ≤ 3072) (hk : k + 70 ≤ 601024) (hn : n + 300 ≤ 7293034) (next : ∀ (S' : ST) (A' : AB) (k' n' : Nat), INV S' A' → k' ≤ k + 70 → n' ≤ n + 300 → J 2009 [some (.ref b0), some (vR A' 6 0), some (vR A' 7 0), some (vR A' 40 0), some (vI i), none, none, none] [] S' A' k' n') : J 1350 [some (.ref b0), some (vR A 6 0), some (vR A 7 0), some (vR A 40 0), some (vI i), none, none, none] [] S A k n := by
  refine r_aload_n C dL_law_1350 lg_1 ?_
  refine r_aloadq_n C dL_law_1351 lg_0 ?_
  refine r_iload C dL_law_1352 lg_4 ?_
  refine r_iconst C dL_law_1354 ?_
  refine r_iadd C dL_law_1355 ?_
  refine r_sld CL dL_law_1356 (by omega) (by omega) (by omega) ?_
  refine r_aloadq_n C dL_law_1357 lg_0 ?_
  refine r_iload C dL_law_1358 lg_4 ?_
  refine r_iconst C dL_law_1360 ?_
  refine r_iadd C dL_law_1361 ?_
  refine r_sld CL dL_law_1362 (by omega) (by omega) (by omega) ?_
  refine r_aload_n C dL_law_1363 lg_3 ?_
  refine r_W4I C (cL_received_ hfl (R := rwM S) hI.2.1 hI.1.2.1.1 hI.1.2.1.2.1 hI.1.2.2.1 (sc_r xs _) (sc_r xs _) hI.2.2.2.2.2) dL_law_1364 lk_L_168 ⟨Nat.le_of_ble_eq_true rfl, Nat.le_of_ble_eq_true rfl⟩ (catLe (Nat.le_of_ble_eq_true rfl)) 2 12 ⟨rfl, rfl⟩ (show _ ≤ 601024 by omega) (show _ ≤ 7293034 by omega) (fun _ _ _ h9 => h9.elim) (fun z1364 S1364 A1364 i1364 p1364 => ?_)
  obtain ⟨rfl, hF, hW⟩ := p1364
  have hM := (inv_fr hI hF).1
  obtain ⟨m1, m2, m3, m4, m5, m6⟩ := mv_pre hM
  refine r_istore C dL_law_1367 (ls1_5 rfl rfl) ?_
  refine r_aload_n C dL_law_1369 lg_2 ?_
  refine r_aloadq_n C dL_law_1370 lg_0 ?_
  refine r_iload C dL_law_1371 lg_4 ?_
  refine r_iconst C dL_law_1373 ?_
  refine r_iadd C dL_law_1374 ?_
  refine r_sld CL dL_law_1375 (by omega) (by omega) (by omega) ?_
  refine r_aloadq_n C dL_law_1376 lg_0 ?_
  refine r_iload C dL_law_1377 lg_4 ?_
  refine r_iconst C dL_law_1379 ?_
  refine r_iadd C dL_law_1380 ?_
  refine r_sld CL dL_law_1381 (by omega) (by omega) (by omega) ?_
  refine q_V2J C (cM_received hfl hM.1 hM.2.1.1 (sc_r xs _) (sc_r xs _) hM.2.2.1) dL_law_1382 lk_L_170 hM.1.1 ⟨Nat.le_of_ble_eq_true rfl, Nat.le_of_ble_eq_true rfl⟩ (catLe (Nat.le_of_ble_eq_true rfl)) ⟨rfl, rfl⟩ rfl (show _ ≤ 601024 by omega) (show _ ≤ 7293034 by omega) (fun z1382 S1382 A1382 i1382 p1382 => ?_)
  obtain ⟨rfl, hz⟩ := p1382
  obtain ⟨⟨w1, w2⟩, hI2⟩ := u_received hI hF hW hz
  refine r_lstore C dL_law_1385 (ls2_6 rfl rfl) ?_
  refine r_aload_n C dL_law_1387 lg_2 ?_
  refine q_V0I C (cM_thrown hfl hI2.1.1) dL_law_1388 lk_L_107 hI2.1.1.1 ⟨Nat.le_of_ble_eq_true rfl, Nat.le_of_ble_eq_true rfl⟩ (catLe (Nat.le_of_ble_eq_true rfl)) ⟨rfl, rfl⟩ rfl (show _ ≤ 601024 by omega) (show _ ≤ 7293034 by omega) (fun z1388 S1388 A1388 i1388 p1388 => ?_)
  obtain ⟨rfl, rfl, rfl⟩ := p1388
  refine r_iload C dL_law_1391 lg_5 ?_
  refine r_iceq C (tgt := 1398) dL_law_1393 (by decide) (by omega) (by omega) (fun c1393 => ?_) (fun c1393 => ?_)
  · refine r_iload C dL_law_1398 lg_5 ?_
    refine r_ifne C (tgt := 1414) dL_law_1400 (by decide) (by omega) (fun c1400 => ?_) (fun c1400 => ?_)
    · refine r_goto C (tgt := 2009) dL_law_1414 (by decide) ?_
      refine r_le C (lle_k (lle_k (lle_k (lle_k (lle_k (lle_f (lle_f (lle_k lle_0)))))))) ?_
      exact next _ _ _ _ hI2 (by omega) (by omega)
    · have w3 := w2 (by omega)
      refine r_aload_n C dL_law_1403 lg_3 ?_
      refine r_iconst C dL_law_1404 ?_
      refine r_lald C (N := 1) 1280 dL_law_1405 (by decide) rfl rfl hI2.2.2.2.2.2 (by omega) (by omega) (by omega) (fun g1405 => ?_)
      refine r_lload C dL_law_1406 lg_6 ?_
      refine r_lceq C (tgt := 1414) dL_law_1408 dL_law_1409 (by decide) (by omega) (by omega) (fun c1408 => ?_) (fun c1408 => ?_)
      · refine r_goto C (tgt := 2009) dL_law_1414 (by decide) ?_
        refine r_le C (lle_k (lle_k (lle_k (lle_k (lle_k (lle_f (lle_f (lle_k lle_0)))))))) ?_
        exact next _ _ _ _ hI2 (by omega) (by omega)
      · exfalso; omega
  · exfalso; omega
set_option maxRecDepth 20000 in
theorem lw_c18 {G : GT} {l : Launch} (hfl : l.stackTraces = false) {b0 L : Nat} {xs : Nat → Int32} {mn : String} {tb : List ExceptionTableEntry} {J : JT} {X : XT} (C : Cx G l room_1 cL_law 8 RL mn tb J X) (CL : CxL G l room_1 cL_law 8 RL mn tb b0 L xs J X) {S : ST} {A : AB} {k n : Nat} {i : Int} (hI : INV S A) (hi : 0 ≤ i ∧ i + 6 ≤ L) (hL : L ≤ 3072) (hk : k + 70 ≤ 601024) (hn : n + 300 ≤ 7293034) (next : ∀ (S' : ST) (A' : AB) (k' n' : Nat), INV S' A' → k' ≤ k + 70 → n' ≤ n + 300 → J 2009 [some (.ref b0), some (vR A' 6 0), some (vR A' 7 0), some (vR A' 40 0), some (vI i), none, none, none] [] S' A' k' n') : J 1417 [some (.ref b0), some (vR A 6 0), some (vR A 7 0), some (vR A 40 0), some (vI i), none, none, none] [] S A k n := by
  by_cases hy9 : sc xs (i + 3) = 0
  · refine r_aload_n C dL_law_1417 lg_1 ?_
    refine r_aloadq_n C dL_law_1418 lg_0 ?_
    refine r_iload C dL_law_1419 lg_4 ?_
    refine r_iconst C dL_law_1421 ?_
    refine r_iadd C dL_law_1422 ?_
    refine r_sld CL dL_law_1423 (by omega) (by omega) (by omega) ?_
    refine r_aloadq_n C dL_law_1424 lg_0 ?_
    refine r_iload C dL_law_1425 lg_4 ?_
    refine r_iconst C dL_law_1427 ?_
    refine r_iadd C dL_law_1428 ?_
    refine r_sld CL dL_law_1429 (by omega) (by omega) (by omega) ?_
    refine r_aloadq_n C dL_law_1430 lg_0 ?_
    refine r_iload C dL_law_1431 lg_4 ?_
    refine r_iconst C dL_law_1433 ?_
    refine r_iadd C dL_law_1434 ?_
    refine r_sld CL dL_law_1435 (by omega) (by omega) (by omega) ?_
    refine r_ifeq C (tgt := 1443) dL_law_1436 (by decide) (sc_r xs _) (fun c1436 => ?_) (fun c1436 => ?_)
    · refine r_iconst C dL_law_1443 ?_
      refine r_aload_n C dL_law_1444 lg_3 ?_
      refine r_W5I C (cL_issued_ hfl (R := rwM S) hI.2.1 hI.1.2.1.1 hI.1.2.1.2.1 hI.1.2.2.1 (sc_r xs _) (sc_r xs _) (by omega) hI.2.2.2.2.2) dL_law_1445 lk_L_171 ⟨Nat.le_of_ble_eq_true rfl, Nat.le_of_ble_eq_true rfl⟩ (catLe (Nat.le_of_ble_eq_true rfl)) 2 12 ⟨rfl, rfl⟩ (show _ ≤ 601024 by omega) (show _ ≤ 7293034 by omega) (fun _ _ _ h9 => h9.elim) (fun z1445 S1445 A1445 i1445 p1445 => ?_)
      obtain ⟨rfl, hF, hW⟩ := p1445
      have hM := (inv_fr hI hF).1
      obtain ⟨m1, m2, m3, m4, m5, m6⟩ := mv_pre hM
      refine r_istore C dL_law_1448 (ls1_5 rfl rfl) ?_
      refine r_aload_n C dL_law_1450 lg_2 ?_
      refine r_aloadq_n C dL_law_1451 lg_0 ?_
      refine r_iload C dL_law_1452 lg_4 ?_
      refine r_iconst C dL_law_1454 ?_
      refine r_iadd C dL_law_1455 ?_
      refine r_sld CL dL_law_1456 (by omega) (by omega) (by omega) ?_
      refine r_aloadq_n C dL_law_1457 lg_0 ?_
      refine r_iload C dL_law_1458 lg_4 ?_
      refine r_iconst C dL_law_1460 ?_
      refine r_iadd C dL_law_1461 ?_
      refine r_sld CL dL_law_1462 (by omega) (by omega) (by omega) ?_
      refine r_aloadq_n C dL_law_1463 lg_0 ?_
      refine r_iload C dL_law_1464 lg_4 ?_
      refine r_iconst C dL_law_1466 ?_
      refine r_iadd C dL_law_1467 ?_
      refine r_sld CL dL_law_1468 (by omega) (by omega) (by omega) ?_
      refine r_ifeq C (tgt := 1476) dL_law_1469 (by decide) (sc_r xs _) (fun c1469 => ?_) (fun c1469 => ?_)
      · refine r_iconst C dL_law_1476 ?_
        refine q_V3J C (cM_issued hfl hM.1 hM.2.1.1 (sc_r xs _) (sc_r xs _) hM.2.2.1 (by omega)) dL_law_1477 lk_L_173 hM.1.1 ⟨Nat.le_of_ble_eq_true rfl, Nat.le_of_ble_eq_true rfl⟩ (catLe (Nat.le_of_ble_eq_true rfl)) ⟨rfl, rfl⟩ rfl (show _ ≤ 601024 by omega) (show _ ≤ 7293034 by omega) (fun z1477 S1477 A1477 i1477 p1477 => ?_)
        obtain ⟨rfl, hz⟩ := p1477
        obtain ⟨⟨w1, w2⟩, hI2⟩ := u_issued hI hF hW hz
        refine r_lstore C dL_law_1480 (ls2_6 rfl rfl) ?_
        refine r_aload_n C dL_law_1482 lg_2 ?_
        refine q_V0I C (cM_thrown hfl hI2.1.1) dL_law_1483 lk_L_107 hI2.1.1.1 ⟨Nat.le_of_ble_eq_true rfl, Nat.le_of_ble_eq_true rfl⟩ (catLe (Nat.le_of_ble_eq_true rfl)) ⟨rfl, rfl⟩ rfl (show _ ≤ 601024 by omega) (show _ ≤ 7293034 by omega) (fun z1483 S1483 A1483 i1483 p1483 => ?_)
        obtain ⟨rfl, rfl, rfl⟩ := p1483
        refine r_iload C dL_law_1486 lg_5 ?_
        refine r_iceq C (tgt := 1493) dL_law_1488 (by decide) (by omega) (by omega) (fun c1488 => ?_) (fun c1488 => ?_)
        · refine r_iload C dL_law_1493 lg_5 ?_
          refine r_ifne C (tgt := 1509) dL_law_1495 (by decide) (by omega) (fun c1495 => ?_) (fun c1495 => ?_)
          · refine r_goto C (tgt := 2009) dL_law_1509 (by decide) ?_
            refine r_le C (lle_k (lle_k (lle_k (lle_k (lle_k (lle_f (lle_f (lle_k lle_0)))))))) ?_
            exact next _ _ _ _ hI2 (by omega) (by omega)
          · have w3 := w2 (by omega)
            refine r_aload_n C dL_law_1498 lg_3 ?_
            refine r_iconst C dL_law_1499 ?_
            refine r_lald C (N := 1) 1280 dL_law_1500 (by decide) rfl rfl hI2.2.2.2.2.2 (by omega) (by omega) (by omega) (fun g1500 => ?_)
            refine r_lload C dL_law_1501 lg_6 ?_
            refine r_lceq C (tgt := 1509) dL_law_1503 dL_law_1504 (by decide) (by omega) (by omega) (fun c1503 => ?_) (fun c1503 => ?_)
            · refine r_goto C (tgt := 2009) dL_law_1509 (by decide) ?_
              refine r_le C (lle_k (lle_k (lle_k (lle_k (lle_k (lle_f (lle_f (lle_k lle_0)))))))) ?_
              exact next _ _ _ _ hI2 (by omega) (by omega)
            · exfalso; omega
        · exfalso; omega
      · exfalso; omega
    · exfalso; omega
  · refine r_aload_n C dL_law_1417 lg_1 ?_
    refine r_aloadq_n C dL_law_1418 lg_0 ?_
    refine r_iload C dL_law_1419 lg_4 ?_
    refine r_iconst C dL_law_1421 ?_
    refine r_iadd C dL_law_1422 ?_
    refine r_sld CL dL_law_1423 (by omega) (by omega) (by omega) ?_
    refine r_aloadq_n C dL_law_1424 lg_0 ?_
    refine r_iload C dL_law_1425 lg_4 ?_
    refine r_iconst C dL_law_1427 ?_
    refine r_iadd C dL_law_1428 ?_
    refine r_sld CL dL_law_1429 (by omega) (by omega) (by omega) ?_
    refine r_aloadq_n C dL_law_1430 lg_0 ?_
    refine r_iload C dL_law_1431 lg_4 ?_
    refine r_iconst C dL_law_1433 ?_
    refine r_iadd C dL_law_1434 ?_
    refine r_sld CL dL_law_1435 (by omega) (by omega) (by omega) ?_
    refine r_ifeq C (tgt := 1443) dL_law_1436 (by decide) (sc_r xs _) (fun c1436 => ?_) (fun c1436 => ?_)
    · exfalso; omega
    · refine r_iconst C dL_law_1439 ?_
      refine r_goto C (tgt := 1444) dL_law_1440 (by decide) ?_
      refine r_aload_n C dL_law_1444 lg_3 ?_
      refine r_W5I C (cL_issued_ hfl (R := rwM S) hI.2.1 hI.1.2.1.1 hI.1.2.1.2.1 hI.1.2.2.1 (sc_r xs _) (sc_r xs _) (by omega) hI.2.2.2.2.2) dL_law_1445 lk_L_171 ⟨Nat.le_of_ble_eq_true rfl, Nat.le_of_ble_eq_true rfl⟩ (catLe (Nat.le_of_ble_eq_true rfl)) 2 12 ⟨rfl, rfl⟩ (show _ ≤ 601024 by omega) (show _ ≤ 7293034 by omega) (fun _ _ _ h9 => h9.elim) (fun z1445 S1445 A1445 i1445 p1445 => ?_)
      obtain ⟨rfl, hF, hW⟩ := p1445
      have hM := (inv_fr hI hF).1
      obtain ⟨m1, m2, m3, m4, m5, m6⟩ := mv_pre hM
      refine r_istore C dL_law_1448 (ls1_5 rfl rfl) ?_
      refine r_aload_n C dL_law_1450 lg_2 ?_
      refine r_aloadq_n C dL_law_1451 lg_0 ?_
      refine r_iload C dL_law_1452 lg_4 ?_
      refine r_iconst C dL_law_1454 ?_
      refine r_iadd C dL_law_1455 ?_
      refine r_sld CL dL_law_1456 (by omega) (by omega) (by omega) ?_
      refine r_aloadq_n C dL_law_1457 lg_0 ?_
      refine r_iload C dL_law_1458 lg_4 ?_
      refine r_iconst C dL_law_1460 ?_
      refine r_iadd C dL_law_1461 ?_
      refine r_sld CL dL_law_1462 (by omega) (by omega) (by omega) ?_
      refine r_aloadq_n C dL_law_1463 lg_0 ?_
      refine r_iload C dL_law_1464 lg_4 ?_
      refine r_iconst C dL_law_1466 ?_
      refine r_iadd C dL_law_1467 ?_
      refine r_sld CL dL_law_1468 (by omega) (by omega) (by omega) ?_
      refine r_ifeq C (tgt := 1476) dL_law_1469 (by decide) (sc_r xs _) (fun c1469 => ?_) (fun c1469 => ?_)
      · exfalso; omega
      · refine r_iconst C dL_law_1472 ?_
        refine r_goto C (tgt := 1477) dL_law_1473 (by decide) ?_
        refine q_V3J C (cM_issued hfl hM.1 hM.2.1.1 (sc_r xs _) (sc_r xs _) hM.2.2.1 (by omega)) dL_law_1477 lk_L_173 hM.1.1 ⟨Nat.le_of_ble_eq_true rfl, Nat.le_of_ble_eq_true rfl⟩ (catLe (Nat.le_of_ble_eq_true rfl)) ⟨rfl, rfl⟩ rfl (show _ ≤ 601024 by omega) (show _ ≤ 7293034 by omega) (fun z1477 S1477 A1477 i1477 p1477 => ?_)
        obtain ⟨rfl, hz⟩ := p1477
        obtain ⟨⟨w1, w2⟩, hI2⟩ := u_issued hI hF hW hz
        refine r_lstore C dL_law_1480 (ls2_6 rfl rfl) ?_
        refine r_aload_n C dL_law_1482 lg_2 ?_
        refine q_V0I C (cM_thrown hfl hI2.1.1) dL_law_1483 lk_L_107 hI2.1.1.1 ⟨Nat.le_of_ble_eq_true rfl, Nat.le_of_ble_eq_true rfl⟩ (catLe (Nat.le_of_ble_eq_true rfl)) ⟨rfl, rfl⟩ rfl (show _ ≤ 601024 by omega) (show _ ≤ 7293034 by omega) (fun z1483 S1483 A1483 i1483 p1483 => ?_)
        obtain ⟨rfl, rfl, rfl⟩ := p1483
        refine r_iload C dL_law_1486 lg_5 ?_
        refine r_iceq C (tgt := 1493) dL_law_1488 (by decide) (by omega) (by omega) (fun c1488 => ?_) (fun c1488 => ?_)
        · refine r_iload C dL_law_1493 lg_5 ?_
          refine r_ifne C (tgt := 1509) dL_law_1495 (by decide) (by omega) (fun c1495 => ?_) (fun c1495 => ?_)
          · refine r_goto C (tgt := 2009) dL_law_1509 (by decide) ?_
            refine r_le C (lle_k (lle_k (lle_k (lle_k (lle_k (lle_f (lle_f (lle_k lle_0)))))))) ?_
            exact next _ _ _ _ hI2 (by omega) (by omega)
          · have w3 := w2 (by omega)
            refine r_aload_n C dL_law_1498 lg_3 ?_
            refine r_iconst C dL_law_1499 ?_
            refine r_lald C (N := 1) 1280 dL_law_1500 (by decide) rfl rfl hI2.2.2.2.2.2 (by omega) (by omega) (by omega) (fun g1500 => ?_)
            refine r_lload C dL_law_1501 lg_6 ?_
            refine r_lceq C (tgt := 1509) dL_law_1503 dL_law_1504 (by decide) (by omega) (by omega) (fun c1503 => ?_) (fun c1503 => ?_)
            · refine r_goto C (tgt := 2009) dL_law_1509 (by decide) ?_
              refine r_le C (lle_k (lle_k (lle_k (lle_k (lle_k (lle_f (lle_f (lle_k lle_0)))))))) ?_
              exact next _ _ _ _ hI2 (by omega) (by omega)
            · exfalso; omega
        · exfalso; omega
set_option maxRecDepth 20000 in
theorem lw_c19 {G : GT} {l : Launch} (hfl : l.stackTraces = false) {b0 L : Nat} {xs : Nat → Int32} {mn : String} {tb : List ExceptionTableEntry} {J : JT} {X : XT} (C : Cx G l room_1 cL_law 8 RL mn tb J X) (CL : CxL G l room_1 cL_law 8 RL mn tb b0 L xs J X) {S : ST} {A : AB} {k n : Nat} {i : Int} (hI : INV S A) (hi : 0 ≤ i ∧ i + 6 ≤ L) (hL : L ≤ 3072) (hk : k + 70 ≤ 601024) (hn : n + 300 ≤ 7293034) (next : ∀ (S' : ST) (A' : AB) (k' n' : Nat), INV S' A' → k' ≤ k + 70 → n' ≤ n + 300 → J 2009 [some (.ref b0), some (vR A' 6 0), some (vR A' 7 0), some (vR A' 40 0), some (vI i), none, none, none] [] S' A' k' n') : J 1512 [some (.ref b0), some (vR A 6 0), some (vR A 7 0), some (vR A 40 0), some (vI i), none, none, none] [] S A k n := by
  by_cases hy9 : sc xs (i + 3) = 0
  · refine r_aload_n C dL_law_1512 lg_1 ?_
    refine r_aloadq_n C dL_law_1513 lg_0 ?_
    refine r_iload C dL_law_1514 lg_4 ?_
    refine r_iconst C dL_law_1516 ?_
    refine r_iadd C dL_law_1517 ?_
    refine r_sld CL dL_law_1518 (by omega) (by omega) (by omega) ?_
    refine r_aloadq_n C dL_law_1519 lg_0 ?_
    refine r_iload C dL_law_1520 lg_4 ?_
    refine r_iconst C dL_law_1522 ?_
    refine r_iadd C dL_law_1523 ?_
    refine r_sld CL dL_law_1524 (by omega) (by omega) (by omega) ?_
    refine r_aloadq_n C dL_law_1525 lg_0 ?_
    refine r_iload C dL_law_1526 lg_4 ?_
    refine r_iconst C dL_law_1528 ?_
    refine r_iadd C dL_law_1529 ?_
    refine r_sld CL dL_law_1530 (by omega) (by omega) (by omega) ?_
    refine r_ifeq C (tgt := 1538) dL_law_1531 (by decide) (sc_r xs _) (fun c1531 => ?_) (fun c1531 => ?_)
    · refine r_iconst C dL_law_1538 ?_
      refine r_aload_n C dL_law_1539 lg_3 ?_
      refine r_W5I C (cL_revalued_ hfl (R := rwM S) hI.2.1 hI.1.2.1.1 hI.1.2.1.2.1 hI.1.2.2.1 (sc_r xs _) (sc_r xs _) (by omega) hI.2.2.2.2.2) dL_law_1540 lk_L_174 ⟨Nat.le_of_ble_eq_true rfl, Nat.le_of_ble_eq_true rfl⟩ (catLe (Nat.le_of_ble_eq_true rfl)) 2 12 ⟨rfl, rfl⟩ (show _ ≤ 601024 by omega) (show _ ≤ 7293034 by omega) (fun _ _ _ h9 => h9.elim) (fun z1540 S1540 A1540 i1540 p1540 => ?_)
      obtain ⟨rfl, hF, hW⟩ := p1540
      have hM := (inv_fr hI hF).1
      obtain ⟨m1, m2, m3, m4, m5, m6⟩ := mv_pre hM
      refine r_istore C dL_law_1543 (ls1_5 rfl rfl) ?_
      refine r_aload_n C dL_law_1545 lg_2 ?_
      refine r_aloadq_n C dL_law_1546 lg_0 ?_
      refine r_iload C dL_law_1547 lg_4 ?_
      refine r_iconst C dL_law_1549 ?_
      refine r_iadd C dL_law_1550 ?_
      refine r_sld CL dL_law_1551 (by omega) (by omega) (by omega) ?_
      refine r_aloadq_n C dL_law_1552 lg_0 ?_
      refine r_iload C dL_law_1553 lg_4 ?_
      refine r_iconst C dL_law_1555 ?_
      refine r_iadd C dL_law_1556 ?_
      refine r_sld CL dL_law_1557 (by omega) (by omega) (by omega) ?_
      refine r_aloadq_n C dL_law_1558 lg_0 ?_
      refine r_iload C dL_law_1559 lg_4 ?_
      refine r_iconst C dL_law_1561 ?_
      refine r_iadd C dL_law_1562 ?_
      refine r_sld CL dL_law_1563 (by omega) (by omega) (by omega) ?_
      refine r_ifeq C (tgt := 1571) dL_law_1564 (by decide) (sc_r xs _) (fun c1564 => ?_) (fun c1564 => ?_)
      · refine r_iconst C dL_law_1571 ?_
        refine q_V3J C (cM_revalued hfl hM.1 hM.2.1.1 (sc_r xs _) (sc_r xs _) hM.2.2.1 (by omega)) dL_law_1572 lk_L_176 hM.1.1 ⟨Nat.le_of_ble_eq_true rfl, Nat.le_of_ble_eq_true rfl⟩ (catLe (Nat.le_of_ble_eq_true rfl)) ⟨rfl, rfl⟩ rfl (show _ ≤ 601024 by omega) (show _ ≤ 7293034 by omega) (fun z1572 S1572 A1572 i1572 p1572 => ?_)
        obtain ⟨rfl, hz⟩ := p1572
        obtain ⟨⟨w1, w2⟩, hI2⟩ := u_revalued hI hF hW hz
        refine r_lstore C dL_law_1575 (ls2_6 rfl rfl) ?_
        refine r_aload_n C dL_law_1577 lg_2 ?_
        refine q_V0I C (cM_thrown hfl hI2.1.1) dL_law_1578 lk_L_107 hI2.1.1.1 ⟨Nat.le_of_ble_eq_true rfl, Nat.le_of_ble_eq_true rfl⟩ (catLe (Nat.le_of_ble_eq_true rfl)) ⟨rfl, rfl⟩ rfl (show _ ≤ 601024 by omega) (show _ ≤ 7293034 by omega) (fun z1578 S1578 A1578 i1578 p1578 => ?_)
        obtain ⟨rfl, rfl, rfl⟩ := p1578
        refine r_iload C dL_law_1581 lg_5 ?_
        refine r_iceq C (tgt := 1588) dL_law_1583 (by decide) (by omega) (by omega) (fun c1583 => ?_) (fun c1583 => ?_)
        · refine r_iload C dL_law_1588 lg_5 ?_
          refine r_ifne C (tgt := 1604) dL_law_1590 (by decide) (by omega) (fun c1590 => ?_) (fun c1590 => ?_)
          · refine r_goto C (tgt := 2009) dL_law_1604 (by decide) ?_
            refine r_le C (lle_k (lle_k (lle_k (lle_k (lle_k (lle_f (lle_f (lle_k lle_0)))))))) ?_
            exact next _ _ _ _ hI2 (by omega) (by omega)
          · have w3 := w2 (by omega)
            refine r_aload_n C dL_law_1593 lg_3 ?_
            refine r_iconst C dL_law_1594 ?_
            refine r_lald C (N := 1) 1280 dL_law_1595 (by decide) rfl rfl hI2.2.2.2.2.2 (by omega) (by omega) (by omega) (fun g1595 => ?_)
            refine r_lload C dL_law_1596 lg_6 ?_
            refine r_lceq C (tgt := 1604) dL_law_1598 dL_law_1599 (by decide) (by omega) (by omega) (fun c1598 => ?_) (fun c1598 => ?_)
            · refine r_goto C (tgt := 2009) dL_law_1604 (by decide) ?_
              refine r_le C (lle_k (lle_k (lle_k (lle_k (lle_k (lle_f (lle_f (lle_k lle_0)))))))) ?_
              exact next _ _ _ _ hI2 (by omega) (by omega)
            · exfalso; omega
        · exfalso; omega
      · exfalso; omega
    · exfalso; omega
  · refine r_aload_n C dL_law_1512 lg_1 ?_
    refine r_aloadq_n C dL_law_1513 lg_0 ?_
    refine r_iload C dL_law_1514 lg_4 ?_
    refine r_iconst C dL_law_1516 ?_
    refine r_iadd C dL_law_1517 ?_
    refine r_sld CL dL_law_1518 (by omega) (by omega) (by omega) ?_
    refine r_aloadq_n C dL_law_1519 lg_0 ?_
    refine r_iload C dL_law_1520 lg_4 ?_
    refine r_iconst C dL_law_1522 ?_
    refine r_iadd C dL_law_1523 ?_
    refine r_sld CL dL_law_1524 (by omega) (by omega) (by omega) ?_
    refine r_aloadq_n C dL_law_1525 lg_0 ?_
    refine r_iload C dL_law_1526 lg_4 ?_
    refine r_iconst C dL_law_1528 ?_
    refine r_iadd C dL_law_1529 ?_
    refine r_sld CL dL_law_1530 (by omega) (by omega) (by omega) ?_
    refine r_ifeq C (tgt := 1538) dL_law_1531 (by decide) (sc_r xs _) (fun c1531 => ?_) (fun c1531 => ?_)
    · exfalso; omega
    · refine r_iconst C dL_law_1534 ?_
      refine r_goto C (tgt := 1539) dL_law_1535 (by decide) ?_
      refine r_aload_n C dL_law_1539 lg_3 ?_
      refine r_W5I C (cL_revalued_ hfl (R := rwM S) hI.2.1 hI.1.2.1.1 hI.1.2.1.2.1 hI.1.2.2.1 (sc_r xs _) (sc_r xs _) (by omega) hI.2.2.2.2.2) dL_law_1540 lk_L_174 ⟨Nat.le_of_ble_eq_true rfl, Nat.le_of_ble_eq_true rfl⟩ (catLe (Nat.le_of_ble_eq_true rfl)) 2 12 ⟨rfl, rfl⟩ (show _ ≤ 601024 by omega) (show _ ≤ 7293034 by omega) (fun _ _ _ h9 => h9.elim) (fun z1540 S1540 A1540 i1540 p1540 => ?_)
      obtain ⟨rfl, hF, hW⟩ := p1540
      have hM := (inv_fr hI hF).1
      obtain ⟨m1, m2, m3, m4, m5, m6⟩ := mv_pre hM
      refine r_istore C dL_law_1543 (ls1_5 rfl rfl) ?_
      refine r_aload_n C dL_law_1545 lg_2 ?_
      refine r_aloadq_n C dL_law_1546 lg_0 ?_
      refine r_iload C dL_law_1547 lg_4 ?_
      refine r_iconst C dL_law_1549 ?_
      refine r_iadd C dL_law_1550 ?_
      refine r_sld CL dL_law_1551 (by omega) (by omega) (by omega) ?_
      refine r_aloadq_n C dL_law_1552 lg_0 ?_
      refine r_iload C dL_law_1553 lg_4 ?_
      refine r_iconst C dL_law_1555 ?_
      refine r_iadd C dL_law_1556 ?_
      refine r_sld CL dL_law_1557 (by omega) (by omega) (by omega) ?_
      refine r_aloadq_n C dL_law_1558 lg_0 ?_
      refine r_iload C dL_law_1559 lg_4 ?_
      refine r_iconst C dL_law_1561 ?_
      refine r_iadd C dL_law_1562 ?_
      refine r_sld CL dL_law_1563 (by omega) (by omega) (by omega) ?_
      refine r_ifeq C (tgt := 1571) dL_law_1564 (by decide) (sc_r xs _) (fun c1564 => ?_) (fun c1564 => ?_)
      · exfalso; omega
      · refine r_iconst C dL_law_1567 ?_
        refine r_goto C (tgt := 1572) dL_law_1568 (by decide) ?_
        refine q_V3J C (cM_revalued hfl hM.1 hM.2.1.1 (sc_r xs _) (sc_r xs _) hM.2.2.1 (by omega)) dL_law_1572 lk_L_176 hM.1.1 ⟨Nat.le_of_ble_eq_true rfl, Nat.le_of_ble_eq_true rfl⟩ (catLe (Nat.le_of_ble_eq_true rfl)) ⟨rfl, rfl⟩ rfl (show _ ≤ 601024 by omega) (show _ ≤ 7293034 by omega) (fun z1572 S1572 A1572 i1572 p1572 => ?_)
        obtain ⟨rfl, hz⟩ := p1572
        obtain ⟨⟨w1, w2⟩, hI2⟩ := u_revalued hI hF hW hz
        refine r_lstore C dL_law_1575 (ls2_6 rfl rfl) ?_
        refine r_aload_n C dL_law_1577 lg_2 ?_
        refine q_V0I C (cM_thrown hfl hI2.1.1) dL_law_1578 lk_L_107 hI2.1.1.1 ⟨Nat.le_of_ble_eq_true rfl, Nat.le_of_ble_eq_true rfl⟩ (catLe (Nat.le_of_ble_eq_true rfl)) ⟨rfl, rfl⟩ rfl (show _ ≤ 601024 by omega) (show _ ≤ 7293034 by omega) (fun z1578 S1578 A1578 i1578 p1578 => ?_)
        obtain ⟨rfl, rfl, rfl⟩ := p1578
        refine r_iload C dL_law_1581 lg_5 ?_
        refine r_iceq C (tgt := 1588) dL_law_1583 (by decide) (by omega) (by omega) (fun c1583 => ?_) (fun c1583 => ?_)
        · refine r_iload C dL_law_1588 lg_5 ?_
          refine r_ifne C (tgt := 1604) dL_law_1590 (by decide) (by omega) (fun c1590 => ?_) (fun c1590 => ?_)
          · refine r_goto C (tgt := 2009) dL_law_1604 (by decide) ?_
            refine r_le C (lle_k (lle_k (lle_k (lle_k (lle_k (lle_f (lle_f (lle_k lle_0)))))))) ?_
            exact next _ _ _ _ hI2 (by omega) (by omega)
          · have w3 := w2 (by omega)
            refine r_aload_n C dL_law_1593 lg_3 ?_
            refine r_iconst C dL_law_1594 ?_
            refine r_lald C (N := 1) 1280 dL_law_1595 (by decide) rfl rfl hI2.2.2.2.2.2 (by omega) (by omega) (by omega) (fun g1595 => ?_)
            refine r_lload C dL_law_1596 lg_6 ?_
            refine r_lceq C (tgt := 1604) dL_law_1598 dL_law_1599 (by decide) (by omega) (by omega) (fun c1598 => ?_) (fun c1598 => ?_)
            · refine r_goto C (tgt := 2009) dL_law_1604 (by decide) ?_
              refine r_le C (lle_k (lle_k (lle_k (lle_k (lle_k (lle_f (lle_f (lle_k lle_0)))))))) ?_
              exact next _ _ _ _ hI2 (by omega) (by omega)
            · exfalso; omega
        · exfalso; omega
set_option maxRecDepth 20000 in
theorem lw_c20 {G : GT} {l : Launch} (hfl : l.stackTraces = false) {b0 L : Nat} {xs : Nat → Int32} {mn : String} {tb : List ExceptionTableEntry} {J : JT} {X : XT} (C : Cx G l room_1 cL_law 8 RL mn tb J X) (CL : CxL G l room_1 cL_law 8 RL mn tb b0 L xs J X) {S : ST} {A : AB} {k n : Nat} {i : Int} (hI : INV S A) (hi : 0 ≤ i ∧ i + 6 ≤ L) (hL : L ≤ 3072) (hk : k + 70 ≤ 601024) (hn : n + 300 ≤ 7293034) (next : ∀ (S' : ST) (A' : AB) (k' n' : Nat), INV S' A' → k' ≤ k + 70 → n' ≤ n + 300 → J 2009 [some (.ref b0), some (vR A' 6 0), some (vR A' 7 0), some (vR A' 40 0), some (vI i), none, none, none] [] S' A' k' n') : J 1607 [some (.ref b0), some (vR A 6 0), some (vR A 7 0), some (vR A 40 0), some (vI i), none, none, none] [] S A k n := by
  by_cases hy9 : sc xs (i + 3) = 0
  · refine r_aload_n C dL_law_1607 lg_1 ?_
    refine r_aloadq_n C dL_law_1608 lg_0 ?_
    refine r_iload C dL_law_1609 lg_4 ?_
    refine r_iconst C dL_law_1611 ?_
    refine r_iadd C dL_law_1612 ?_
    refine r_sld CL dL_law_1613 (by omega) (by omega) (by omega) ?_
    refine r_aloadq_n C dL_law_1614 lg_0 ?_
    refine r_iload C dL_law_1615 lg_4 ?_
    refine r_iconst C dL_law_1617 ?_
    refine r_iadd C dL_law_1618 ?_
    refine r_sld CL dL_law_1619 (by omega) (by omega) (by omega) ?_
    refine r_aloadq_n C dL_law_1620 lg_0 ?_
    refine r_iload C dL_law_1621 lg_4 ?_
    refine r_iconst C dL_law_1623 ?_
    refine r_iadd C dL_law_1624 ?_
    refine r_sld CL dL_law_1625 (by omega) (by omega) (by omega) ?_
    refine r_ifeq C (tgt := 1633) dL_law_1626 (by decide) (sc_r xs _) (fun c1626 => ?_) (fun c1626 => ?_)
    · refine r_iconst C dL_law_1633 ?_
      refine r_aload_n C dL_law_1634 lg_3 ?_
      refine r_W5I C (cL_expensed_ hfl (R := rwM S) hI.2.1 hI.1.2.1.1 hI.1.2.1.2.1 hI.1.2.2.1 (sc_r xs _) (sc_r xs _) (by omega) hI.2.2.2.2.2) dL_law_1635 lk_L_177 ⟨Nat.le_of_ble_eq_true rfl, Nat.le_of_ble_eq_true rfl⟩ (catLe (Nat.le_of_ble_eq_true rfl)) 2 12 ⟨rfl, rfl⟩ (show _ ≤ 601024 by omega) (show _ ≤ 7293034 by omega) (fun _ _ _ h9 => h9.elim) (fun z1635 S1635 A1635 i1635 p1635 => ?_)
      obtain ⟨rfl, hF, hW⟩ := p1635
      have hM := (inv_fr hI hF).1
      obtain ⟨m1, m2, m3, m4, m5, m6⟩ := mv_pre hM
      refine r_istore C dL_law_1638 (ls1_5 rfl rfl) ?_
      refine r_aload_n C dL_law_1640 lg_2 ?_
      refine r_aloadq_n C dL_law_1641 lg_0 ?_
      refine r_iload C dL_law_1642 lg_4 ?_
      refine r_iconst C dL_law_1644 ?_
      refine r_iadd C dL_law_1645 ?_
      refine r_sld CL dL_law_1646 (by omega) (by omega) (by omega) ?_
      refine r_aloadq_n C dL_law_1647 lg_0 ?_
      refine r_iload C dL_law_1648 lg_4 ?_
      refine r_iconst C dL_law_1650 ?_
      refine r_iadd C dL_law_1651 ?_
      refine r_sld CL dL_law_1652 (by omega) (by omega) (by omega) ?_
      refine r_aloadq_n C dL_law_1653 lg_0 ?_
      refine r_iload C dL_law_1654 lg_4 ?_
      refine r_iconst C dL_law_1656 ?_
      refine r_iadd C dL_law_1657 ?_
      refine r_sld CL dL_law_1658 (by omega) (by omega) (by omega) ?_
      refine r_ifeq C (tgt := 1666) dL_law_1659 (by decide) (sc_r xs _) (fun c1659 => ?_) (fun c1659 => ?_)
      · refine r_iconst C dL_law_1666 ?_
        refine q_V3J C (cM_expensed hfl hM.1 hM.2.1.1 (sc_r xs _) (sc_r xs _) hM.2.2.1 (by omega)) dL_law_1667 lk_L_179 hM.1.1 ⟨Nat.le_of_ble_eq_true rfl, Nat.le_of_ble_eq_true rfl⟩ (catLe (Nat.le_of_ble_eq_true rfl)) ⟨rfl, rfl⟩ rfl (show _ ≤ 601024 by omega) (show _ ≤ 7293034 by omega) (fun z1667 S1667 A1667 i1667 p1667 => ?_)
        obtain ⟨rfl, hz⟩ := p1667
        obtain ⟨⟨w1, w2⟩, hI2⟩ := u_expensed hI hF hW hz
        refine r_lstore C dL_law_1670 (ls2_6 rfl rfl) ?_
        refine r_aload_n C dL_law_1672 lg_2 ?_
        refine q_V0I C (cM_thrown hfl hI2.1.1) dL_law_1673 lk_L_107 hI2.1.1.1 ⟨Nat.le_of_ble_eq_true rfl, Nat.le_of_ble_eq_true rfl⟩ (catLe (Nat.le_of_ble_eq_true rfl)) ⟨rfl, rfl⟩ rfl (show _ ≤ 601024 by omega) (show _ ≤ 7293034 by omega) (fun z1673 S1673 A1673 i1673 p1673 => ?_)
        obtain ⟨rfl, rfl, rfl⟩ := p1673
        refine r_iload C dL_law_1676 lg_5 ?_
        refine r_iceq C (tgt := 1683) dL_law_1678 (by decide) (by omega) (by omega) (fun c1678 => ?_) (fun c1678 => ?_)
        · refine r_iload C dL_law_1683 lg_5 ?_
          refine r_ifne C (tgt := 1699) dL_law_1685 (by decide) (by omega) (fun c1685 => ?_) (fun c1685 => ?_)
          · refine r_goto C (tgt := 2009) dL_law_1699 (by decide) ?_
            refine r_le C (lle_k (lle_k (lle_k (lle_k (lle_k (lle_f (lle_f (lle_k lle_0)))))))) ?_
            exact next _ _ _ _ hI2 (by omega) (by omega)
          · have w3 := w2 (by omega)
            refine r_aload_n C dL_law_1688 lg_3 ?_
            refine r_iconst C dL_law_1689 ?_
            refine r_lald C (N := 1) 1280 dL_law_1690 (by decide) rfl rfl hI2.2.2.2.2.2 (by omega) (by omega) (by omega) (fun g1690 => ?_)
            refine r_lload C dL_law_1691 lg_6 ?_
            refine r_lceq C (tgt := 1699) dL_law_1693 dL_law_1694 (by decide) (by omega) (by omega) (fun c1693 => ?_) (fun c1693 => ?_)
            · refine r_goto C (tgt := 2009) dL_law_1699 (by decide) ?_
              refine r_le C (lle_k (lle_k (lle_k (lle_k (lle_k (lle_f (lle_f (lle_k lle_0)))))))) ?_
              exact next _ _ _ _ hI2 (by omega) (by omega)
            · exfalso; omega
        · exfalso; omega
      · exfalso; omega
    · exfalso; omega
  · refine r_aload_n C dL_law_1607 lg_1 ?_
    refine r_aloadq_n C dL_law_1608 lg_0 ?_
    refine r_iload C dL_law_1609 lg_4 ?_
    refine r_iconst C dL_law_1611 ?_
    refine r_iadd C dL_law_1612 ?_
    refine r_sld CL dL_law_1613 (by omega) (by omega) (by omega) ?_
    refine r_aloadq_n C dL_law_1614 lg_0 ?_
    refine r_iload C dL_law_1615 lg_4 ?_
    refine r_iconst C dL_law_1617 ?_
    refine r_iadd C dL_law_1618 ?_
    refine r_sld CL dL_law_1619 (by omega) (by omega) (by omega) ?_
    refine r_aloadq_n C dL_law_1620 lg_0 ?_
    refine r_iload C dL_law_1621 lg_4 ?_
    refine r_iconst C dL_law_1623 ?_
    refine r_iadd C dL_law_1624 ?_
    refine r_sld CL dL_law_1625 (by omega) (by omega) (by omega) ?_
    refine r_ifeq C (tgt := 1633) dL_law_1626 (by decide) (sc_r xs _) (fun c1626 => ?_) (fun c1626 => ?_)
    · exfalso; omega
    · refine r_iconst C dL_law_1629 ?_
      refine r_goto C (tgt := 1634) dL_law_1630 (by decide) ?_
      refine r_aload_n C dL_law_1634 lg_3 ?_
      refine r_W5I C (cL_expensed_ hfl (R := rwM S) hI.2.1 hI.1.2.1.1 hI.1.2.1.2.1 hI.1.2.2.1 (sc_r xs _) (sc_r xs _) (by omega) hI.2.2.2.2.2) dL_law_1635 lk_L_177 ⟨Nat.le_of_ble_eq_true rfl, Nat.le_of_ble_eq_true rfl⟩ (catLe (Nat.le_of_ble_eq_true rfl)) 2 12 ⟨rfl, rfl⟩ (show _ ≤ 601024 by omega) (show _ ≤ 7293034 by omega) (fun _ _ _ h9 => h9.elim) (fun z1635 S1635 A1635 i1635 p1635 => ?_)
      obtain ⟨rfl, hF, hW⟩ := p1635
      have hM := (inv_fr hI hF).1
      obtain ⟨m1, m2, m3, m4, m5, m6⟩ := mv_pre hM
      refine r_istore C dL_law_1638 (ls1_5 rfl rfl) ?_
      refine r_aload_n C dL_law_1640 lg_2 ?_
      refine r_aloadq_n C dL_law_1641 lg_0 ?_
      refine r_iload C dL_law_1642 lg_4 ?_
      refine r_iconst C dL_law_1644 ?_
      refine r_iadd C dL_law_1645 ?_
      refine r_sld CL dL_law_1646 (by omega) (by omega) (by omega) ?_
      refine r_aloadq_n C dL_law_1647 lg_0 ?_
      refine r_iload C dL_law_1648 lg_4 ?_
      refine r_iconst C dL_law_1650 ?_
      refine r_iadd C dL_law_1651 ?_
      refine r_sld CL dL_law_1652 (by omega) (by omega) (by omega) ?_
      refine r_aloadq_n C dL_law_1653 lg_0 ?_
      refine r_iload C dL_law_1654 lg_4 ?_
      refine r_iconst C dL_law_1656 ?_
      refine r_iadd C dL_law_1657 ?_
      refine r_sld CL dL_law_1658 (by omega) (by omega) (by omega) ?_
      refine r_ifeq C (tgt := 1666) dL_law_1659 (by decide) (sc_r xs _) (fun c1659 => ?_) (fun c1659 => ?_)
      · exfalso; omega
      · refine r_iconst C dL_law_1662 ?_
        refine r_goto C (tgt := 1667) dL_law_1663 (by decide) ?_
        refine q_V3J C (cM_expensed hfl hM.1 hM.2.1.1 (sc_r xs _) (sc_r xs _) hM.2.2.1 (by omega)) dL_law_1667 lk_L_179 hM.1.1 ⟨Nat.le_of_ble_eq_true rfl, Nat.le_of_ble_eq_true rfl⟩ (catLe (Nat.le_of_ble_eq_true rfl)) ⟨rfl, rfl⟩ rfl (show _ ≤ 601024 by omega) (show _ ≤ 7293034 by omega) (fun z1667 S1667 A1667 i1667 p1667 => ?_)
        obtain ⟨rfl, hz⟩ := p1667
        obtain ⟨⟨w1, w2⟩, hI2⟩ := u_expensed hI hF hW hz
        refine r_lstore C dL_law_1670 (ls2_6 rfl rfl) ?_
        refine r_aload_n C dL_law_1672 lg_2 ?_
        refine q_V0I C (cM_thrown hfl hI2.1.1) dL_law_1673 lk_L_107 hI2.1.1.1 ⟨Nat.le_of_ble_eq_true rfl, Nat.le_of_ble_eq_true rfl⟩ (catLe (Nat.le_of_ble_eq_true rfl)) ⟨rfl, rfl⟩ rfl (show _ ≤ 601024 by omega) (show _ ≤ 7293034 by omega) (fun z1673 S1673 A1673 i1673 p1673 => ?_)
        obtain ⟨rfl, rfl, rfl⟩ := p1673
        refine r_iload C dL_law_1676 lg_5 ?_
        refine r_iceq C (tgt := 1683) dL_law_1678 (by decide) (by omega) (by omega) (fun c1678 => ?_) (fun c1678 => ?_)
        · refine r_iload C dL_law_1683 lg_5 ?_
          refine r_ifne C (tgt := 1699) dL_law_1685 (by decide) (by omega) (fun c1685 => ?_) (fun c1685 => ?_)
          · refine r_goto C (tgt := 2009) dL_law_1699 (by decide) ?_
            refine r_le C (lle_k (lle_k (lle_k (lle_k (lle_k (lle_f (lle_f (lle_k lle_0)))))))) ?_
            exact next _ _ _ _ hI2 (by omega) (by omega)
          · have w3 := w2 (by omega)
            refine r_aload_n C dL_law_1688 lg_3 ?_
            refine r_iconst C dL_law_1689 ?_
            refine r_lald C (N := 1) 1280 dL_law_1690 (by decide) rfl rfl hI2.2.2.2.2.2 (by omega) (by omega) (by omega) (fun g1690 => ?_)
            refine r_lload C dL_law_1691 lg_6 ?_
            refine r_lceq C (tgt := 1699) dL_law_1693 dL_law_1694 (by decide) (by omega) (by omega) (fun c1693 => ?_) (fun c1693 => ?_)
            · refine r_goto C (tgt := 2009) dL_law_1699 (by decide) ?_
              refine r_le C (lle_k (lle_k (lle_k (lle_k (lle_k (lle_f (lle_f (lle_k lle_0)))))))) ?_
              exact next _ _ _ _ hI2 (by omega) (by omega)
            · exfalso; omega
        · exfalso; omega
set_option maxRecDepth 20000 in
theorem lw_c21 {G : GT} {l : Launch} (hfl : l.stackTraces = false) {b0 L : Nat} {xs : Nat → Int32} {mn : String} {tb : List ExceptionTableEntry} {J : JT} {X : XT} (C : Cx G l room_1 cL_law 8 RL mn tb J X) (CL : CxL G l room_1 cL_law 8 RL mn tb b0 L xs J X) {S : ST} {A : AB} {k n : Nat} {i : Int} (hI : INV S A) (hi : 0 ≤ i ∧ i + 6 ≤ L) (hL : L ≤ 3072) (hk : k + 70 ≤ 601024) (hn : n + 300 ≤ 7293034) (next : ∀ (S' : ST) (A' : AB) (k' n' : Nat), INV S' A' → k' ≤ k + 70 → n' ≤ n + 300 → J 2009 [some (.ref b0), some (vR A' 6 0), some (vR A' 7 0), some (vR A' 40 0), some (vI i), none, none, none] [] S' A' k' n') : J 1702 [some (.ref b0), some (vR A 6 0), some (vR A 7 0), some (vR A 40 0), some (vI i), none, none, none] [] S A k n := by
  refine r_aload_n C dL_law_1702 lg_1 ?_
  refine r_aloadq_n C dL_law_1703 lg_0 ?_
  refine r_iload C dL_law_1704 lg_4 ?_
  refine r_iconst C dL_law_1706 ?_
  refine r_iadd C dL_law_1707 ?_
  refine r_sld CL dL_law_1708 (by omega) (by omega) (by omega) ?_
  refine r_aloadq_n C dL_law_1709 lg_0 ?_
  refine r_iload C dL_law_1710 lg_4 ?_
  refine r_iconst C dL_law_1712 ?_
  refine r_iadd C dL_law_1713 ?_
  refine r_sld CL dL_law_1714 (by omega) (by omega) (by omega) ?_
  refine r_aload_n C dL_law_1715 lg_3 ?_
  refine r_W4I C (cL_layers_ hfl (R := rwM S) hI.2.1 hI.1.2.1.1 hI.1.2.1.2.1 hI.1.2.2.1 (sc_r xs _) (sc_r xs _) hI.2.2.2.2.2) dL_law_1716 lk_L_180 ⟨Nat.le_of_ble_eq_true rfl, Nat.le_of_ble_eq_true rfl⟩ (catLe (Nat.le_of_ble_eq_true rfl)) 2 12 ⟨rfl, rfl⟩ (show _ ≤ 601024 by omega) (show _ ≤ 7293034 by omega) (fun _ _ _ h9 => h9.elim) (fun z1716 S1716 A1716 i1716 p1716 => ?_)
  obtain ⟨rfl, hF, hW⟩ := p1716
  have hM := (inv_fr hI hF).1
  obtain ⟨m1, m2, m3, m4, m5, m6⟩ := mv_pre hM
  refine r_istore C dL_law_1719 (ls1_5 rfl rfl) ?_
  refine r_aload_n C dL_law_1721 lg_2 ?_
  refine r_aloadq_n C dL_law_1722 lg_0 ?_
  refine r_iload C dL_law_1723 lg_4 ?_
  refine r_iconst C dL_law_1725 ?_
  refine r_iadd C dL_law_1726 ?_
  refine r_sld CL dL_law_1727 (by omega) (by omega) (by omega) ?_
  refine r_aloadq_n C dL_law_1728 lg_0 ?_
  refine r_iload C dL_law_1729 lg_4 ?_
  refine r_iconst C dL_law_1731 ?_
  refine r_iadd C dL_law_1732 ?_
  refine r_sld CL dL_law_1733 (by omega) (by omega) (by omega) ?_
  refine q_V2I C (cM_layers hfl hM.1 hM.2.1.1 (sc_r xs _) (sc_r xs _) hM.2.2.1) dL_law_1734 lk_L_182 hM.1.1 ⟨Nat.le_of_ble_eq_true rfl, Nat.le_of_ble_eq_true rfl⟩ (catLe (Nat.le_of_ble_eq_true rfl)) ⟨rfl, rfl⟩ rfl (show _ ≤ 601024 by omega) (show _ ≤ 7293034 by omega) (fun z1734 S1734 A1734 i1734 p1734 => ?_)
  obtain ⟨rfl, hz⟩ := p1734
  obtain ⟨⟨w1, w2⟩, hI2⟩ := u_layers hI hF hW hz
  refine r_istore C dL_law_1737 (ls1_6 rfl rfl) ?_
  refine r_aload_n C dL_law_1739 lg_2 ?_
  refine q_V0I C (cM_thrown hfl hI2.1.1) dL_law_1740 lk_L_107 hI2.1.1.1 ⟨Nat.le_of_ble_eq_true rfl, Nat.le_of_ble_eq_true rfl⟩ (catLe (Nat.le_of_ble_eq_true rfl)) ⟨rfl, rfl⟩ rfl (show _ ≤ 601024 by omega) (show _ ≤ 7293034 by omega) (fun z1740 S1740 A1740 i1740 p1740 => ?_)
  obtain ⟨rfl, rfl, rfl⟩ := p1740
  refine r_iload C dL_law_1743 lg_5 ?_
  refine r_iceq C (tgt := 1750) dL_law_1745 (by decide) (by omega) (by omega) (fun c1745 => ?_) (fun c1745 => ?_)
  · refine r_iload C dL_law_1750 lg_5 ?_
    refine r_ifne C (tgt := 1767) dL_law_1752 (by decide) (by omega) (fun c1752 => ?_) (fun c1752 => ?_)
    · refine r_goto C (tgt := 2009) dL_law_1767 (by decide) ?_
      refine r_le C (lle_k (lle_k (lle_k (lle_k (lle_k (lle_f (lle_f (lle_k lle_0)))))))) ?_
      exact next _ _ _ _ hI2 (by omega) (by omega)
    · have w3 := w2 (by omega)
      refine r_aload_n C dL_law_1755 lg_3 ?_
      refine r_iconst C dL_law_1756 ?_
      refine r_lald C (N := 1) 1280 dL_law_1757 (by decide) rfl rfl hI2.2.2.2.2.2 (by omega) (by omega) (by omega) (fun g1757 => ?_)
      refine r_iload C dL_law_1758 lg_6 ?_
      refine r_i2l C dL_law_1760 (by omega) ?_
      refine r_lceq C (tgt := 1767) dL_law_1761 dL_law_1762 (by decide) (by omega) (by omega) (fun c1761 => ?_) (fun c1761 => ?_)
      · refine r_goto C (tgt := 2009) dL_law_1767 (by decide) ?_
        refine r_le C (lle_k (lle_k (lle_k (lle_k (lle_k (lle_f (lle_f (lle_k lle_0)))))))) ?_
        exact next _ _ _ _ hI2 (by omega) (by omega)
      · exfalso; omega
  · exfalso; omega
set_option maxRecDepth 20000 in
theorem lw_c22 {G : GT} {l : Launch} (hfl : l.stackTraces = false) {b0 L : Nat} {xs : Nat → Int32} {mn : String} {tb : List ExceptionTableEntry} {J : JT} {X : XT} (C : Cx G l room_1 cL_law 8 RL mn tb J X) (CL : CxL G l room_1 cL_law 8 RL mn tb b0 L xs J X) {S : ST} {A : AB} {k n : Nat} {i : Int} (hI : INV S A) (hi : 0 ≤ i ∧ i + 6 ≤ L) (hL : L ≤ 3072) (hk : k + 70 ≤ 601024) (hn : n + 300 ≤ 7293034) (next : ∀ (S' : ST) (A' : AB) (k' n' : Nat), INV S' A' → k' ≤ k + 70 → n' ≤ n + 300 → J 2009 [some (.ref b0), some (vR A' 6 0), some (vR A' 7 0), some (vR A' 40 0), some (vI i), none, none, none] [] S' A' k' n') : J 1770 [some (.ref b0), some (vR A 6 0), some (vR A 7 0), some (vR A 40 0), some (vI i), none, none, none] [] S A k n := by
  refine r_aload_n C dL_law_1770 lg_1 ?_
  refine r_aloadq_n C dL_law_1771 lg_0 ?_
  refine r_iload C dL_law_1772 lg_4 ?_
  refine r_iconst C dL_law_1774 ?_
  refine r_iadd C dL_law_1775 ?_
  refine r_sld CL dL_law_1776 (by omega) (by omega) (by omega) ?_
  refine r_aloadq_n C dL_law_1777 lg_0 ?_
  refine r_iload C dL_law_1778 lg_4 ?_
  refine r_iconst C dL_law_1780 ?_
  refine r_iadd C dL_law_1781 ?_
  refine r_sld CL dL_law_1782 (by omega) (by omega) (by omega) ?_
  refine r_aloadq_n C dL_law_1783 lg_0 ?_
  refine r_iload C dL_law_1784 lg_4 ?_
  refine r_iconst C dL_law_1786 ?_
  refine r_iadd C dL_law_1787 ?_
  refine r_sld CL dL_law_1788 (by omega) (by omega) (by omega) ?_
  refine r_aload_n C dL_law_1789 lg_3 ?_
  refine r_W5I C (cL_layerQuantity_ hfl (R := rwM S) hI.2.1 hI.1.2.1.1 hI.1.2.1.2.1 hI.1.2.2.1 (sc_r xs _) (sc_r xs _) (sc_r xs _) hI.2.2.2.2.2) dL_law_1790 lk_L_183 ⟨Nat.le_of_ble_eq_true rfl, Nat.le_of_ble_eq_true rfl⟩ (catLe (Nat.le_of_ble_eq_true rfl)) 3 18 ⟨rfl, rfl⟩ (show _ ≤ 601024 by omega) (show _ ≤ 7293034 by omega) (fun _ _ _ h9 => h9.elim) (fun z1790 S1790 A1790 i1790 p1790 => ?_)
  obtain ⟨rfl, hF, hW⟩ := p1790
  have hM := (inv_fr hI hF).1
  obtain ⟨m1, m2, m3, m4, m5, m6⟩ := mv_pre hM
  refine r_istore C dL_law_1793 (ls1_5 rfl rfl) ?_
  refine r_aload_n C dL_law_1795 lg_2 ?_
  refine r_aloadq_n C dL_law_1796 lg_0 ?_
  refine r_iload C dL_law_1797 lg_4 ?_
  refine r_iconst C dL_law_1799 ?_
  refine r_iadd C dL_law_1800 ?_
  refine r_sld CL dL_law_1801 (by omega) (by omega) (by omega) ?_
  refine r_aloadq_n C dL_law_1802 lg_0 ?_
  refine r_iload C dL_law_1803 lg_4 ?_
  refine r_iconst C dL_law_1805 ?_
  refine r_iadd C dL_law_1806 ?_
  refine r_sld CL dL_law_1807 (by omega) (by omega) (by omega) ?_
  refine r_aloadq_n C dL_law_1808 lg_0 ?_
  refine r_iload C dL_law_1809 lg_4 ?_
  refine r_iconst C dL_law_1811 ?_
  refine r_iadd C dL_law_1812 ?_
  refine r_sld CL dL_law_1813 (by omega) (by omega) (by omega) ?_
  refine q_V3I C (cM_layerQuantity hfl hM.1 hM.2.1.1 (sc_r xs _) (sc_r xs _) hM.2.2.1 (sc_r xs _)) dL_law_1814 lk_L_185 hM.1.1 ⟨Nat.le_of_ble_eq_true rfl, Nat.le_of_ble_eq_true rfl⟩ (catLe (Nat.le_of_ble_eq_true rfl)) ⟨rfl, rfl⟩ rfl (show _ ≤ 601024 by omega) (show _ ≤ 7293034 by omega) (fun z1814 S1814 A1814 i1814 p1814 => ?_)
  obtain ⟨rfl, hz⟩ := p1814
  obtain ⟨⟨w1, w2⟩, hI2⟩ := u_asl hI hF hW hz (by rw [wk_fq hF])
  refine r_istore C dL_law_1817 (ls1_6 rfl rfl) ?_
  refine r_aload_n C dL_law_1819 lg_2 ?_
  refine q_V0I C (cM_thrown hfl hI2.1.1) dL_law_1820 lk_L_107 hI2.1.1.1 ⟨Nat.le_of_ble_eq_true rfl, Nat.le_of_ble_eq_true rfl⟩ (catLe (Nat.le_of_ble_eq_true rfl)) ⟨rfl, rfl⟩ rfl (show _ ≤ 601024 by omega) (show _ ≤ 7293034 by omega) (fun z1820 S1820 A1820 i1820 p1820 => ?_)
  obtain ⟨rfl, rfl, rfl⟩ := p1820
  refine r_iload C dL_law_1823 lg_5 ?_
  refine r_iceq C (tgt := 1830) dL_law_1825 (by decide) (by omega) (by omega) (fun c1825 => ?_) (fun c1825 => ?_)
  · refine r_iload C dL_law_1830 lg_5 ?_
    refine r_ifne C (tgt := 1847) dL_law_1832 (by decide) (by omega) (fun c1832 => ?_) (fun c1832 => ?_)
    · refine r_goto C (tgt := 2009) dL_law_1847 (by decide) ?_
      refine r_le C (lle_k (lle_k (lle_k (lle_k (lle_k (lle_f (lle_f (lle_k lle_0)))))))) ?_
      exact next _ _ _ _ hI2 (by omega) (by omega)
    · have w3 := w2 (by omega)
      refine r_aload_n C dL_law_1835 lg_3 ?_
      refine r_iconst C dL_law_1836 ?_
      refine r_lald C (N := 1) 1280 dL_law_1837 (by decide) rfl rfl hI2.2.2.2.2.2 (by omega) (by omega) (by omega) (fun g1837 => ?_)
      refine r_iload C dL_law_1838 lg_6 ?_
      refine r_i2l C dL_law_1840 (by omega) ?_
      refine r_lceq C (tgt := 1847) dL_law_1841 dL_law_1842 (by decide) (by omega) (by omega) (fun c1841 => ?_) (fun c1841 => ?_)
      · refine r_goto C (tgt := 2009) dL_law_1847 (by decide) ?_
        refine r_le C (lle_k (lle_k (lle_k (lle_k (lle_k (lle_f (lle_f (lle_k lle_0)))))))) ?_
        exact next _ _ _ _ hI2 (by omega) (by omega)
      · exfalso; omega
  · exfalso; omega
set_option maxRecDepth 20000 in
theorem lw_c23 {G : GT} {l : Launch} (hfl : l.stackTraces = false) {b0 L : Nat} {xs : Nat → Int32} {mn : String} {tb : List ExceptionTableEntry} {J : JT} {X : XT} (C : Cx G l room_1 cL_law 8 RL mn tb J X) (CL : CxL G l room_1 cL_law 8 RL mn tb b0 L xs J X) {S : ST} {A : AB} {k n : Nat} {i : Int} (hI : INV S A) (hi : 0 ≤ i ∧ i + 6 ≤ L) (hL : L ≤ 3072) (hk : k + 70 ≤ 601024) (hn : n + 300 ≤ 7293034) (next : ∀ (S' : ST) (A' : AB) (k' n' : Nat), INV S' A' → k' ≤ k + 70 → n' ≤ n + 300 → J 2009 [some (.ref b0), some (vR A' 6 0), some (vR A' 7 0), some (vR A' 40 0), some (vI i), none, none, none] [] S' A' k' n') : J 1850 [some (.ref b0), some (vR A 6 0), some (vR A 7 0), some (vR A 40 0), some (vI i), none, none, none] [] S A k n := by
  refine r_aload_n C dL_law_1850 lg_1 ?_
  refine r_aloadq_n C dL_law_1851 lg_0 ?_
  refine r_iload C dL_law_1852 lg_4 ?_
  refine r_iconst C dL_law_1854 ?_
  refine r_iadd C dL_law_1855 ?_
  refine r_sld CL dL_law_1856 (by omega) (by omega) (by omega) ?_
  refine r_aloadq_n C dL_law_1857 lg_0 ?_
  refine r_iload C dL_law_1858 lg_4 ?_
  refine r_iconst C dL_law_1860 ?_
  refine r_iadd C dL_law_1861 ?_
  refine r_sld CL dL_law_1862 (by omega) (by omega) (by omega) ?_
  refine r_aloadq_n C dL_law_1863 lg_0 ?_
  refine r_iload C dL_law_1864 lg_4 ?_
  refine r_iconst C dL_law_1866 ?_
  refine r_iadd C dL_law_1867 ?_
  refine r_sld CL dL_law_1868 (by omega) (by omega) (by omega) ?_
  refine r_aload_n C dL_law_1869 lg_3 ?_
  refine r_W5I C (cL_layerCost_ hfl (R := rwM S) hI.2.1 hI.1.2.1.1 hI.1.2.1.2.1 hI.1.2.2.1 (sc_r xs _) (sc_r xs _) (sc_r xs _) hI.2.2.2.2.2) dL_law_1870 lk_L_186 ⟨Nat.le_of_ble_eq_true rfl, Nat.le_of_ble_eq_true rfl⟩ (catLe (Nat.le_of_ble_eq_true rfl)) 3 18 ⟨rfl, rfl⟩ (show _ ≤ 601024 by omega) (show _ ≤ 7293034 by omega) (fun _ _ _ h9 => h9.elim) (fun z1870 S1870 A1870 i1870 p1870 => ?_)
  obtain ⟨rfl, hF, hW⟩ := p1870
  have hM := (inv_fr hI hF).1
  obtain ⟨m1, m2, m3, m4, m5, m6⟩ := mv_pre hM
  refine r_istore C dL_law_1873 (ls1_5 rfl rfl) ?_
  refine r_aload_n C dL_law_1875 lg_2 ?_
  refine r_aloadq_n C dL_law_1876 lg_0 ?_
  refine r_iload C dL_law_1877 lg_4 ?_
  refine r_iconst C dL_law_1879 ?_
  refine r_iadd C dL_law_1880 ?_
  refine r_sld CL dL_law_1881 (by omega) (by omega) (by omega) ?_
  refine r_aloadq_n C dL_law_1882 lg_0 ?_
  refine r_iload C dL_law_1883 lg_4 ?_
  refine r_iconst C dL_law_1885 ?_
  refine r_iadd C dL_law_1886 ?_
  refine r_sld CL dL_law_1887 (by omega) (by omega) (by omega) ?_
  refine r_aloadq_n C dL_law_1888 lg_0 ?_
  refine r_iload C dL_law_1889 lg_4 ?_
  refine r_iconst C dL_law_1891 ?_
  refine r_iadd C dL_law_1892 ?_
  refine r_sld CL dL_law_1893 (by omega) (by omega) (by omega) ?_
  refine q_V3J C (cM_layerCost hfl hM.1 hM.2.1.1 (sc_r xs _) (sc_r xs _) hM.2.2.1 (sc_r xs _)) dL_law_1894 lk_L_188 hM.1.1 ⟨Nat.le_of_ble_eq_true rfl, Nat.le_of_ble_eq_true rfl⟩ (catLe (Nat.le_of_ble_eq_true rfl)) ⟨rfl, rfl⟩ rfl (show _ ≤ 601024 by omega) (show _ ≤ 7293034 by omega) (fun z1894 S1894 A1894 i1894 p1894 => ?_)
  obtain ⟨rfl, hz⟩ := p1894
  obtain ⟨⟨w1, w2⟩, hI2⟩ := u_asl hI hF hW hz (by rw [wk_fq hF])
  refine r_lstore C dL_law_1897 (ls2_6 rfl rfl) ?_
  refine r_aload_n C dL_law_1899 lg_2 ?_
  refine q_V0I C (cM_thrown hfl hI2.1.1) dL_law_1900 lk_L_107 hI2.1.1.1 ⟨Nat.le_of_ble_eq_true rfl, Nat.le_of_ble_eq_true rfl⟩ (catLe (Nat.le_of_ble_eq_true rfl)) ⟨rfl, rfl⟩ rfl (show _ ≤ 601024 by omega) (show _ ≤ 7293034 by omega) (fun z1900 S1900 A1900 i1900 p1900 => ?_)
  obtain ⟨rfl, rfl, rfl⟩ := p1900
  refine r_iload C dL_law_1903 lg_5 ?_
  refine r_iceq C (tgt := 1910) dL_law_1905 (by decide) (by omega) (by omega) (fun c1905 => ?_) (fun c1905 => ?_)
  · refine r_iload C dL_law_1910 lg_5 ?_
    refine r_ifne C (tgt := 1926) dL_law_1912 (by decide) (by omega) (fun c1912 => ?_) (fun c1912 => ?_)
    · refine r_goto C (tgt := 2009) dL_law_1926 (by decide) ?_
      refine r_le C (lle_k (lle_k (lle_k (lle_k (lle_k (lle_f (lle_f (lle_k lle_0)))))))) ?_
      exact next _ _ _ _ hI2 (by omega) (by omega)
    · have w3 := w2 (by omega)
      refine r_aload_n C dL_law_1915 lg_3 ?_
      refine r_iconst C dL_law_1916 ?_
      refine r_lald C (N := 1) 1280 dL_law_1917 (by decide) rfl rfl hI2.2.2.2.2.2 (by omega) (by omega) (by omega) (fun g1917 => ?_)
      refine r_lload C dL_law_1918 lg_6 ?_
      refine r_lceq C (tgt := 1926) dL_law_1920 dL_law_1921 (by decide) (by omega) (by omega) (fun c1920 => ?_) (fun c1920 => ?_)
      · refine r_goto C (tgt := 2009) dL_law_1926 (by decide) ?_
        refine r_le C (lle_k (lle_k (lle_k (lle_k (lle_k (lle_f (lle_f (lle_k lle_0)))))))) ?_
        exact next _ _ _ _ hI2 (by omega) (by omega)
      · exfalso; omega
  · exfalso; omega
set_option maxRecDepth 20000 in
theorem lw_c24 {G : GT} {l : Launch} (hfl : l.stackTraces = false) {b0 L : Nat} {xs : Nat → Int32} {mn : String} {tb : List ExceptionTableEntry} {J : JT} {X : XT} (C : Cx G l room_1 cL_law 8 RL mn tb J X) (CL : CxL G l room_1 cL_law 8 RL mn tb b0 L xs J X) {S : ST} {A : AB} {k n : Nat} {i : Int} (hI : INV S A) (hi : 0 ≤ i ∧ i + 6 ≤ L) (hL : L ≤ 3072) (hk : k + 70 ≤ 601024) (hn : n + 300 ≤ 7293034) (next : ∀ (S' : ST) (A' : AB) (k' n' : Nat), INV S' A' → k' ≤ k + 70 → n' ≤ n + 300 → J 2009 [some (.ref b0), some (vR A' 6 0), some (vR A' 7 0), some (vR A' 40 0), some (vI i), none, none, none] [] S' A' k' n') : J 1929 [some (.ref b0), some (vR A 6 0), some (vR A 7 0), some (vR A 40 0), some (vI i), none, none, none] [] S A k n := by
  refine r_aload_n C dL_law_1929 lg_1 ?_
  refine r_aloadq_n C dL_law_1930 lg_0 ?_
  refine r_iload C dL_law_1931 lg_4 ?_
  refine r_iconst C dL_law_1933 ?_
  refine r_iadd C dL_law_1934 ?_
  refine r_sld CL dL_law_1935 (by omega) (by omega) (by omega) ?_
  refine r_aloadq_n C dL_law_1936 lg_0 ?_
  refine r_iload C dL_law_1937 lg_4 ?_
  refine r_iconst C dL_law_1939 ?_
  refine r_iadd C dL_law_1940 ?_
  refine r_sld CL dL_law_1941 (by omega) (by omega) (by omega) ?_
  refine r_aloadq_n C dL_law_1942 lg_0 ?_
  refine r_iload C dL_law_1943 lg_4 ?_
  refine r_iconst C dL_law_1945 ?_
  refine r_iadd C dL_law_1946 ?_
  refine r_sld CL dL_law_1947 (by omega) (by omega) (by omega) ?_
  refine r_aload_n C dL_law_1948 lg_3 ?_
  refine r_W5I C (cL_layerOrigin_ hfl (R := rwM S) hI.2.1 hI.1.2.1.1 hI.1.2.1.2.1 hI.1.2.2.1 (sc_r xs _) (sc_r xs _) (sc_r xs _) hI.2.2.2.2.2) dL_law_1949 lk_L_189 ⟨Nat.le_of_ble_eq_true rfl, Nat.le_of_ble_eq_true rfl⟩ (catLe (Nat.le_of_ble_eq_true rfl)) 3 18 ⟨rfl, rfl⟩ (show _ ≤ 601024 by omega) (show _ ≤ 7293034 by omega) (fun _ _ _ h9 => h9.elim) (fun z1949 S1949 A1949 i1949 p1949 => ?_)
  obtain ⟨rfl, hF, hW⟩ := p1949
  have hM := (inv_fr hI hF).1
  obtain ⟨m1, m2, m3, m4, m5, m6⟩ := mv_pre hM
  refine r_istore C dL_law_1952 (ls1_5 rfl rfl) ?_
  refine r_aload_n C dL_law_1954 lg_2 ?_
  refine r_aloadq_n C dL_law_1955 lg_0 ?_
  refine r_iload C dL_law_1956 lg_4 ?_
  refine r_iconst C dL_law_1958 ?_
  refine r_iadd C dL_law_1959 ?_
  refine r_sld CL dL_law_1960 (by omega) (by omega) (by omega) ?_
  refine r_aloadq_n C dL_law_1961 lg_0 ?_
  refine r_iload C dL_law_1962 lg_4 ?_
  refine r_iconst C dL_law_1964 ?_
  refine r_iadd C dL_law_1965 ?_
  refine r_sld CL dL_law_1966 (by omega) (by omega) (by omega) ?_
  refine r_aloadq_n C dL_law_1967 lg_0 ?_
  refine r_iload C dL_law_1968 lg_4 ?_
  refine r_iconst C dL_law_1970 ?_
  refine r_iadd C dL_law_1971 ?_
  refine r_sld CL dL_law_1972 (by omega) (by omega) (by omega) ?_
  refine q_V3I C (cM_layerOrigin hfl hM.1 hM.2.1.1 (sc_r xs _) (sc_r xs _) hM.2.2.1 (sc_r xs _)) dL_law_1973 lk_L_191 hM.1.1 ⟨Nat.le_of_ble_eq_true rfl, Nat.le_of_ble_eq_true rfl⟩ (catLe (Nat.le_of_ble_eq_true rfl)) ⟨rfl, rfl⟩ rfl (show _ ≤ 601024 by omega) (show _ ≤ 7293034 by omega) (fun z1973 S1973 A1973 i1973 p1973 => ?_)
  obtain ⟨rfl, hz⟩ := p1973
  obtain ⟨⟨w1, w2⟩, hI2⟩ := u_asl hI hF hW hz (by rw [wk_fq hF])
  refine r_istore C dL_law_1976 (ls1_6 rfl rfl) ?_
  refine r_aload_n C dL_law_1978 lg_2 ?_
  refine q_V0I C (cM_thrown hfl hI2.1.1) dL_law_1979 lk_L_107 hI2.1.1.1 ⟨Nat.le_of_ble_eq_true rfl, Nat.le_of_ble_eq_true rfl⟩ (catLe (Nat.le_of_ble_eq_true rfl)) ⟨rfl, rfl⟩ rfl (show _ ≤ 601024 by omega) (show _ ≤ 7293034 by omega) (fun z1979 S1979 A1979 i1979 p1979 => ?_)
  obtain ⟨rfl, rfl, rfl⟩ := p1979
  refine r_iload C dL_law_1982 lg_5 ?_
  refine r_iceq C (tgt := 1989) dL_law_1984 (by decide) (by omega) (by omega) (fun c1984 => ?_) (fun c1984 => ?_)
  · refine r_iload C dL_law_1989 lg_5 ?_
    refine r_ifne C (tgt := 2006) dL_law_1991 (by decide) (by omega) (fun c1991 => ?_) (fun c1991 => ?_)
    · refine r_goto C (tgt := 2009) dL_law_2006 (by decide) ?_
      refine r_le C (lle_k (lle_k (lle_k (lle_k (lle_k (lle_f (lle_f (lle_k lle_0)))))))) ?_
      exact next _ _ _ _ hI2 (by omega) (by omega)
    · have w3 := w2 (by omega)
      refine r_aload_n C dL_law_1994 lg_3 ?_
      refine r_iconst C dL_law_1995 ?_
      refine r_lald C (N := 1) 1280 dL_law_1996 (by decide) rfl rfl hI2.2.2.2.2.2 (by omega) (by omega) (by omega) (fun g1996 => ?_)
      refine r_iload C dL_law_1997 lg_6 ?_
      refine r_i2l C dL_law_1999 (by omega) ?_
      refine r_lceq C (tgt := 2006) dL_law_2000 dL_law_2001 (by decide) (by omega) (by omega) (fun c2000 => ?_) (fun c2000 => ?_)
      · refine r_goto C (tgt := 2009) dL_law_2006 (by decide) ?_
        refine r_le C (lle_k (lle_k (lle_k (lle_k (lle_k (lle_f (lle_f (lle_k lle_0)))))))) ?_
        exact next _ _ _ _ hI2 (by omega) (by omega)
      · exfalso; omega
  · exfalso; omega
