/-! the law: an item is posted just as far as it can be -/
set_option maxRecDepth 20000 in
theorem cQ_isPosted {G : GT} {l : Launch} (hfl : l.stackTraces = false) {S : ST} {A : AB} {kd day item q c : Int} {R : RW} (hL : PL R S A) (hkd : kd = 0 ∨ kd = 1 ∨ kd = 2) (hak : akOk item day) (hq : 1 ≤ q ∧ q ≤ 1000) (hc : 0 ≤ c ∧ c ≤ 1000000) : CT G l yL_isPosted cL_isPosted 20 (some .boolean) (rmk 12 9 57 229) S A [vR A 6 0, vR A 40 0, vI kd, vI day, vI item, vI q, vI c] (oZ fun z S' A' => 1 = z ∧ AE A A' ∧ ∃ R' : RW, PL R' S' A') (noX) := by
  refine ct_ofN (own := RL) (mn := "isPosted") rfl rfl (by decide) hfl (lv0 := [some (vR A 6 0), some (vR A 40 0), some (vI kd), some (vI day), some (vI item), some (vI q), some (vI c), none, none, none, none, none, none, none, none, none, none, none, none, none]) (ent_1 (cat_R _ _ _) (ent_1 (cat_R _ _ _) (ent_1 rfl (ent_1 rfl (ent_1 rfl (ent_1 rfl (ent_1 rfl (ent_n (ent_n (ent_n (ent_n (ent_n (ent_n (ent_n (ent_n (ent_n (ent_n (ent_n (ent_n (ent_n ent_0)))))))))))))))))))) rfl ?_
  intro J X C F FX FT FU hW hA
  have hP := hL.1
  have hn := hP.2.1.1
  have hit := hak.1
  have hday := hak.2
  have hp0 := hL.2.2.2.2.2.1
  have hl40 := hL.2.2.2.2.1.1
  have hFc : Fr QF S S := Fr.rf
  have hmn : q ≤ mn 1000 (spR R item day 60) ↔ q ≤ spR R item day 60 := by
    unfold mn
    split <;> omega
  have hV9 := hP.2.2.2 item hit.1 hit.2
  rcases hkd with rfl | rfl | rfl
  · by_cases hok : S 198 0 < day ∧ R.n < 60 ∧ True
    · refine r_aload_n C dL_isPosted_0 lg_0 ?_
      refine q_V0I C (cZ_movements hfl hP) dL_isPosted_1 lk_L_116 hP.1.1.1 ⟨Nat.le_of_ble_eq_true rfl, Nat.le_of_ble_eq_true rfl⟩ (catLe (Nat.le_of_ble_eq_true rfl)) ⟨rfl, rfl⟩ rfl (Nat.le_of_ble_eq_true rfl) (Nat.le_of_ble_eq_true rfl) (fun z1 S1 A1 i1 p1 => ?_)
      obtain ⟨rfl, rfl, rfl⟩ := p1
      refine r_istore C dL_isPosted_4 (ls1_7 rfl rfl) ?_
      refine r_aload_n C dL_isPosted_6 lg_0 ?_
      refine r_iload C dL_isPosted_7 lg_4 ?_
      refine r_iload_n C dL_isPosted_9 lg_3 ?_
      refine q_V2I C (cZ_onHand hfl hP ⟨by omega, by omega⟩) dL_isPosted_10 lk_L_80 hP.1.1.1 ⟨Nat.le_of_ble_eq_true rfl, Nat.le_of_ble_eq_true rfl⟩ (catLe (Nat.le_of_ble_eq_true rfl)) ⟨rfl, rfl⟩ rfl (Nat.le_of_ble_eq_true rfl) (Nat.le_of_ble_eq_true rfl) (fun z10 S10 A10 i10 p10 => ?_)
      obtain ⟨rfl, rfl, rfl⟩ := p10
      refine r_istore C dL_isPosted_13 (ls1_8 rfl rfl) ?_
      refine r_aload_n C dL_isPosted_15 lg_0 ?_
      refine r_iload C dL_isPosted_16 lg_4 ?_
      refine r_sipush C dL_isPosted_18 (by decide) ?_
      refine q_V2I C (cZ_onHand hfl hP ⟨by omega, by omega⟩) dL_isPosted_21 lk_L_80 hP.1.1.1 ⟨Nat.le_of_ble_eq_true rfl, Nat.le_of_ble_eq_true rfl⟩ (catLe (Nat.le_of_ble_eq_true rfl)) ⟨rfl, rfl⟩ rfl (Nat.le_of_ble_eq_true rfl) (Nat.le_of_ble_eq_true rfl) (fun z21 S21 A21 i21 p21 => ?_)
      obtain ⟨rfl, rfl, rfl⟩ := p21
      refine r_istore C dL_isPosted_24 (ls1_9 rfl rfl) ?_
      refine r_aload_n C dL_isPosted_26 lg_0 ?_
      refine r_iload C dL_isPosted_27 lg_4 ?_
      refine r_iload_n C dL_isPosted_29 lg_3 ?_
      refine q_V2I C (cZ_available hfl hP ⟨by omega, by omega⟩) dL_isPosted_30 lk_L_83 hP.1.1.1 ⟨Nat.le_of_ble_eq_true rfl, Nat.le_of_ble_eq_true rfl⟩ (catLe (Nat.le_of_ble_eq_true rfl)) ⟨rfl, rfl⟩ rfl (Nat.le_of_ble_eq_true rfl) (Nat.le_of_ble_eq_true rfl) (fun z30 S30 A30 i30 p30 => ?_)
      obtain ⟨rfl, rfl, rfl⟩ := p30
      refine r_istore C dL_isPosted_33 (ls1_10 rfl rfl) ?_
      refine r_iload_n C dL_isPosted_35 lg_3 ?_
      refine r_ifne C (tgt := 43) dL_isPosted_36 (by decide) (by omega) (fun c36 => ?_) (fun c36 => ?_)
      · refine r_aload_n C dL_isPosted_43 lg_0 ?_
        refine r_iload C dL_isPosted_44 lg_4 ?_
        refine r_iload_n C dL_isPosted_46 lg_3 ?_
        refine r_iconst C dL_isPosted_47 ?_
        refine r_isub C dL_isPosted_48 ?_
        refine q_S3J C (cQ_past hfl hP (by omega) (by omega)) dL_isPosted_49 lk_L_170 ⟨Nat.le_of_ble_eq_true rfl, Nat.le_of_ble_eq_true rfl⟩ (catLe (Nat.le_of_ble_eq_true rfl)) ⟨rfl, rfl⟩ rfl (Nat.le_of_ble_eq_true rfl) (Nat.le_of_ble_eq_true rfl) (fun z49 S49 A49 i49 p49 => ?_)
        obtain ⟨rfl, rfl, hF49⟩ := p49
        have hP := pi_fr hP hF49
        have hFc := hFc.tr hF49
        refine r_lstore C dL_isPosted_52 (ls2_11 rfl rfl) ?_
        refine r_aload_n C dL_isPosted_54 lg_0 ?_
        refine r_iload C dL_isPosted_55 lg_4 ?_
        refine r_iconst C dL_isPosted_57 ?_
        refine r_iadd C dL_isPosted_58 ?_
        refine r_bipush C dL_isPosted_59 (by decide) ?_
        refine r_irem C dL_isPosted_61 (by omega) (by omega) (by omega) (by omega) ?_
        refine r_sipush C dL_isPosted_62 (by decide) ?_
        refine q_S3J C (cQ_sight hfl hP (by omega) (by omega)) dL_isPosted_65 lk_L_128 ⟨Nat.le_of_ble_eq_true rfl, Nat.le_of_ble_eq_true rfl⟩ (catLe (Nat.le_of_ble_eq_true rfl)) ⟨rfl, rfl⟩ rfl (Nat.le_of_ble_eq_true rfl) (Nat.le_of_ble_eq_true rfl) (fun z65 S65 A65 i65 p65 => ?_)
        obtain ⟨rfl, rfl, hF65⟩ := p65
        have hP := pi_fr hP hF65
        have hFc := hFc.tr hF65
        refine r_lstore C dL_isPosted_68 (ls2_13 rfl trivial) ?_
        refine r_iload_n C dL_isPosted_70 lg_3 ?_
        refine r_aload_n C dL_isPosted_71 lg_1 ?_
        refine r_iconst C dL_isPosted_72 ?_
        refine r_iald C (N := 1) 1280 dL_isPosted_73 (by decide) rfl rfl hl40 (by omega) (by omega) (by omega) (fun g73 => ?_)
        rw [hFc 1280 0 (by decide), hp0.1]
        refine r_icle C (tgt := 114) dL_isPosted_74 (by decide) (by omega) (by omega) (fun c74 => ?_) (fun c74 => ?_)
        · exfalso; omega
        · refine r_iload C dL_isPosted_77 lg_7 ?_
          refine r_bipush C dL_isPosted_79 (by decide) ?_
          refine r_icge C (tgt := 114) dL_isPosted_81 (by decide) (by omega) (by omega) (fun c81 => ?_) (fun c81 => ?_)
          · exfalso; omega
          · refine r_iload_n C dL_isPosted_84 lg_2 ?_
            refine r_ifeq C (tgt := 110) dL_isPosted_85 (by decide) (by omega) (fun c85 => ?_) (fun c85 => ?_)
            · refine r_iconst C dL_isPosted_110 ?_
              refine r_goto C (tgt := 115) dL_isPosted_111 (by decide) ?_
              refine r_istore C dL_isPosted_115 (ls1_15 rfl trivial) ?_
              refine r_iload C dL_isPosted_117 lg_15 ?_
              refine r_ifeq C (tgt := 126) dL_isPosted_119 (by decide) (by omega) (fun c119 => ?_) (fun c119 => ?_)
              · exfalso; omega
              · refine r_lconst C dL_isPosted_122 0 rfl ?_
                refine r_goto C (tgt := 130) dL_isPosted_123 (by decide) ?_
                refine r_lstore C dL_isPosted_130 (ls2_16 rfl rfl) ?_
                refine r_iload_n C dL_isPosted_132 lg_2 ?_
                refine r_ifne C (tgt := 150) dL_isPosted_133 (by decide) (by omega) (fun c133 => ?_) (fun c133 => ?_)
                · exfalso; omega
                · refine r_aload_n C dL_isPosted_136 lg_0 ?_
                  refine r_iload_n C dL_isPosted_137 lg_3 ?_
                  refine r_iload C dL_isPosted_138 lg_4 ?_
                  refine r_iload C dL_isPosted_140 lg_5 ?_
                  refine r_iload C dL_isPosted_142 lg_6 ?_
                  refine r_W5I C (cQ_receive hfl hP (by omega) (by omega) (by omega) (by omega)) dL_isPosted_144 lk_L_150 ⟨Nat.le_of_ble_eq_true rfl, Nat.le_of_ble_eq_true rfl⟩ (catLe (Nat.le_of_ble_eq_true rfl)) 8 51 ⟨rfl, rfl⟩ (Nat.le_of_ble_eq_true rfl) (Nat.le_of_ble_eq_true rfl) (fun _ _ _ h9 => h9.elim) (fun z144 S144 A144 i144 p144 => ?_)
                  obtain h144 := p144
                  have h198 := hFc 198 0 (by decide)
                  have h197 := hP.1.2.2.1.1
                  obtain ⟨rfl, hK, hC⟩ := acc7 p144 ⟨hak, hq, hc⟩ ⟨⟨by omega, by omega⟩, trivial⟩
                  obtain ⟨R1, hL1, r1, r2, r3, r4, r5, r6, r7⟩ := post_ok (pl_fr hL hFc) (by omega) (by omega) hak hq hc hok.2.1 (V_rec hn.1 (by omega) hV9) hK hC
                  have hE9 := hC.1
                  have hP := hL1.1
                  rw [← (hE9 6 0 hL.1.1.1.1.2).1, ← (hE9 40 0 hl40.2).1]
                  have hFc : Fr QF S144 S144 := Fr.rf
                  have r5a : haR R1 item day = haR R item day + (q) := r5 day (Int.le_refl _)
                  have r5b : haR R1 item 364 = haR R item 364 + (q) := r5 364 hday.2
                  clear hC hK
                  refine r_goto C (tgt := 178) dL_isPosted_147 (by decide) ?_
                  refine r_istore C dL_isPosted_178 (ls1_18 rfl trivial) ?_
                  refine r_iload C dL_isPosted_180 lg_15 ?_
                  refine r_ifne C (tgt := 208) dL_isPosted_182 (by decide) (by omega) (fun c182 => ?_) (fun c182 => ?_)
                  · refine r_iload_n C dL_isPosted_208 lg_2 ?_
                    refine r_ifne C (tgt := 217) dL_isPosted_209 (by decide) (by omega) (fun c209 => ?_) (fun c209 => ?_)
                    · exfalso; omega
                    · refine r_iload C dL_isPosted_212 lg_5 ?_
                      refine r_goto C (tgt := 229) dL_isPosted_214 (by decide) ?_
                      refine r_istore C dL_isPosted_229 (ls1_19 rfl rfl) ?_
                      refine r_iload C dL_isPosted_231 lg_18 ?_
                      refine r_iload C dL_isPosted_233 lg_7 ?_
                      refine r_icne C (tgt := 353) dL_isPosted_235 (by decide) (by omega) (by omega) (fun c235 => ?_) (fun c235 => ?_)
                      · exfalso; omega
                      · refine r_aload_n C dL_isPosted_238 lg_0 ?_
                        refine q_V0I C (cZ_movements hfl hP) dL_isPosted_239 lk_L_116 hP.1.1.1 ⟨Nat.le_of_ble_eq_true rfl, Nat.le_of_ble_eq_true rfl⟩ (catLe (Nat.le_of_ble_eq_true rfl)) ⟨rfl, rfl⟩ rfl (Nat.le_of_ble_eq_true rfl) (Nat.le_of_ble_eq_true rfl) (fun z239 S239 A239 i239 p239 => ?_)
                        obtain ⟨rfl, rfl, rfl⟩ := p239
                        refine r_iload C dL_isPosted_242 lg_7 ?_
                        refine r_iconst C dL_isPosted_244 ?_
                        refine r_iadd C dL_isPosted_245 ?_
                        refine r_icne C (tgt := 353) dL_isPosted_246 (by decide) (by omega) (by omega) (fun c246 => ?_) (fun c246 => ?_)
                        · exfalso; omega
                        · refine r_aload_n C dL_isPosted_249 lg_0 ?_
                          refine r_iload C dL_isPosted_250 lg_7 ?_
                          refine q_V1I C (cZ_kindOf hfl hP (by omega)) dL_isPosted_252 lk_L_44 hP.1.1.1 ⟨Nat.le_of_ble_eq_true rfl, Nat.le_of_ble_eq_true rfl⟩ (catLe (Nat.le_of_ble_eq_true rfl)) ⟨rfl, rfl⟩ rfl (Nat.le_of_ble_eq_true rfl) (Nat.le_of_ble_eq_true rfl) (fun z252 S252 A252 i252 p252 => ?_)
                          obtain ⟨rfl, rfl, rfl⟩ := p252
                          refine r_iload_n C dL_isPosted_255 lg_2 ?_
                          refine r_icne C (tgt := 353) dL_isPosted_256 (by decide) (by omega) (by omega) (fun c256 => ?_) (fun c256 => ?_)
                          · exfalso; omega
                          · refine r_aload_n C dL_isPosted_259 lg_0 ?_
                            refine r_iload C dL_isPosted_260 lg_7 ?_
                            refine q_V1I C (cZ_dayOf hfl hP (by omega)) dL_isPosted_262 lk_L_47 hP.1.1.1 ⟨Nat.le_of_ble_eq_true rfl, Nat.le_of_ble_eq_true rfl⟩ (catLe (Nat.le_of_ble_eq_true rfl)) ⟨rfl, rfl⟩ rfl (Nat.le_of_ble_eq_true rfl) (Nat.le_of_ble_eq_true rfl) (fun z262 S262 A262 i262 p262 => ?_)
                            obtain ⟨rfl, rfl, rfl⟩ := p262
                            refine r_iload_n C dL_isPosted_265 lg_3 ?_
                            refine r_icne C (tgt := 353) dL_isPosted_266 (by decide) (by omega) (by omega) (fun c266 => ?_) (fun c266 => ?_)
                            · exfalso; omega
                            · refine r_aload_n C dL_isPosted_269 lg_0 ?_
                              refine r_iload C dL_isPosted_270 lg_7 ?_
                              refine q_V1Z C (cZ_isCancelled hfl hP (by omega)) dL_isPosted_272 lk_L_53 hP.1.1.1 ⟨Nat.le_of_ble_eq_true rfl, Nat.le_of_ble_eq_true rfl⟩ (catLe (Nat.le_of_ble_eq_true rfl)) ⟨rfl, rfl⟩ rfl (Nat.le_of_ble_eq_true rfl) (Nat.le_of_ble_eq_true rfl) (fun z272 S272 A272 i272 p272 => ?_)
                              obtain ⟨rfl, rfl, rfl⟩ := p272
                              refine r_ifne C (tgt := 353) dL_isPosted_275 (by decide) (by omega) (fun c275 => ?_) (fun c275 => ?_)
                              · exfalso; omega
                              · refine r_aload_n C dL_isPosted_278 lg_0 ?_
                                refine r_iload C dL_isPosted_279 lg_4 ?_
                                refine r_iload_n C dL_isPosted_281 lg_3 ?_
                                refine q_V2I C (cZ_onHand hfl hP ⟨by omega, by omega⟩) dL_isPosted_282 lk_L_80 hP.1.1.1 ⟨Nat.le_of_ble_eq_true rfl, Nat.le_of_ble_eq_true rfl⟩ (catLe (Nat.le_of_ble_eq_true rfl)) ⟨rfl, rfl⟩ rfl (Nat.le_of_ble_eq_true rfl) (Nat.le_of_ble_eq_true rfl) (fun z282 S282 A282 i282 p282 => ?_)
                                obtain ⟨rfl, rfl, rfl⟩ := p282
                                refine r_iload C dL_isPosted_285 lg_8 ?_
                                refine r_iload C dL_isPosted_287 lg_19 ?_
                                refine r_iadd C dL_isPosted_289 ?_
                                refine r_icne C (tgt := 353) dL_isPosted_290 (by decide) (by omega) (by omega) (fun c290 => ?_) (fun c290 => ?_)
                                · exfalso; omega
                                · refine r_aload_n C dL_isPosted_293 lg_0 ?_
                                  refine r_iload C dL_isPosted_294 lg_4 ?_
                                  refine r_sipush C dL_isPosted_296 (by decide) ?_
                                  refine q_V2I C (cZ_onHand hfl hP ⟨by omega, by omega⟩) dL_isPosted_299 lk_L_80 hP.1.1.1 ⟨Nat.le_of_ble_eq_true rfl, Nat.le_of_ble_eq_true rfl⟩ (catLe (Nat.le_of_ble_eq_true rfl)) ⟨rfl, rfl⟩ rfl (Nat.le_of_ble_eq_true rfl) (Nat.le_of_ble_eq_true rfl) (fun z299 S299 A299 i299 p299 => ?_)
                                  obtain ⟨rfl, rfl, rfl⟩ := p299
                                  refine r_iload C dL_isPosted_302 lg_9 ?_
                                  refine r_iload C dL_isPosted_304 lg_19 ?_
                                  refine r_iadd C dL_isPosted_306 ?_
                                  refine r_icne C (tgt := 353) dL_isPosted_307 (by decide) (by omega) (by omega) (fun c307 => ?_) (fun c307 => ?_)
                                  · exfalso; omega
                                  · refine r_aload_n C dL_isPosted_310 lg_0 ?_
                                    refine r_iload C dL_isPosted_311 lg_4 ?_
                                    refine r_iconst C dL_isPosted_313 ?_
                                    refine r_iadd C dL_isPosted_314 ?_
                                    refine r_bipush C dL_isPosted_315 (by decide) ?_
                                    refine r_irem C dL_isPosted_317 (by omega) (by omega) (by omega) (by omega) ?_
                                    refine r_sipush C dL_isPosted_318 (by decide) ?_
                                    refine q_S3J C (cQ_sight hfl hP (by omega) (by omega)) dL_isPosted_321 lk_L_128 ⟨Nat.le_of_ble_eq_true rfl, Nat.le_of_ble_eq_true rfl⟩ (catLe (Nat.le_of_ble_eq_true rfl)) ⟨rfl, rfl⟩ rfl (Nat.le_of_ble_eq_true rfl) (Nat.le_of_ble_eq_true rfl) (fun z321 S321 A321 i321 p321 => ?_)
                                    obtain ⟨rfl, rfl, hF321⟩ := p321
                                    have hP := pi_fr hP hF321
                                    have hFc := hFc.tr hF321
                                    rw [r6 ((item + 1) % 6) (by omega) 364 (by omega)]
                                    refine r_lload C dL_isPosted_324 lg_13 ?_
                                    refine r_lcne C (tgt := 353) dL_isPosted_326 dL_isPosted_327 (by decide) (wL_r _) (wL_r _) (fun c326 => ?_) (fun c326 => ?_)
                                    · exfalso; omega
                                    · refine r_iload_n C dL_isPosted_330 lg_3 ?_
                                      refine r_ifeq C (tgt := 349) dL_isPosted_331 (by decide) (by omega) (fun c331 => ?_) (fun c331 => ?_)
                                      · refine r_iconst C dL_isPosted_349 ?_
                                        refine r_goto C (tgt := 354) dL_isPosted_350 (by decide) ?_
                                        exact f_Z F dL_isPosted_354 (by omega) ⟨rfl, hE9, R1, pl_fr hL1 hFc⟩ (Nat.le_of_ble_eq_true rfl) (Nat.le_of_ble_eq_true rfl)
                                      · refine r_aload_n C dL_isPosted_334 lg_0 ?_
                                        refine r_iload C dL_isPosted_335 lg_4 ?_
                                        refine r_iload_n C dL_isPosted_337 lg_3 ?_
                                        refine r_iconst C dL_isPosted_338 ?_
                                        refine r_isub C dL_isPosted_339 ?_
                                        refine q_S3J C (cQ_past hfl hP (by omega) (by omega)) dL_isPosted_340 lk_L_170 ⟨Nat.le_of_ble_eq_true rfl, Nat.le_of_ble_eq_true rfl⟩ (catLe (Nat.le_of_ble_eq_true rfl)) ⟨rfl, rfl⟩ rfl (Nat.le_of_ble_eq_true rfl) (Nat.le_of_ble_eq_true rfl) (fun z340 S340 A340 i340 p340 => ?_)
                                        obtain ⟨rfl, rfl, hF340⟩ := p340
                                        have hP := pi_fr hP hF340
                                        have hFc := hFc.tr hF340
                                        rw [r7 item (day - 1) (by omega) (by omega)]
                                        refine r_lload C dL_isPosted_343 lg_11 ?_
                                        refine r_lcne C (tgt := 353) dL_isPosted_345 dL_isPosted_346 (by decide) (by first | exact wL_r _ | omega) (by first | exact wL_r _ | omega) (fun c345 => ?_) (fun c345 => ?_)
                                        · exfalso; omega
                                        · refine r_iconst C dL_isPosted_349 ?_
                                          refine r_goto C (tgt := 354) dL_isPosted_350 (by decide) ?_
                                          exact f_Z F dL_isPosted_354 (by omega) ⟨rfl, hE9, R1, pl_fr hL1 hFc⟩ (Nat.le_of_ble_eq_true rfl) (Nat.le_of_ble_eq_true rfl)
                  · exfalso; omega
            · exfalso; omega
      · refine r_lconst C dL_isPosted_39 0 rfl ?_
        refine r_goto C (tgt := 52) dL_isPosted_40 (by decide) ?_
        refine r_lstore C dL_isPosted_52 (ls2_11 rfl rfl) ?_
        refine r_aload_n C dL_isPosted_54 lg_0 ?_
        refine r_iload C dL_isPosted_55 lg_4 ?_
        refine r_iconst C dL_isPosted_57 ?_
        refine r_iadd C dL_isPosted_58 ?_
        refine r_bipush C dL_isPosted_59 (by decide) ?_
        refine r_irem C dL_isPosted_61 (by omega) (by omega) (by omega) (by omega) ?_
        refine r_sipush C dL_isPosted_62 (by decide) ?_
        refine q_S3J C (cQ_sight hfl hP (by omega) (by omega)) dL_isPosted_65 lk_L_128 ⟨Nat.le_of_ble_eq_true rfl, Nat.le_of_ble_eq_true rfl⟩ (catLe (Nat.le_of_ble_eq_true rfl)) ⟨rfl, rfl⟩ rfl (Nat.le_of_ble_eq_true rfl) (Nat.le_of_ble_eq_true rfl) (fun z65 S65 A65 i65 p65 => ?_)
        obtain ⟨rfl, rfl, hF65⟩ := p65
        have hP := pi_fr hP hF65
        have hFc := hFc.tr hF65
        refine r_lstore C dL_isPosted_68 (ls2_13 rfl trivial) ?_
        refine r_iload_n C dL_isPosted_70 lg_3 ?_
        refine r_aload_n C dL_isPosted_71 lg_1 ?_
        refine r_iconst C dL_isPosted_72 ?_
        refine r_iald C (N := 1) 1280 dL_isPosted_73 (by decide) rfl rfl hl40 (by omega) (by omega) (by omega) (fun g73 => ?_)
        rw [hFc 1280 0 (by decide), hp0.1]
        refine r_icle C (tgt := 114) dL_isPosted_74 (by decide) (by omega) (by omega) (fun c74 => ?_) (fun c74 => ?_)
        · exfalso; omega
        · refine r_iload C dL_isPosted_77 lg_7 ?_
          refine r_bipush C dL_isPosted_79 (by decide) ?_
          refine r_icge C (tgt := 114) dL_isPosted_81 (by decide) (by omega) (by omega) (fun c81 => ?_) (fun c81 => ?_)
          · exfalso; omega
          · refine r_iload_n C dL_isPosted_84 lg_2 ?_
            refine r_ifeq C (tgt := 110) dL_isPosted_85 (by decide) (by omega) (fun c85 => ?_) (fun c85 => ?_)
            · refine r_iconst C dL_isPosted_110 ?_
              refine r_goto C (tgt := 115) dL_isPosted_111 (by decide) ?_
              refine r_istore C dL_isPosted_115 (ls1_15 rfl trivial) ?_
              refine r_iload C dL_isPosted_117 lg_15 ?_
              refine r_ifeq C (tgt := 126) dL_isPosted_119 (by decide) (by omega) (fun c119 => ?_) (fun c119 => ?_)
              · exfalso; omega
              · refine r_lconst C dL_isPosted_122 0 rfl ?_
                refine r_goto C (tgt := 130) dL_isPosted_123 (by decide) ?_
                refine r_lstore C dL_isPosted_130 (ls2_16 rfl rfl) ?_
                refine r_iload_n C dL_isPosted_132 lg_2 ?_
                refine r_ifne C (tgt := 150) dL_isPosted_133 (by decide) (by omega) (fun c133 => ?_) (fun c133 => ?_)
                · exfalso; omega
                · refine r_aload_n C dL_isPosted_136 lg_0 ?_
                  refine r_iload_n C dL_isPosted_137 lg_3 ?_
                  refine r_iload C dL_isPosted_138 lg_4 ?_
                  refine r_iload C dL_isPosted_140 lg_5 ?_
                  refine r_iload C dL_isPosted_142 lg_6 ?_
                  refine r_W5I C (cQ_receive hfl hP (by omega) (by omega) (by omega) (by omega)) dL_isPosted_144 lk_L_150 ⟨Nat.le_of_ble_eq_true rfl, Nat.le_of_ble_eq_true rfl⟩ (catLe (Nat.le_of_ble_eq_true rfl)) 8 51 ⟨rfl, rfl⟩ (Nat.le_of_ble_eq_true rfl) (Nat.le_of_ble_eq_true rfl) (fun _ _ _ h9 => h9.elim) (fun z144 S144 A144 i144 p144 => ?_)
                  obtain h144 := p144
                  have h198 := hFc 198 0 (by decide)
                  have h197 := hP.1.2.2.1.1
                  obtain ⟨rfl, hK, hC⟩ := acc7 p144 ⟨hak, hq, hc⟩ ⟨⟨by omega, by omega⟩, trivial⟩
                  obtain ⟨R1, hL1, r1, r2, r3, r4, r5, r6, r7⟩ := post_ok (pl_fr hL hFc) (by omega) (by omega) hak hq hc hok.2.1 (V_rec hn.1 (by omega) hV9) hK hC
                  have hE9 := hC.1
                  have hP := hL1.1
                  rw [← (hE9 6 0 hL.1.1.1.1.2).1, ← (hE9 40 0 hl40.2).1]
                  have hFc : Fr QF S144 S144 := Fr.rf
                  have r5a : haR R1 item day = haR R item day + (q) := r5 day (Int.le_refl _)
                  have r5b : haR R1 item 364 = haR R item 364 + (q) := r5 364 hday.2
                  clear hC hK
                  refine r_goto C (tgt := 178) dL_isPosted_147 (by decide) ?_
                  refine r_istore C dL_isPosted_178 (ls1_18 rfl trivial) ?_
                  refine r_iload C dL_isPosted_180 lg_15 ?_
                  refine r_ifne C (tgt := 208) dL_isPosted_182 (by decide) (by omega) (fun c182 => ?_) (fun c182 => ?_)
                  · refine r_iload_n C dL_isPosted_208 lg_2 ?_
                    refine r_ifne C (tgt := 217) dL_isPosted_209 (by decide) (by omega) (fun c209 => ?_) (fun c209 => ?_)
                    · exfalso; omega
                    · refine r_iload C dL_isPosted_212 lg_5 ?_
                      refine r_goto C (tgt := 229) dL_isPosted_214 (by decide) ?_
                      refine r_istore C dL_isPosted_229 (ls1_19 rfl rfl) ?_
                      refine r_iload C dL_isPosted_231 lg_18 ?_
                      refine r_iload C dL_isPosted_233 lg_7 ?_
                      refine r_icne C (tgt := 353) dL_isPosted_235 (by decide) (by omega) (by omega) (fun c235 => ?_) (fun c235 => ?_)
                      · exfalso; omega
                      · refine r_aload_n C dL_isPosted_238 lg_0 ?_
                        refine q_V0I C (cZ_movements hfl hP) dL_isPosted_239 lk_L_116 hP.1.1.1 ⟨Nat.le_of_ble_eq_true rfl, Nat.le_of_ble_eq_true rfl⟩ (catLe (Nat.le_of_ble_eq_true rfl)) ⟨rfl, rfl⟩ rfl (Nat.le_of_ble_eq_true rfl) (Nat.le_of_ble_eq_true rfl) (fun z239 S239 A239 i239 p239 => ?_)
                        obtain ⟨rfl, rfl, rfl⟩ := p239
                        refine r_iload C dL_isPosted_242 lg_7 ?_
                        refine r_iconst C dL_isPosted_244 ?_
                        refine r_iadd C dL_isPosted_245 ?_
                        refine r_icne C (tgt := 353) dL_isPosted_246 (by decide) (by omega) (by omega) (fun c246 => ?_) (fun c246 => ?_)
                        · exfalso; omega
                        · refine r_aload_n C dL_isPosted_249 lg_0 ?_
                          refine r_iload C dL_isPosted_250 lg_7 ?_
                          refine q_V1I C (cZ_kindOf hfl hP (by omega)) dL_isPosted_252 lk_L_44 hP.1.1.1 ⟨Nat.le_of_ble_eq_true rfl, Nat.le_of_ble_eq_true rfl⟩ (catLe (Nat.le_of_ble_eq_true rfl)) ⟨rfl, rfl⟩ rfl (Nat.le_of_ble_eq_true rfl) (Nat.le_of_ble_eq_true rfl) (fun z252 S252 A252 i252 p252 => ?_)
                          obtain ⟨rfl, rfl, rfl⟩ := p252
                          refine r_iload_n C dL_isPosted_255 lg_2 ?_
                          refine r_icne C (tgt := 353) dL_isPosted_256 (by decide) (by omega) (by omega) (fun c256 => ?_) (fun c256 => ?_)
                          · exfalso; omega
                          · refine r_aload_n C dL_isPosted_259 lg_0 ?_
                            refine r_iload C dL_isPosted_260 lg_7 ?_
                            refine q_V1I C (cZ_dayOf hfl hP (by omega)) dL_isPosted_262 lk_L_47 hP.1.1.1 ⟨Nat.le_of_ble_eq_true rfl, Nat.le_of_ble_eq_true rfl⟩ (catLe (Nat.le_of_ble_eq_true rfl)) ⟨rfl, rfl⟩ rfl (Nat.le_of_ble_eq_true rfl) (Nat.le_of_ble_eq_true rfl) (fun z262 S262 A262 i262 p262 => ?_)
                            obtain ⟨rfl, rfl, rfl⟩ := p262
                            refine r_iload_n C dL_isPosted_265 lg_3 ?_
                            refine r_icne C (tgt := 353) dL_isPosted_266 (by decide) (by omega) (by omega) (fun c266 => ?_) (fun c266 => ?_)
                            · exfalso; omega
                            · refine r_aload_n C dL_isPosted_269 lg_0 ?_
                              refine r_iload C dL_isPosted_270 lg_7 ?_
                              refine q_V1Z C (cZ_isCancelled hfl hP (by omega)) dL_isPosted_272 lk_L_53 hP.1.1.1 ⟨Nat.le_of_ble_eq_true rfl, Nat.le_of_ble_eq_true rfl⟩ (catLe (Nat.le_of_ble_eq_true rfl)) ⟨rfl, rfl⟩ rfl (Nat.le_of_ble_eq_true rfl) (Nat.le_of_ble_eq_true rfl) (fun z272 S272 A272 i272 p272 => ?_)
                              obtain ⟨rfl, rfl, rfl⟩ := p272
                              refine r_ifne C (tgt := 353) dL_isPosted_275 (by decide) (by omega) (fun c275 => ?_) (fun c275 => ?_)
                              · exfalso; omega
                              · refine r_aload_n C dL_isPosted_278 lg_0 ?_
                                refine r_iload C dL_isPosted_279 lg_4 ?_
                                refine r_iload_n C dL_isPosted_281 lg_3 ?_
                                refine q_V2I C (cZ_onHand hfl hP ⟨by omega, by omega⟩) dL_isPosted_282 lk_L_80 hP.1.1.1 ⟨Nat.le_of_ble_eq_true rfl, Nat.le_of_ble_eq_true rfl⟩ (catLe (Nat.le_of_ble_eq_true rfl)) ⟨rfl, rfl⟩ rfl (Nat.le_of_ble_eq_true rfl) (Nat.le_of_ble_eq_true rfl) (fun z282 S282 A282 i282 p282 => ?_)
                                obtain ⟨rfl, rfl, rfl⟩ := p282
                                refine r_iload C dL_isPosted_285 lg_8 ?_
                                refine r_iload C dL_isPosted_287 lg_19 ?_
                                refine r_iadd C dL_isPosted_289 ?_
                                refine r_icne C (tgt := 353) dL_isPosted_290 (by decide) (by omega) (by omega) (fun c290 => ?_) (fun c290 => ?_)
                                · exfalso; omega
                                · refine r_aload_n C dL_isPosted_293 lg_0 ?_
                                  refine r_iload C dL_isPosted_294 lg_4 ?_
                                  refine r_sipush C dL_isPosted_296 (by decide) ?_
                                  refine q_V2I C (cZ_onHand hfl hP ⟨by omega, by omega⟩) dL_isPosted_299 lk_L_80 hP.1.1.1 ⟨Nat.le_of_ble_eq_true rfl, Nat.le_of_ble_eq_true rfl⟩ (catLe (Nat.le_of_ble_eq_true rfl)) ⟨rfl, rfl⟩ rfl (Nat.le_of_ble_eq_true rfl) (Nat.le_of_ble_eq_true rfl) (fun z299 S299 A299 i299 p299 => ?_)
                                  obtain ⟨rfl, rfl, rfl⟩ := p299
                                  refine r_iload C dL_isPosted_302 lg_9 ?_
                                  refine r_iload C dL_isPosted_304 lg_19 ?_
                                  refine r_iadd C dL_isPosted_306 ?_
                                  refine r_icne C (tgt := 353) dL_isPosted_307 (by decide) (by omega) (by omega) (fun c307 => ?_) (fun c307 => ?_)
                                  · exfalso; omega
                                  · refine r_aload_n C dL_isPosted_310 lg_0 ?_
                                    refine r_iload C dL_isPosted_311 lg_4 ?_
                                    refine r_iconst C dL_isPosted_313 ?_
                                    refine r_iadd C dL_isPosted_314 ?_
                                    refine r_bipush C dL_isPosted_315 (by decide) ?_
                                    refine r_irem C dL_isPosted_317 (by omega) (by omega) (by omega) (by omega) ?_
                                    refine r_sipush C dL_isPosted_318 (by decide) ?_
                                    refine q_S3J C (cQ_sight hfl hP (by omega) (by omega)) dL_isPosted_321 lk_L_128 ⟨Nat.le_of_ble_eq_true rfl, Nat.le_of_ble_eq_true rfl⟩ (catLe (Nat.le_of_ble_eq_true rfl)) ⟨rfl, rfl⟩ rfl (Nat.le_of_ble_eq_true rfl) (Nat.le_of_ble_eq_true rfl) (fun z321 S321 A321 i321 p321 => ?_)
                                    obtain ⟨rfl, rfl, hF321⟩ := p321
                                    have hP := pi_fr hP hF321
                                    have hFc := hFc.tr hF321
                                    rw [r6 ((item + 1) % 6) (by omega) 364 (by omega)]
                                    refine r_lload C dL_isPosted_324 lg_13 ?_
                                    refine r_lcne C (tgt := 353) dL_isPosted_326 dL_isPosted_327 (by decide) (wL_r _) (wL_r _) (fun c326 => ?_) (fun c326 => ?_)
                                    · exfalso; omega
                                    · refine r_iload_n C dL_isPosted_330 lg_3 ?_
                                      refine r_ifeq C (tgt := 349) dL_isPosted_331 (by decide) (by omega) (fun c331 => ?_) (fun c331 => ?_)
                                      · refine r_iconst C dL_isPosted_349 ?_
                                        refine r_goto C (tgt := 354) dL_isPosted_350 (by decide) ?_
                                        exact f_Z F dL_isPosted_354 (by omega) ⟨rfl, hE9, R1, pl_fr hL1 hFc⟩ (Nat.le_of_ble_eq_true rfl) (Nat.le_of_ble_eq_true rfl)
                                      · refine r_aload_n C dL_isPosted_334 lg_0 ?_
                                        refine r_iload C dL_isPosted_335 lg_4 ?_
                                        refine r_iload_n C dL_isPosted_337 lg_3 ?_
                                        refine r_iconst C dL_isPosted_338 ?_
                                        refine r_isub C dL_isPosted_339 ?_
                                        refine q_S3J C (cQ_past hfl hP (by omega) (by omega)) dL_isPosted_340 lk_L_170 ⟨Nat.le_of_ble_eq_true rfl, Nat.le_of_ble_eq_true rfl⟩ (catLe (Nat.le_of_ble_eq_true rfl)) ⟨rfl, rfl⟩ rfl (Nat.le_of_ble_eq_true rfl) (Nat.le_of_ble_eq_true rfl) (fun z340 S340 A340 i340 p340 => ?_)
                                        obtain ⟨rfl, rfl, hF340⟩ := p340
                                        have hP := pi_fr hP hF340
                                        have hFc := hFc.tr hF340
                                        rw [r7 item (day - 1) (by omega) (by omega)]
                                        refine r_lload C dL_isPosted_343 lg_11 ?_
                                        refine r_lcne C (tgt := 353) dL_isPosted_345 dL_isPosted_346 (by decide) (by first | exact wL_r _ | omega) (by first | exact wL_r _ | omega) (fun c345 => ?_) (fun c345 => ?_)
                                        · exfalso; omega
                                        · refine r_iconst C dL_isPosted_349 ?_
                                          refine r_goto C (tgt := 354) dL_isPosted_350 (by decide) ?_
                                          exact f_Z F dL_isPosted_354 (by omega) ⟨rfl, hE9, R1, pl_fr hL1 hFc⟩ (Nat.le_of_ble_eq_true rfl) (Nat.le_of_ble_eq_true rfl)
                  · exfalso; omega
            · exfalso; omega
    · have hok2 : ¬ (S 198 0 < day ∧ R.n < 60) := fun q9 => hok ⟨q9.1, q9.2, trivial⟩
      refine r_aload_n C dL_isPosted_0 lg_0 ?_
      refine q_V0I C (cZ_movements hfl hP) dL_isPosted_1 lk_L_116 hP.1.1.1 ⟨Nat.le_of_ble_eq_true rfl, Nat.le_of_ble_eq_true rfl⟩ (catLe (Nat.le_of_ble_eq_true rfl)) ⟨rfl, rfl⟩ rfl (Nat.le_of_ble_eq_true rfl) (Nat.le_of_ble_eq_true rfl) (fun z1 S1 A1 i1 p1 => ?_)
      obtain ⟨rfl, rfl, rfl⟩ := p1
      refine r_istore C dL_isPosted_4 (ls1_7 rfl rfl) ?_
      refine r_aload_n C dL_isPosted_6 lg_0 ?_
      refine r_iload C dL_isPosted_7 lg_4 ?_
      refine r_iload_n C dL_isPosted_9 lg_3 ?_
      refine q_V2I C (cZ_onHand hfl hP ⟨by omega, by omega⟩) dL_isPosted_10 lk_L_80 hP.1.1.1 ⟨Nat.le_of_ble_eq_true rfl, Nat.le_of_ble_eq_true rfl⟩ (catLe (Nat.le_of_ble_eq_true rfl)) ⟨rfl, rfl⟩ rfl (Nat.le_of_ble_eq_true rfl) (Nat.le_of_ble_eq_true rfl) (fun z10 S10 A10 i10 p10 => ?_)
      obtain ⟨rfl, rfl, rfl⟩ := p10
      refine r_istore C dL_isPosted_13 (ls1_8 rfl rfl) ?_
      refine r_aload_n C dL_isPosted_15 lg_0 ?_
      refine r_iload C dL_isPosted_16 lg_4 ?_
      refine r_sipush C dL_isPosted_18 (by decide) ?_
      refine q_V2I C (cZ_onHand hfl hP ⟨by omega, by omega⟩) dL_isPosted_21 lk_L_80 hP.1.1.1 ⟨Nat.le_of_ble_eq_true rfl, Nat.le_of_ble_eq_true rfl⟩ (catLe (Nat.le_of_ble_eq_true rfl)) ⟨rfl, rfl⟩ rfl (Nat.le_of_ble_eq_true rfl) (Nat.le_of_ble_eq_true rfl) (fun z21 S21 A21 i21 p21 => ?_)
      obtain ⟨rfl, rfl, rfl⟩ := p21
      refine r_istore C dL_isPosted_24 (ls1_9 rfl rfl) ?_
      refine r_aload_n C dL_isPosted_26 lg_0 ?_
      refine r_iload C dL_isPosted_27 lg_4 ?_
      refine r_iload_n C dL_isPosted_29 lg_3 ?_
      refine q_V2I C (cZ_available hfl hP ⟨by omega, by omega⟩) dL_isPosted_30 lk_L_83 hP.1.1.1 ⟨Nat.le_of_ble_eq_true rfl, Nat.le_of_ble_eq_true rfl⟩ (catLe (Nat.le_of_ble_eq_true rfl)) ⟨rfl, rfl⟩ rfl (Nat.le_of_ble_eq_true rfl) (Nat.le_of_ble_eq_true rfl) (fun z30 S30 A30 i30 p30 => ?_)
      obtain ⟨rfl, rfl, rfl⟩ := p30
      refine r_istore C dL_isPosted_33 (ls1_10 rfl rfl) ?_
      refine r_iload_n C dL_isPosted_35 lg_3 ?_
      refine r_ifne C (tgt := 43) dL_isPosted_36 (by decide) (by omega) (fun c36 => ?_) (fun c36 => ?_)
      · refine r_aload_n C dL_isPosted_43 lg_0 ?_
        refine r_iload C dL_isPosted_44 lg_4 ?_
        refine r_iload_n C dL_isPosted_46 lg_3 ?_
        refine r_iconst C dL_isPosted_47 ?_
        refine r_isub C dL_isPosted_48 ?_
        refine q_S3J C (cQ_past hfl hP (by omega) (by omega)) dL_isPosted_49 lk_L_170 ⟨Nat.le_of_ble_eq_true rfl, Nat.le_of_ble_eq_true rfl⟩ (catLe (Nat.le_of_ble_eq_true rfl)) ⟨rfl, rfl⟩ rfl (Nat.le_of_ble_eq_true rfl) (Nat.le_of_ble_eq_true rfl) (fun z49 S49 A49 i49 p49 => ?_)
        obtain ⟨rfl, rfl, hF49⟩ := p49
        have hP := pi_fr hP hF49
        have hFc := hFc.tr hF49
        refine r_lstore C dL_isPosted_52 (ls2_11 rfl rfl) ?_
        refine r_aload_n C dL_isPosted_54 lg_0 ?_
        refine r_iload C dL_isPosted_55 lg_4 ?_
        refine r_iconst C dL_isPosted_57 ?_
        refine r_iadd C dL_isPosted_58 ?_
        refine r_bipush C dL_isPosted_59 (by decide) ?_
        refine r_irem C dL_isPosted_61 (by omega) (by omega) (by omega) (by omega) ?_
        refine r_sipush C dL_isPosted_62 (by decide) ?_
        refine q_S3J C (cQ_sight hfl hP (by omega) (by omega)) dL_isPosted_65 lk_L_128 ⟨Nat.le_of_ble_eq_true rfl, Nat.le_of_ble_eq_true rfl⟩ (catLe (Nat.le_of_ble_eq_true rfl)) ⟨rfl, rfl⟩ rfl (Nat.le_of_ble_eq_true rfl) (Nat.le_of_ble_eq_true rfl) (fun z65 S65 A65 i65 p65 => ?_)
        obtain ⟨rfl, rfl, hF65⟩ := p65
        have hP := pi_fr hP hF65
        have hFc := hFc.tr hF65
        refine r_lstore C dL_isPosted_68 (ls2_13 rfl trivial) ?_
        refine r_iload_n C dL_isPosted_70 lg_3 ?_
        refine r_aload_n C dL_isPosted_71 lg_1 ?_
        refine r_iconst C dL_isPosted_72 ?_
        refine r_iald C (N := 1) 1280 dL_isPosted_73 (by decide) rfl rfl hl40 (by omega) (by omega) (by omega) (fun g73 => ?_)
        rw [hFc 1280 0 (by decide), hp0.1]
        refine r_icle C (tgt := 114) dL_isPosted_74 (by decide) (by omega) (by omega) (fun c74 => ?_) (fun c74 => ?_)
        · refine r_iconst C dL_isPosted_114 ?_
          refine r_istore C dL_isPosted_115 (ls1_15 rfl trivial) ?_
          refine r_iload C dL_isPosted_117 lg_15 ?_
          refine r_ifeq C (tgt := 126) dL_isPosted_119 (by decide) (by omega) (fun c119 => ?_) (fun c119 => ?_)
          · refine r_aload_n C dL_isPosted_126 lg_0 ?_
            refine q_S1J C (cQ_all hfl hP) dL_isPosted_127 lk_L_146 ⟨Nat.le_of_ble_eq_true rfl, Nat.le_of_ble_eq_true rfl⟩ (catLe (Nat.le_of_ble_eq_true rfl)) ⟨rfl, rfl⟩ rfl (Nat.le_of_ble_eq_true rfl) (Nat.le_of_ble_eq_true rfl) (fun z127 S127 A127 i127 p127 => ?_)
            obtain ⟨rfl, rfl, hF127⟩ := p127
            have hP := pi_fr hP hF127
            have hFc := hFc.tr hF127
            refine r_lstore C dL_isPosted_130 (ls2_16 rfl rfl) ?_
            refine r_iload_n C dL_isPosted_132 lg_2 ?_
            refine r_ifne C (tgt := 150) dL_isPosted_133 (by decide) (by omega) (fun c133 => ?_) (fun c133 => ?_)
            · exfalso; omega
            · refine r_aload_n C dL_isPosted_136 lg_0 ?_
              refine r_iload_n C dL_isPosted_137 lg_3 ?_
              refine r_iload C dL_isPosted_138 lg_4 ?_
              refine r_iload C dL_isPosted_140 lg_5 ?_
              refine r_iload C dL_isPosted_142 lg_6 ?_
              refine r_W5I C (cQ_receive hfl hP (by omega) (by omega) (by omega) (by omega)) dL_isPosted_144 lk_L_150 ⟨Nat.le_of_ble_eq_true rfl, Nat.le_of_ble_eq_true rfl⟩ (catLe (Nat.le_of_ble_eq_true rfl)) 8 51 ⟨rfl, rfl⟩ (Nat.le_of_ble_eq_true rfl) (Nat.le_of_ble_eq_true rfl) (fun _ _ _ h9 => h9.elim) (fun z144 S144 A144 i144 p144 => ?_)
              obtain h144 := p144
              have h198 := hFc 198 0 (by decide)
              have h197 := hP.1.2.2.1.1
              obtain ⟨rfl, rfl, rfl⟩ := ref7 p144 ⟨hak, hq, hc⟩ (fun q9 => hok ⟨by have := q9.1.1; omega, by have := q9.1.2; omega, q9.2⟩)
              refine r_goto C (tgt := 178) dL_isPosted_147 (by decide) ?_
              refine r_istore C dL_isPosted_178 (ls1_18 rfl trivial) ?_
              refine r_iload C dL_isPosted_180 lg_15 ?_
              refine r_ifne C (tgt := 208) dL_isPosted_182 (by decide) (by omega) (fun c182 => ?_) (fun c182 => ?_)
              · exfalso; omega
              · refine r_iload C dL_isPosted_185 lg_18 ?_
                refine r_bipush C dL_isPosted_187 (by decide) ?_
                refine r_icne C (tgt := 206) dL_isPosted_189 (by decide) (by omega) (by omega) (fun c189 => ?_) (fun c189 => ?_)
                · exfalso; omega
                · refine r_aload_n C dL_isPosted_192 lg_0 ?_
                  refine q_S1J C (cQ_all hfl hP) dL_isPosted_193 lk_L_146 ⟨Nat.le_of_ble_eq_true rfl, Nat.le_of_ble_eq_true rfl⟩ (catLe (Nat.le_of_ble_eq_true rfl)) ⟨rfl, rfl⟩ rfl (Nat.le_of_ble_eq_true rfl) (Nat.le_of_ble_eq_true rfl) (fun z193 S193 A193 i193 p193 => ?_)
                  obtain ⟨rfl, rfl, hF193⟩ := p193
                  have hP := pi_fr hP hF193
                  have hFc := hFc.tr hF193
                  refine r_lload C dL_isPosted_196 lg_16 ?_
                  refine r_lcne C (tgt := 206) dL_isPosted_198 dL_isPosted_199 (by decide) (wL_r _) (wL_r _) (fun c198 => ?_) (fun c198 => ?_)
                  · exfalso; omega
                  · refine r_iconst C dL_isPosted_202 ?_
                    refine r_goto C (tgt := 207) dL_isPosted_203 (by decide) ?_
                    exact f_Z F dL_isPosted_207 (by omega) ⟨rfl, AE.rf, R, pl_fr hL hFc⟩ (Nat.le_of_ble_eq_true rfl) (Nat.le_of_ble_eq_true rfl)
          · exfalso; omega
        · refine r_iload C dL_isPosted_77 lg_7 ?_
          refine r_bipush C dL_isPosted_79 (by decide) ?_
          refine r_icge C (tgt := 114) dL_isPosted_81 (by decide) (by omega) (by omega) (fun c81 => ?_) (fun c81 => ?_)
          · refine r_iconst C dL_isPosted_114 ?_
            refine r_istore C dL_isPosted_115 (ls1_15 rfl trivial) ?_
            refine r_iload C dL_isPosted_117 lg_15 ?_
            refine r_ifeq C (tgt := 126) dL_isPosted_119 (by decide) (by omega) (fun c119 => ?_) (fun c119 => ?_)
            · refine r_aload_n C dL_isPosted_126 lg_0 ?_
              refine q_S1J C (cQ_all hfl hP) dL_isPosted_127 lk_L_146 ⟨Nat.le_of_ble_eq_true rfl, Nat.le_of_ble_eq_true rfl⟩ (catLe (Nat.le_of_ble_eq_true rfl)) ⟨rfl, rfl⟩ rfl (Nat.le_of_ble_eq_true rfl) (Nat.le_of_ble_eq_true rfl) (fun z127 S127 A127 i127 p127 => ?_)
              obtain ⟨rfl, rfl, hF127⟩ := p127
              have hP := pi_fr hP hF127
              have hFc := hFc.tr hF127
              refine r_lstore C dL_isPosted_130 (ls2_16 rfl rfl) ?_
              refine r_iload_n C dL_isPosted_132 lg_2 ?_
              refine r_ifne C (tgt := 150) dL_isPosted_133 (by decide) (by omega) (fun c133 => ?_) (fun c133 => ?_)
              · exfalso; omega
              · refine r_aload_n C dL_isPosted_136 lg_0 ?_
                refine r_iload_n C dL_isPosted_137 lg_3 ?_
                refine r_iload C dL_isPosted_138 lg_4 ?_
                refine r_iload C dL_isPosted_140 lg_5 ?_
                refine r_iload C dL_isPosted_142 lg_6 ?_
                refine r_W5I C (cQ_receive hfl hP (by omega) (by omega) (by omega) (by omega)) dL_isPosted_144 lk_L_150 ⟨Nat.le_of_ble_eq_true rfl, Nat.le_of_ble_eq_true rfl⟩ (catLe (Nat.le_of_ble_eq_true rfl)) 8 51 ⟨rfl, rfl⟩ (Nat.le_of_ble_eq_true rfl) (Nat.le_of_ble_eq_true rfl) (fun _ _ _ h9 => h9.elim) (fun z144 S144 A144 i144 p144 => ?_)
                obtain h144 := p144
                have h198 := hFc 198 0 (by decide)
                have h197 := hP.1.2.2.1.1
                obtain ⟨rfl, rfl, rfl⟩ := ref7 p144 ⟨hak, hq, hc⟩ (fun q9 => hok ⟨by have := q9.1.1; omega, by have := q9.1.2; omega, q9.2⟩)
                refine r_goto C (tgt := 178) dL_isPosted_147 (by decide) ?_
                refine r_istore C dL_isPosted_178 (ls1_18 rfl trivial) ?_
                refine r_iload C dL_isPosted_180 lg_15 ?_
                refine r_ifne C (tgt := 208) dL_isPosted_182 (by decide) (by omega) (fun c182 => ?_) (fun c182 => ?_)
                · exfalso; omega
                · refine r_iload C dL_isPosted_185 lg_18 ?_
                  refine r_bipush C dL_isPosted_187 (by decide) ?_
                  refine r_icne C (tgt := 206) dL_isPosted_189 (by decide) (by omega) (by omega) (fun c189 => ?_) (fun c189 => ?_)
                  · exfalso; omega
                  · refine r_aload_n C dL_isPosted_192 lg_0 ?_
                    refine q_S1J C (cQ_all hfl hP) dL_isPosted_193 lk_L_146 ⟨Nat.le_of_ble_eq_true rfl, Nat.le_of_ble_eq_true rfl⟩ (catLe (Nat.le_of_ble_eq_true rfl)) ⟨rfl, rfl⟩ rfl (Nat.le_of_ble_eq_true rfl) (Nat.le_of_ble_eq_true rfl) (fun z193 S193 A193 i193 p193 => ?_)
                    obtain ⟨rfl, rfl, hF193⟩ := p193
                    have hP := pi_fr hP hF193
                    have hFc := hFc.tr hF193
                    refine r_lload C dL_isPosted_196 lg_16 ?_
                    refine r_lcne C (tgt := 206) dL_isPosted_198 dL_isPosted_199 (by decide) (wL_r _) (wL_r _) (fun c198 => ?_) (fun c198 => ?_)
                    · exfalso; omega
                    · refine r_iconst C dL_isPosted_202 ?_
                      refine r_goto C (tgt := 207) dL_isPosted_203 (by decide) ?_
                      exact f_Z F dL_isPosted_207 (by omega) ⟨rfl, AE.rf, R, pl_fr hL hFc⟩ (Nat.le_of_ble_eq_true rfl) (Nat.le_of_ble_eq_true rfl)
            · exfalso; omega
          · refine r_iload_n C dL_isPosted_84 lg_2 ?_
            refine r_ifeq C (tgt := 110) dL_isPosted_85 (by decide) (by omega) (fun c85 => ?_) (fun c85 => ?_)
            · exfalso; omega
            · exfalso; omega
      · refine r_lconst C dL_isPosted_39 0 rfl ?_
        refine r_goto C (tgt := 52) dL_isPosted_40 (by decide) ?_
        refine r_lstore C dL_isPosted_52 (ls2_11 rfl rfl) ?_
        refine r_aload_n C dL_isPosted_54 lg_0 ?_
        refine r_iload C dL_isPosted_55 lg_4 ?_
        refine r_iconst C dL_isPosted_57 ?_
        refine r_iadd C dL_isPosted_58 ?_
        refine r_bipush C dL_isPosted_59 (by decide) ?_
        refine r_irem C dL_isPosted_61 (by omega) (by omega) (by omega) (by omega) ?_
        refine r_sipush C dL_isPosted_62 (by decide) ?_
        refine q_S3J C (cQ_sight hfl hP (by omega) (by omega)) dL_isPosted_65 lk_L_128 ⟨Nat.le_of_ble_eq_true rfl, Nat.le_of_ble_eq_true rfl⟩ (catLe (Nat.le_of_ble_eq_true rfl)) ⟨rfl, rfl⟩ rfl (Nat.le_of_ble_eq_true rfl) (Nat.le_of_ble_eq_true rfl) (fun z65 S65 A65 i65 p65 => ?_)
        obtain ⟨rfl, rfl, hF65⟩ := p65
        have hP := pi_fr hP hF65
        have hFc := hFc.tr hF65
        refine r_lstore C dL_isPosted_68 (ls2_13 rfl trivial) ?_
        refine r_iload_n C dL_isPosted_70 lg_3 ?_
        refine r_aload_n C dL_isPosted_71 lg_1 ?_
        refine r_iconst C dL_isPosted_72 ?_
        refine r_iald C (N := 1) 1280 dL_isPosted_73 (by decide) rfl rfl hl40 (by omega) (by omega) (by omega) (fun g73 => ?_)
        rw [hFc 1280 0 (by decide), hp0.1]
        refine r_icle C (tgt := 114) dL_isPosted_74 (by decide) (by omega) (by omega) (fun c74 => ?_) (fun c74 => ?_)
        · refine r_iconst C dL_isPosted_114 ?_
          refine r_istore C dL_isPosted_115 (ls1_15 rfl trivial) ?_
          refine r_iload C dL_isPosted_117 lg_15 ?_
          refine r_ifeq C (tgt := 126) dL_isPosted_119 (by decide) (by omega) (fun c119 => ?_) (fun c119 => ?_)
          · refine r_aload_n C dL_isPosted_126 lg_0 ?_
            refine q_S1J C (cQ_all hfl hP) dL_isPosted_127 lk_L_146 ⟨Nat.le_of_ble_eq_true rfl, Nat.le_of_ble_eq_true rfl⟩ (catLe (Nat.le_of_ble_eq_true rfl)) ⟨rfl, rfl⟩ rfl (Nat.le_of_ble_eq_true rfl) (Nat.le_of_ble_eq_true rfl) (fun z127 S127 A127 i127 p127 => ?_)
            obtain ⟨rfl, rfl, hF127⟩ := p127
            have hP := pi_fr hP hF127
            have hFc := hFc.tr hF127
            refine r_lstore C dL_isPosted_130 (ls2_16 rfl rfl) ?_
            refine r_iload_n C dL_isPosted_132 lg_2 ?_
            refine r_ifne C (tgt := 150) dL_isPosted_133 (by decide) (by omega) (fun c133 => ?_) (fun c133 => ?_)
            · exfalso; omega
            · refine r_aload_n C dL_isPosted_136 lg_0 ?_
              refine r_iload_n C dL_isPosted_137 lg_3 ?_
              refine r_iload C dL_isPosted_138 lg_4 ?_
              refine r_iload C dL_isPosted_140 lg_5 ?_
              refine r_iload C dL_isPosted_142 lg_6 ?_
              refine r_W5I C (cQ_receive hfl hP (by omega) (by omega) (by omega) (by omega)) dL_isPosted_144 lk_L_150 ⟨Nat.le_of_ble_eq_true rfl, Nat.le_of_ble_eq_true rfl⟩ (catLe (Nat.le_of_ble_eq_true rfl)) 8 51 ⟨rfl, rfl⟩ (Nat.le_of_ble_eq_true rfl) (Nat.le_of_ble_eq_true rfl) (fun _ _ _ h9 => h9.elim) (fun z144 S144 A144 i144 p144 => ?_)
              obtain h144 := p144
              have h198 := hFc 198 0 (by decide)
              have h197 := hP.1.2.2.1.1
              obtain ⟨rfl, rfl, rfl⟩ := ref7 p144 ⟨hak, hq, hc⟩ (fun q9 => hok ⟨by have := q9.1.1; omega, by have := q9.1.2; omega, q9.2⟩)
              refine r_goto C (tgt := 178) dL_isPosted_147 (by decide) ?_
              refine r_istore C dL_isPosted_178 (ls1_18 rfl trivial) ?_
              refine r_iload C dL_isPosted_180 lg_15 ?_
              refine r_ifne C (tgt := 208) dL_isPosted_182 (by decide) (by omega) (fun c182 => ?_) (fun c182 => ?_)
              · exfalso; omega
              · refine r_iload C dL_isPosted_185 lg_18 ?_
                refine r_bipush C dL_isPosted_187 (by decide) ?_
                refine r_icne C (tgt := 206) dL_isPosted_189 (by decide) (by omega) (by omega) (fun c189 => ?_) (fun c189 => ?_)
                · exfalso; omega
                · refine r_aload_n C dL_isPosted_192 lg_0 ?_
                  refine q_S1J C (cQ_all hfl hP) dL_isPosted_193 lk_L_146 ⟨Nat.le_of_ble_eq_true rfl, Nat.le_of_ble_eq_true rfl⟩ (catLe (Nat.le_of_ble_eq_true rfl)) ⟨rfl, rfl⟩ rfl (Nat.le_of_ble_eq_true rfl) (Nat.le_of_ble_eq_true rfl) (fun z193 S193 A193 i193 p193 => ?_)
                  obtain ⟨rfl, rfl, hF193⟩ := p193
                  have hP := pi_fr hP hF193
                  have hFc := hFc.tr hF193
                  refine r_lload C dL_isPosted_196 lg_16 ?_
                  refine r_lcne C (tgt := 206) dL_isPosted_198 dL_isPosted_199 (by decide) (wL_r _) (wL_r _) (fun c198 => ?_) (fun c198 => ?_)
                  · exfalso; omega
                  · refine r_iconst C dL_isPosted_202 ?_
                    refine r_goto C (tgt := 207) dL_isPosted_203 (by decide) ?_
                    exact f_Z F dL_isPosted_207 (by omega) ⟨rfl, AE.rf, R, pl_fr hL hFc⟩ (Nat.le_of_ble_eq_true rfl) (Nat.le_of_ble_eq_true rfl)
          · exfalso; omega
        · refine r_iload C dL_isPosted_77 lg_7 ?_
          refine r_bipush C dL_isPosted_79 (by decide) ?_
          refine r_icge C (tgt := 114) dL_isPosted_81 (by decide) (by omega) (by omega) (fun c81 => ?_) (fun c81 => ?_)
          · refine r_iconst C dL_isPosted_114 ?_
            refine r_istore C dL_isPosted_115 (ls1_15 rfl trivial) ?_
            refine r_iload C dL_isPosted_117 lg_15 ?_
            refine r_ifeq C (tgt := 126) dL_isPosted_119 (by decide) (by omega) (fun c119 => ?_) (fun c119 => ?_)
            · refine r_aload_n C dL_isPosted_126 lg_0 ?_
              refine q_S1J C (cQ_all hfl hP) dL_isPosted_127 lk_L_146 ⟨Nat.le_of_ble_eq_true rfl, Nat.le_of_ble_eq_true rfl⟩ (catLe (Nat.le_of_ble_eq_true rfl)) ⟨rfl, rfl⟩ rfl (Nat.le_of_ble_eq_true rfl) (Nat.le_of_ble_eq_true rfl) (fun z127 S127 A127 i127 p127 => ?_)
              obtain ⟨rfl, rfl, hF127⟩ := p127
              have hP := pi_fr hP hF127
              have hFc := hFc.tr hF127
              refine r_lstore C dL_isPosted_130 (ls2_16 rfl rfl) ?_
              refine r_iload_n C dL_isPosted_132 lg_2 ?_
              refine r_ifne C (tgt := 150) dL_isPosted_133 (by decide) (by omega) (fun c133 => ?_) (fun c133 => ?_)
              · exfalso; omega
              · refine r_aload_n C dL_isPosted_136 lg_0 ?_
                refine r_iload_n C dL_isPosted_137 lg_3 ?_
                refine r_iload C dL_isPosted_138 lg_4 ?_
                refine r_iload C dL_isPosted_140 lg_5 ?_
                refine r_iload C dL_isPosted_142 lg_6 ?_
                refine r_W5I C (cQ_receive hfl hP (by omega) (by omega) (by omega) (by omega)) dL_isPosted_144 lk_L_150 ⟨Nat.le_of_ble_eq_true rfl, Nat.le_of_ble_eq_true rfl⟩ (catLe (Nat.le_of_ble_eq_true rfl)) 8 51 ⟨rfl, rfl⟩ (Nat.le_of_ble_eq_true rfl) (Nat.le_of_ble_eq_true rfl) (fun _ _ _ h9 => h9.elim) (fun z144 S144 A144 i144 p144 => ?_)
                obtain h144 := p144
                have h198 := hFc 198 0 (by decide)
                have h197 := hP.1.2.2.1.1
                obtain ⟨rfl, rfl, rfl⟩ := ref7 p144 ⟨hak, hq, hc⟩ (fun q9 => hok ⟨by have := q9.1.1; omega, by have := q9.1.2; omega, q9.2⟩)
                refine r_goto C (tgt := 178) dL_isPosted_147 (by decide) ?_
                refine r_istore C dL_isPosted_178 (ls1_18 rfl trivial) ?_
                refine r_iload C dL_isPosted_180 lg_15 ?_
                refine r_ifne C (tgt := 208) dL_isPosted_182 (by decide) (by omega) (fun c182 => ?_) (fun c182 => ?_)
                · exfalso; omega
                · refine r_iload C dL_isPosted_185 lg_18 ?_
                  refine r_bipush C dL_isPosted_187 (by decide) ?_
                  refine r_icne C (tgt := 206) dL_isPosted_189 (by decide) (by omega) (by omega) (fun c189 => ?_) (fun c189 => ?_)
                  · exfalso; omega
                  · refine r_aload_n C dL_isPosted_192 lg_0 ?_
                    refine q_S1J C (cQ_all hfl hP) dL_isPosted_193 lk_L_146 ⟨Nat.le_of_ble_eq_true rfl, Nat.le_of_ble_eq_true rfl⟩ (catLe (Nat.le_of_ble_eq_true rfl)) ⟨rfl, rfl⟩ rfl (Nat.le_of_ble_eq_true rfl) (Nat.le_of_ble_eq_true rfl) (fun z193 S193 A193 i193 p193 => ?_)
                    obtain ⟨rfl, rfl, hF193⟩ := p193
                    have hP := pi_fr hP hF193
                    have hFc := hFc.tr hF193
                    refine r_lload C dL_isPosted_196 lg_16 ?_
                    refine r_lcne C (tgt := 206) dL_isPosted_198 dL_isPosted_199 (by decide) (wL_r _) (wL_r _) (fun c198 => ?_) (fun c198 => ?_)
                    · exfalso; omega
                    · refine r_iconst C dL_isPosted_202 ?_
                      refine r_goto C (tgt := 207) dL_isPosted_203 (by decide) ?_
                      exact f_Z F dL_isPosted_207 (by omega) ⟨rfl, AE.rf, R, pl_fr hL hFc⟩ (Nat.le_of_ble_eq_true rfl) (Nat.le_of_ble_eq_true rfl)
            · exfalso; omega
          · refine r_iload_n C dL_isPosted_84 lg_2 ?_
            refine r_ifeq C (tgt := 110) dL_isPosted_85 (by decide) (by omega) (fun c85 => ?_) (fun c85 => ?_)
            · exfalso; omega
            · exfalso; omega
  · by_cases hok : S 198 0 < day ∧ R.n < 60 ∧ q ≤ spR R item day 60
    · refine r_aload_n C dL_isPosted_0 lg_0 ?_
      refine q_V0I C (cZ_movements hfl hP) dL_isPosted_1 lk_L_116 hP.1.1.1 ⟨Nat.le_of_ble_eq_true rfl, Nat.le_of_ble_eq_true rfl⟩ (catLe (Nat.le_of_ble_eq_true rfl)) ⟨rfl, rfl⟩ rfl (Nat.le_of_ble_eq_true rfl) (Nat.le_of_ble_eq_true rfl) (fun z1 S1 A1 i1 p1 => ?_)
      obtain ⟨rfl, rfl, rfl⟩ := p1
      refine r_istore C dL_isPosted_4 (ls1_7 rfl rfl) ?_
      refine r_aload_n C dL_isPosted_6 lg_0 ?_
      refine r_iload C dL_isPosted_7 lg_4 ?_
      refine r_iload_n C dL_isPosted_9 lg_3 ?_
      refine q_V2I C (cZ_onHand hfl hP ⟨by omega, by omega⟩) dL_isPosted_10 lk_L_80 hP.1.1.1 ⟨Nat.le_of_ble_eq_true rfl, Nat.le_of_ble_eq_true rfl⟩ (catLe (Nat.le_of_ble_eq_true rfl)) ⟨rfl, rfl⟩ rfl (Nat.le_of_ble_eq_true rfl) (Nat.le_of_ble_eq_true rfl) (fun z10 S10 A10 i10 p10 => ?_)
      obtain ⟨rfl, rfl, rfl⟩ := p10
      refine r_istore C dL_isPosted_13 (ls1_8 rfl rfl) ?_
      refine r_aload_n C dL_isPosted_15 lg_0 ?_
      refine r_iload C dL_isPosted_16 lg_4 ?_
      refine r_sipush C dL_isPosted_18 (by decide) ?_
      refine q_V2I C (cZ_onHand hfl hP ⟨by omega, by omega⟩) dL_isPosted_21 lk_L_80 hP.1.1.1 ⟨Nat.le_of_ble_eq_true rfl, Nat.le_of_ble_eq_true rfl⟩ (catLe (Nat.le_of_ble_eq_true rfl)) ⟨rfl, rfl⟩ rfl (Nat.le_of_ble_eq_true rfl) (Nat.le_of_ble_eq_true rfl) (fun z21 S21 A21 i21 p21 => ?_)
      obtain ⟨rfl, rfl, rfl⟩ := p21
      refine r_istore C dL_isPosted_24 (ls1_9 rfl rfl) ?_
      refine r_aload_n C dL_isPosted_26 lg_0 ?_
      refine r_iload C dL_isPosted_27 lg_4 ?_
      refine r_iload_n C dL_isPosted_29 lg_3 ?_
      refine q_V2I C (cZ_available hfl hP ⟨by omega, by omega⟩) dL_isPosted_30 lk_L_83 hP.1.1.1 ⟨Nat.le_of_ble_eq_true rfl, Nat.le_of_ble_eq_true rfl⟩ (catLe (Nat.le_of_ble_eq_true rfl)) ⟨rfl, rfl⟩ rfl (Nat.le_of_ble_eq_true rfl) (Nat.le_of_ble_eq_true rfl) (fun z30 S30 A30 i30 p30 => ?_)
      obtain ⟨rfl, rfl, rfl⟩ := p30
      refine r_istore C dL_isPosted_33 (ls1_10 rfl rfl) ?_
      refine r_iload_n C dL_isPosted_35 lg_3 ?_
      refine r_ifne C (tgt := 43) dL_isPosted_36 (by decide) (by omega) (fun c36 => ?_) (fun c36 => ?_)
      · refine r_aload_n C dL_isPosted_43 lg_0 ?_
        refine r_iload C dL_isPosted_44 lg_4 ?_
        refine r_iload_n C dL_isPosted_46 lg_3 ?_
        refine r_iconst C dL_isPosted_47 ?_
        refine r_isub C dL_isPosted_48 ?_
        refine q_S3J C (cQ_past hfl hP (by omega) (by omega)) dL_isPosted_49 lk_L_170 ⟨Nat.le_of_ble_eq_true rfl, Nat.le_of_ble_eq_true rfl⟩ (catLe (Nat.le_of_ble_eq_true rfl)) ⟨rfl, rfl⟩ rfl (Nat.le_of_ble_eq_true rfl) (Nat.le_of_ble_eq_true rfl) (fun z49 S49 A49 i49 p49 => ?_)
        obtain ⟨rfl, rfl, hF49⟩ := p49
        have hP := pi_fr hP hF49
        have hFc := hFc.tr hF49
        refine r_lstore C dL_isPosted_52 (ls2_11 rfl rfl) ?_
        refine r_aload_n C dL_isPosted_54 lg_0 ?_
        refine r_iload C dL_isPosted_55 lg_4 ?_
        refine r_iconst C dL_isPosted_57 ?_
        refine r_iadd C dL_isPosted_58 ?_
        refine r_bipush C dL_isPosted_59 (by decide) ?_
        refine r_irem C dL_isPosted_61 (by omega) (by omega) (by omega) (by omega) ?_
        refine r_sipush C dL_isPosted_62 (by decide) ?_
        refine q_S3J C (cQ_sight hfl hP (by omega) (by omega)) dL_isPosted_65 lk_L_128 ⟨Nat.le_of_ble_eq_true rfl, Nat.le_of_ble_eq_true rfl⟩ (catLe (Nat.le_of_ble_eq_true rfl)) ⟨rfl, rfl⟩ rfl (Nat.le_of_ble_eq_true rfl) (Nat.le_of_ble_eq_true rfl) (fun z65 S65 A65 i65 p65 => ?_)
        obtain ⟨rfl, rfl, hF65⟩ := p65
        have hP := pi_fr hP hF65
        have hFc := hFc.tr hF65
        refine r_lstore C dL_isPosted_68 (ls2_13 rfl trivial) ?_
        refine r_iload_n C dL_isPosted_70 lg_3 ?_
        refine r_aload_n C dL_isPosted_71 lg_1 ?_
        refine r_iconst C dL_isPosted_72 ?_
        refine r_iald C (N := 1) 1280 dL_isPosted_73 (by decide) rfl rfl hl40 (by omega) (by omega) (by omega) (fun g73 => ?_)
        rw [hFc 1280 0 (by decide), hp0.1]
        refine r_icle C (tgt := 114) dL_isPosted_74 (by decide) (by omega) (by omega) (fun c74 => ?_) (fun c74 => ?_)
        · exfalso; omega
        · refine r_iload C dL_isPosted_77 lg_7 ?_
          refine r_bipush C dL_isPosted_79 (by decide) ?_
          refine r_icge C (tgt := 114) dL_isPosted_81 (by decide) (by omega) (by omega) (fun c81 => ?_) (fun c81 => ?_)
          · exfalso; omega
          · refine r_iload_n C dL_isPosted_84 lg_2 ?_
            refine r_ifeq C (tgt := 110) dL_isPosted_85 (by decide) (by omega) (fun c85 => ?_) (fun c85 => ?_)
            · exfalso; omega
            · refine r_iload_n C dL_isPosted_88 lg_2 ?_
              refine r_iconst C dL_isPosted_89 ?_
              refine r_icne C (tgt := 103) dL_isPosted_90 (by decide) (by omega) (by omega) (fun c90 => ?_) (fun c90 => ?_)
              · exfalso; omega
              · refine r_iload C dL_isPosted_93 lg_5 ?_
                refine r_iload C dL_isPosted_95 lg_10 ?_
                refine r_icgt C (tgt := 114) dL_isPosted_97 (by decide) (by omega) (by omega) (fun c97 => ?_) (fun c97 => ?_)
                · exfalso; omega
                · refine r_goto C (tgt := 110) dL_isPosted_100 (by decide) ?_
                  refine r_iconst C dL_isPosted_110 ?_
                  refine r_goto C (tgt := 115) dL_isPosted_111 (by decide) ?_
                  refine r_istore C dL_isPosted_115 (ls1_15 rfl trivial) ?_
                  refine r_iload C dL_isPosted_117 lg_15 ?_
                  refine r_ifeq C (tgt := 126) dL_isPosted_119 (by decide) (by omega) (fun c119 => ?_) (fun c119 => ?_)
                  · exfalso; omega
                  · refine r_lconst C dL_isPosted_122 0 rfl ?_
                    refine r_goto C (tgt := 130) dL_isPosted_123 (by decide) ?_
                    refine r_lstore C dL_isPosted_130 (ls2_16 rfl rfl) ?_
                    refine r_iload_n C dL_isPosted_132 lg_2 ?_
                    refine r_ifne C (tgt := 150) dL_isPosted_133 (by decide) (by omega) (fun c133 => ?_) (fun c133 => ?_)
                    · refine r_iload_n C dL_isPosted_150 lg_2 ?_
                      refine r_iconst C dL_isPosted_151 ?_
                      refine r_icne C (tgt := 167) dL_isPosted_152 (by decide) (by omega) (by omega) (fun c152 => ?_) (fun c152 => ?_)
                      · exfalso; omega
                      · refine r_aload_n C dL_isPosted_155 lg_0 ?_
                        refine r_iload_n C dL_isPosted_156 lg_3 ?_
                        refine r_iload C dL_isPosted_157 lg_4 ?_
                        refine r_iload C dL_isPosted_159 lg_5 ?_
                        refine r_W4I C (cQ_issue hfl hP (by omega) (by omega) (by omega)) dL_isPosted_161 lk_L_153 ⟨Nat.le_of_ble_eq_true rfl, Nat.le_of_ble_eq_true rfl⟩ (catLe (Nat.le_of_ble_eq_true rfl)) 8 51 ⟨rfl, rfl⟩ (Nat.le_of_ble_eq_true rfl) (Nat.le_of_ble_eq_true rfl) (fun _ _ _ h9 => h9.elim) (fun z161 S161 A161 i161 p161 => ?_)
                        obtain h161 := p161
                        have h198 := hFc 198 0 (by decide)
                        have h197 := hP.1.2.2.1.1
                        obtain ⟨rfl, hK, hC⟩ := acc7 p161 ⟨hak, hq⟩ ⟨⟨by omega, by omega⟩, hok.2.2⟩
                        obtain ⟨R1, hL1, r1, r2, r3, r4, r5, r6, r7⟩ := post_ok (pl_fr hL hFc) (by omega) (by omega) hak hq (by omega) hok.2.1 ((V_iss hn hV9).mpr hok.2.2) hK hC
                        have hE9 := hC.1
                        have hP := hL1.1
                        rw [← (hE9 6 0 hL.1.1.1.1.2).1, ← (hE9 40 0 hl40.2).1]
                        have hFc : Fr QF S161 S161 := Fr.rf
                        have r5a : haR R1 item day = haR R item day + (-q) := r5 day (Int.le_refl _)
                        have r5b : haR R1 item 364 = haR R item 364 + (-q) := r5 364 hday.2
                        clear hC hK
                        refine r_goto C (tgt := 178) dL_isPosted_164 (by decide) ?_
                        refine r_istore C dL_isPosted_178 (ls1_18 rfl trivial) ?_
                        refine r_iload C dL_isPosted_180 lg_15 ?_
                        refine r_ifne C (tgt := 208) dL_isPosted_182 (by decide) (by omega) (fun c182 => ?_) (fun c182 => ?_)
                        · refine r_iload_n C dL_isPosted_208 lg_2 ?_
                          refine r_ifne C (tgt := 217) dL_isPosted_209 (by decide) (by omega) (fun c209 => ?_) (fun c209 => ?_)
                          · refine r_iload_n C dL_isPosted_217 lg_2 ?_
                            refine r_iconst C dL_isPosted_218 ?_
                            refine r_icne C (tgt := 228) dL_isPosted_219 (by decide) (by omega) (by omega) (fun c219 => ?_) (fun c219 => ?_)
                            · exfalso; omega
                            · refine r_iload C dL_isPosted_222 lg_5 ?_
                              refine r_ineg C dL_isPosted_224 ?_
                              refine r_goto C (tgt := 229) dL_isPosted_225 (by decide) ?_
                              refine r_istore C dL_isPosted_229 (ls1_19 rfl rfl) ?_
                              refine r_iload C dL_isPosted_231 lg_18 ?_
                              refine r_iload C dL_isPosted_233 lg_7 ?_
                              refine r_icne C (tgt := 353) dL_isPosted_235 (by decide) (by omega) (by omega) (fun c235 => ?_) (fun c235 => ?_)
                              · exfalso; omega
                              · refine r_aload_n C dL_isPosted_238 lg_0 ?_
                                refine q_V0I C (cZ_movements hfl hP) dL_isPosted_239 lk_L_116 hP.1.1.1 ⟨Nat.le_of_ble_eq_true rfl, Nat.le_of_ble_eq_true rfl⟩ (catLe (Nat.le_of_ble_eq_true rfl)) ⟨rfl, rfl⟩ rfl (Nat.le_of_ble_eq_true rfl) (Nat.le_of_ble_eq_true rfl) (fun z239 S239 A239 i239 p239 => ?_)
                                obtain ⟨rfl, rfl, rfl⟩ := p239
                                refine r_iload C dL_isPosted_242 lg_7 ?_
                                refine r_iconst C dL_isPosted_244 ?_
                                refine r_iadd C dL_isPosted_245 ?_
                                refine r_icne C (tgt := 353) dL_isPosted_246 (by decide) (by omega) (by omega) (fun c246 => ?_) (fun c246 => ?_)
                                · exfalso; omega
                                · refine r_aload_n C dL_isPosted_249 lg_0 ?_
                                  refine r_iload C dL_isPosted_250 lg_7 ?_
                                  refine q_V1I C (cZ_kindOf hfl hP (by omega)) dL_isPosted_252 lk_L_44 hP.1.1.1 ⟨Nat.le_of_ble_eq_true rfl, Nat.le_of_ble_eq_true rfl⟩ (catLe (Nat.le_of_ble_eq_true rfl)) ⟨rfl, rfl⟩ rfl (Nat.le_of_ble_eq_true rfl) (Nat.le_of_ble_eq_true rfl) (fun z252 S252 A252 i252 p252 => ?_)
                                  obtain ⟨rfl, rfl, rfl⟩ := p252
                                  refine r_iload_n C dL_isPosted_255 lg_2 ?_
                                  refine r_icne C (tgt := 353) dL_isPosted_256 (by decide) (by omega) (by omega) (fun c256 => ?_) (fun c256 => ?_)
                                  · exfalso; omega
                                  · refine r_aload_n C dL_isPosted_259 lg_0 ?_
                                    refine r_iload C dL_isPosted_260 lg_7 ?_
                                    refine q_V1I C (cZ_dayOf hfl hP (by omega)) dL_isPosted_262 lk_L_47 hP.1.1.1 ⟨Nat.le_of_ble_eq_true rfl, Nat.le_of_ble_eq_true rfl⟩ (catLe (Nat.le_of_ble_eq_true rfl)) ⟨rfl, rfl⟩ rfl (Nat.le_of_ble_eq_true rfl) (Nat.le_of_ble_eq_true rfl) (fun z262 S262 A262 i262 p262 => ?_)
                                    obtain ⟨rfl, rfl, rfl⟩ := p262
                                    refine r_iload_n C dL_isPosted_265 lg_3 ?_
                                    refine r_icne C (tgt := 353) dL_isPosted_266 (by decide) (by omega) (by omega) (fun c266 => ?_) (fun c266 => ?_)
                                    · exfalso; omega
                                    · refine r_aload_n C dL_isPosted_269 lg_0 ?_
                                      refine r_iload C dL_isPosted_270 lg_7 ?_
                                      refine q_V1Z C (cZ_isCancelled hfl hP (by omega)) dL_isPosted_272 lk_L_53 hP.1.1.1 ⟨Nat.le_of_ble_eq_true rfl, Nat.le_of_ble_eq_true rfl⟩ (catLe (Nat.le_of_ble_eq_true rfl)) ⟨rfl, rfl⟩ rfl (Nat.le_of_ble_eq_true rfl) (Nat.le_of_ble_eq_true rfl) (fun z272 S272 A272 i272 p272 => ?_)
                                      obtain ⟨rfl, rfl, rfl⟩ := p272
                                      refine r_ifne C (tgt := 353) dL_isPosted_275 (by decide) (by omega) (fun c275 => ?_) (fun c275 => ?_)
                                      · exfalso; omega
                                      · refine r_aload_n C dL_isPosted_278 lg_0 ?_
                                        refine r_iload C dL_isPosted_279 lg_4 ?_
                                        refine r_iload_n C dL_isPosted_281 lg_3 ?_
                                        refine q_V2I C (cZ_onHand hfl hP ⟨by omega, by omega⟩) dL_isPosted_282 lk_L_80 hP.1.1.1 ⟨Nat.le_of_ble_eq_true rfl, Nat.le_of_ble_eq_true rfl⟩ (catLe (Nat.le_of_ble_eq_true rfl)) ⟨rfl, rfl⟩ rfl (Nat.le_of_ble_eq_true rfl) (Nat.le_of_ble_eq_true rfl) (fun z282 S282 A282 i282 p282 => ?_)
                                        obtain ⟨rfl, rfl, rfl⟩ := p282
                                        refine r_iload C dL_isPosted_285 lg_8 ?_
                                        refine r_iload C dL_isPosted_287 lg_19 ?_
                                        refine r_iadd C dL_isPosted_289 ?_
                                        refine r_icne C (tgt := 353) dL_isPosted_290 (by decide) (by omega) (by omega) (fun c290 => ?_) (fun c290 => ?_)
                                        · exfalso; omega
                                        · refine r_aload_n C dL_isPosted_293 lg_0 ?_
                                          refine r_iload C dL_isPosted_294 lg_4 ?_
                                          refine r_sipush C dL_isPosted_296 (by decide) ?_
                                          refine q_V2I C (cZ_onHand hfl hP ⟨by omega, by omega⟩) dL_isPosted_299 lk_L_80 hP.1.1.1 ⟨Nat.le_of_ble_eq_true rfl, Nat.le_of_ble_eq_true rfl⟩ (catLe (Nat.le_of_ble_eq_true rfl)) ⟨rfl, rfl⟩ rfl (Nat.le_of_ble_eq_true rfl) (Nat.le_of_ble_eq_true rfl) (fun z299 S299 A299 i299 p299 => ?_)
                                          obtain ⟨rfl, rfl, rfl⟩ := p299
                                          refine r_iload C dL_isPosted_302 lg_9 ?_
                                          refine r_iload C dL_isPosted_304 lg_19 ?_
                                          refine r_iadd C dL_isPosted_306 ?_
                                          refine r_icne C (tgt := 353) dL_isPosted_307 (by decide) (by omega) (by omega) (fun c307 => ?_) (fun c307 => ?_)
                                          · exfalso; omega
                                          · refine r_aload_n C dL_isPosted_310 lg_0 ?_
                                            refine r_iload C dL_isPosted_311 lg_4 ?_
                                            refine r_iconst C dL_isPosted_313 ?_
                                            refine r_iadd C dL_isPosted_314 ?_
                                            refine r_bipush C dL_isPosted_315 (by decide) ?_
                                            refine r_irem C dL_isPosted_317 (by omega) (by omega) (by omega) (by omega) ?_
                                            refine r_sipush C dL_isPosted_318 (by decide) ?_
                                            refine q_S3J C (cQ_sight hfl hP (by omega) (by omega)) dL_isPosted_321 lk_L_128 ⟨Nat.le_of_ble_eq_true rfl, Nat.le_of_ble_eq_true rfl⟩ (catLe (Nat.le_of_ble_eq_true rfl)) ⟨rfl, rfl⟩ rfl (Nat.le_of_ble_eq_true rfl) (Nat.le_of_ble_eq_true rfl) (fun z321 S321 A321 i321 p321 => ?_)
                                            obtain ⟨rfl, rfl, hF321⟩ := p321
                                            have hP := pi_fr hP hF321
                                            have hFc := hFc.tr hF321
                                            rw [r6 ((item + 1) % 6) (by omega) 364 (by omega)]
                                            refine r_lload C dL_isPosted_324 lg_13 ?_
                                            refine r_lcne C (tgt := 353) dL_isPosted_326 dL_isPosted_327 (by decide) (wL_r _) (wL_r _) (fun c326 => ?_) (fun c326 => ?_)
                                            · exfalso; omega
                                            · refine r_iload_n C dL_isPosted_330 lg_3 ?_
                                              refine r_ifeq C (tgt := 349) dL_isPosted_331 (by decide) (by omega) (fun c331 => ?_) (fun c331 => ?_)
                                              · refine r_iconst C dL_isPosted_349 ?_
                                                refine r_goto C (tgt := 354) dL_isPosted_350 (by decide) ?_
                                                exact f_Z F dL_isPosted_354 (by omega) ⟨rfl, hE9, R1, pl_fr hL1 hFc⟩ (Nat.le_of_ble_eq_true rfl) (Nat.le_of_ble_eq_true rfl)
                                              · refine r_aload_n C dL_isPosted_334 lg_0 ?_
                                                refine r_iload C dL_isPosted_335 lg_4 ?_
                                                refine r_iload_n C dL_isPosted_337 lg_3 ?_
                                                refine r_iconst C dL_isPosted_338 ?_
                                                refine r_isub C dL_isPosted_339 ?_
                                                refine q_S3J C (cQ_past hfl hP (by omega) (by omega)) dL_isPosted_340 lk_L_170 ⟨Nat.le_of_ble_eq_true rfl, Nat.le_of_ble_eq_true rfl⟩ (catLe (Nat.le_of_ble_eq_true rfl)) ⟨rfl, rfl⟩ rfl (Nat.le_of_ble_eq_true rfl) (Nat.le_of_ble_eq_true rfl) (fun z340 S340 A340 i340 p340 => ?_)
                                                obtain ⟨rfl, rfl, hF340⟩ := p340
                                                have hP := pi_fr hP hF340
                                                have hFc := hFc.tr hF340
                                                rw [r7 item (day - 1) (by omega) (by omega)]
                                                refine r_lload C dL_isPosted_343 lg_11 ?_
                                                refine r_lcne C (tgt := 353) dL_isPosted_345 dL_isPosted_346 (by decide) (by first | exact wL_r _ | omega) (by first | exact wL_r _ | omega) (fun c345 => ?_) (fun c345 => ?_)
                                                · exfalso; omega
                                                · refine r_iconst C dL_isPosted_349 ?_
                                                  refine r_goto C (tgt := 354) dL_isPosted_350 (by decide) ?_
                                                  exact f_Z F dL_isPosted_354 (by omega) ⟨rfl, hE9, R1, pl_fr hL1 hFc⟩ (Nat.le_of_ble_eq_true rfl) (Nat.le_of_ble_eq_true rfl)
                          · exfalso; omega
                        · exfalso; omega
                    · exfalso; omega
      · refine r_lconst C dL_isPosted_39 0 rfl ?_
        refine r_goto C (tgt := 52) dL_isPosted_40 (by decide) ?_
        refine r_lstore C dL_isPosted_52 (ls2_11 rfl rfl) ?_
        refine r_aload_n C dL_isPosted_54 lg_0 ?_
        refine r_iload C dL_isPosted_55 lg_4 ?_
        refine r_iconst C dL_isPosted_57 ?_
        refine r_iadd C dL_isPosted_58 ?_
        refine r_bipush C dL_isPosted_59 (by decide) ?_
        refine r_irem C dL_isPosted_61 (by omega) (by omega) (by omega) (by omega) ?_
        refine r_sipush C dL_isPosted_62 (by decide) ?_
        refine q_S3J C (cQ_sight hfl hP (by omega) (by omega)) dL_isPosted_65 lk_L_128 ⟨Nat.le_of_ble_eq_true rfl, Nat.le_of_ble_eq_true rfl⟩ (catLe (Nat.le_of_ble_eq_true rfl)) ⟨rfl, rfl⟩ rfl (Nat.le_of_ble_eq_true rfl) (Nat.le_of_ble_eq_true rfl) (fun z65 S65 A65 i65 p65 => ?_)
        obtain ⟨rfl, rfl, hF65⟩ := p65
        have hP := pi_fr hP hF65
        have hFc := hFc.tr hF65
        refine r_lstore C dL_isPosted_68 (ls2_13 rfl trivial) ?_
        refine r_iload_n C dL_isPosted_70 lg_3 ?_
        refine r_aload_n C dL_isPosted_71 lg_1 ?_
        refine r_iconst C dL_isPosted_72 ?_
        refine r_iald C (N := 1) 1280 dL_isPosted_73 (by decide) rfl rfl hl40 (by omega) (by omega) (by omega) (fun g73 => ?_)
        rw [hFc 1280 0 (by decide), hp0.1]
        refine r_icle C (tgt := 114) dL_isPosted_74 (by decide) (by omega) (by omega) (fun c74 => ?_) (fun c74 => ?_)
        · exfalso; omega
        · refine r_iload C dL_isPosted_77 lg_7 ?_
          refine r_bipush C dL_isPosted_79 (by decide) ?_
          refine r_icge C (tgt := 114) dL_isPosted_81 (by decide) (by omega) (by omega) (fun c81 => ?_) (fun c81 => ?_)
          · exfalso; omega
          · refine r_iload_n C dL_isPosted_84 lg_2 ?_
            refine r_ifeq C (tgt := 110) dL_isPosted_85 (by decide) (by omega) (fun c85 => ?_) (fun c85 => ?_)
            · exfalso; omega
            · refine r_iload_n C dL_isPosted_88 lg_2 ?_
              refine r_iconst C dL_isPosted_89 ?_
              refine r_icne C (tgt := 103) dL_isPosted_90 (by decide) (by omega) (by omega) (fun c90 => ?_) (fun c90 => ?_)
              · exfalso; omega
              · refine r_iload C dL_isPosted_93 lg_5 ?_
                refine r_iload C dL_isPosted_95 lg_10 ?_
                refine r_icgt C (tgt := 114) dL_isPosted_97 (by decide) (by omega) (by omega) (fun c97 => ?_) (fun c97 => ?_)
                · exfalso; omega
                · refine r_goto C (tgt := 110) dL_isPosted_100 (by decide) ?_
                  refine r_iconst C dL_isPosted_110 ?_
                  refine r_goto C (tgt := 115) dL_isPosted_111 (by decide) ?_
                  refine r_istore C dL_isPosted_115 (ls1_15 rfl trivial) ?_
                  refine r_iload C dL_isPosted_117 lg_15 ?_
                  refine r_ifeq C (tgt := 126) dL_isPosted_119 (by decide) (by omega) (fun c119 => ?_) (fun c119 => ?_)
                  · exfalso; omega
                  · refine r_lconst C dL_isPosted_122 0 rfl ?_
                    refine r_goto C (tgt := 130) dL_isPosted_123 (by decide) ?_
                    refine r_lstore C dL_isPosted_130 (ls2_16 rfl rfl) ?_
                    refine r_iload_n C dL_isPosted_132 lg_2 ?_
                    refine r_ifne C (tgt := 150) dL_isPosted_133 (by decide) (by omega) (fun c133 => ?_) (fun c133 => ?_)
                    · refine r_iload_n C dL_isPosted_150 lg_2 ?_
                      refine r_iconst C dL_isPosted_151 ?_
                      refine r_icne C (tgt := 167) dL_isPosted_152 (by decide) (by omega) (by omega) (fun c152 => ?_) (fun c152 => ?_)
                      · exfalso; omega
                      · refine r_aload_n C dL_isPosted_155 lg_0 ?_
                        refine r_iload_n C dL_isPosted_156 lg_3 ?_
                        refine r_iload C dL_isPosted_157 lg_4 ?_
                        refine r_iload C dL_isPosted_159 lg_5 ?_
                        refine r_W4I C (cQ_issue hfl hP (by omega) (by omega) (by omega)) dL_isPosted_161 lk_L_153 ⟨Nat.le_of_ble_eq_true rfl, Nat.le_of_ble_eq_true rfl⟩ (catLe (Nat.le_of_ble_eq_true rfl)) 8 51 ⟨rfl, rfl⟩ (Nat.le_of_ble_eq_true rfl) (Nat.le_of_ble_eq_true rfl) (fun _ _ _ h9 => h9.elim) (fun z161 S161 A161 i161 p161 => ?_)
                        obtain h161 := p161
                        have h198 := hFc 198 0 (by decide)
                        have h197 := hP.1.2.2.1.1
                        obtain ⟨rfl, hK, hC⟩ := acc7 p161 ⟨hak, hq⟩ ⟨⟨by omega, by omega⟩, hok.2.2⟩
                        obtain ⟨R1, hL1, r1, r2, r3, r4, r5, r6, r7⟩ := post_ok (pl_fr hL hFc) (by omega) (by omega) hak hq (by omega) hok.2.1 ((V_iss hn hV9).mpr hok.2.2) hK hC
                        have hE9 := hC.1
                        have hP := hL1.1
                        rw [← (hE9 6 0 hL.1.1.1.1.2).1, ← (hE9 40 0 hl40.2).1]
                        have hFc : Fr QF S161 S161 := Fr.rf
                        have r5a : haR R1 item day = haR R item day + (-q) := r5 day (Int.le_refl _)
                        have r5b : haR R1 item 364 = haR R item 364 + (-q) := r5 364 hday.2
                        clear hC hK
                        refine r_goto C (tgt := 178) dL_isPosted_164 (by decide) ?_
                        refine r_istore C dL_isPosted_178 (ls1_18 rfl trivial) ?_
                        refine r_iload C dL_isPosted_180 lg_15 ?_
                        refine r_ifne C (tgt := 208) dL_isPosted_182 (by decide) (by omega) (fun c182 => ?_) (fun c182 => ?_)
                        · refine r_iload_n C dL_isPosted_208 lg_2 ?_
                          refine r_ifne C (tgt := 217) dL_isPosted_209 (by decide) (by omega) (fun c209 => ?_) (fun c209 => ?_)
                          · refine r_iload_n C dL_isPosted_217 lg_2 ?_
                            refine r_iconst C dL_isPosted_218 ?_
                            refine r_icne C (tgt := 228) dL_isPosted_219 (by decide) (by omega) (by omega) (fun c219 => ?_) (fun c219 => ?_)
                            · exfalso; omega
                            · refine r_iload C dL_isPosted_222 lg_5 ?_
                              refine r_ineg C dL_isPosted_224 ?_
                              refine r_goto C (tgt := 229) dL_isPosted_225 (by decide) ?_
                              refine r_istore C dL_isPosted_229 (ls1_19 rfl rfl) ?_
                              refine r_iload C dL_isPosted_231 lg_18 ?_
                              refine r_iload C dL_isPosted_233 lg_7 ?_
                              refine r_icne C (tgt := 353) dL_isPosted_235 (by decide) (by omega) (by omega) (fun c235 => ?_) (fun c235 => ?_)
                              · exfalso; omega
                              · refine r_aload_n C dL_isPosted_238 lg_0 ?_
                                refine q_V0I C (cZ_movements hfl hP) dL_isPosted_239 lk_L_116 hP.1.1.1 ⟨Nat.le_of_ble_eq_true rfl, Nat.le_of_ble_eq_true rfl⟩ (catLe (Nat.le_of_ble_eq_true rfl)) ⟨rfl, rfl⟩ rfl (Nat.le_of_ble_eq_true rfl) (Nat.le_of_ble_eq_true rfl) (fun z239 S239 A239 i239 p239 => ?_)
                                obtain ⟨rfl, rfl, rfl⟩ := p239
                                refine r_iload C dL_isPosted_242 lg_7 ?_
                                refine r_iconst C dL_isPosted_244 ?_
                                refine r_iadd C dL_isPosted_245 ?_
                                refine r_icne C (tgt := 353) dL_isPosted_246 (by decide) (by omega) (by omega) (fun c246 => ?_) (fun c246 => ?_)
                                · exfalso; omega
                                · refine r_aload_n C dL_isPosted_249 lg_0 ?_
                                  refine r_iload C dL_isPosted_250 lg_7 ?_
                                  refine q_V1I C (cZ_kindOf hfl hP (by omega)) dL_isPosted_252 lk_L_44 hP.1.1.1 ⟨Nat.le_of_ble_eq_true rfl, Nat.le_of_ble_eq_true rfl⟩ (catLe (Nat.le_of_ble_eq_true rfl)) ⟨rfl, rfl⟩ rfl (Nat.le_of_ble_eq_true rfl) (Nat.le_of_ble_eq_true rfl) (fun z252 S252 A252 i252 p252 => ?_)
                                  obtain ⟨rfl, rfl, rfl⟩ := p252
                                  refine r_iload_n C dL_isPosted_255 lg_2 ?_
                                  refine r_icne C (tgt := 353) dL_isPosted_256 (by decide) (by omega) (by omega) (fun c256 => ?_) (fun c256 => ?_)
                                  · exfalso; omega
                                  · refine r_aload_n C dL_isPosted_259 lg_0 ?_
                                    refine r_iload C dL_isPosted_260 lg_7 ?_
                                    refine q_V1I C (cZ_dayOf hfl hP (by omega)) dL_isPosted_262 lk_L_47 hP.1.1.1 ⟨Nat.le_of_ble_eq_true rfl, Nat.le_of_ble_eq_true rfl⟩ (catLe (Nat.le_of_ble_eq_true rfl)) ⟨rfl, rfl⟩ rfl (Nat.le_of_ble_eq_true rfl) (Nat.le_of_ble_eq_true rfl) (fun z262 S262 A262 i262 p262 => ?_)
                                    obtain ⟨rfl, rfl, rfl⟩ := p262
                                    refine r_iload_n C dL_isPosted_265 lg_3 ?_
                                    refine r_icne C (tgt := 353) dL_isPosted_266 (by decide) (by omega) (by omega) (fun c266 => ?_) (fun c266 => ?_)
                                    · exfalso; omega
                                    · refine r_aload_n C dL_isPosted_269 lg_0 ?_
                                      refine r_iload C dL_isPosted_270 lg_7 ?_
                                      refine q_V1Z C (cZ_isCancelled hfl hP (by omega)) dL_isPosted_272 lk_L_53 hP.1.1.1 ⟨Nat.le_of_ble_eq_true rfl, Nat.le_of_ble_eq_true rfl⟩ (catLe (Nat.le_of_ble_eq_true rfl)) ⟨rfl, rfl⟩ rfl (Nat.le_of_ble_eq_true rfl) (Nat.le_of_ble_eq_true rfl) (fun z272 S272 A272 i272 p272 => ?_)
                                      obtain ⟨rfl, rfl, rfl⟩ := p272
                                      refine r_ifne C (tgt := 353) dL_isPosted_275 (by decide) (by omega) (fun c275 => ?_) (fun c275 => ?_)
                                      · exfalso; omega
                                      · refine r_aload_n C dL_isPosted_278 lg_0 ?_
                                        refine r_iload C dL_isPosted_279 lg_4 ?_
                                        refine r_iload_n C dL_isPosted_281 lg_3 ?_
                                        refine q_V2I C (cZ_onHand hfl hP ⟨by omega, by omega⟩) dL_isPosted_282 lk_L_80 hP.1.1.1 ⟨Nat.le_of_ble_eq_true rfl, Nat.le_of_ble_eq_true rfl⟩ (catLe (Nat.le_of_ble_eq_true rfl)) ⟨rfl, rfl⟩ rfl (Nat.le_of_ble_eq_true rfl) (Nat.le_of_ble_eq_true rfl) (fun z282 S282 A282 i282 p282 => ?_)
                                        obtain ⟨rfl, rfl, rfl⟩ := p282
                                        refine r_iload C dL_isPosted_285 lg_8 ?_
                                        refine r_iload C dL_isPosted_287 lg_19 ?_
                                        refine r_iadd C dL_isPosted_289 ?_
                                        refine r_icne C (tgt := 353) dL_isPosted_290 (by decide) (by omega) (by omega) (fun c290 => ?_) (fun c290 => ?_)
                                        · exfalso; omega
                                        · refine r_aload_n C dL_isPosted_293 lg_0 ?_
                                          refine r_iload C dL_isPosted_294 lg_4 ?_
                                          refine r_sipush C dL_isPosted_296 (by decide) ?_
                                          refine q_V2I C (cZ_onHand hfl hP ⟨by omega, by omega⟩) dL_isPosted_299 lk_L_80 hP.1.1.1 ⟨Nat.le_of_ble_eq_true rfl, Nat.le_of_ble_eq_true rfl⟩ (catLe (Nat.le_of_ble_eq_true rfl)) ⟨rfl, rfl⟩ rfl (Nat.le_of_ble_eq_true rfl) (Nat.le_of_ble_eq_true rfl) (fun z299 S299 A299 i299 p299 => ?_)
                                          obtain ⟨rfl, rfl, rfl⟩ := p299
                                          refine r_iload C dL_isPosted_302 lg_9 ?_
                                          refine r_iload C dL_isPosted_304 lg_19 ?_
                                          refine r_iadd C dL_isPosted_306 ?_
                                          refine r_icne C (tgt := 353) dL_isPosted_307 (by decide) (by omega) (by omega) (fun c307 => ?_) (fun c307 => ?_)
                                          · exfalso; omega
                                          · refine r_aload_n C dL_isPosted_310 lg_0 ?_
                                            refine r_iload C dL_isPosted_311 lg_4 ?_
                                            refine r_iconst C dL_isPosted_313 ?_
                                            refine r_iadd C dL_isPosted_314 ?_
                                            refine r_bipush C dL_isPosted_315 (by decide) ?_
                                            refine r_irem C dL_isPosted_317 (by omega) (by omega) (by omega) (by omega) ?_
                                            refine r_sipush C dL_isPosted_318 (by decide) ?_
                                            refine q_S3J C (cQ_sight hfl hP (by omega) (by omega)) dL_isPosted_321 lk_L_128 ⟨Nat.le_of_ble_eq_true rfl, Nat.le_of_ble_eq_true rfl⟩ (catLe (Nat.le_of_ble_eq_true rfl)) ⟨rfl, rfl⟩ rfl (Nat.le_of_ble_eq_true rfl) (Nat.le_of_ble_eq_true rfl) (fun z321 S321 A321 i321 p321 => ?_)
                                            obtain ⟨rfl, rfl, hF321⟩ := p321
                                            have hP := pi_fr hP hF321
                                            have hFc := hFc.tr hF321
                                            rw [r6 ((item + 1) % 6) (by omega) 364 (by omega)]
                                            refine r_lload C dL_isPosted_324 lg_13 ?_
                                            refine r_lcne C (tgt := 353) dL_isPosted_326 dL_isPosted_327 (by decide) (wL_r _) (wL_r _) (fun c326 => ?_) (fun c326 => ?_)
                                            · exfalso; omega
                                            · refine r_iload_n C dL_isPosted_330 lg_3 ?_
                                              refine r_ifeq C (tgt := 349) dL_isPosted_331 (by decide) (by omega) (fun c331 => ?_) (fun c331 => ?_)
                                              · refine r_iconst C dL_isPosted_349 ?_
                                                refine r_goto C (tgt := 354) dL_isPosted_350 (by decide) ?_
                                                exact f_Z F dL_isPosted_354 (by omega) ⟨rfl, hE9, R1, pl_fr hL1 hFc⟩ (Nat.le_of_ble_eq_true rfl) (Nat.le_of_ble_eq_true rfl)
                                              · refine r_aload_n C dL_isPosted_334 lg_0 ?_
                                                refine r_iload C dL_isPosted_335 lg_4 ?_
                                                refine r_iload_n C dL_isPosted_337 lg_3 ?_
                                                refine r_iconst C dL_isPosted_338 ?_
                                                refine r_isub C dL_isPosted_339 ?_
                                                refine q_S3J C (cQ_past hfl hP (by omega) (by omega)) dL_isPosted_340 lk_L_170 ⟨Nat.le_of_ble_eq_true rfl, Nat.le_of_ble_eq_true rfl⟩ (catLe (Nat.le_of_ble_eq_true rfl)) ⟨rfl, rfl⟩ rfl (Nat.le_of_ble_eq_true rfl) (Nat.le_of_ble_eq_true rfl) (fun z340 S340 A340 i340 p340 => ?_)
                                                obtain ⟨rfl, rfl, hF340⟩ := p340
                                                have hP := pi_fr hP hF340
                                                have hFc := hFc.tr hF340
                                                rw [r7 item (day - 1) (by omega) (by omega)]
                                                refine r_lload C dL_isPosted_343 lg_11 ?_
                                                refine r_lcne C (tgt := 353) dL_isPosted_345 dL_isPosted_346 (by decide) (by first | exact wL_r _ | omega) (by first | exact wL_r _ | omega) (fun c345 => ?_) (fun c345 => ?_)
                                                · exfalso; omega
                                                · refine r_iconst C dL_isPosted_349 ?_
                                                  refine r_goto C (tgt := 354) dL_isPosted_350 (by decide) ?_
                                                  exact f_Z F dL_isPosted_354 (by omega) ⟨rfl, hE9, R1, pl_fr hL1 hFc⟩ (Nat.le_of_ble_eq_true rfl) (Nat.le_of_ble_eq_true rfl)
                          · exfalso; omega
                        · exfalso; omega
                    · exfalso; omega
    · skip
      refine r_aload_n C dL_isPosted_0 lg_0 ?_
      refine q_V0I C (cZ_movements hfl hP) dL_isPosted_1 lk_L_116 hP.1.1.1 ⟨Nat.le_of_ble_eq_true rfl, Nat.le_of_ble_eq_true rfl⟩ (catLe (Nat.le_of_ble_eq_true rfl)) ⟨rfl, rfl⟩ rfl (Nat.le_of_ble_eq_true rfl) (Nat.le_of_ble_eq_true rfl) (fun z1 S1 A1 i1 p1 => ?_)
      obtain ⟨rfl, rfl, rfl⟩ := p1
      refine r_istore C dL_isPosted_4 (ls1_7 rfl rfl) ?_
      refine r_aload_n C dL_isPosted_6 lg_0 ?_
      refine r_iload C dL_isPosted_7 lg_4 ?_
      refine r_iload_n C dL_isPosted_9 lg_3 ?_
      refine q_V2I C (cZ_onHand hfl hP ⟨by omega, by omega⟩) dL_isPosted_10 lk_L_80 hP.1.1.1 ⟨Nat.le_of_ble_eq_true rfl, Nat.le_of_ble_eq_true rfl⟩ (catLe (Nat.le_of_ble_eq_true rfl)) ⟨rfl, rfl⟩ rfl (Nat.le_of_ble_eq_true rfl) (Nat.le_of_ble_eq_true rfl) (fun z10 S10 A10 i10 p10 => ?_)
      obtain ⟨rfl, rfl, rfl⟩ := p10
      refine r_istore C dL_isPosted_13 (ls1_8 rfl rfl) ?_
      refine r_aload_n C dL_isPosted_15 lg_0 ?_
      refine r_iload C dL_isPosted_16 lg_4 ?_
      refine r_sipush C dL_isPosted_18 (by decide) ?_
      refine q_V2I C (cZ_onHand hfl hP ⟨by omega, by omega⟩) dL_isPosted_21 lk_L_80 hP.1.1.1 ⟨Nat.le_of_ble_eq_true rfl, Nat.le_of_ble_eq_true rfl⟩ (catLe (Nat.le_of_ble_eq_true rfl)) ⟨rfl, rfl⟩ rfl (Nat.le_of_ble_eq_true rfl) (Nat.le_of_ble_eq_true rfl) (fun z21 S21 A21 i21 p21 => ?_)
      obtain ⟨rfl, rfl, rfl⟩ := p21
      refine r_istore C dL_isPosted_24 (ls1_9 rfl rfl) ?_
      refine r_aload_n C dL_isPosted_26 lg_0 ?_
      refine r_iload C dL_isPosted_27 lg_4 ?_
      refine r_iload_n C dL_isPosted_29 lg_3 ?_
      refine q_V2I C (cZ_available hfl hP ⟨by omega, by omega⟩) dL_isPosted_30 lk_L_83 hP.1.1.1 ⟨Nat.le_of_ble_eq_true rfl, Nat.le_of_ble_eq_true rfl⟩ (catLe (Nat.le_of_ble_eq_true rfl)) ⟨rfl, rfl⟩ rfl (Nat.le_of_ble_eq_true rfl) (Nat.le_of_ble_eq_true rfl) (fun z30 S30 A30 i30 p30 => ?_)
      obtain ⟨rfl, rfl, rfl⟩ := p30
      refine r_istore C dL_isPosted_33 (ls1_10 rfl rfl) ?_
      refine r_iload_n C dL_isPosted_35 lg_3 ?_
      refine r_ifne C (tgt := 43) dL_isPosted_36 (by decide) (by omega) (fun c36 => ?_) (fun c36 => ?_)
      · refine r_aload_n C dL_isPosted_43 lg_0 ?_
        refine r_iload C dL_isPosted_44 lg_4 ?_
        refine r_iload_n C dL_isPosted_46 lg_3 ?_
        refine r_iconst C dL_isPosted_47 ?_
        refine r_isub C dL_isPosted_48 ?_
        refine q_S3J C (cQ_past hfl hP (by omega) (by omega)) dL_isPosted_49 lk_L_170 ⟨Nat.le_of_ble_eq_true rfl, Nat.le_of_ble_eq_true rfl⟩ (catLe (Nat.le_of_ble_eq_true rfl)) ⟨rfl, rfl⟩ rfl (Nat.le_of_ble_eq_true rfl) (Nat.le_of_ble_eq_true rfl) (fun z49 S49 A49 i49 p49 => ?_)
        obtain ⟨rfl, rfl, hF49⟩ := p49
        have hP := pi_fr hP hF49
        have hFc := hFc.tr hF49
        refine r_lstore C dL_isPosted_52 (ls2_11 rfl rfl) ?_
        refine r_aload_n C dL_isPosted_54 lg_0 ?_
        refine r_iload C dL_isPosted_55 lg_4 ?_
        refine r_iconst C dL_isPosted_57 ?_
        refine r_iadd C dL_isPosted_58 ?_
        refine r_bipush C dL_isPosted_59 (by decide) ?_
        refine r_irem C dL_isPosted_61 (by omega) (by omega) (by omega) (by omega) ?_
        refine r_sipush C dL_isPosted_62 (by decide) ?_
        refine q_S3J C (cQ_sight hfl hP (by omega) (by omega)) dL_isPosted_65 lk_L_128 ⟨Nat.le_of_ble_eq_true rfl, Nat.le_of_ble_eq_true rfl⟩ (catLe (Nat.le_of_ble_eq_true rfl)) ⟨rfl, rfl⟩ rfl (Nat.le_of_ble_eq_true rfl) (Nat.le_of_ble_eq_true rfl) (fun z65 S65 A65 i65 p65 => ?_)
        obtain ⟨rfl, rfl, hF65⟩ := p65
        have hP := pi_fr hP hF65
        have hFc := hFc.tr hF65
        refine r_lstore C dL_isPosted_68 (ls2_13 rfl trivial) ?_
        refine r_iload_n C dL_isPosted_70 lg_3 ?_
        refine r_aload_n C dL_isPosted_71 lg_1 ?_
        refine r_iconst C dL_isPosted_72 ?_
        refine r_iald C (N := 1) 1280 dL_isPosted_73 (by decide) rfl rfl hl40 (by omega) (by omega) (by omega) (fun g73 => ?_)
        rw [hFc 1280 0 (by decide), hp0.1]
        refine r_icle C (tgt := 114) dL_isPosted_74 (by decide) (by omega) (by omega) (fun c74 => ?_) (fun c74 => ?_)
        · refine r_iconst C dL_isPosted_114 ?_
          refine r_istore C dL_isPosted_115 (ls1_15 rfl trivial) ?_
          refine r_iload C dL_isPosted_117 lg_15 ?_
          refine r_ifeq C (tgt := 126) dL_isPosted_119 (by decide) (by omega) (fun c119 => ?_) (fun c119 => ?_)
          · refine r_aload_n C dL_isPosted_126 lg_0 ?_
            refine q_S1J C (cQ_all hfl hP) dL_isPosted_127 lk_L_146 ⟨Nat.le_of_ble_eq_true rfl, Nat.le_of_ble_eq_true rfl⟩ (catLe (Nat.le_of_ble_eq_true rfl)) ⟨rfl, rfl⟩ rfl (Nat.le_of_ble_eq_true rfl) (Nat.le_of_ble_eq_true rfl) (fun z127 S127 A127 i127 p127 => ?_)
            obtain ⟨rfl, rfl, hF127⟩ := p127
            have hP := pi_fr hP hF127
            have hFc := hFc.tr hF127
            refine r_lstore C dL_isPosted_130 (ls2_16 rfl rfl) ?_
            refine r_iload_n C dL_isPosted_132 lg_2 ?_
            refine r_ifne C (tgt := 150) dL_isPosted_133 (by decide) (by omega) (fun c133 => ?_) (fun c133 => ?_)
            · refine r_iload_n C dL_isPosted_150 lg_2 ?_
              refine r_iconst C dL_isPosted_151 ?_
              refine r_icne C (tgt := 167) dL_isPosted_152 (by decide) (by omega) (by omega) (fun c152 => ?_) (fun c152 => ?_)
              · exfalso; omega
              · refine r_aload_n C dL_isPosted_155 lg_0 ?_
                refine r_iload_n C dL_isPosted_156 lg_3 ?_
                refine r_iload C dL_isPosted_157 lg_4 ?_
                refine r_iload C dL_isPosted_159 lg_5 ?_
                refine r_W4I C (cQ_issue hfl hP (by omega) (by omega) (by omega)) dL_isPosted_161 lk_L_153 ⟨Nat.le_of_ble_eq_true rfl, Nat.le_of_ble_eq_true rfl⟩ (catLe (Nat.le_of_ble_eq_true rfl)) 8 51 ⟨rfl, rfl⟩ (Nat.le_of_ble_eq_true rfl) (Nat.le_of_ble_eq_true rfl) (fun _ _ _ h9 => h9.elim) (fun z161 S161 A161 i161 p161 => ?_)
                obtain h161 := p161
                have h198 := hFc 198 0 (by decide)
                have h197 := hP.1.2.2.1.1
                obtain ⟨rfl, rfl, rfl⟩ := ref7 p161 ⟨hak, hq⟩ (fun q9 => hok ⟨by have := q9.1.1; omega, by have := q9.1.2; omega, q9.2⟩)
                refine r_goto C (tgt := 178) dL_isPosted_164 (by decide) ?_
                refine r_istore C dL_isPosted_178 (ls1_18 rfl trivial) ?_
                refine r_iload C dL_isPosted_180 lg_15 ?_
                refine r_ifne C (tgt := 208) dL_isPosted_182 (by decide) (by omega) (fun c182 => ?_) (fun c182 => ?_)
                · exfalso; omega
                · refine r_iload C dL_isPosted_185 lg_18 ?_
                  refine r_bipush C dL_isPosted_187 (by decide) ?_
                  refine r_icne C (tgt := 206) dL_isPosted_189 (by decide) (by omega) (by omega) (fun c189 => ?_) (fun c189 => ?_)
                  · exfalso; omega
                  · refine r_aload_n C dL_isPosted_192 lg_0 ?_
                    refine q_S1J C (cQ_all hfl hP) dL_isPosted_193 lk_L_146 ⟨Nat.le_of_ble_eq_true rfl, Nat.le_of_ble_eq_true rfl⟩ (catLe (Nat.le_of_ble_eq_true rfl)) ⟨rfl, rfl⟩ rfl (Nat.le_of_ble_eq_true rfl) (Nat.le_of_ble_eq_true rfl) (fun z193 S193 A193 i193 p193 => ?_)
                    obtain ⟨rfl, rfl, hF193⟩ := p193
                    have hP := pi_fr hP hF193
                    have hFc := hFc.tr hF193
                    refine r_lload C dL_isPosted_196 lg_16 ?_
                    refine r_lcne C (tgt := 206) dL_isPosted_198 dL_isPosted_199 (by decide) (wL_r _) (wL_r _) (fun c198 => ?_) (fun c198 => ?_)
                    · exfalso; omega
                    · refine r_iconst C dL_isPosted_202 ?_
                      refine r_goto C (tgt := 207) dL_isPosted_203 (by decide) ?_
                      exact f_Z F dL_isPosted_207 (by omega) ⟨rfl, AE.rf, R, pl_fr hL hFc⟩ (Nat.le_of_ble_eq_true rfl) (Nat.le_of_ble_eq_true rfl)
            · exfalso; omega
          · exfalso; omega
        · refine r_iload C dL_isPosted_77 lg_7 ?_
          refine r_bipush C dL_isPosted_79 (by decide) ?_
          refine r_icge C (tgt := 114) dL_isPosted_81 (by decide) (by omega) (by omega) (fun c81 => ?_) (fun c81 => ?_)
          · refine r_iconst C dL_isPosted_114 ?_
            refine r_istore C dL_isPosted_115 (ls1_15 rfl trivial) ?_
            refine r_iload C dL_isPosted_117 lg_15 ?_
            refine r_ifeq C (tgt := 126) dL_isPosted_119 (by decide) (by omega) (fun c119 => ?_) (fun c119 => ?_)
            · refine r_aload_n C dL_isPosted_126 lg_0 ?_
              refine q_S1J C (cQ_all hfl hP) dL_isPosted_127 lk_L_146 ⟨Nat.le_of_ble_eq_true rfl, Nat.le_of_ble_eq_true rfl⟩ (catLe (Nat.le_of_ble_eq_true rfl)) ⟨rfl, rfl⟩ rfl (Nat.le_of_ble_eq_true rfl) (Nat.le_of_ble_eq_true rfl) (fun z127 S127 A127 i127 p127 => ?_)
              obtain ⟨rfl, rfl, hF127⟩ := p127
              have hP := pi_fr hP hF127
              have hFc := hFc.tr hF127
              refine r_lstore C dL_isPosted_130 (ls2_16 rfl rfl) ?_
              refine r_iload_n C dL_isPosted_132 lg_2 ?_
              refine r_ifne C (tgt := 150) dL_isPosted_133 (by decide) (by omega) (fun c133 => ?_) (fun c133 => ?_)
              · refine r_iload_n C dL_isPosted_150 lg_2 ?_
                refine r_iconst C dL_isPosted_151 ?_
                refine r_icne C (tgt := 167) dL_isPosted_152 (by decide) (by omega) (by omega) (fun c152 => ?_) (fun c152 => ?_)
                · exfalso; omega
                · refine r_aload_n C dL_isPosted_155 lg_0 ?_
                  refine r_iload_n C dL_isPosted_156 lg_3 ?_
                  refine r_iload C dL_isPosted_157 lg_4 ?_
                  refine r_iload C dL_isPosted_159 lg_5 ?_
                  refine r_W4I C (cQ_issue hfl hP (by omega) (by omega) (by omega)) dL_isPosted_161 lk_L_153 ⟨Nat.le_of_ble_eq_true rfl, Nat.le_of_ble_eq_true rfl⟩ (catLe (Nat.le_of_ble_eq_true rfl)) 8 51 ⟨rfl, rfl⟩ (Nat.le_of_ble_eq_true rfl) (Nat.le_of_ble_eq_true rfl) (fun _ _ _ h9 => h9.elim) (fun z161 S161 A161 i161 p161 => ?_)
                  obtain h161 := p161
                  have h198 := hFc 198 0 (by decide)
                  have h197 := hP.1.2.2.1.1
                  obtain ⟨rfl, rfl, rfl⟩ := ref7 p161 ⟨hak, hq⟩ (fun q9 => hok ⟨by have := q9.1.1; omega, by have := q9.1.2; omega, q9.2⟩)
                  refine r_goto C (tgt := 178) dL_isPosted_164 (by decide) ?_
                  refine r_istore C dL_isPosted_178 (ls1_18 rfl trivial) ?_
                  refine r_iload C dL_isPosted_180 lg_15 ?_
                  refine r_ifne C (tgt := 208) dL_isPosted_182 (by decide) (by omega) (fun c182 => ?_) (fun c182 => ?_)
                  · exfalso; omega
                  · refine r_iload C dL_isPosted_185 lg_18 ?_
                    refine r_bipush C dL_isPosted_187 (by decide) ?_
                    refine r_icne C (tgt := 206) dL_isPosted_189 (by decide) (by omega) (by omega) (fun c189 => ?_) (fun c189 => ?_)
                    · exfalso; omega
                    · refine r_aload_n C dL_isPosted_192 lg_0 ?_
                      refine q_S1J C (cQ_all hfl hP) dL_isPosted_193 lk_L_146 ⟨Nat.le_of_ble_eq_true rfl, Nat.le_of_ble_eq_true rfl⟩ (catLe (Nat.le_of_ble_eq_true rfl)) ⟨rfl, rfl⟩ rfl (Nat.le_of_ble_eq_true rfl) (Nat.le_of_ble_eq_true rfl) (fun z193 S193 A193 i193 p193 => ?_)
                      obtain ⟨rfl, rfl, hF193⟩ := p193
                      have hP := pi_fr hP hF193
                      have hFc := hFc.tr hF193
                      refine r_lload C dL_isPosted_196 lg_16 ?_
                      refine r_lcne C (tgt := 206) dL_isPosted_198 dL_isPosted_199 (by decide) (wL_r _) (wL_r _) (fun c198 => ?_) (fun c198 => ?_)
                      · exfalso; omega
                      · refine r_iconst C dL_isPosted_202 ?_
                        refine r_goto C (tgt := 207) dL_isPosted_203 (by decide) ?_
                        exact f_Z F dL_isPosted_207 (by omega) ⟨rfl, AE.rf, R, pl_fr hL hFc⟩ (Nat.le_of_ble_eq_true rfl) (Nat.le_of_ble_eq_true rfl)
              · exfalso; omega
            · exfalso; omega
          · refine r_iload_n C dL_isPosted_84 lg_2 ?_
            refine r_ifeq C (tgt := 110) dL_isPosted_85 (by decide) (by omega) (fun c85 => ?_) (fun c85 => ?_)
            · exfalso; omega
            · refine r_iload_n C dL_isPosted_88 lg_2 ?_
              refine r_iconst C dL_isPosted_89 ?_
              refine r_icne C (tgt := 103) dL_isPosted_90 (by decide) (by omega) (by omega) (fun c90 => ?_) (fun c90 => ?_)
              · exfalso; omega
              · refine r_iload C dL_isPosted_93 lg_5 ?_
                refine r_iload C dL_isPosted_95 lg_10 ?_
                refine r_icgt C (tgt := 114) dL_isPosted_97 (by decide) (by omega) (by omega) (fun c97 => ?_) (fun c97 => ?_)
                · refine r_iconst C dL_isPosted_114 ?_
                  refine r_istore C dL_isPosted_115 (ls1_15 rfl trivial) ?_
                  refine r_iload C dL_isPosted_117 lg_15 ?_
                  refine r_ifeq C (tgt := 126) dL_isPosted_119 (by decide) (by omega) (fun c119 => ?_) (fun c119 => ?_)
                  · refine r_aload_n C dL_isPosted_126 lg_0 ?_
                    refine q_S1J C (cQ_all hfl hP) dL_isPosted_127 lk_L_146 ⟨Nat.le_of_ble_eq_true rfl, Nat.le_of_ble_eq_true rfl⟩ (catLe (Nat.le_of_ble_eq_true rfl)) ⟨rfl, rfl⟩ rfl (Nat.le_of_ble_eq_true rfl) (Nat.le_of_ble_eq_true rfl) (fun z127 S127 A127 i127 p127 => ?_)
                    obtain ⟨rfl, rfl, hF127⟩ := p127
                    have hP := pi_fr hP hF127
                    have hFc := hFc.tr hF127
                    refine r_lstore C dL_isPosted_130 (ls2_16 rfl rfl) ?_
                    refine r_iload_n C dL_isPosted_132 lg_2 ?_
                    refine r_ifne C (tgt := 150) dL_isPosted_133 (by decide) (by omega) (fun c133 => ?_) (fun c133 => ?_)
                    · refine r_iload_n C dL_isPosted_150 lg_2 ?_
                      refine r_iconst C dL_isPosted_151 ?_
                      refine r_icne C (tgt := 167) dL_isPosted_152 (by decide) (by omega) (by omega) (fun c152 => ?_) (fun c152 => ?_)
                      · exfalso; omega
                      · refine r_aload_n C dL_isPosted_155 lg_0 ?_
                        refine r_iload_n C dL_isPosted_156 lg_3 ?_
                        refine r_iload C dL_isPosted_157 lg_4 ?_
                        refine r_iload C dL_isPosted_159 lg_5 ?_
                        refine r_W4I C (cQ_issue hfl hP (by omega) (by omega) (by omega)) dL_isPosted_161 lk_L_153 ⟨Nat.le_of_ble_eq_true rfl, Nat.le_of_ble_eq_true rfl⟩ (catLe (Nat.le_of_ble_eq_true rfl)) 8 51 ⟨rfl, rfl⟩ (Nat.le_of_ble_eq_true rfl) (Nat.le_of_ble_eq_true rfl) (fun _ _ _ h9 => h9.elim) (fun z161 S161 A161 i161 p161 => ?_)
                        obtain h161 := p161
                        have h198 := hFc 198 0 (by decide)
                        have h197 := hP.1.2.2.1.1
                        obtain ⟨rfl, rfl, rfl⟩ := ref7 p161 ⟨hak, hq⟩ (fun q9 => hok ⟨by have := q9.1.1; omega, by have := q9.1.2; omega, q9.2⟩)
                        refine r_goto C (tgt := 178) dL_isPosted_164 (by decide) ?_
                        refine r_istore C dL_isPosted_178 (ls1_18 rfl trivial) ?_
                        refine r_iload C dL_isPosted_180 lg_15 ?_
                        refine r_ifne C (tgt := 208) dL_isPosted_182 (by decide) (by omega) (fun c182 => ?_) (fun c182 => ?_)
                        · exfalso; omega
                        · refine r_iload C dL_isPosted_185 lg_18 ?_
                          refine r_bipush C dL_isPosted_187 (by decide) ?_
                          refine r_icne C (tgt := 206) dL_isPosted_189 (by decide) (by omega) (by omega) (fun c189 => ?_) (fun c189 => ?_)
                          · exfalso; omega
                          · refine r_aload_n C dL_isPosted_192 lg_0 ?_
                            refine q_S1J C (cQ_all hfl hP) dL_isPosted_193 lk_L_146 ⟨Nat.le_of_ble_eq_true rfl, Nat.le_of_ble_eq_true rfl⟩ (catLe (Nat.le_of_ble_eq_true rfl)) ⟨rfl, rfl⟩ rfl (Nat.le_of_ble_eq_true rfl) (Nat.le_of_ble_eq_true rfl) (fun z193 S193 A193 i193 p193 => ?_)
                            obtain ⟨rfl, rfl, hF193⟩ := p193
                            have hP := pi_fr hP hF193
                            have hFc := hFc.tr hF193
                            refine r_lload C dL_isPosted_196 lg_16 ?_
                            refine r_lcne C (tgt := 206) dL_isPosted_198 dL_isPosted_199 (by decide) (wL_r _) (wL_r _) (fun c198 => ?_) (fun c198 => ?_)
                            · exfalso; omega
                            · refine r_iconst C dL_isPosted_202 ?_
                              refine r_goto C (tgt := 207) dL_isPosted_203 (by decide) ?_
                              exact f_Z F dL_isPosted_207 (by omega) ⟨rfl, AE.rf, R, pl_fr hL hFc⟩ (Nat.le_of_ble_eq_true rfl) (Nat.le_of_ble_eq_true rfl)
                    · exfalso; omega
                  · exfalso; omega
                · exfalso; omega
      · refine r_lconst C dL_isPosted_39 0 rfl ?_
        refine r_goto C (tgt := 52) dL_isPosted_40 (by decide) ?_
        refine r_lstore C dL_isPosted_52 (ls2_11 rfl rfl) ?_
        refine r_aload_n C dL_isPosted_54 lg_0 ?_
        refine r_iload C dL_isPosted_55 lg_4 ?_
        refine r_iconst C dL_isPosted_57 ?_
        refine r_iadd C dL_isPosted_58 ?_
        refine r_bipush C dL_isPosted_59 (by decide) ?_
        refine r_irem C dL_isPosted_61 (by omega) (by omega) (by omega) (by omega) ?_
        refine r_sipush C dL_isPosted_62 (by decide) ?_
        refine q_S3J C (cQ_sight hfl hP (by omega) (by omega)) dL_isPosted_65 lk_L_128 ⟨Nat.le_of_ble_eq_true rfl, Nat.le_of_ble_eq_true rfl⟩ (catLe (Nat.le_of_ble_eq_true rfl)) ⟨rfl, rfl⟩ rfl (Nat.le_of_ble_eq_true rfl) (Nat.le_of_ble_eq_true rfl) (fun z65 S65 A65 i65 p65 => ?_)
        obtain ⟨rfl, rfl, hF65⟩ := p65
        have hP := pi_fr hP hF65
        have hFc := hFc.tr hF65
        refine r_lstore C dL_isPosted_68 (ls2_13 rfl trivial) ?_
        refine r_iload_n C dL_isPosted_70 lg_3 ?_
        refine r_aload_n C dL_isPosted_71 lg_1 ?_
        refine r_iconst C dL_isPosted_72 ?_
        refine r_iald C (N := 1) 1280 dL_isPosted_73 (by decide) rfl rfl hl40 (by omega) (by omega) (by omega) (fun g73 => ?_)
        rw [hFc 1280 0 (by decide), hp0.1]
        refine r_icle C (tgt := 114) dL_isPosted_74 (by decide) (by omega) (by omega) (fun c74 => ?_) (fun c74 => ?_)
        · refine r_iconst C dL_isPosted_114 ?_
          refine r_istore C dL_isPosted_115 (ls1_15 rfl trivial) ?_
          refine r_iload C dL_isPosted_117 lg_15 ?_
          refine r_ifeq C (tgt := 126) dL_isPosted_119 (by decide) (by omega) (fun c119 => ?_) (fun c119 => ?_)
          · refine r_aload_n C dL_isPosted_126 lg_0 ?_
            refine q_S1J C (cQ_all hfl hP) dL_isPosted_127 lk_L_146 ⟨Nat.le_of_ble_eq_true rfl, Nat.le_of_ble_eq_true rfl⟩ (catLe (Nat.le_of_ble_eq_true rfl)) ⟨rfl, rfl⟩ rfl (Nat.le_of_ble_eq_true rfl) (Nat.le_of_ble_eq_true rfl) (fun z127 S127 A127 i127 p127 => ?_)
            obtain ⟨rfl, rfl, hF127⟩ := p127
            have hP := pi_fr hP hF127
            have hFc := hFc.tr hF127
            refine r_lstore C dL_isPosted_130 (ls2_16 rfl rfl) ?_
            refine r_iload_n C dL_isPosted_132 lg_2 ?_
            refine r_ifne C (tgt := 150) dL_isPosted_133 (by decide) (by omega) (fun c133 => ?_) (fun c133 => ?_)
            · refine r_iload_n C dL_isPosted_150 lg_2 ?_
              refine r_iconst C dL_isPosted_151 ?_
              refine r_icne C (tgt := 167) dL_isPosted_152 (by decide) (by omega) (by omega) (fun c152 => ?_) (fun c152 => ?_)
              · exfalso; omega
              · refine r_aload_n C dL_isPosted_155 lg_0 ?_
                refine r_iload_n C dL_isPosted_156 lg_3 ?_
                refine r_iload C dL_isPosted_157 lg_4 ?_
                refine r_iload C dL_isPosted_159 lg_5 ?_
                refine r_W4I C (cQ_issue hfl hP (by omega) (by omega) (by omega)) dL_isPosted_161 lk_L_153 ⟨Nat.le_of_ble_eq_true rfl, Nat.le_of_ble_eq_true rfl⟩ (catLe (Nat.le_of_ble_eq_true rfl)) 8 51 ⟨rfl, rfl⟩ (Nat.le_of_ble_eq_true rfl) (Nat.le_of_ble_eq_true rfl) (fun _ _ _ h9 => h9.elim) (fun z161 S161 A161 i161 p161 => ?_)
                obtain h161 := p161
                have h198 := hFc 198 0 (by decide)
                have h197 := hP.1.2.2.1.1
                obtain ⟨rfl, rfl, rfl⟩ := ref7 p161 ⟨hak, hq⟩ (fun q9 => hok ⟨by have := q9.1.1; omega, by have := q9.1.2; omega, q9.2⟩)
                refine r_goto C (tgt := 178) dL_isPosted_164 (by decide) ?_
                refine r_istore C dL_isPosted_178 (ls1_18 rfl trivial) ?_
                refine r_iload C dL_isPosted_180 lg_15 ?_
                refine r_ifne C (tgt := 208) dL_isPosted_182 (by decide) (by omega) (fun c182 => ?_) (fun c182 => ?_)
                · exfalso; omega
                · refine r_iload C dL_isPosted_185 lg_18 ?_
                  refine r_bipush C dL_isPosted_187 (by decide) ?_
                  refine r_icne C (tgt := 206) dL_isPosted_189 (by decide) (by omega) (by omega) (fun c189 => ?_) (fun c189 => ?_)
                  · exfalso; omega
                  · refine r_aload_n C dL_isPosted_192 lg_0 ?_
                    refine q_S1J C (cQ_all hfl hP) dL_isPosted_193 lk_L_146 ⟨Nat.le_of_ble_eq_true rfl, Nat.le_of_ble_eq_true rfl⟩ (catLe (Nat.le_of_ble_eq_true rfl)) ⟨rfl, rfl⟩ rfl (Nat.le_of_ble_eq_true rfl) (Nat.le_of_ble_eq_true rfl) (fun z193 S193 A193 i193 p193 => ?_)
                    obtain ⟨rfl, rfl, hF193⟩ := p193
                    have hP := pi_fr hP hF193
                    have hFc := hFc.tr hF193
                    refine r_lload C dL_isPosted_196 lg_16 ?_
                    refine r_lcne C (tgt := 206) dL_isPosted_198 dL_isPosted_199 (by decide) (wL_r _) (wL_r _) (fun c198 => ?_) (fun c198 => ?_)
                    · exfalso; omega
                    · refine r_iconst C dL_isPosted_202 ?_
                      refine r_goto C (tgt := 207) dL_isPosted_203 (by decide) ?_
                      exact f_Z F dL_isPosted_207 (by omega) ⟨rfl, AE.rf, R, pl_fr hL hFc⟩ (Nat.le_of_ble_eq_true rfl) (Nat.le_of_ble_eq_true rfl)
            · exfalso; omega
          · exfalso; omega
        · refine r_iload C dL_isPosted_77 lg_7 ?_
          refine r_bipush C dL_isPosted_79 (by decide) ?_
          refine r_icge C (tgt := 114) dL_isPosted_81 (by decide) (by omega) (by omega) (fun c81 => ?_) (fun c81 => ?_)
          · refine r_iconst C dL_isPosted_114 ?_
            refine r_istore C dL_isPosted_115 (ls1_15 rfl trivial) ?_
            refine r_iload C dL_isPosted_117 lg_15 ?_
            refine r_ifeq C (tgt := 126) dL_isPosted_119 (by decide) (by omega) (fun c119 => ?_) (fun c119 => ?_)
            · refine r_aload_n C dL_isPosted_126 lg_0 ?_
              refine q_S1J C (cQ_all hfl hP) dL_isPosted_127 lk_L_146 ⟨Nat.le_of_ble_eq_true rfl, Nat.le_of_ble_eq_true rfl⟩ (catLe (Nat.le_of_ble_eq_true rfl)) ⟨rfl, rfl⟩ rfl (Nat.le_of_ble_eq_true rfl) (Nat.le_of_ble_eq_true rfl) (fun z127 S127 A127 i127 p127 => ?_)
              obtain ⟨rfl, rfl, hF127⟩ := p127
              have hP := pi_fr hP hF127
              have hFc := hFc.tr hF127
              refine r_lstore C dL_isPosted_130 (ls2_16 rfl rfl) ?_
              refine r_iload_n C dL_isPosted_132 lg_2 ?_
              refine r_ifne C (tgt := 150) dL_isPosted_133 (by decide) (by omega) (fun c133 => ?_) (fun c133 => ?_)
              · refine r_iload_n C dL_isPosted_150 lg_2 ?_
                refine r_iconst C dL_isPosted_151 ?_
                refine r_icne C (tgt := 167) dL_isPosted_152 (by decide) (by omega) (by omega) (fun c152 => ?_) (fun c152 => ?_)
                · exfalso; omega
                · refine r_aload_n C dL_isPosted_155 lg_0 ?_
                  refine r_iload_n C dL_isPosted_156 lg_3 ?_
                  refine r_iload C dL_isPosted_157 lg_4 ?_
                  refine r_iload C dL_isPosted_159 lg_5 ?_
                  refine r_W4I C (cQ_issue hfl hP (by omega) (by omega) (by omega)) dL_isPosted_161 lk_L_153 ⟨Nat.le_of_ble_eq_true rfl, Nat.le_of_ble_eq_true rfl⟩ (catLe (Nat.le_of_ble_eq_true rfl)) 8 51 ⟨rfl, rfl⟩ (Nat.le_of_ble_eq_true rfl) (Nat.le_of_ble_eq_true rfl) (fun _ _ _ h9 => h9.elim) (fun z161 S161 A161 i161 p161 => ?_)
                  obtain h161 := p161
                  have h198 := hFc 198 0 (by decide)
                  have h197 := hP.1.2.2.1.1
                  obtain ⟨rfl, rfl, rfl⟩ := ref7 p161 ⟨hak, hq⟩ (fun q9 => hok ⟨by have := q9.1.1; omega, by have := q9.1.2; omega, q9.2⟩)
                  refine r_goto C (tgt := 178) dL_isPosted_164 (by decide) ?_
                  refine r_istore C dL_isPosted_178 (ls1_18 rfl trivial) ?_
                  refine r_iload C dL_isPosted_180 lg_15 ?_
                  refine r_ifne C (tgt := 208) dL_isPosted_182 (by decide) (by omega) (fun c182 => ?_) (fun c182 => ?_)
                  · exfalso; omega
                  · refine r_iload C dL_isPosted_185 lg_18 ?_
                    refine r_bipush C dL_isPosted_187 (by decide) ?_
                    refine r_icne C (tgt := 206) dL_isPosted_189 (by decide) (by omega) (by omega) (fun c189 => ?_) (fun c189 => ?_)
                    · exfalso; omega
                    · refine r_aload_n C dL_isPosted_192 lg_0 ?_
                      refine q_S1J C (cQ_all hfl hP) dL_isPosted_193 lk_L_146 ⟨Nat.le_of_ble_eq_true rfl, Nat.le_of_ble_eq_true rfl⟩ (catLe (Nat.le_of_ble_eq_true rfl)) ⟨rfl, rfl⟩ rfl (Nat.le_of_ble_eq_true rfl) (Nat.le_of_ble_eq_true rfl) (fun z193 S193 A193 i193 p193 => ?_)
                      obtain ⟨rfl, rfl, hF193⟩ := p193
                      have hP := pi_fr hP hF193
                      have hFc := hFc.tr hF193
                      refine r_lload C dL_isPosted_196 lg_16 ?_
                      refine r_lcne C (tgt := 206) dL_isPosted_198 dL_isPosted_199 (by decide) (wL_r _) (wL_r _) (fun c198 => ?_) (fun c198 => ?_)
                      · exfalso; omega
                      · refine r_iconst C dL_isPosted_202 ?_
                        refine r_goto C (tgt := 207) dL_isPosted_203 (by decide) ?_
                        exact f_Z F dL_isPosted_207 (by omega) ⟨rfl, AE.rf, R, pl_fr hL hFc⟩ (Nat.le_of_ble_eq_true rfl) (Nat.le_of_ble_eq_true rfl)
              · exfalso; omega
            · exfalso; omega
          · refine r_iload_n C dL_isPosted_84 lg_2 ?_
            refine r_ifeq C (tgt := 110) dL_isPosted_85 (by decide) (by omega) (fun c85 => ?_) (fun c85 => ?_)
            · exfalso; omega
            · refine r_iload_n C dL_isPosted_88 lg_2 ?_
              refine r_iconst C dL_isPosted_89 ?_
              refine r_icne C (tgt := 103) dL_isPosted_90 (by decide) (by omega) (by omega) (fun c90 => ?_) (fun c90 => ?_)
              · exfalso; omega
              · refine r_iload C dL_isPosted_93 lg_5 ?_
                refine r_iload C dL_isPosted_95 lg_10 ?_
                refine r_icgt C (tgt := 114) dL_isPosted_97 (by decide) (by omega) (by omega) (fun c97 => ?_) (fun c97 => ?_)
                · refine r_iconst C dL_isPosted_114 ?_
                  refine r_istore C dL_isPosted_115 (ls1_15 rfl trivial) ?_
                  refine r_iload C dL_isPosted_117 lg_15 ?_
                  refine r_ifeq C (tgt := 126) dL_isPosted_119 (by decide) (by omega) (fun c119 => ?_) (fun c119 => ?_)
                  · refine r_aload_n C dL_isPosted_126 lg_0 ?_
                    refine q_S1J C (cQ_all hfl hP) dL_isPosted_127 lk_L_146 ⟨Nat.le_of_ble_eq_true rfl, Nat.le_of_ble_eq_true rfl⟩ (catLe (Nat.le_of_ble_eq_true rfl)) ⟨rfl, rfl⟩ rfl (Nat.le_of_ble_eq_true rfl) (Nat.le_of_ble_eq_true rfl) (fun z127 S127 A127 i127 p127 => ?_)
                    obtain ⟨rfl, rfl, hF127⟩ := p127
                    have hP := pi_fr hP hF127
                    have hFc := hFc.tr hF127
                    refine r_lstore C dL_isPosted_130 (ls2_16 rfl rfl) ?_
                    refine r_iload_n C dL_isPosted_132 lg_2 ?_
                    refine r_ifne C (tgt := 150) dL_isPosted_133 (by decide) (by omega) (fun c133 => ?_) (fun c133 => ?_)
                    · refine r_iload_n C dL_isPosted_150 lg_2 ?_
                      refine r_iconst C dL_isPosted_151 ?_
                      refine r_icne C (tgt := 167) dL_isPosted_152 (by decide) (by omega) (by omega) (fun c152 => ?_) (fun c152 => ?_)
                      · exfalso; omega
                      · refine r_aload_n C dL_isPosted_155 lg_0 ?_
                        refine r_iload_n C dL_isPosted_156 lg_3 ?_
                        refine r_iload C dL_isPosted_157 lg_4 ?_
                        refine r_iload C dL_isPosted_159 lg_5 ?_
                        refine r_W4I C (cQ_issue hfl hP (by omega) (by omega) (by omega)) dL_isPosted_161 lk_L_153 ⟨Nat.le_of_ble_eq_true rfl, Nat.le_of_ble_eq_true rfl⟩ (catLe (Nat.le_of_ble_eq_true rfl)) 8 51 ⟨rfl, rfl⟩ (Nat.le_of_ble_eq_true rfl) (Nat.le_of_ble_eq_true rfl) (fun _ _ _ h9 => h9.elim) (fun z161 S161 A161 i161 p161 => ?_)
                        obtain h161 := p161
                        have h198 := hFc 198 0 (by decide)
                        have h197 := hP.1.2.2.1.1
                        obtain ⟨rfl, rfl, rfl⟩ := ref7 p161 ⟨hak, hq⟩ (fun q9 => hok ⟨by have := q9.1.1; omega, by have := q9.1.2; omega, q9.2⟩)
                        refine r_goto C (tgt := 178) dL_isPosted_164 (by decide) ?_
                        refine r_istore C dL_isPosted_178 (ls1_18 rfl trivial) ?_
                        refine r_iload C dL_isPosted_180 lg_15 ?_
                        refine r_ifne C (tgt := 208) dL_isPosted_182 (by decide) (by omega) (fun c182 => ?_) (fun c182 => ?_)
                        · exfalso; omega
                        · refine r_iload C dL_isPosted_185 lg_18 ?_
                          refine r_bipush C dL_isPosted_187 (by decide) ?_
                          refine r_icne C (tgt := 206) dL_isPosted_189 (by decide) (by omega) (by omega) (fun c189 => ?_) (fun c189 => ?_)
                          · exfalso; omega
                          · refine r_aload_n C dL_isPosted_192 lg_0 ?_
                            refine q_S1J C (cQ_all hfl hP) dL_isPosted_193 lk_L_146 ⟨Nat.le_of_ble_eq_true rfl, Nat.le_of_ble_eq_true rfl⟩ (catLe (Nat.le_of_ble_eq_true rfl)) ⟨rfl, rfl⟩ rfl (Nat.le_of_ble_eq_true rfl) (Nat.le_of_ble_eq_true rfl) (fun z193 S193 A193 i193 p193 => ?_)
                            obtain ⟨rfl, rfl, hF193⟩ := p193
                            have hP := pi_fr hP hF193
                            have hFc := hFc.tr hF193
                            refine r_lload C dL_isPosted_196 lg_16 ?_
                            refine r_lcne C (tgt := 206) dL_isPosted_198 dL_isPosted_199 (by decide) (wL_r _) (wL_r _) (fun c198 => ?_) (fun c198 => ?_)
                            · exfalso; omega
                            · refine r_iconst C dL_isPosted_202 ?_
                              refine r_goto C (tgt := 207) dL_isPosted_203 (by decide) ?_
                              exact f_Z F dL_isPosted_207 (by omega) ⟨rfl, AE.rf, R, pl_fr hL hFc⟩ (Nat.le_of_ble_eq_true rfl) (Nat.le_of_ble_eq_true rfl)
                    · exfalso; omega
                  · exfalso; omega
                · exfalso; omega
  · by_cases hok : S 198 0 < day ∧ R.n < 60 ∧ q ≤ haR R item day
    · refine r_aload_n C dL_isPosted_0 lg_0 ?_
      refine q_V0I C (cZ_movements hfl hP) dL_isPosted_1 lk_L_116 hP.1.1.1 ⟨Nat.le_of_ble_eq_true rfl, Nat.le_of_ble_eq_true rfl⟩ (catLe (Nat.le_of_ble_eq_true rfl)) ⟨rfl, rfl⟩ rfl (Nat.le_of_ble_eq_true rfl) (Nat.le_of_ble_eq_true rfl) (fun z1 S1 A1 i1 p1 => ?_)
      obtain ⟨rfl, rfl, rfl⟩ := p1
      refine r_istore C dL_isPosted_4 (ls1_7 rfl rfl) ?_
      refine r_aload_n C dL_isPosted_6 lg_0 ?_
      refine r_iload C dL_isPosted_7 lg_4 ?_
      refine r_iload_n C dL_isPosted_9 lg_3 ?_
      refine q_V2I C (cZ_onHand hfl hP ⟨by omega, by omega⟩) dL_isPosted_10 lk_L_80 hP.1.1.1 ⟨Nat.le_of_ble_eq_true rfl, Nat.le_of_ble_eq_true rfl⟩ (catLe (Nat.le_of_ble_eq_true rfl)) ⟨rfl, rfl⟩ rfl (Nat.le_of_ble_eq_true rfl) (Nat.le_of_ble_eq_true rfl) (fun z10 S10 A10 i10 p10 => ?_)
      obtain ⟨rfl, rfl, rfl⟩ := p10
      refine r_istore C dL_isPosted_13 (ls1_8 rfl rfl) ?_
      refine r_aload_n C dL_isPosted_15 lg_0 ?_
      refine r_iload C dL_isPosted_16 lg_4 ?_
      refine r_sipush C dL_isPosted_18 (by decide) ?_
      refine q_V2I C (cZ_onHand hfl hP ⟨by omega, by omega⟩) dL_isPosted_21 lk_L_80 hP.1.1.1 ⟨Nat.le_of_ble_eq_true rfl, Nat.le_of_ble_eq_true rfl⟩ (catLe (Nat.le_of_ble_eq_true rfl)) ⟨rfl, rfl⟩ rfl (Nat.le_of_ble_eq_true rfl) (Nat.le_of_ble_eq_true rfl) (fun z21 S21 A21 i21 p21 => ?_)
      obtain ⟨rfl, rfl, rfl⟩ := p21
      refine r_istore C dL_isPosted_24 (ls1_9 rfl rfl) ?_
      refine r_aload_n C dL_isPosted_26 lg_0 ?_
      refine r_iload C dL_isPosted_27 lg_4 ?_
      refine r_iload_n C dL_isPosted_29 lg_3 ?_
      refine q_V2I C (cZ_available hfl hP ⟨by omega, by omega⟩) dL_isPosted_30 lk_L_83 hP.1.1.1 ⟨Nat.le_of_ble_eq_true rfl, Nat.le_of_ble_eq_true rfl⟩ (catLe (Nat.le_of_ble_eq_true rfl)) ⟨rfl, rfl⟩ rfl (Nat.le_of_ble_eq_true rfl) (Nat.le_of_ble_eq_true rfl) (fun z30 S30 A30 i30 p30 => ?_)
      obtain ⟨rfl, rfl, rfl⟩ := p30
      refine r_istore C dL_isPosted_33 (ls1_10 rfl rfl) ?_
      refine r_iload_n C dL_isPosted_35 lg_3 ?_
      refine r_ifne C (tgt := 43) dL_isPosted_36 (by decide) (by omega) (fun c36 => ?_) (fun c36 => ?_)
      · refine r_aload_n C dL_isPosted_43 lg_0 ?_
        refine r_iload C dL_isPosted_44 lg_4 ?_
        refine r_iload_n C dL_isPosted_46 lg_3 ?_
        refine r_iconst C dL_isPosted_47 ?_
        refine r_isub C dL_isPosted_48 ?_
        refine q_S3J C (cQ_past hfl hP (by omega) (by omega)) dL_isPosted_49 lk_L_170 ⟨Nat.le_of_ble_eq_true rfl, Nat.le_of_ble_eq_true rfl⟩ (catLe (Nat.le_of_ble_eq_true rfl)) ⟨rfl, rfl⟩ rfl (Nat.le_of_ble_eq_true rfl) (Nat.le_of_ble_eq_true rfl) (fun z49 S49 A49 i49 p49 => ?_)
        obtain ⟨rfl, rfl, hF49⟩ := p49
        have hP := pi_fr hP hF49
        have hFc := hFc.tr hF49
        refine r_lstore C dL_isPosted_52 (ls2_11 rfl rfl) ?_
        refine r_aload_n C dL_isPosted_54 lg_0 ?_
        refine r_iload C dL_isPosted_55 lg_4 ?_
        refine r_iconst C dL_isPosted_57 ?_
        refine r_iadd C dL_isPosted_58 ?_
        refine r_bipush C dL_isPosted_59 (by decide) ?_
        refine r_irem C dL_isPosted_61 (by omega) (by omega) (by omega) (by omega) ?_
        refine r_sipush C dL_isPosted_62 (by decide) ?_
        refine q_S3J C (cQ_sight hfl hP (by omega) (by omega)) dL_isPosted_65 lk_L_128 ⟨Nat.le_of_ble_eq_true rfl, Nat.le_of_ble_eq_true rfl⟩ (catLe (Nat.le_of_ble_eq_true rfl)) ⟨rfl, rfl⟩ rfl (Nat.le_of_ble_eq_true rfl) (Nat.le_of_ble_eq_true rfl) (fun z65 S65 A65 i65 p65 => ?_)
        obtain ⟨rfl, rfl, hF65⟩ := p65
        have hP := pi_fr hP hF65
        have hFc := hFc.tr hF65
        refine r_lstore C dL_isPosted_68 (ls2_13 rfl trivial) ?_
        refine r_iload_n C dL_isPosted_70 lg_3 ?_
        refine r_aload_n C dL_isPosted_71 lg_1 ?_
        refine r_iconst C dL_isPosted_72 ?_
        refine r_iald C (N := 1) 1280 dL_isPosted_73 (by decide) rfl rfl hl40 (by omega) (by omega) (by omega) (fun g73 => ?_)
        rw [hFc 1280 0 (by decide), hp0.1]
        refine r_icle C (tgt := 114) dL_isPosted_74 (by decide) (by omega) (by omega) (fun c74 => ?_) (fun c74 => ?_)
        · exfalso; omega
        · refine r_iload C dL_isPosted_77 lg_7 ?_
          refine r_bipush C dL_isPosted_79 (by decide) ?_
          refine r_icge C (tgt := 114) dL_isPosted_81 (by decide) (by omega) (by omega) (fun c81 => ?_) (fun c81 => ?_)
          · exfalso; omega
          · refine r_iload_n C dL_isPosted_84 lg_2 ?_
            refine r_ifeq C (tgt := 110) dL_isPosted_85 (by decide) (by omega) (fun c85 => ?_) (fun c85 => ?_)
            · exfalso; omega
            · refine r_iload_n C dL_isPosted_88 lg_2 ?_
              refine r_iconst C dL_isPosted_89 ?_
              refine r_icne C (tgt := 103) dL_isPosted_90 (by decide) (by omega) (by omega) (fun c90 => ?_) (fun c90 => ?_)
              · refine r_iload C dL_isPosted_103 lg_5 ?_
                refine r_iload C dL_isPosted_105 lg_8 ?_
                refine r_icgt C (tgt := 114) dL_isPosted_107 (by decide) (by omega) (by omega) (fun c107 => ?_) (fun c107 => ?_)
                · exfalso; omega
                · refine r_iconst C dL_isPosted_110 ?_
                  refine r_goto C (tgt := 115) dL_isPosted_111 (by decide) ?_
                  refine r_istore C dL_isPosted_115 (ls1_15 rfl trivial) ?_
                  refine r_iload C dL_isPosted_117 lg_15 ?_
                  refine r_ifeq C (tgt := 126) dL_isPosted_119 (by decide) (by omega) (fun c119 => ?_) (fun c119 => ?_)
                  · exfalso; omega
                  · refine r_lconst C dL_isPosted_122 0 rfl ?_
                    refine r_goto C (tgt := 130) dL_isPosted_123 (by decide) ?_
                    refine r_lstore C dL_isPosted_130 (ls2_16 rfl rfl) ?_
                    refine r_iload_n C dL_isPosted_132 lg_2 ?_
                    refine r_ifne C (tgt := 150) dL_isPosted_133 (by decide) (by omega) (fun c133 => ?_) (fun c133 => ?_)
                    · refine r_iload_n C dL_isPosted_150 lg_2 ?_
                      refine r_iconst C dL_isPosted_151 ?_
                      refine r_icne C (tgt := 167) dL_isPosted_152 (by decide) (by omega) (by omega) (fun c152 => ?_) (fun c152 => ?_)
                      · refine r_aload_n C dL_isPosted_167 lg_0 ?_
                        refine r_iload_n C dL_isPosted_168 lg_3 ?_
                        refine r_iload C dL_isPosted_169 lg_4 ?_
                        refine r_iload C dL_isPosted_171 lg_5 ?_
                        refine r_iload C dL_isPosted_173 lg_6 ?_
                        refine r_W5I C (cQ_revalue hfl hP (by omega) (by omega) (by omega) (by omega)) dL_isPosted_175 lk_L_156 ⟨Nat.le_of_ble_eq_true rfl, Nat.le_of_ble_eq_true rfl⟩ (catLe (Nat.le_of_ble_eq_true rfl)) 9 57 ⟨rfl, rfl⟩ (Nat.le_of_ble_eq_true rfl) (Nat.le_of_ble_eq_true rfl) (fun _ _ _ h9 => h9.elim) (fun z175 S175 A175 i175 p175 => ?_)
                        obtain h175 := p175
                        have h198 := hFc 198 0 (by decide)
                        have h197 := hP.1.2.2.1.1
                        obtain ⟨rfl, hK, hC⟩ := acc7 p175 ⟨hak, hq, hc⟩ ⟨⟨by omega, by omega⟩, hok.2.2⟩
                        obtain ⟨R1, hL1, r1, r2, r3, r4, r5, r6, r7⟩ := post_ok (pl_fr hL hFc) (by omega) (by omega) hak hq hc hok.2.1 ((V_rev hn.1 hV9).mpr hok.2.2) hK hC
                        have hE9 := hC.1
                        have hP := hL1.1
                        rw [← (hE9 6 0 hL.1.1.1.1.2).1, ← (hE9 40 0 hl40.2).1]
                        have hFc : Fr QF S175 S175 := Fr.rf
                        have r5a : haR R1 item day = haR R item day + (0) := r5 day (Int.le_refl _)
                        have r5b : haR R1 item 364 = haR R item 364 + (0) := r5 364 hday.2
                        clear hC hK
                        refine r_istore C dL_isPosted_178 (ls1_18 rfl trivial) ?_
                        refine r_iload C dL_isPosted_180 lg_15 ?_
                        refine r_ifne C (tgt := 208) dL_isPosted_182 (by decide) (by omega) (fun c182 => ?_) (fun c182 => ?_)
                        · refine r_iload_n C dL_isPosted_208 lg_2 ?_
                          refine r_ifne C (tgt := 217) dL_isPosted_209 (by decide) (by omega) (fun c209 => ?_) (fun c209 => ?_)
                          · refine r_iload_n C dL_isPosted_217 lg_2 ?_
                            refine r_iconst C dL_isPosted_218 ?_
                            refine r_icne C (tgt := 228) dL_isPosted_219 (by decide) (by omega) (by omega) (fun c219 => ?_) (fun c219 => ?_)
                            · refine r_iconst C dL_isPosted_228 ?_
                              refine r_istore C dL_isPosted_229 (ls1_19 rfl rfl) ?_
                              refine r_iload C dL_isPosted_231 lg_18 ?_
                              refine r_iload C dL_isPosted_233 lg_7 ?_
                              refine r_icne C (tgt := 353) dL_isPosted_235 (by decide) (by omega) (by omega) (fun c235 => ?_) (fun c235 => ?_)
                              · exfalso; omega
                              · refine r_aload_n C dL_isPosted_238 lg_0 ?_
                                refine q_V0I C (cZ_movements hfl hP) dL_isPosted_239 lk_L_116 hP.1.1.1 ⟨Nat.le_of_ble_eq_true rfl, Nat.le_of_ble_eq_true rfl⟩ (catLe (Nat.le_of_ble_eq_true rfl)) ⟨rfl, rfl⟩ rfl (Nat.le_of_ble_eq_true rfl) (Nat.le_of_ble_eq_true rfl) (fun z239 S239 A239 i239 p239 => ?_)
                                obtain ⟨rfl, rfl, rfl⟩ := p239
                                refine r_iload C dL_isPosted_242 lg_7 ?_
                                refine r_iconst C dL_isPosted_244 ?_
                                refine r_iadd C dL_isPosted_245 ?_
                                refine r_icne C (tgt := 353) dL_isPosted_246 (by decide) (by omega) (by omega) (fun c246 => ?_) (fun c246 => ?_)
                                · exfalso; omega
                                · refine r_aload_n C dL_isPosted_249 lg_0 ?_
                                  refine r_iload C dL_isPosted_250 lg_7 ?_
                                  refine q_V1I C (cZ_kindOf hfl hP (by omega)) dL_isPosted_252 lk_L_44 hP.1.1.1 ⟨Nat.le_of_ble_eq_true rfl, Nat.le_of_ble_eq_true rfl⟩ (catLe (Nat.le_of_ble_eq_true rfl)) ⟨rfl, rfl⟩ rfl (Nat.le_of_ble_eq_true rfl) (Nat.le_of_ble_eq_true rfl) (fun z252 S252 A252 i252 p252 => ?_)
                                  obtain ⟨rfl, rfl, rfl⟩ := p252
                                  refine r_iload_n C dL_isPosted_255 lg_2 ?_
                                  refine r_icne C (tgt := 353) dL_isPosted_256 (by decide) (by omega) (by omega) (fun c256 => ?_) (fun c256 => ?_)
                                  · exfalso; omega
                                  · refine r_aload_n C dL_isPosted_259 lg_0 ?_
                                    refine r_iload C dL_isPosted_260 lg_7 ?_
                                    refine q_V1I C (cZ_dayOf hfl hP (by omega)) dL_isPosted_262 lk_L_47 hP.1.1.1 ⟨Nat.le_of_ble_eq_true rfl, Nat.le_of_ble_eq_true rfl⟩ (catLe (Nat.le_of_ble_eq_true rfl)) ⟨rfl, rfl⟩ rfl (Nat.le_of_ble_eq_true rfl) (Nat.le_of_ble_eq_true rfl) (fun z262 S262 A262 i262 p262 => ?_)
                                    obtain ⟨rfl, rfl, rfl⟩ := p262
                                    refine r_iload_n C dL_isPosted_265 lg_3 ?_
                                    refine r_icne C (tgt := 353) dL_isPosted_266 (by decide) (by omega) (by omega) (fun c266 => ?_) (fun c266 => ?_)
                                    · exfalso; omega
                                    · refine r_aload_n C dL_isPosted_269 lg_0 ?_
                                      refine r_iload C dL_isPosted_270 lg_7 ?_
                                      refine q_V1Z C (cZ_isCancelled hfl hP (by omega)) dL_isPosted_272 lk_L_53 hP.1.1.1 ⟨Nat.le_of_ble_eq_true rfl, Nat.le_of_ble_eq_true rfl⟩ (catLe (Nat.le_of_ble_eq_true rfl)) ⟨rfl, rfl⟩ rfl (Nat.le_of_ble_eq_true rfl) (Nat.le_of_ble_eq_true rfl) (fun z272 S272 A272 i272 p272 => ?_)
                                      obtain ⟨rfl, rfl, rfl⟩ := p272
                                      refine r_ifne C (tgt := 353) dL_isPosted_275 (by decide) (by omega) (fun c275 => ?_) (fun c275 => ?_)
                                      · exfalso; omega
                                      · refine r_aload_n C dL_isPosted_278 lg_0 ?_
                                        refine r_iload C dL_isPosted_279 lg_4 ?_
                                        refine r_iload_n C dL_isPosted_281 lg_3 ?_
                                        refine q_V2I C (cZ_onHand hfl hP ⟨by omega, by omega⟩) dL_isPosted_282 lk_L_80 hP.1.1.1 ⟨Nat.le_of_ble_eq_true rfl, Nat.le_of_ble_eq_true rfl⟩ (catLe (Nat.le_of_ble_eq_true rfl)) ⟨rfl, rfl⟩ rfl (Nat.le_of_ble_eq_true rfl) (Nat.le_of_ble_eq_true rfl) (fun z282 S282 A282 i282 p282 => ?_)
                                        obtain ⟨rfl, rfl, rfl⟩ := p282
                                        refine r_iload C dL_isPosted_285 lg_8 ?_
                                        refine r_iload C dL_isPosted_287 lg_19 ?_
                                        refine r_iadd C dL_isPosted_289 ?_
                                        refine r_icne C (tgt := 353) dL_isPosted_290 (by decide) (by omega) (by omega) (fun c290 => ?_) (fun c290 => ?_)
                                        · exfalso; omega
                                        · refine r_aload_n C dL_isPosted_293 lg_0 ?_
                                          refine r_iload C dL_isPosted_294 lg_4 ?_
                                          refine r_sipush C dL_isPosted_296 (by decide) ?_
                                          refine q_V2I C (cZ_onHand hfl hP ⟨by omega, by omega⟩) dL_isPosted_299 lk_L_80 hP.1.1.1 ⟨Nat.le_of_ble_eq_true rfl, Nat.le_of_ble_eq_true rfl⟩ (catLe (Nat.le_of_ble_eq_true rfl)) ⟨rfl, rfl⟩ rfl (Nat.le_of_ble_eq_true rfl) (Nat.le_of_ble_eq_true rfl) (fun z299 S299 A299 i299 p299 => ?_)
                                          obtain ⟨rfl, rfl, rfl⟩ := p299
                                          refine r_iload C dL_isPosted_302 lg_9 ?_
                                          refine r_iload C dL_isPosted_304 lg_19 ?_
                                          refine r_iadd C dL_isPosted_306 ?_
                                          refine r_icne C (tgt := 353) dL_isPosted_307 (by decide) (by omega) (by omega) (fun c307 => ?_) (fun c307 => ?_)
                                          · exfalso; omega
                                          · refine r_aload_n C dL_isPosted_310 lg_0 ?_
                                            refine r_iload C dL_isPosted_311 lg_4 ?_
                                            refine r_iconst C dL_isPosted_313 ?_
                                            refine r_iadd C dL_isPosted_314 ?_
                                            refine r_bipush C dL_isPosted_315 (by decide) ?_
                                            refine r_irem C dL_isPosted_317 (by omega) (by omega) (by omega) (by omega) ?_
                                            refine r_sipush C dL_isPosted_318 (by decide) ?_
                                            refine q_S3J C (cQ_sight hfl hP (by omega) (by omega)) dL_isPosted_321 lk_L_128 ⟨Nat.le_of_ble_eq_true rfl, Nat.le_of_ble_eq_true rfl⟩ (catLe (Nat.le_of_ble_eq_true rfl)) ⟨rfl, rfl⟩ rfl (Nat.le_of_ble_eq_true rfl) (Nat.le_of_ble_eq_true rfl) (fun z321 S321 A321 i321 p321 => ?_)
                                            obtain ⟨rfl, rfl, hF321⟩ := p321
                                            have hP := pi_fr hP hF321
                                            have hFc := hFc.tr hF321
                                            rw [r6 ((item + 1) % 6) (by omega) 364 (by omega)]
                                            refine r_lload C dL_isPosted_324 lg_13 ?_
                                            refine r_lcne C (tgt := 353) dL_isPosted_326 dL_isPosted_327 (by decide) (wL_r _) (wL_r _) (fun c326 => ?_) (fun c326 => ?_)
                                            · exfalso; omega
                                            · refine r_iload_n C dL_isPosted_330 lg_3 ?_
                                              refine r_ifeq C (tgt := 349) dL_isPosted_331 (by decide) (by omega) (fun c331 => ?_) (fun c331 => ?_)
                                              · refine r_iconst C dL_isPosted_349 ?_
                                                refine r_goto C (tgt := 354) dL_isPosted_350 (by decide) ?_
                                                exact f_Z F dL_isPosted_354 (by omega) ⟨rfl, hE9, R1, pl_fr hL1 hFc⟩ (Nat.le_of_ble_eq_true rfl) (Nat.le_of_ble_eq_true rfl)
                                              · refine r_aload_n C dL_isPosted_334 lg_0 ?_
                                                refine r_iload C dL_isPosted_335 lg_4 ?_
                                                refine r_iload_n C dL_isPosted_337 lg_3 ?_
                                                refine r_iconst C dL_isPosted_338 ?_
                                                refine r_isub C dL_isPosted_339 ?_
                                                refine q_S3J C (cQ_past hfl hP (by omega) (by omega)) dL_isPosted_340 lk_L_170 ⟨Nat.le_of_ble_eq_true rfl, Nat.le_of_ble_eq_true rfl⟩ (catLe (Nat.le_of_ble_eq_true rfl)) ⟨rfl, rfl⟩ rfl (Nat.le_of_ble_eq_true rfl) (Nat.le_of_ble_eq_true rfl) (fun z340 S340 A340 i340 p340 => ?_)
                                                obtain ⟨rfl, rfl, hF340⟩ := p340
                                                have hP := pi_fr hP hF340
                                                have hFc := hFc.tr hF340
                                                rw [r7 item (day - 1) (by omega) (by omega)]
                                                refine r_lload C dL_isPosted_343 lg_11 ?_
                                                refine r_lcne C (tgt := 353) dL_isPosted_345 dL_isPosted_346 (by decide) (by first | exact wL_r _ | omega) (by first | exact wL_r _ | omega) (fun c345 => ?_) (fun c345 => ?_)
                                                · exfalso; omega
                                                · refine r_iconst C dL_isPosted_349 ?_
                                                  refine r_goto C (tgt := 354) dL_isPosted_350 (by decide) ?_
                                                  exact f_Z F dL_isPosted_354 (by omega) ⟨rfl, hE9, R1, pl_fr hL1 hFc⟩ (Nat.le_of_ble_eq_true rfl) (Nat.le_of_ble_eq_true rfl)
                            · exfalso; omega
                          · exfalso; omega
                        · exfalso; omega
                      · exfalso; omega
                    · exfalso; omega
              · exfalso; omega
      · refine r_lconst C dL_isPosted_39 0 rfl ?_
        refine r_goto C (tgt := 52) dL_isPosted_40 (by decide) ?_
        refine r_lstore C dL_isPosted_52 (ls2_11 rfl rfl) ?_
        refine r_aload_n C dL_isPosted_54 lg_0 ?_
        refine r_iload C dL_isPosted_55 lg_4 ?_
        refine r_iconst C dL_isPosted_57 ?_
        refine r_iadd C dL_isPosted_58 ?_
        refine r_bipush C dL_isPosted_59 (by decide) ?_
        refine r_irem C dL_isPosted_61 (by omega) (by omega) (by omega) (by omega) ?_
        refine r_sipush C dL_isPosted_62 (by decide) ?_
        refine q_S3J C (cQ_sight hfl hP (by omega) (by omega)) dL_isPosted_65 lk_L_128 ⟨Nat.le_of_ble_eq_true rfl, Nat.le_of_ble_eq_true rfl⟩ (catLe (Nat.le_of_ble_eq_true rfl)) ⟨rfl, rfl⟩ rfl (Nat.le_of_ble_eq_true rfl) (Nat.le_of_ble_eq_true rfl) (fun z65 S65 A65 i65 p65 => ?_)
        obtain ⟨rfl, rfl, hF65⟩ := p65
        have hP := pi_fr hP hF65
        have hFc := hFc.tr hF65
        refine r_lstore C dL_isPosted_68 (ls2_13 rfl trivial) ?_
        refine r_iload_n C dL_isPosted_70 lg_3 ?_
        refine r_aload_n C dL_isPosted_71 lg_1 ?_
        refine r_iconst C dL_isPosted_72 ?_
        refine r_iald C (N := 1) 1280 dL_isPosted_73 (by decide) rfl rfl hl40 (by omega) (by omega) (by omega) (fun g73 => ?_)
        rw [hFc 1280 0 (by decide), hp0.1]
        refine r_icle C (tgt := 114) dL_isPosted_74 (by decide) (by omega) (by omega) (fun c74 => ?_) (fun c74 => ?_)
        · exfalso; omega
        · refine r_iload C dL_isPosted_77 lg_7 ?_
          refine r_bipush C dL_isPosted_79 (by decide) ?_
          refine r_icge C (tgt := 114) dL_isPosted_81 (by decide) (by omega) (by omega) (fun c81 => ?_) (fun c81 => ?_)
          · exfalso; omega
          · refine r_iload_n C dL_isPosted_84 lg_2 ?_
            refine r_ifeq C (tgt := 110) dL_isPosted_85 (by decide) (by omega) (fun c85 => ?_) (fun c85 => ?_)
            · exfalso; omega
            · refine r_iload_n C dL_isPosted_88 lg_2 ?_
              refine r_iconst C dL_isPosted_89 ?_
              refine r_icne C (tgt := 103) dL_isPosted_90 (by decide) (by omega) (by omega) (fun c90 => ?_) (fun c90 => ?_)
              · refine r_iload C dL_isPosted_103 lg_5 ?_
                refine r_iload C dL_isPosted_105 lg_8 ?_
                refine r_icgt C (tgt := 114) dL_isPosted_107 (by decide) (by omega) (by omega) (fun c107 => ?_) (fun c107 => ?_)
                · exfalso; omega
                · refine r_iconst C dL_isPosted_110 ?_
                  refine r_goto C (tgt := 115) dL_isPosted_111 (by decide) ?_
                  refine r_istore C dL_isPosted_115 (ls1_15 rfl trivial) ?_
                  refine r_iload C dL_isPosted_117 lg_15 ?_
                  refine r_ifeq C (tgt := 126) dL_isPosted_119 (by decide) (by omega) (fun c119 => ?_) (fun c119 => ?_)
                  · exfalso; omega
                  · refine r_lconst C dL_isPosted_122 0 rfl ?_
                    refine r_goto C (tgt := 130) dL_isPosted_123 (by decide) ?_
                    refine r_lstore C dL_isPosted_130 (ls2_16 rfl rfl) ?_
                    refine r_iload_n C dL_isPosted_132 lg_2 ?_
                    refine r_ifne C (tgt := 150) dL_isPosted_133 (by decide) (by omega) (fun c133 => ?_) (fun c133 => ?_)
                    · refine r_iload_n C dL_isPosted_150 lg_2 ?_
                      refine r_iconst C dL_isPosted_151 ?_
                      refine r_icne C (tgt := 167) dL_isPosted_152 (by decide) (by omega) (by omega) (fun c152 => ?_) (fun c152 => ?_)
                      · refine r_aload_n C dL_isPosted_167 lg_0 ?_
                        refine r_iload_n C dL_isPosted_168 lg_3 ?_
                        refine r_iload C dL_isPosted_169 lg_4 ?_
                        refine r_iload C dL_isPosted_171 lg_5 ?_
                        refine r_iload C dL_isPosted_173 lg_6 ?_
                        refine r_W5I C (cQ_revalue hfl hP (by omega) (by omega) (by omega) (by omega)) dL_isPosted_175 lk_L_156 ⟨Nat.le_of_ble_eq_true rfl, Nat.le_of_ble_eq_true rfl⟩ (catLe (Nat.le_of_ble_eq_true rfl)) 9 57 ⟨rfl, rfl⟩ (Nat.le_of_ble_eq_true rfl) (Nat.le_of_ble_eq_true rfl) (fun _ _ _ h9 => h9.elim) (fun z175 S175 A175 i175 p175 => ?_)
                        obtain h175 := p175
                        have h198 := hFc 198 0 (by decide)
                        have h197 := hP.1.2.2.1.1
                        obtain ⟨rfl, hK, hC⟩ := acc7 p175 ⟨hak, hq, hc⟩ ⟨⟨by omega, by omega⟩, hok.2.2⟩
                        obtain ⟨R1, hL1, r1, r2, r3, r4, r5, r6, r7⟩ := post_ok (pl_fr hL hFc) (by omega) (by omega) hak hq hc hok.2.1 ((V_rev hn.1 hV9).mpr hok.2.2) hK hC
                        have hE9 := hC.1
                        have hP := hL1.1
                        rw [← (hE9 6 0 hL.1.1.1.1.2).1, ← (hE9 40 0 hl40.2).1]
                        have hFc : Fr QF S175 S175 := Fr.rf
                        have r5a : haR R1 item day = haR R item day + (0) := r5 day (Int.le_refl _)
                        have r5b : haR R1 item 364 = haR R item 364 + (0) := r5 364 hday.2
                        clear hC hK
                        refine r_istore C dL_isPosted_178 (ls1_18 rfl trivial) ?_
                        refine r_iload C dL_isPosted_180 lg_15 ?_
                        refine r_ifne C (tgt := 208) dL_isPosted_182 (by decide) (by omega) (fun c182 => ?_) (fun c182 => ?_)
                        · refine r_iload_n C dL_isPosted_208 lg_2 ?_
                          refine r_ifne C (tgt := 217) dL_isPosted_209 (by decide) (by omega) (fun c209 => ?_) (fun c209 => ?_)
                          · refine r_iload_n C dL_isPosted_217 lg_2 ?_
                            refine r_iconst C dL_isPosted_218 ?_
                            refine r_icne C (tgt := 228) dL_isPosted_219 (by decide) (by omega) (by omega) (fun c219 => ?_) (fun c219 => ?_)
                            · refine r_iconst C dL_isPosted_228 ?_
                              refine r_istore C dL_isPosted_229 (ls1_19 rfl rfl) ?_
                              refine r_iload C dL_isPosted_231 lg_18 ?_
                              refine r_iload C dL_isPosted_233 lg_7 ?_
                              refine r_icne C (tgt := 353) dL_isPosted_235 (by decide) (by omega) (by omega) (fun c235 => ?_) (fun c235 => ?_)
                              · exfalso; omega
                              · refine r_aload_n C dL_isPosted_238 lg_0 ?_
                                refine q_V0I C (cZ_movements hfl hP) dL_isPosted_239 lk_L_116 hP.1.1.1 ⟨Nat.le_of_ble_eq_true rfl, Nat.le_of_ble_eq_true rfl⟩ (catLe (Nat.le_of_ble_eq_true rfl)) ⟨rfl, rfl⟩ rfl (Nat.le_of_ble_eq_true rfl) (Nat.le_of_ble_eq_true rfl) (fun z239 S239 A239 i239 p239 => ?_)
                                obtain ⟨rfl, rfl, rfl⟩ := p239
                                refine r_iload C dL_isPosted_242 lg_7 ?_
                                refine r_iconst C dL_isPosted_244 ?_
                                refine r_iadd C dL_isPosted_245 ?_
                                refine r_icne C (tgt := 353) dL_isPosted_246 (by decide) (by omega) (by omega) (fun c246 => ?_) (fun c246 => ?_)
                                · exfalso; omega
                                · refine r_aload_n C dL_isPosted_249 lg_0 ?_
                                  refine r_iload C dL_isPosted_250 lg_7 ?_
                                  refine q_V1I C (cZ_kindOf hfl hP (by omega)) dL_isPosted_252 lk_L_44 hP.1.1.1 ⟨Nat.le_of_ble_eq_true rfl, Nat.le_of_ble_eq_true rfl⟩ (catLe (Nat.le_of_ble_eq_true rfl)) ⟨rfl, rfl⟩ rfl (Nat.le_of_ble_eq_true rfl) (Nat.le_of_ble_eq_true rfl) (fun z252 S252 A252 i252 p252 => ?_)
                                  obtain ⟨rfl, rfl, rfl⟩ := p252
                                  refine r_iload_n C dL_isPosted_255 lg_2 ?_
                                  refine r_icne C (tgt := 353) dL_isPosted_256 (by decide) (by omega) (by omega) (fun c256 => ?_) (fun c256 => ?_)
                                  · exfalso; omega
                                  · refine r_aload_n C dL_isPosted_259 lg_0 ?_
                                    refine r_iload C dL_isPosted_260 lg_7 ?_
                                    refine q_V1I C (cZ_dayOf hfl hP (by omega)) dL_isPosted_262 lk_L_47 hP.1.1.1 ⟨Nat.le_of_ble_eq_true rfl, Nat.le_of_ble_eq_true rfl⟩ (catLe (Nat.le_of_ble_eq_true rfl)) ⟨rfl, rfl⟩ rfl (Nat.le_of_ble_eq_true rfl) (Nat.le_of_ble_eq_true rfl) (fun z262 S262 A262 i262 p262 => ?_)
                                    obtain ⟨rfl, rfl, rfl⟩ := p262
                                    refine r_iload_n C dL_isPosted_265 lg_3 ?_
                                    refine r_icne C (tgt := 353) dL_isPosted_266 (by decide) (by omega) (by omega) (fun c266 => ?_) (fun c266 => ?_)
                                    · exfalso; omega
                                    · refine r_aload_n C dL_isPosted_269 lg_0 ?_
                                      refine r_iload C dL_isPosted_270 lg_7 ?_
                                      refine q_V1Z C (cZ_isCancelled hfl hP (by omega)) dL_isPosted_272 lk_L_53 hP.1.1.1 ⟨Nat.le_of_ble_eq_true rfl, Nat.le_of_ble_eq_true rfl⟩ (catLe (Nat.le_of_ble_eq_true rfl)) ⟨rfl, rfl⟩ rfl (Nat.le_of_ble_eq_true rfl) (Nat.le_of_ble_eq_true rfl) (fun z272 S272 A272 i272 p272 => ?_)
                                      obtain ⟨rfl, rfl, rfl⟩ := p272
                                      refine r_ifne C (tgt := 353) dL_isPosted_275 (by decide) (by omega) (fun c275 => ?_) (fun c275 => ?_)
                                      · exfalso; omega
                                      · refine r_aload_n C dL_isPosted_278 lg_0 ?_
                                        refine r_iload C dL_isPosted_279 lg_4 ?_
                                        refine r_iload_n C dL_isPosted_281 lg_3 ?_
                                        refine q_V2I C (cZ_onHand hfl hP ⟨by omega, by omega⟩) dL_isPosted_282 lk_L_80 hP.1.1.1 ⟨Nat.le_of_ble_eq_true rfl, Nat.le_of_ble_eq_true rfl⟩ (catLe (Nat.le_of_ble_eq_true rfl)) ⟨rfl, rfl⟩ rfl (Nat.le_of_ble_eq_true rfl) (Nat.le_of_ble_eq_true rfl) (fun z282 S282 A282 i282 p282 => ?_)
                                        obtain ⟨rfl, rfl, rfl⟩ := p282
                                        refine r_iload C dL_isPosted_285 lg_8 ?_
                                        refine r_iload C dL_isPosted_287 lg_19 ?_
                                        refine r_iadd C dL_isPosted_289 ?_
                                        refine r_icne C (tgt := 353) dL_isPosted_290 (by decide) (by omega) (by omega) (fun c290 => ?_) (fun c290 => ?_)
                                        · exfalso; omega
                                        · refine r_aload_n C dL_isPosted_293 lg_0 ?_
                                          refine r_iload C dL_isPosted_294 lg_4 ?_
                                          refine r_sipush C dL_isPosted_296 (by decide) ?_
                                          refine q_V2I C (cZ_onHand hfl hP ⟨by omega, by omega⟩) dL_isPosted_299 lk_L_80 hP.1.1.1 ⟨Nat.le_of_ble_eq_true rfl, Nat.le_of_ble_eq_true rfl⟩ (catLe (Nat.le_of_ble_eq_true rfl)) ⟨rfl, rfl⟩ rfl (Nat.le_of_ble_eq_true rfl) (Nat.le_of_ble_eq_true rfl) (fun z299 S299 A299 i299 p299 => ?_)
                                          obtain ⟨rfl, rfl, rfl⟩ := p299
                                          refine r_iload C dL_isPosted_302 lg_9 ?_
                                          refine r_iload C dL_isPosted_304 lg_19 ?_
                                          refine r_iadd C dL_isPosted_306 ?_
                                          refine r_icne C (tgt := 353) dL_isPosted_307 (by decide) (by omega) (by omega) (fun c307 => ?_) (fun c307 => ?_)
                                          · exfalso; omega
                                          · refine r_aload_n C dL_isPosted_310 lg_0 ?_
                                            refine r_iload C dL_isPosted_311 lg_4 ?_
                                            refine r_iconst C dL_isPosted_313 ?_
                                            refine r_iadd C dL_isPosted_314 ?_
                                            refine r_bipush C dL_isPosted_315 (by decide) ?_
                                            refine r_irem C dL_isPosted_317 (by omega) (by omega) (by omega) (by omega) ?_
                                            refine r_sipush C dL_isPosted_318 (by decide) ?_
                                            refine q_S3J C (cQ_sight hfl hP (by omega) (by omega)) dL_isPosted_321 lk_L_128 ⟨Nat.le_of_ble_eq_true rfl, Nat.le_of_ble_eq_true rfl⟩ (catLe (Nat.le_of_ble_eq_true rfl)) ⟨rfl, rfl⟩ rfl (Nat.le_of_ble_eq_true rfl) (Nat.le_of_ble_eq_true rfl) (fun z321 S321 A321 i321 p321 => ?_)
                                            obtain ⟨rfl, rfl, hF321⟩ := p321
                                            have hP := pi_fr hP hF321
                                            have hFc := hFc.tr hF321
                                            rw [r6 ((item + 1) % 6) (by omega) 364 (by omega)]
                                            refine r_lload C dL_isPosted_324 lg_13 ?_
                                            refine r_lcne C (tgt := 353) dL_isPosted_326 dL_isPosted_327 (by decide) (wL_r _) (wL_r _) (fun c326 => ?_) (fun c326 => ?_)
                                            · exfalso; omega
                                            · refine r_iload_n C dL_isPosted_330 lg_3 ?_
                                              refine r_ifeq C (tgt := 349) dL_isPosted_331 (by decide) (by omega) (fun c331 => ?_) (fun c331 => ?_)
                                              · refine r_iconst C dL_isPosted_349 ?_
                                                refine r_goto C (tgt := 354) dL_isPosted_350 (by decide) ?_
                                                exact f_Z F dL_isPosted_354 (by omega) ⟨rfl, hE9, R1, pl_fr hL1 hFc⟩ (Nat.le_of_ble_eq_true rfl) (Nat.le_of_ble_eq_true rfl)
                                              · refine r_aload_n C dL_isPosted_334 lg_0 ?_
                                                refine r_iload C dL_isPosted_335 lg_4 ?_
                                                refine r_iload_n C dL_isPosted_337 lg_3 ?_
                                                refine r_iconst C dL_isPosted_338 ?_
                                                refine r_isub C dL_isPosted_339 ?_
                                                refine q_S3J C (cQ_past hfl hP (by omega) (by omega)) dL_isPosted_340 lk_L_170 ⟨Nat.le_of_ble_eq_true rfl, Nat.le_of_ble_eq_true rfl⟩ (catLe (Nat.le_of_ble_eq_true rfl)) ⟨rfl, rfl⟩ rfl (Nat.le_of_ble_eq_true rfl) (Nat.le_of_ble_eq_true rfl) (fun z340 S340 A340 i340 p340 => ?_)
                                                obtain ⟨rfl, rfl, hF340⟩ := p340
                                                have hP := pi_fr hP hF340
                                                have hFc := hFc.tr hF340
                                                rw [r7 item (day - 1) (by omega) (by omega)]
                                                refine r_lload C dL_isPosted_343 lg_11 ?_
                                                refine r_lcne C (tgt := 353) dL_isPosted_345 dL_isPosted_346 (by decide) (by first | exact wL_r _ | omega) (by first | exact wL_r _ | omega) (fun c345 => ?_) (fun c345 => ?_)
                                                · exfalso; omega
                                                · refine r_iconst C dL_isPosted_349 ?_
                                                  refine r_goto C (tgt := 354) dL_isPosted_350 (by decide) ?_
                                                  exact f_Z F dL_isPosted_354 (by omega) ⟨rfl, hE9, R1, pl_fr hL1 hFc⟩ (Nat.le_of_ble_eq_true rfl) (Nat.le_of_ble_eq_true rfl)
                            · exfalso; omega
                          · exfalso; omega
                        · exfalso; omega
                      · exfalso; omega
                    · exfalso; omega
              · exfalso; omega
    · skip
      refine r_aload_n C dL_isPosted_0 lg_0 ?_
      refine q_V0I C (cZ_movements hfl hP) dL_isPosted_1 lk_L_116 hP.1.1.1 ⟨Nat.le_of_ble_eq_true rfl, Nat.le_of_ble_eq_true rfl⟩ (catLe (Nat.le_of_ble_eq_true rfl)) ⟨rfl, rfl⟩ rfl (Nat.le_of_ble_eq_true rfl) (Nat.le_of_ble_eq_true rfl) (fun z1 S1 A1 i1 p1 => ?_)
      obtain ⟨rfl, rfl, rfl⟩ := p1
      refine r_istore C dL_isPosted_4 (ls1_7 rfl rfl) ?_
      refine r_aload_n C dL_isPosted_6 lg_0 ?_
      refine r_iload C dL_isPosted_7 lg_4 ?_
      refine r_iload_n C dL_isPosted_9 lg_3 ?_
      refine q_V2I C (cZ_onHand hfl hP ⟨by omega, by omega⟩) dL_isPosted_10 lk_L_80 hP.1.1.1 ⟨Nat.le_of_ble_eq_true rfl, Nat.le_of_ble_eq_true rfl⟩ (catLe (Nat.le_of_ble_eq_true rfl)) ⟨rfl, rfl⟩ rfl (Nat.le_of_ble_eq_true rfl) (Nat.le_of_ble_eq_true rfl) (fun z10 S10 A10 i10 p10 => ?_)
      obtain ⟨rfl, rfl, rfl⟩ := p10
      refine r_istore C dL_isPosted_13 (ls1_8 rfl rfl) ?_
      refine r_aload_n C dL_isPosted_15 lg_0 ?_
      refine r_iload C dL_isPosted_16 lg_4 ?_
      refine r_sipush C dL_isPosted_18 (by decide) ?_
      refine q_V2I C (cZ_onHand hfl hP ⟨by omega, by omega⟩) dL_isPosted_21 lk_L_80 hP.1.1.1 ⟨Nat.le_of_ble_eq_true rfl, Nat.le_of_ble_eq_true rfl⟩ (catLe (Nat.le_of_ble_eq_true rfl)) ⟨rfl, rfl⟩ rfl (Nat.le_of_ble_eq_true rfl) (Nat.le_of_ble_eq_true rfl) (fun z21 S21 A21 i21 p21 => ?_)
      obtain ⟨rfl, rfl, rfl⟩ := p21
      refine r_istore C dL_isPosted_24 (ls1_9 rfl rfl) ?_
      refine r_aload_n C dL_isPosted_26 lg_0 ?_
      refine r_iload C dL_isPosted_27 lg_4 ?_
      refine r_iload_n C dL_isPosted_29 lg_3 ?_
      refine q_V2I C (cZ_available hfl hP ⟨by omega, by omega⟩) dL_isPosted_30 lk_L_83 hP.1.1.1 ⟨Nat.le_of_ble_eq_true rfl, Nat.le_of_ble_eq_true rfl⟩ (catLe (Nat.le_of_ble_eq_true rfl)) ⟨rfl, rfl⟩ rfl (Nat.le_of_ble_eq_true rfl) (Nat.le_of_ble_eq_true rfl) (fun z30 S30 A30 i30 p30 => ?_)
      obtain ⟨rfl, rfl, rfl⟩ := p30
      refine r_istore C dL_isPosted_33 (ls1_10 rfl rfl) ?_
      refine r_iload_n C dL_isPosted_35 lg_3 ?_
      refine r_ifne C (tgt := 43) dL_isPosted_36 (by decide) (by omega) (fun c36 => ?_) (fun c36 => ?_)
      · refine r_aload_n C dL_isPosted_43 lg_0 ?_
        refine r_iload C dL_isPosted_44 lg_4 ?_
        refine r_iload_n C dL_isPosted_46 lg_3 ?_
        refine r_iconst C dL_isPosted_47 ?_
        refine r_isub C dL_isPosted_48 ?_
        refine q_S3J C (cQ_past hfl hP (by omega) (by omega)) dL_isPosted_49 lk_L_170 ⟨Nat.le_of_ble_eq_true rfl, Nat.le_of_ble_eq_true rfl⟩ (catLe (Nat.le_of_ble_eq_true rfl)) ⟨rfl, rfl⟩ rfl (Nat.le_of_ble_eq_true rfl) (Nat.le_of_ble_eq_true rfl) (fun z49 S49 A49 i49 p49 => ?_)
        obtain ⟨rfl, rfl, hF49⟩ := p49
        have hP := pi_fr hP hF49
        have hFc := hFc.tr hF49
        refine r_lstore C dL_isPosted_52 (ls2_11 rfl rfl) ?_
        refine r_aload_n C dL_isPosted_54 lg_0 ?_
        refine r_iload C dL_isPosted_55 lg_4 ?_
        refine r_iconst C dL_isPosted_57 ?_
        refine r_iadd C dL_isPosted_58 ?_
        refine r_bipush C dL_isPosted_59 (by decide) ?_
        refine r_irem C dL_isPosted_61 (by omega) (by omega) (by omega) (by omega) ?_
        refine r_sipush C dL_isPosted_62 (by decide) ?_
        refine q_S3J C (cQ_sight hfl hP (by omega) (by omega)) dL_isPosted_65 lk_L_128 ⟨Nat.le_of_ble_eq_true rfl, Nat.le_of_ble_eq_true rfl⟩ (catLe (Nat.le_of_ble_eq_true rfl)) ⟨rfl, rfl⟩ rfl (Nat.le_of_ble_eq_true rfl) (Nat.le_of_ble_eq_true rfl) (fun z65 S65 A65 i65 p65 => ?_)
        obtain ⟨rfl, rfl, hF65⟩ := p65
        have hP := pi_fr hP hF65
        have hFc := hFc.tr hF65
        refine r_lstore C dL_isPosted_68 (ls2_13 rfl trivial) ?_
        refine r_iload_n C dL_isPosted_70 lg_3 ?_
        refine r_aload_n C dL_isPosted_71 lg_1 ?_
        refine r_iconst C dL_isPosted_72 ?_
        refine r_iald C (N := 1) 1280 dL_isPosted_73 (by decide) rfl rfl hl40 (by omega) (by omega) (by omega) (fun g73 => ?_)
        rw [hFc 1280 0 (by decide), hp0.1]
        refine r_icle C (tgt := 114) dL_isPosted_74 (by decide) (by omega) (by omega) (fun c74 => ?_) (fun c74 => ?_)
        · refine r_iconst C dL_isPosted_114 ?_
          refine r_istore C dL_isPosted_115 (ls1_15 rfl trivial) ?_
          refine r_iload C dL_isPosted_117 lg_15 ?_
          refine r_ifeq C (tgt := 126) dL_isPosted_119 (by decide) (by omega) (fun c119 => ?_) (fun c119 => ?_)
          · refine r_aload_n C dL_isPosted_126 lg_0 ?_
            refine q_S1J C (cQ_all hfl hP) dL_isPosted_127 lk_L_146 ⟨Nat.le_of_ble_eq_true rfl, Nat.le_of_ble_eq_true rfl⟩ (catLe (Nat.le_of_ble_eq_true rfl)) ⟨rfl, rfl⟩ rfl (Nat.le_of_ble_eq_true rfl) (Nat.le_of_ble_eq_true rfl) (fun z127 S127 A127 i127 p127 => ?_)
            obtain ⟨rfl, rfl, hF127⟩ := p127
            have hP := pi_fr hP hF127
            have hFc := hFc.tr hF127
            refine r_lstore C dL_isPosted_130 (ls2_16 rfl rfl) ?_
            refine r_iload_n C dL_isPosted_132 lg_2 ?_
            refine r_ifne C (tgt := 150) dL_isPosted_133 (by decide) (by omega) (fun c133 => ?_) (fun c133 => ?_)
            · refine r_iload_n C dL_isPosted_150 lg_2 ?_
              refine r_iconst C dL_isPosted_151 ?_
              refine r_icne C (tgt := 167) dL_isPosted_152 (by decide) (by omega) (by omega) (fun c152 => ?_) (fun c152 => ?_)
              · refine r_aload_n C dL_isPosted_167 lg_0 ?_
                refine r_iload_n C dL_isPosted_168 lg_3 ?_
                refine r_iload C dL_isPosted_169 lg_4 ?_
                refine r_iload C dL_isPosted_171 lg_5 ?_
                refine r_iload C dL_isPosted_173 lg_6 ?_
                refine r_W5I C (cQ_revalue hfl hP (by omega) (by omega) (by omega) (by omega)) dL_isPosted_175 lk_L_156 ⟨Nat.le_of_ble_eq_true rfl, Nat.le_of_ble_eq_true rfl⟩ (catLe (Nat.le_of_ble_eq_true rfl)) 9 57 ⟨rfl, rfl⟩ (Nat.le_of_ble_eq_true rfl) (Nat.le_of_ble_eq_true rfl) (fun _ _ _ h9 => h9.elim) (fun z175 S175 A175 i175 p175 => ?_)
                obtain h175 := p175
                have h198 := hFc 198 0 (by decide)
                have h197 := hP.1.2.2.1.1
                obtain ⟨rfl, rfl, rfl⟩ := ref7 p175 ⟨hak, hq, hc⟩ (fun q9 => hok ⟨by have := q9.1.1; omega, by have := q9.1.2; omega, q9.2⟩)
                refine r_istore C dL_isPosted_178 (ls1_18 rfl trivial) ?_
                refine r_iload C dL_isPosted_180 lg_15 ?_
                refine r_ifne C (tgt := 208) dL_isPosted_182 (by decide) (by omega) (fun c182 => ?_) (fun c182 => ?_)
                · exfalso; omega
                · refine r_iload C dL_isPosted_185 lg_18 ?_
                  refine r_bipush C dL_isPosted_187 (by decide) ?_
                  refine r_icne C (tgt := 206) dL_isPosted_189 (by decide) (by omega) (by omega) (fun c189 => ?_) (fun c189 => ?_)
                  · exfalso; omega
                  · refine r_aload_n C dL_isPosted_192 lg_0 ?_
                    refine q_S1J C (cQ_all hfl hP) dL_isPosted_193 lk_L_146 ⟨Nat.le_of_ble_eq_true rfl, Nat.le_of_ble_eq_true rfl⟩ (catLe (Nat.le_of_ble_eq_true rfl)) ⟨rfl, rfl⟩ rfl (Nat.le_of_ble_eq_true rfl) (Nat.le_of_ble_eq_true rfl) (fun z193 S193 A193 i193 p193 => ?_)
                    obtain ⟨rfl, rfl, hF193⟩ := p193
                    have hP := pi_fr hP hF193
                    have hFc := hFc.tr hF193
                    refine r_lload C dL_isPosted_196 lg_16 ?_
                    refine r_lcne C (tgt := 206) dL_isPosted_198 dL_isPosted_199 (by decide) (wL_r _) (wL_r _) (fun c198 => ?_) (fun c198 => ?_)
                    · exfalso; omega
                    · refine r_iconst C dL_isPosted_202 ?_
                      refine r_goto C (tgt := 207) dL_isPosted_203 (by decide) ?_
                      exact f_Z F dL_isPosted_207 (by omega) ⟨rfl, AE.rf, R, pl_fr hL hFc⟩ (Nat.le_of_ble_eq_true rfl) (Nat.le_of_ble_eq_true rfl)
              · exfalso; omega
            · exfalso; omega
          · exfalso; omega
        · refine r_iload C dL_isPosted_77 lg_7 ?_
          refine r_bipush C dL_isPosted_79 (by decide) ?_
          refine r_icge C (tgt := 114) dL_isPosted_81 (by decide) (by omega) (by omega) (fun c81 => ?_) (fun c81 => ?_)
          · refine r_iconst C dL_isPosted_114 ?_
            refine r_istore C dL_isPosted_115 (ls1_15 rfl trivial) ?_
            refine r_iload C dL_isPosted_117 lg_15 ?_
            refine r_ifeq C (tgt := 126) dL_isPosted_119 (by decide) (by omega) (fun c119 => ?_) (fun c119 => ?_)
            · refine r_aload_n C dL_isPosted_126 lg_0 ?_
              refine q_S1J C (cQ_all hfl hP) dL_isPosted_127 lk_L_146 ⟨Nat.le_of_ble_eq_true rfl, Nat.le_of_ble_eq_true rfl⟩ (catLe (Nat.le_of_ble_eq_true rfl)) ⟨rfl, rfl⟩ rfl (Nat.le_of_ble_eq_true rfl) (Nat.le_of_ble_eq_true rfl) (fun z127 S127 A127 i127 p127 => ?_)
              obtain ⟨rfl, rfl, hF127⟩ := p127
              have hP := pi_fr hP hF127
              have hFc := hFc.tr hF127
              refine r_lstore C dL_isPosted_130 (ls2_16 rfl rfl) ?_
              refine r_iload_n C dL_isPosted_132 lg_2 ?_
              refine r_ifne C (tgt := 150) dL_isPosted_133 (by decide) (by omega) (fun c133 => ?_) (fun c133 => ?_)
              · refine r_iload_n C dL_isPosted_150 lg_2 ?_
                refine r_iconst C dL_isPosted_151 ?_
                refine r_icne C (tgt := 167) dL_isPosted_152 (by decide) (by omega) (by omega) (fun c152 => ?_) (fun c152 => ?_)
                · refine r_aload_n C dL_isPosted_167 lg_0 ?_
                  refine r_iload_n C dL_isPosted_168 lg_3 ?_
                  refine r_iload C dL_isPosted_169 lg_4 ?_
                  refine r_iload C dL_isPosted_171 lg_5 ?_
                  refine r_iload C dL_isPosted_173 lg_6 ?_
                  refine r_W5I C (cQ_revalue hfl hP (by omega) (by omega) (by omega) (by omega)) dL_isPosted_175 lk_L_156 ⟨Nat.le_of_ble_eq_true rfl, Nat.le_of_ble_eq_true rfl⟩ (catLe (Nat.le_of_ble_eq_true rfl)) 9 57 ⟨rfl, rfl⟩ (Nat.le_of_ble_eq_true rfl) (Nat.le_of_ble_eq_true rfl) (fun _ _ _ h9 => h9.elim) (fun z175 S175 A175 i175 p175 => ?_)
                  obtain h175 := p175
                  have h198 := hFc 198 0 (by decide)
                  have h197 := hP.1.2.2.1.1
                  obtain ⟨rfl, rfl, rfl⟩ := ref7 p175 ⟨hak, hq, hc⟩ (fun q9 => hok ⟨by have := q9.1.1; omega, by have := q9.1.2; omega, q9.2⟩)
                  refine r_istore C dL_isPosted_178 (ls1_18 rfl trivial) ?_
                  refine r_iload C dL_isPosted_180 lg_15 ?_
                  refine r_ifne C (tgt := 208) dL_isPosted_182 (by decide) (by omega) (fun c182 => ?_) (fun c182 => ?_)
                  · exfalso; omega
                  · refine r_iload C dL_isPosted_185 lg_18 ?_
                    refine r_bipush C dL_isPosted_187 (by decide) ?_
                    refine r_icne C (tgt := 206) dL_isPosted_189 (by decide) (by omega) (by omega) (fun c189 => ?_) (fun c189 => ?_)
                    · exfalso; omega
                    · refine r_aload_n C dL_isPosted_192 lg_0 ?_
                      refine q_S1J C (cQ_all hfl hP) dL_isPosted_193 lk_L_146 ⟨Nat.le_of_ble_eq_true rfl, Nat.le_of_ble_eq_true rfl⟩ (catLe (Nat.le_of_ble_eq_true rfl)) ⟨rfl, rfl⟩ rfl (Nat.le_of_ble_eq_true rfl) (Nat.le_of_ble_eq_true rfl) (fun z193 S193 A193 i193 p193 => ?_)
                      obtain ⟨rfl, rfl, hF193⟩ := p193
                      have hP := pi_fr hP hF193
                      have hFc := hFc.tr hF193
                      refine r_lload C dL_isPosted_196 lg_16 ?_
                      refine r_lcne C (tgt := 206) dL_isPosted_198 dL_isPosted_199 (by decide) (wL_r _) (wL_r _) (fun c198 => ?_) (fun c198 => ?_)
                      · exfalso; omega
                      · refine r_iconst C dL_isPosted_202 ?_
                        refine r_goto C (tgt := 207) dL_isPosted_203 (by decide) ?_
                        exact f_Z F dL_isPosted_207 (by omega) ⟨rfl, AE.rf, R, pl_fr hL hFc⟩ (Nat.le_of_ble_eq_true rfl) (Nat.le_of_ble_eq_true rfl)
                · exfalso; omega
              · exfalso; omega
            · exfalso; omega
          · refine r_iload_n C dL_isPosted_84 lg_2 ?_
            refine r_ifeq C (tgt := 110) dL_isPosted_85 (by decide) (by omega) (fun c85 => ?_) (fun c85 => ?_)
            · exfalso; omega
            · refine r_iload_n C dL_isPosted_88 lg_2 ?_
              refine r_iconst C dL_isPosted_89 ?_
              refine r_icne C (tgt := 103) dL_isPosted_90 (by decide) (by omega) (by omega) (fun c90 => ?_) (fun c90 => ?_)
              · refine r_iload C dL_isPosted_103 lg_5 ?_
                refine r_iload C dL_isPosted_105 lg_8 ?_
                refine r_icgt C (tgt := 114) dL_isPosted_107 (by decide) (by omega) (by omega) (fun c107 => ?_) (fun c107 => ?_)
                · refine r_iconst C dL_isPosted_114 ?_
                  refine r_istore C dL_isPosted_115 (ls1_15 rfl trivial) ?_
                  refine r_iload C dL_isPosted_117 lg_15 ?_
                  refine r_ifeq C (tgt := 126) dL_isPosted_119 (by decide) (by omega) (fun c119 => ?_) (fun c119 => ?_)
                  · refine r_aload_n C dL_isPosted_126 lg_0 ?_
                    refine q_S1J C (cQ_all hfl hP) dL_isPosted_127 lk_L_146 ⟨Nat.le_of_ble_eq_true rfl, Nat.le_of_ble_eq_true rfl⟩ (catLe (Nat.le_of_ble_eq_true rfl)) ⟨rfl, rfl⟩ rfl (Nat.le_of_ble_eq_true rfl) (Nat.le_of_ble_eq_true rfl) (fun z127 S127 A127 i127 p127 => ?_)
                    obtain ⟨rfl, rfl, hF127⟩ := p127
                    have hP := pi_fr hP hF127
                    have hFc := hFc.tr hF127
                    refine r_lstore C dL_isPosted_130 (ls2_16 rfl rfl) ?_
                    refine r_iload_n C dL_isPosted_132 lg_2 ?_
                    refine r_ifne C (tgt := 150) dL_isPosted_133 (by decide) (by omega) (fun c133 => ?_) (fun c133 => ?_)
                    · refine r_iload_n C dL_isPosted_150 lg_2 ?_
                      refine r_iconst C dL_isPosted_151 ?_
                      refine r_icne C (tgt := 167) dL_isPosted_152 (by decide) (by omega) (by omega) (fun c152 => ?_) (fun c152 => ?_)
                      · refine r_aload_n C dL_isPosted_167 lg_0 ?_
                        refine r_iload_n C dL_isPosted_168 lg_3 ?_
                        refine r_iload C dL_isPosted_169 lg_4 ?_
                        refine r_iload C dL_isPosted_171 lg_5 ?_
                        refine r_iload C dL_isPosted_173 lg_6 ?_
                        refine r_W5I C (cQ_revalue hfl hP (by omega) (by omega) (by omega) (by omega)) dL_isPosted_175 lk_L_156 ⟨Nat.le_of_ble_eq_true rfl, Nat.le_of_ble_eq_true rfl⟩ (catLe (Nat.le_of_ble_eq_true rfl)) 9 57 ⟨rfl, rfl⟩ (Nat.le_of_ble_eq_true rfl) (Nat.le_of_ble_eq_true rfl) (fun _ _ _ h9 => h9.elim) (fun z175 S175 A175 i175 p175 => ?_)
                        obtain h175 := p175
                        have h198 := hFc 198 0 (by decide)
                        have h197 := hP.1.2.2.1.1
                        obtain ⟨rfl, rfl, rfl⟩ := ref7 p175 ⟨hak, hq, hc⟩ (fun q9 => hok ⟨by have := q9.1.1; omega, by have := q9.1.2; omega, q9.2⟩)
                        refine r_istore C dL_isPosted_178 (ls1_18 rfl trivial) ?_
                        refine r_iload C dL_isPosted_180 lg_15 ?_
                        refine r_ifne C (tgt := 208) dL_isPosted_182 (by decide) (by omega) (fun c182 => ?_) (fun c182 => ?_)
                        · exfalso; omega
                        · refine r_iload C dL_isPosted_185 lg_18 ?_
                          refine r_bipush C dL_isPosted_187 (by decide) ?_
                          refine r_icne C (tgt := 206) dL_isPosted_189 (by decide) (by omega) (by omega) (fun c189 => ?_) (fun c189 => ?_)
                          · exfalso; omega
                          · refine r_aload_n C dL_isPosted_192 lg_0 ?_
                            refine q_S1J C (cQ_all hfl hP) dL_isPosted_193 lk_L_146 ⟨Nat.le_of_ble_eq_true rfl, Nat.le_of_ble_eq_true rfl⟩ (catLe (Nat.le_of_ble_eq_true rfl)) ⟨rfl, rfl⟩ rfl (Nat.le_of_ble_eq_true rfl) (Nat.le_of_ble_eq_true rfl) (fun z193 S193 A193 i193 p193 => ?_)
                            obtain ⟨rfl, rfl, hF193⟩ := p193
                            have hP := pi_fr hP hF193
                            have hFc := hFc.tr hF193
                            refine r_lload C dL_isPosted_196 lg_16 ?_
                            refine r_lcne C (tgt := 206) dL_isPosted_198 dL_isPosted_199 (by decide) (wL_r _) (wL_r _) (fun c198 => ?_) (fun c198 => ?_)
                            · exfalso; omega
                            · refine r_iconst C dL_isPosted_202 ?_
                              refine r_goto C (tgt := 207) dL_isPosted_203 (by decide) ?_
                              exact f_Z F dL_isPosted_207 (by omega) ⟨rfl, AE.rf, R, pl_fr hL hFc⟩ (Nat.le_of_ble_eq_true rfl) (Nat.le_of_ble_eq_true rfl)
                      · exfalso; omega
                    · exfalso; omega
                  · exfalso; omega
                · exfalso; omega
              · exfalso; omega
      · refine r_lconst C dL_isPosted_39 0 rfl ?_
        refine r_goto C (tgt := 52) dL_isPosted_40 (by decide) ?_
        refine r_lstore C dL_isPosted_52 (ls2_11 rfl rfl) ?_
        refine r_aload_n C dL_isPosted_54 lg_0 ?_
        refine r_iload C dL_isPosted_55 lg_4 ?_
        refine r_iconst C dL_isPosted_57 ?_
        refine r_iadd C dL_isPosted_58 ?_
        refine r_bipush C dL_isPosted_59 (by decide) ?_
        refine r_irem C dL_isPosted_61 (by omega) (by omega) (by omega) (by omega) ?_
        refine r_sipush C dL_isPosted_62 (by decide) ?_
        refine q_S3J C (cQ_sight hfl hP (by omega) (by omega)) dL_isPosted_65 lk_L_128 ⟨Nat.le_of_ble_eq_true rfl, Nat.le_of_ble_eq_true rfl⟩ (catLe (Nat.le_of_ble_eq_true rfl)) ⟨rfl, rfl⟩ rfl (Nat.le_of_ble_eq_true rfl) (Nat.le_of_ble_eq_true rfl) (fun z65 S65 A65 i65 p65 => ?_)
        obtain ⟨rfl, rfl, hF65⟩ := p65
        have hP := pi_fr hP hF65
        have hFc := hFc.tr hF65
        refine r_lstore C dL_isPosted_68 (ls2_13 rfl trivial) ?_
        refine r_iload_n C dL_isPosted_70 lg_3 ?_
        refine r_aload_n C dL_isPosted_71 lg_1 ?_
        refine r_iconst C dL_isPosted_72 ?_
        refine r_iald C (N := 1) 1280 dL_isPosted_73 (by decide) rfl rfl hl40 (by omega) (by omega) (by omega) (fun g73 => ?_)
        rw [hFc 1280 0 (by decide), hp0.1]
        refine r_icle C (tgt := 114) dL_isPosted_74 (by decide) (by omega) (by omega) (fun c74 => ?_) (fun c74 => ?_)
        · refine r_iconst C dL_isPosted_114 ?_
          refine r_istore C dL_isPosted_115 (ls1_15 rfl trivial) ?_
          refine r_iload C dL_isPosted_117 lg_15 ?_
          refine r_ifeq C (tgt := 126) dL_isPosted_119 (by decide) (by omega) (fun c119 => ?_) (fun c119 => ?_)
          · refine r_aload_n C dL_isPosted_126 lg_0 ?_
            refine q_S1J C (cQ_all hfl hP) dL_isPosted_127 lk_L_146 ⟨Nat.le_of_ble_eq_true rfl, Nat.le_of_ble_eq_true rfl⟩ (catLe (Nat.le_of_ble_eq_true rfl)) ⟨rfl, rfl⟩ rfl (Nat.le_of_ble_eq_true rfl) (Nat.le_of_ble_eq_true rfl) (fun z127 S127 A127 i127 p127 => ?_)
            obtain ⟨rfl, rfl, hF127⟩ := p127
            have hP := pi_fr hP hF127
            have hFc := hFc.tr hF127
            refine r_lstore C dL_isPosted_130 (ls2_16 rfl rfl) ?_
            refine r_iload_n C dL_isPosted_132 lg_2 ?_
            refine r_ifne C (tgt := 150) dL_isPosted_133 (by decide) (by omega) (fun c133 => ?_) (fun c133 => ?_)
            · refine r_iload_n C dL_isPosted_150 lg_2 ?_
              refine r_iconst C dL_isPosted_151 ?_
              refine r_icne C (tgt := 167) dL_isPosted_152 (by decide) (by omega) (by omega) (fun c152 => ?_) (fun c152 => ?_)
              · refine r_aload_n C dL_isPosted_167 lg_0 ?_
                refine r_iload_n C dL_isPosted_168 lg_3 ?_
                refine r_iload C dL_isPosted_169 lg_4 ?_
                refine r_iload C dL_isPosted_171 lg_5 ?_
                refine r_iload C dL_isPosted_173 lg_6 ?_
                refine r_W5I C (cQ_revalue hfl hP (by omega) (by omega) (by omega) (by omega)) dL_isPosted_175 lk_L_156 ⟨Nat.le_of_ble_eq_true rfl, Nat.le_of_ble_eq_true rfl⟩ (catLe (Nat.le_of_ble_eq_true rfl)) 9 57 ⟨rfl, rfl⟩ (Nat.le_of_ble_eq_true rfl) (Nat.le_of_ble_eq_true rfl) (fun _ _ _ h9 => h9.elim) (fun z175 S175 A175 i175 p175 => ?_)
                obtain h175 := p175
                have h198 := hFc 198 0 (by decide)
                have h197 := hP.1.2.2.1.1
                obtain ⟨rfl, rfl, rfl⟩ := ref7 p175 ⟨hak, hq, hc⟩ (fun q9 => hok ⟨by have := q9.1.1; omega, by have := q9.1.2; omega, q9.2⟩)
                refine r_istore C dL_isPosted_178 (ls1_18 rfl trivial) ?_
                refine r_iload C dL_isPosted_180 lg_15 ?_
                refine r_ifne C (tgt := 208) dL_isPosted_182 (by decide) (by omega) (fun c182 => ?_) (fun c182 => ?_)
                · exfalso; omega
                · refine r_iload C dL_isPosted_185 lg_18 ?_
                  refine r_bipush C dL_isPosted_187 (by decide) ?_
                  refine r_icne C (tgt := 206) dL_isPosted_189 (by decide) (by omega) (by omega) (fun c189 => ?_) (fun c189 => ?_)
                  · exfalso; omega
                  · refine r_aload_n C dL_isPosted_192 lg_0 ?_
                    refine q_S1J C (cQ_all hfl hP) dL_isPosted_193 lk_L_146 ⟨Nat.le_of_ble_eq_true rfl, Nat.le_of_ble_eq_true rfl⟩ (catLe (Nat.le_of_ble_eq_true rfl)) ⟨rfl, rfl⟩ rfl (Nat.le_of_ble_eq_true rfl) (Nat.le_of_ble_eq_true rfl) (fun z193 S193 A193 i193 p193 => ?_)
                    obtain ⟨rfl, rfl, hF193⟩ := p193
                    have hP := pi_fr hP hF193
                    have hFc := hFc.tr hF193
                    refine r_lload C dL_isPosted_196 lg_16 ?_
                    refine r_lcne C (tgt := 206) dL_isPosted_198 dL_isPosted_199 (by decide) (wL_r _) (wL_r _) (fun c198 => ?_) (fun c198 => ?_)
                    · exfalso; omega
                    · refine r_iconst C dL_isPosted_202 ?_
                      refine r_goto C (tgt := 207) dL_isPosted_203 (by decide) ?_
                      exact f_Z F dL_isPosted_207 (by omega) ⟨rfl, AE.rf, R, pl_fr hL hFc⟩ (Nat.le_of_ble_eq_true rfl) (Nat.le_of_ble_eq_true rfl)
              · exfalso; omega
            · exfalso; omega
          · exfalso; omega
        · refine r_iload C dL_isPosted_77 lg_7 ?_
          refine r_bipush C dL_isPosted_79 (by decide) ?_
          refine r_icge C (tgt := 114) dL_isPosted_81 (by decide) (by omega) (by omega) (fun c81 => ?_) (fun c81 => ?_)
          · refine r_iconst C dL_isPosted_114 ?_
            refine r_istore C dL_isPosted_115 (ls1_15 rfl trivial) ?_
            refine r_iload C dL_isPosted_117 lg_15 ?_
            refine r_ifeq C (tgt := 126) dL_isPosted_119 (by decide) (by omega) (fun c119 => ?_) (fun c119 => ?_)
            · refine r_aload_n C dL_isPosted_126 lg_0 ?_
              refine q_S1J C (cQ_all hfl hP) dL_isPosted_127 lk_L_146 ⟨Nat.le_of_ble_eq_true rfl, Nat.le_of_ble_eq_true rfl⟩ (catLe (Nat.le_of_ble_eq_true rfl)) ⟨rfl, rfl⟩ rfl (Nat.le_of_ble_eq_true rfl) (Nat.le_of_ble_eq_true rfl) (fun z127 S127 A127 i127 p127 => ?_)
              obtain ⟨rfl, rfl, hF127⟩ := p127
              have hP := pi_fr hP hF127
              have hFc := hFc.tr hF127
              refine r_lstore C dL_isPosted_130 (ls2_16 rfl rfl) ?_
              refine r_iload_n C dL_isPosted_132 lg_2 ?_
              refine r_ifne C (tgt := 150) dL_isPosted_133 (by decide) (by omega) (fun c133 => ?_) (fun c133 => ?_)
              · refine r_iload_n C dL_isPosted_150 lg_2 ?_
                refine r_iconst C dL_isPosted_151 ?_
                refine r_icne C (tgt := 167) dL_isPosted_152 (by decide) (by omega) (by omega) (fun c152 => ?_) (fun c152 => ?_)
                · refine r_aload_n C dL_isPosted_167 lg_0 ?_
                  refine r_iload_n C dL_isPosted_168 lg_3 ?_
                  refine r_iload C dL_isPosted_169 lg_4 ?_
                  refine r_iload C dL_isPosted_171 lg_5 ?_
                  refine r_iload C dL_isPosted_173 lg_6 ?_
                  refine r_W5I C (cQ_revalue hfl hP (by omega) (by omega) (by omega) (by omega)) dL_isPosted_175 lk_L_156 ⟨Nat.le_of_ble_eq_true rfl, Nat.le_of_ble_eq_true rfl⟩ (catLe (Nat.le_of_ble_eq_true rfl)) 9 57 ⟨rfl, rfl⟩ (Nat.le_of_ble_eq_true rfl) (Nat.le_of_ble_eq_true rfl) (fun _ _ _ h9 => h9.elim) (fun z175 S175 A175 i175 p175 => ?_)
                  obtain h175 := p175
                  have h198 := hFc 198 0 (by decide)
                  have h197 := hP.1.2.2.1.1
                  obtain ⟨rfl, rfl, rfl⟩ := ref7 p175 ⟨hak, hq, hc⟩ (fun q9 => hok ⟨by have := q9.1.1; omega, by have := q9.1.2; omega, q9.2⟩)
                  refine r_istore C dL_isPosted_178 (ls1_18 rfl trivial) ?_
                  refine r_iload C dL_isPosted_180 lg_15 ?_
                  refine r_ifne C (tgt := 208) dL_isPosted_182 (by decide) (by omega) (fun c182 => ?_) (fun c182 => ?_)
                  · exfalso; omega
                  · refine r_iload C dL_isPosted_185 lg_18 ?_
                    refine r_bipush C dL_isPosted_187 (by decide) ?_
                    refine r_icne C (tgt := 206) dL_isPosted_189 (by decide) (by omega) (by omega) (fun c189 => ?_) (fun c189 => ?_)
                    · exfalso; omega
                    · refine r_aload_n C dL_isPosted_192 lg_0 ?_
                      refine q_S1J C (cQ_all hfl hP) dL_isPosted_193 lk_L_146 ⟨Nat.le_of_ble_eq_true rfl, Nat.le_of_ble_eq_true rfl⟩ (catLe (Nat.le_of_ble_eq_true rfl)) ⟨rfl, rfl⟩ rfl (Nat.le_of_ble_eq_true rfl) (Nat.le_of_ble_eq_true rfl) (fun z193 S193 A193 i193 p193 => ?_)
                      obtain ⟨rfl, rfl, hF193⟩ := p193
                      have hP := pi_fr hP hF193
                      have hFc := hFc.tr hF193
                      refine r_lload C dL_isPosted_196 lg_16 ?_
                      refine r_lcne C (tgt := 206) dL_isPosted_198 dL_isPosted_199 (by decide) (wL_r _) (wL_r _) (fun c198 => ?_) (fun c198 => ?_)
                      · exfalso; omega
                      · refine r_iconst C dL_isPosted_202 ?_
                        refine r_goto C (tgt := 207) dL_isPosted_203 (by decide) ?_
                        exact f_Z F dL_isPosted_207 (by omega) ⟨rfl, AE.rf, R, pl_fr hL hFc⟩ (Nat.le_of_ble_eq_true rfl) (Nat.le_of_ble_eq_true rfl)
                · exfalso; omega
              · exfalso; omega
            · exfalso; omega
          · refine r_iload_n C dL_isPosted_84 lg_2 ?_
            refine r_ifeq C (tgt := 110) dL_isPosted_85 (by decide) (by omega) (fun c85 => ?_) (fun c85 => ?_)
            · exfalso; omega
            · refine r_iload_n C dL_isPosted_88 lg_2 ?_
              refine r_iconst C dL_isPosted_89 ?_
              refine r_icne C (tgt := 103) dL_isPosted_90 (by decide) (by omega) (by omega) (fun c90 => ?_) (fun c90 => ?_)
              · refine r_iload C dL_isPosted_103 lg_5 ?_
                refine r_iload C dL_isPosted_105 lg_8 ?_
                refine r_icgt C (tgt := 114) dL_isPosted_107 (by decide) (by omega) (by omega) (fun c107 => ?_) (fun c107 => ?_)
                · refine r_iconst C dL_isPosted_114 ?_
                  refine r_istore C dL_isPosted_115 (ls1_15 rfl trivial) ?_
                  refine r_iload C dL_isPosted_117 lg_15 ?_
                  refine r_ifeq C (tgt := 126) dL_isPosted_119 (by decide) (by omega) (fun c119 => ?_) (fun c119 => ?_)
                  · refine r_aload_n C dL_isPosted_126 lg_0 ?_
                    refine q_S1J C (cQ_all hfl hP) dL_isPosted_127 lk_L_146 ⟨Nat.le_of_ble_eq_true rfl, Nat.le_of_ble_eq_true rfl⟩ (catLe (Nat.le_of_ble_eq_true rfl)) ⟨rfl, rfl⟩ rfl (Nat.le_of_ble_eq_true rfl) (Nat.le_of_ble_eq_true rfl) (fun z127 S127 A127 i127 p127 => ?_)
                    obtain ⟨rfl, rfl, hF127⟩ := p127
                    have hP := pi_fr hP hF127
                    have hFc := hFc.tr hF127
                    refine r_lstore C dL_isPosted_130 (ls2_16 rfl rfl) ?_
                    refine r_iload_n C dL_isPosted_132 lg_2 ?_
                    refine r_ifne C (tgt := 150) dL_isPosted_133 (by decide) (by omega) (fun c133 => ?_) (fun c133 => ?_)
                    · refine r_iload_n C dL_isPosted_150 lg_2 ?_
                      refine r_iconst C dL_isPosted_151 ?_
                      refine r_icne C (tgt := 167) dL_isPosted_152 (by decide) (by omega) (by omega) (fun c152 => ?_) (fun c152 => ?_)
                      · refine r_aload_n C dL_isPosted_167 lg_0 ?_
                        refine r_iload_n C dL_isPosted_168 lg_3 ?_
                        refine r_iload C dL_isPosted_169 lg_4 ?_
                        refine r_iload C dL_isPosted_171 lg_5 ?_
                        refine r_iload C dL_isPosted_173 lg_6 ?_
                        refine r_W5I C (cQ_revalue hfl hP (by omega) (by omega) (by omega) (by omega)) dL_isPosted_175 lk_L_156 ⟨Nat.le_of_ble_eq_true rfl, Nat.le_of_ble_eq_true rfl⟩ (catLe (Nat.le_of_ble_eq_true rfl)) 9 57 ⟨rfl, rfl⟩ (Nat.le_of_ble_eq_true rfl) (Nat.le_of_ble_eq_true rfl) (fun _ _ _ h9 => h9.elim) (fun z175 S175 A175 i175 p175 => ?_)
                        obtain h175 := p175
                        have h198 := hFc 198 0 (by decide)
                        have h197 := hP.1.2.2.1.1
                        obtain ⟨rfl, rfl, rfl⟩ := ref7 p175 ⟨hak, hq, hc⟩ (fun q9 => hok ⟨by have := q9.1.1; omega, by have := q9.1.2; omega, q9.2⟩)
                        refine r_istore C dL_isPosted_178 (ls1_18 rfl trivial) ?_
                        refine r_iload C dL_isPosted_180 lg_15 ?_
                        refine r_ifne C (tgt := 208) dL_isPosted_182 (by decide) (by omega) (fun c182 => ?_) (fun c182 => ?_)
                        · exfalso; omega
                        · refine r_iload C dL_isPosted_185 lg_18 ?_
                          refine r_bipush C dL_isPosted_187 (by decide) ?_
                          refine r_icne C (tgt := 206) dL_isPosted_189 (by decide) (by omega) (by omega) (fun c189 => ?_) (fun c189 => ?_)
                          · exfalso; omega
                          · refine r_aload_n C dL_isPosted_192 lg_0 ?_
                            refine q_S1J C (cQ_all hfl hP) dL_isPosted_193 lk_L_146 ⟨Nat.le_of_ble_eq_true rfl, Nat.le_of_ble_eq_true rfl⟩ (catLe (Nat.le_of_ble_eq_true rfl)) ⟨rfl, rfl⟩ rfl (Nat.le_of_ble_eq_true rfl) (Nat.le_of_ble_eq_true rfl) (fun z193 S193 A193 i193 p193 => ?_)
                            obtain ⟨rfl, rfl, hF193⟩ := p193
                            have hP := pi_fr hP hF193
                            have hFc := hFc.tr hF193
                            refine r_lload C dL_isPosted_196 lg_16 ?_
                            refine r_lcne C (tgt := 206) dL_isPosted_198 dL_isPosted_199 (by decide) (wL_r _) (wL_r _) (fun c198 => ?_) (fun c198 => ?_)
                            · exfalso; omega
                            · refine r_iconst C dL_isPosted_202 ?_
                              refine r_goto C (tgt := 207) dL_isPosted_203 (by decide) ?_
                              exact f_Z F dL_isPosted_207 (by omega) ⟨rfl, AE.rf, R, pl_fr hL hFc⟩ (Nat.le_of_ble_eq_true rfl) (Nat.le_of_ble_eq_true rfl)
                      · exfalso; omega
                    · exfalso; omega
                  · exfalso; omega
                · exfalso; omega
              · exfalso; omega
