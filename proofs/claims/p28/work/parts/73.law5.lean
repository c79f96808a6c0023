/-! the law: an item at the end of a day is sound -/
theorem snd_y {R : RW} {S : ST} {A : AB} (hP : PI R S A) {item day : Int} (hit : 0 ≤ item ∧ item ≤ 5) {y : Int} : (wk R item day).rcv + cI (y = 0) (wk R item day).v0 (wk R item day).v1 = cI (y = 0) (qc (wk R item day).q) (wk R item day).avg + cI (y = 0) (wk R item day).i0 (wk R item day).i1 + cI (y = 0) (wk R item day).e0 (wk R item day).e1 ∧ (0 ≤ cI (y = 0) (qc (wk R item day).q) (wk R item day).avg ∧ cI (y = 0) (qc (wk R item day).q) (wk R item day).avg ≤ 40000000000000000) ∧ (0 ≤ cI (y = 0) (wk R item day).i0 (wk R item day).i1 ∧ cI (y = 0) (wk R item day).i0 (wk R item day).i1 ≤ 40000000000000000) ∧ (0 ≤ cI (y = 0) (wk R item day).e0 (wk R item day).e1 ∧ cI (y = 0) (wk R item day).e0 (wk R item day).e1 ≤ 40000000000000000) ∧ (-40000000000000000 ≤ (wk R item day).rcv ∧ (wk R item day).rcv ≤ 40000000000000000) ∧ (-40000000000000000 ≤ cI (y = 0) (wk R item day).v0 (wk R item day).v1 ∧ cI (y = 0) (wk R item day).v0 (wk R item day).v1 ≤ 40000000000000000) ∧ (haR R item day = 0 → cI (y = 0) (qc (wk R item day).q) (wk R item day).avg = 0) := by
  obtain ⟨b1, b2, b3, b4, b5, b6, b7, b8, b9⟩ := wk_b (d := day) hP hit
  obtain ⟨hCK, hR, hR2, hV⟩ := hP
  obtain ⟨s1, s2, s3, s4, s5, s6⟩ := sound_all (day := day) hR hR2 hit.1 (hV item hit.1 hit.2)
  obtain ⟨v1, v2, v3, v4, v5, v6, v7, v8, v9⟩ := s4
  by_cases h : y = 0
  · rw [cI_t h, cI_t h, cI_t h, cI_t h]
    exact ⟨v1, b8, ⟨v4, b2.2⟩, ⟨v6, b6.2⟩, b1, b4, fun e => (s3.2 e).2⟩
  · rw [cI_f h, cI_f h, cI_f h, cI_f h]
    exact ⟨v2, b9, ⟨v5, b3.2⟩, ⟨v7, b7.2⟩, b1, b5, fun e => (s3.2 e).1⟩
theorem mono_y {R : RW} {S : ST} {A : AB} (hP : PI R S A) {item day : Int} (hit : 0 ≤ item ∧ item ≤ 5) {y : Int} : (wk R item (day - 1)).rcv ≤ (wk R item day).rcv ∧ cI (y = 0) (wk R item (day - 1)).i0 (wk R item (day - 1)).i1 ≤ cI (y = 0) (wk R item day).i0 (wk R item day).i1 ∧ cI (y = 0) (wk R item (day - 1)).e0 (wk R item (day - 1)).e1 ≤ cI (y = 0) (wk R item day).e0 (wk R item day).e1 := by
  obtain ⟨hCK, hR, hR2, hV⟩ := hP
  obtain ⟨m1, m2, m3, m4, m5⟩ := wk_mono (d := day - 1) (d' := day) hR hR2 hit.1 (hV item hit.1 hit.2) (by omega)
  by_cases h : y = 0
  · rw [cI_t h, cI_t h, cI_t h, cI_t h]; exact ⟨m1, m2, m4⟩
  · rw [cI_f h, cI_f h, cI_f h, cI_f h]; exact ⟨m1, m3, m5⟩
theorem bits_step {O m k : Int} {f : Int → Int} (hm : 0 ≤ m ∧ m < 64) (h1 : 0 ≤ k) (hf : f k = m) (h : ∀ j, 0 ≤ j → j < 64 → (hasB O j ↔ ∃ i, 0 ≤ i ∧ i < k ∧ f i = j)) : ∀ j, 0 ≤ j → j < 64 → (hasB (fLor O (fLshl 1 m)) j ↔ ∃ i, 0 ≤ i ∧ i < k + 1 ∧ f i = j) := by
  intro j j0 j1
  rw [bit_or hm.1 hm.2 j0 j1, h j j0 j1]
  constructor
  · rintro (⟨i, i0, i1, i2⟩ | e)
    · exact ⟨i, i0, by omega, i2⟩
    · exact ⟨k, h1, by omega, hf.trans e.symm⟩
  · rintro ⟨i, i0, i1, i2⟩
    by_cases e : i = k
    · subst e; exact Or.inr (i2.symm.trans hf)
    · exact Or.inl ⟨i, i0, by omega, i2⟩
theorem bits_0 {f : Int → Int} : ∀ j, 0 ≤ j → j < 64 → (hasB 0 j ↔ ∃ i, 0 ≤ i ∧ i < 0 ∧ f i = j) := fun j j0 j1 => ⟨fun h => absurd h (bit_z j0 j1), fun ⟨i, i0, i1, _⟩ => by omega⟩
set_option maxRecDepth 20000 in
theorem cQ_isSound {G : GT} {l : Launch} (hfl : l.stackTraces = false) {S : ST} {A : AB} {item day : Int} {R : RW} (hP : PI R S A) (hak : akOk item day) : CT G l yL_isSound cL_isSound 11 (some .boolean) (rmk 11 6 36 205) S A [vR A 6 0, vI item, vI day] (oZ fun z S' A' => 1 = z ∧ A = A' ∧ Fr QF S S') (noX) := by
  have hl6 := hP.1.1.1
  refine ct_ofN (own := RL) (mn := "isSound") rfl rfl (by decide) hfl (lv0 := [some (vR A 6 0), some (vI item), some (vI day), none, none, none, none, none, none, none, none]) (ent_1 (cat_R _ _ _) (ent_1 rfl (ent_1 rfl (ent_n (ent_n (ent_n (ent_n (ent_n (ent_n (ent_n (ent_n ent_0))))))))))) rfl ?_
  intro J X C F FX FT FU hW hA
  have hP0 := hP
  obtain ⟨hCK0, hR, hR2, hV⟩ := id hP
  have hn := hR.1
  have hit := hak.1
  have hday := hak.2
  obtain ⟨hla, ⟨hln, hqc, hqu, hha⟩, _, _, _, hnd⟩ := sound_all (day := day) hR hR2 hak.1.1 (hV item hak.1.1 hak.1.2)
  have hav := av_ok (day := day) hR (hV item hak.1.1 hak.1.2)
  obtain ⟨hl9, hl9e⟩ : ∃ x : Int, x = ((wk R item day).q.length : Int) := ⟨_, rfl⟩
  have key : ∀ (u : Int) (hu : u = haR R item day) (S0 : ST) (hF0 : Fr QF S S0), J 284 [some (vR A 6 0), some (vI item), some (vI day), none, none, none, none, some (vI u), some (vI 1), some (vI 0), none] [] S0 A 6 36 := by
    intro u hu S0 hF0
    have lp2 : ∀ (N : Nat) (k : Int) (S1 : ST) (h1 : 0 ≤ k) (h2 : k ≤ 2) (hF1 : Fr QF S S1) (hN : 2 - k < N), J 284 [some (vR A 6 0), some (vI item), some (vI day), none, none, none, none, some (vI u), some (vI 1), some (vI k), none] [] S1 A 6 36 := by
      intro N
      induction N with
      | zero => intro k S1 h1 h2 hF1 hN; omega
      | succ N ih =>
        intro k S1 h1 h2 hF1 hN
        have hP := pi_fr hP0 hF1
        have j308 : ∀ (y : Int) (hy : y = 0 ∨ y = 1) (hk2 : k < 2), J 308 [some (vR A 6 0), some (vI item), some (vI day), none, none, none, none, some (vI u), some (vI 1), some (vI k), some (vI y)] [] S1 A 6 36 := by
          intro y hy hk2
          obtain ⟨y1, y2, y3, y4, y5, y6, y7⟩ := snd_y (day := day) hP hit (y := y)
          have hFc := hF1
          refine r_aload_n C dL_isSound_308 lg_0 ?_
          refine r_iload_n C dL_isSound_309 lg_1 ?_
          refine r_iload_n C dL_isSound_310 lg_2 ?_
          refine q_V2J C (cZ_received hfl hP hak) dL_isSound_311 lk_L_86 hl6 ⟨Nat.le_of_ble_eq_true rfl, Nat.le_of_ble_eq_true rfl⟩ (catLe (Nat.le_of_ble_eq_true rfl)) ⟨rfl, rfl⟩ rfl (Nat.le_of_ble_eq_true rfl) (Nat.le_of_ble_eq_true rfl) (fun z311 S311 A311 i311 p311 => ?_)
          obtain ⟨rfl, rfl, hF311⟩ := p311
          have hP := pi_fr hP hF311
          have hFc := hFc.tr hF311
          refine r_aload_n C dL_isSound_314 lg_0 ?_
          refine r_iload_n C dL_isSound_315 lg_1 ?_
          refine r_iload_n C dL_isSound_316 lg_2 ?_
          refine r_iload C dL_isSound_317 lg_10 ?_
          refine q_V3J C (cZ_revalued hfl hP hak hy) dL_isSound_319 lk_L_100 hl6 ⟨Nat.le_of_ble_eq_true rfl, Nat.le_of_ble_eq_true rfl⟩ (catLe (Nat.le_of_ble_eq_true rfl)) ⟨rfl, rfl⟩ rfl (Nat.le_of_ble_eq_true rfl) (Nat.le_of_ble_eq_true rfl) (fun z319 S319 A319 i319 p319 => ?_)
          obtain ⟨rfl, rfl, hF319⟩ := p319
          have hP := pi_fr hP hF319
          have hFc := hFc.tr hF319
          refine r_ladd C dL_isSound_322 ?_
          refine r_aload_n C dL_isSound_323 lg_0 ?_
          refine r_iload_n C dL_isSound_324 lg_1 ?_
          refine r_iload_n C dL_isSound_325 lg_2 ?_
          refine r_iload C dL_isSound_326 lg_10 ?_
          refine q_V3J C (cZ_value hfl hP hak hy) dL_isSound_328 lk_L_93 hl6 ⟨Nat.le_of_ble_eq_true rfl, Nat.le_of_ble_eq_true rfl⟩ (catLe (Nat.le_of_ble_eq_true rfl)) ⟨rfl, rfl⟩ rfl (Nat.le_of_ble_eq_true rfl) (Nat.le_of_ble_eq_true rfl) (fun z328 S328 A328 i328 p328 => ?_)
          obtain ⟨rfl, rfl, hF328⟩ := p328
          have hP := pi_fr hP hF328
          have hFc := hFc.tr hF328
          refine r_aload_n C dL_isSound_331 lg_0 ?_
          refine r_iload_n C dL_isSound_332 lg_1 ?_
          refine r_iload_n C dL_isSound_333 lg_2 ?_
          refine r_iload C dL_isSound_334 lg_10 ?_
          refine q_V3J C (cZ_issued hfl hP hak hy) dL_isSound_336 lk_L_97 hl6 ⟨Nat.le_of_ble_eq_true rfl, Nat.le_of_ble_eq_true rfl⟩ (catLe (Nat.le_of_ble_eq_true rfl)) ⟨rfl, rfl⟩ rfl (Nat.le_of_ble_eq_true rfl) (Nat.le_of_ble_eq_true rfl) (fun z336 S336 A336 i336 p336 => ?_)
          obtain ⟨rfl, rfl, hF336⟩ := p336
          have hP := pi_fr hP hF336
          have hFc := hFc.tr hF336
          refine r_ladd C dL_isSound_339 ?_
          refine r_aload_n C dL_isSound_340 lg_0 ?_
          refine r_iload_n C dL_isSound_341 lg_1 ?_
          refine r_iload_n C dL_isSound_342 lg_2 ?_
          refine r_iload C dL_isSound_343 lg_10 ?_
          refine q_V3J C (cZ_expensed hfl hP hak hy) dL_isSound_345 lk_L_103 hl6 ⟨Nat.le_of_ble_eq_true rfl, Nat.le_of_ble_eq_true rfl⟩ (catLe (Nat.le_of_ble_eq_true rfl)) ⟨rfl, rfl⟩ rfl (Nat.le_of_ble_eq_true rfl) (Nat.le_of_ble_eq_true rfl) (fun z345 S345 A345 i345 p345 => ?_)
          obtain ⟨rfl, rfl, hF345⟩ := p345
          have hP := pi_fr hP hF345
          have hFc := hFc.tr hF345
          refine r_ladd C dL_isSound_348 ?_
          refine r_lcne C (tgt := 414) dL_isSound_349 dL_isSound_350 (by decide) (by omega) (by omega) (fun c349 => ?_) (fun c349 => ?_)
          · exfalso; omega
          · refine r_aload_n C dL_isSound_353 lg_0 ?_
            refine r_iload_n C dL_isSound_354 lg_1 ?_
            refine r_iload_n C dL_isSound_355 lg_2 ?_
            refine r_iload C dL_isSound_356 lg_10 ?_
            refine q_V3J C (cZ_value hfl hP hak hy) dL_isSound_358 lk_L_93 hl6 ⟨Nat.le_of_ble_eq_true rfl, Nat.le_of_ble_eq_true rfl⟩ (catLe (Nat.le_of_ble_eq_true rfl)) ⟨rfl, rfl⟩ rfl (Nat.le_of_ble_eq_true rfl) (Nat.le_of_ble_eq_true rfl) (fun z358 S358 A358 i358 p358 => ?_)
            obtain ⟨rfl, rfl, hF358⟩ := p358
            have hP := pi_fr hP hF358
            have hFc := hFc.tr hF358
            refine r_lconst C dL_isSound_361 0 rfl ?_
            refine r_lclt C (tgt := 414) dL_isSound_362 dL_isSound_363 (by decide) (by omega) (by omega) (fun c362 => ?_) (fun c362 => ?_)
            · refine r_iconst C dL_isSound_414 ?_
              refine r_istore C dL_isSound_415 (ls1_8 rfl rfl) ?_
              refine r_iload C dL_isSound_417 lg_8 ?_
              refine r_ifeq C (tgt := 492) dL_isSound_419 (by decide) (by omega) (fun c419 => ?_) (fun c419 => ?_)
              · exfalso; omega
              · refine r_iload_n C dL_isSound_422 lg_2 ?_
                refine r_ifeq C (tgt := 488) dL_isSound_423 (by decide) (by omega) (fun c423 => ?_) (fun c423 => ?_)
                · refine r_iconst C dL_isSound_488 ?_
                  refine r_goto C (tgt := 493) dL_isSound_489 (by decide) ?_
                  refine r_istore C dL_isSound_493 (ls1_8 rfl rfl) ?_
                  refine r_iinc C dL_isSound_495 lg_9 (ls1_9 rfl rfl) ?_
                  refine r_goto C (tgt := 284) dL_isSound_498 (by decide) ?_
                  refine r_le C (lle_k (lle_k (lle_k (lle_k (lle_k (lle_k (lle_k (lle_k (lle_k (lle_k (lle_f lle_0))))))))))) ?_
                  exact ih (k + 1) _ (by omega) (by omega) hFc (by omega)
                · have hak1 : akOk item (day - 1) := ⟨hit, by omega⟩
                  obtain ⟨m1, m2, m3⟩ := mono_y (day := day) hP hit (y := y)
                  obtain ⟨z1, z2, z3, z4, z5, z6, z7⟩ := snd_y (day := day - 1) hP hit (y := y)
                  refine r_aload_n C dL_isSound_426 lg_0 ?_
                  refine r_iload_n C dL_isSound_427 lg_1 ?_
                  refine r_iload_n C dL_isSound_428 lg_2 ?_
                  refine q_V2J C (cZ_received hfl hP hak) dL_isSound_429 lk_L_86 hl6 ⟨Nat.le_of_ble_eq_true rfl, Nat.le_of_ble_eq_true rfl⟩ (catLe (Nat.le_of_ble_eq_true rfl)) ⟨rfl, rfl⟩ rfl (Nat.le_of_ble_eq_true rfl) (Nat.le_of_ble_eq_true rfl) (fun z429 S429 A429 i429 p429 => ?_)
                  obtain ⟨rfl, rfl, hF429⟩ := p429
                  have hP := pi_fr hP hF429
                  have hFc := hFc.tr hF429
                  refine r_aload_n C dL_isSound_432 lg_0 ?_
                  refine r_iload_n C dL_isSound_433 lg_1 ?_
                  refine r_iload_n C dL_isSound_434 lg_2 ?_
                  refine r_iconst C dL_isSound_435 ?_
                  refine r_isub C dL_isSound_436 ?_
                  refine q_V2J C (cZ_received hfl hP hak1) dL_isSound_437 lk_L_86 hl6 ⟨Nat.le_of_ble_eq_true rfl, Nat.le_of_ble_eq_true rfl⟩ (catLe (Nat.le_of_ble_eq_true rfl)) ⟨rfl, rfl⟩ rfl (Nat.le_of_ble_eq_true rfl) (Nat.le_of_ble_eq_true rfl) (fun z437 S437 A437 i437 p437 => ?_)
                  obtain ⟨rfl, rfl, hF437⟩ := p437
                  have hP := pi_fr hP hF437
                  have hFc := hFc.tr hF437
                  refine r_lclt C (tgt := 492) dL_isSound_440 dL_isSound_441 (by decide) (by omega) (by omega) (fun c440 => ?_) (fun c440 => ?_)
                  · exfalso; omega
                  · refine r_aload_n C dL_isSound_444 lg_0 ?_
                    refine r_iload_n C dL_isSound_445 lg_1 ?_
                    refine r_iload_n C dL_isSound_446 lg_2 ?_
                    refine r_iload C dL_isSound_447 lg_10 ?_
                    refine q_V3J C (cZ_issued hfl hP hak hy) dL_isSound_449 lk_L_97 hl6 ⟨Nat.le_of_ble_eq_true rfl, Nat.le_of_ble_eq_true rfl⟩ (catLe (Nat.le_of_ble_eq_true rfl)) ⟨rfl, rfl⟩ rfl (Nat.le_of_ble_eq_true rfl) (Nat.le_of_ble_eq_true rfl) (fun z449 S449 A449 i449 p449 => ?_)
                    obtain ⟨rfl, rfl, hF449⟩ := p449
                    have hP := pi_fr hP hF449
                    have hFc := hFc.tr hF449
                    refine r_aload_n C dL_isSound_452 lg_0 ?_
                    refine r_iload_n C dL_isSound_453 lg_1 ?_
                    refine r_iload_n C dL_isSound_454 lg_2 ?_
                    refine r_iconst C dL_isSound_455 ?_
                    refine r_isub C dL_isSound_456 ?_
                    refine r_iload C dL_isSound_457 lg_10 ?_
                    refine q_V3J C (cZ_issued hfl hP hak1 hy) dL_isSound_459 lk_L_97 hl6 ⟨Nat.le_of_ble_eq_true rfl, Nat.le_of_ble_eq_true rfl⟩ (catLe (Nat.le_of_ble_eq_true rfl)) ⟨rfl, rfl⟩ rfl (Nat.le_of_ble_eq_true rfl) (Nat.le_of_ble_eq_true rfl) (fun z459 S459 A459 i459 p459 => ?_)
                    obtain ⟨rfl, rfl, hF459⟩ := p459
                    have hP := pi_fr hP hF459
                    have hFc := hFc.tr hF459
                    refine r_lclt C (tgt := 492) dL_isSound_462 dL_isSound_463 (by decide) (by omega) (by omega) (fun c462 => ?_) (fun c462 => ?_)
                    · exfalso; omega
                    · refine r_aload_n C dL_isSound_466 lg_0 ?_
                      refine r_iload_n C dL_isSound_467 lg_1 ?_
                      refine r_iload_n C dL_isSound_468 lg_2 ?_
                      refine r_iload C dL_isSound_469 lg_10 ?_
                      refine q_V3J C (cZ_expensed hfl hP hak hy) dL_isSound_471 lk_L_103 hl6 ⟨Nat.le_of_ble_eq_true rfl, Nat.le_of_ble_eq_true rfl⟩ (catLe (Nat.le_of_ble_eq_true rfl)) ⟨rfl, rfl⟩ rfl (Nat.le_of_ble_eq_true rfl) (Nat.le_of_ble_eq_true rfl) (fun z471 S471 A471 i471 p471 => ?_)
                      obtain ⟨rfl, rfl, hF471⟩ := p471
                      have hP := pi_fr hP hF471
                      have hFc := hFc.tr hF471
                      refine r_aload_n C dL_isSound_474 lg_0 ?_
                      refine r_iload_n C dL_isSound_475 lg_1 ?_
                      refine r_iload_n C dL_isSound_476 lg_2 ?_
                      refine r_iconst C dL_isSound_477 ?_
                      refine r_isub C dL_isSound_478 ?_
                      refine r_iload C dL_isSound_479 lg_10 ?_
                      refine q_V3J C (cZ_expensed hfl hP hak1 hy) dL_isSound_481 lk_L_103 hl6 ⟨Nat.le_of_ble_eq_true rfl, Nat.le_of_ble_eq_true rfl⟩ (catLe (Nat.le_of_ble_eq_true rfl)) ⟨rfl, rfl⟩ rfl (Nat.le_of_ble_eq_true rfl) (Nat.le_of_ble_eq_true rfl) (fun z481 S481 A481 i481 p481 => ?_)
                      obtain ⟨rfl, rfl, hF481⟩ := p481
                      have hP := pi_fr hP hF481
                      have hFc := hFc.tr hF481
                      refine r_lclt C (tgt := 492) dL_isSound_484 dL_isSound_485 (by decide) (by omega) (by omega) (fun c484 => ?_) (fun c484 => ?_)
                      · exfalso; omega
                      · refine r_iconst C dL_isSound_488 ?_
                        refine r_goto C (tgt := 493) dL_isSound_489 (by decide) ?_
                        refine r_istore C dL_isSound_493 (ls1_8 rfl rfl) ?_
                        refine r_iinc C dL_isSound_495 lg_9 (ls1_9 rfl rfl) ?_
                        refine r_goto C (tgt := 284) dL_isSound_498 (by decide) ?_
                        refine r_le C (lle_k (lle_k (lle_k (lle_k (lle_k (lle_k (lle_k (lle_k (lle_k (lle_k (lle_f lle_0))))))))))) ?_
                        exact ih (k + 1) _ (by omega) (by omega) hFc (by omega)
            · refine r_aload_n C dL_isSound_366 lg_0 ?_
              refine r_iload_n C dL_isSound_367 lg_1 ?_
              refine r_iload_n C dL_isSound_368 lg_2 ?_
              refine r_iload C dL_isSound_369 lg_10 ?_
              refine q_V3J C (cZ_issued hfl hP hak hy) dL_isSound_371 lk_L_97 hl6 ⟨Nat.le_of_ble_eq_true rfl, Nat.le_of_ble_eq_true rfl⟩ (catLe (Nat.le_of_ble_eq_true rfl)) ⟨rfl, rfl⟩ rfl (Nat.le_of_ble_eq_true rfl) (Nat.le_of_ble_eq_true rfl) (fun z371 S371 A371 i371 p371 => ?_)
              obtain ⟨rfl, rfl, hF371⟩ := p371
              have hP := pi_fr hP hF371
              have hFc := hFc.tr hF371
              refine r_lconst C dL_isSound_374 0 rfl ?_
              refine r_lclt C (tgt := 414) dL_isSound_375 dL_isSound_376 (by decide) (by omega) (by omega) (fun c375 => ?_) (fun c375 => ?_)
              · refine r_iconst C dL_isSound_414 ?_
                refine r_istore C dL_isSound_415 (ls1_8 rfl rfl) ?_
                refine r_iload C dL_isSound_417 lg_8 ?_
                refine r_ifeq C (tgt := 492) dL_isSound_419 (by decide) (by omega) (fun c419 => ?_) (fun c419 => ?_)
                · exfalso; omega
                · refine r_iload_n C dL_isSound_422 lg_2 ?_
                  refine r_ifeq C (tgt := 488) dL_isSound_423 (by decide) (by omega) (fun c423 => ?_) (fun c423 => ?_)
                  · refine r_iconst C dL_isSound_488 ?_
                    refine r_goto C (tgt := 493) dL_isSound_489 (by decide) ?_
                    refine r_istore C dL_isSound_493 (ls1_8 rfl rfl) ?_
                    refine r_iinc C dL_isSound_495 lg_9 (ls1_9 rfl rfl) ?_
                    refine r_goto C (tgt := 284) dL_isSound_498 (by decide) ?_
                    refine r_le C (lle_k (lle_k (lle_k (lle_k (lle_k (lle_k (lle_k (lle_k (lle_k (lle_k (lle_f lle_0))))))))))) ?_
                    exact ih (k + 1) _ (by omega) (by omega) hFc (by omega)
                  · have hak1 : akOk item (day - 1) := ⟨hit, by omega⟩
                    obtain ⟨m1, m2, m3⟩ := mono_y (day := day) hP hit (y := y)
                    obtain ⟨z1, z2, z3, z4, z5, z6, z7⟩ := snd_y (day := day - 1) hP hit (y := y)
                    refine r_aload_n C dL_isSound_426 lg_0 ?_
                    refine r_iload_n C dL_isSound_427 lg_1 ?_
                    refine r_iload_n C dL_isSound_428 lg_2 ?_
                    refine q_V2J C (cZ_received hfl hP hak) dL_isSound_429 lk_L_86 hl6 ⟨Nat.le_of_ble_eq_true rfl, Nat.le_of_ble_eq_true rfl⟩ (catLe (Nat.le_of_ble_eq_true rfl)) ⟨rfl, rfl⟩ rfl (Nat.le_of_ble_eq_true rfl) (Nat.le_of_ble_eq_true rfl) (fun z429 S429 A429 i429 p429 => ?_)
                    obtain ⟨rfl, rfl, hF429⟩ := p429
                    have hP := pi_fr hP hF429
                    have hFc := hFc.tr hF429
                    refine r_aload_n C dL_isSound_432 lg_0 ?_
                    refine r_iload_n C dL_isSound_433 lg_1 ?_
                    refine r_iload_n C dL_isSound_434 lg_2 ?_
                    refine r_iconst C dL_isSound_435 ?_
                    refine r_isub C dL_isSound_436 ?_
                    refine q_V2J C (cZ_received hfl hP hak1) dL_isSound_437 lk_L_86 hl6 ⟨Nat.le_of_ble_eq_true rfl, Nat.le_of_ble_eq_true rfl⟩ (catLe (Nat.le_of_ble_eq_true rfl)) ⟨rfl, rfl⟩ rfl (Nat.le_of_ble_eq_true rfl) (Nat.le_of_ble_eq_true rfl) (fun z437 S437 A437 i437 p437 => ?_)
                    obtain ⟨rfl, rfl, hF437⟩ := p437
                    have hP := pi_fr hP hF437
                    have hFc := hFc.tr hF437
                    refine r_lclt C (tgt := 492) dL_isSound_440 dL_isSound_441 (by decide) (by omega) (by omega) (fun c440 => ?_) (fun c440 => ?_)
                    · exfalso; omega
                    · refine r_aload_n C dL_isSound_444 lg_0 ?_
                      refine r_iload_n C dL_isSound_445 lg_1 ?_
                      refine r_iload_n C dL_isSound_446 lg_2 ?_
                      refine r_iload C dL_isSound_447 lg_10 ?_
                      refine q_V3J C (cZ_issued hfl hP hak hy) dL_isSound_449 lk_L_97 hl6 ⟨Nat.le_of_ble_eq_true rfl, Nat.le_of_ble_eq_true rfl⟩ (catLe (Nat.le_of_ble_eq_true rfl)) ⟨rfl, rfl⟩ rfl (Nat.le_of_ble_eq_true rfl) (Nat.le_of_ble_eq_true rfl) (fun z449 S449 A449 i449 p449 => ?_)
                      obtain ⟨rfl, rfl, hF449⟩ := p449
                      have hP := pi_fr hP hF449
                      have hFc := hFc.tr hF449
                      refine r_aload_n C dL_isSound_452 lg_0 ?_
                      refine r_iload_n C dL_isSound_453 lg_1 ?_
                      refine r_iload_n C dL_isSound_454 lg_2 ?_
                      refine r_iconst C dL_isSound_455 ?_
                      refine r_isub C dL_isSound_456 ?_
                      refine r_iload C dL_isSound_457 lg_10 ?_
                      refine q_V3J C (cZ_issued hfl hP hak1 hy) dL_isSound_459 lk_L_97 hl6 ⟨Nat.le_of_ble_eq_true rfl, Nat.le_of_ble_eq_true rfl⟩ (catLe (Nat.le_of_ble_eq_true rfl)) ⟨rfl, rfl⟩ rfl (Nat.le_of_ble_eq_true rfl) (Nat.le_of_ble_eq_true rfl) (fun z459 S459 A459 i459 p459 => ?_)
                      obtain ⟨rfl, rfl, hF459⟩ := p459
                      have hP := pi_fr hP hF459
                      have hFc := hFc.tr hF459
                      refine r_lclt C (tgt := 492) dL_isSound_462 dL_isSound_463 (by decide) (by omega) (by omega) (fun c462 => ?_) (fun c462 => ?_)
                      · exfalso; omega
                      · refine r_aload_n C dL_isSound_466 lg_0 ?_
                        refine r_iload_n C dL_isSound_467 lg_1 ?_
                        refine r_iload_n C dL_isSound_468 lg_2 ?_
                        refine r_iload C dL_isSound_469 lg_10 ?_
                        refine q_V3J C (cZ_expensed hfl hP hak hy) dL_isSound_471 lk_L_103 hl6 ⟨Nat.le_of_ble_eq_true rfl, Nat.le_of_ble_eq_true rfl⟩ (catLe (Nat.le_of_ble_eq_true rfl)) ⟨rfl, rfl⟩ rfl (Nat.le_of_ble_eq_true rfl) (Nat.le_of_ble_eq_true rfl) (fun z471 S471 A471 i471 p471 => ?_)
                        obtain ⟨rfl, rfl, hF471⟩ := p471
                        have hP := pi_fr hP hF471
                        have hFc := hFc.tr hF471
                        refine r_aload_n C dL_isSound_474 lg_0 ?_
                        refine r_iload_n C dL_isSound_475 lg_1 ?_
                        refine r_iload_n C dL_isSound_476 lg_2 ?_
                        refine r_iconst C dL_isSound_477 ?_
                        refine r_isub C dL_isSound_478 ?_
                        refine r_iload C dL_isSound_479 lg_10 ?_
                        refine q_V3J C (cZ_expensed hfl hP hak1 hy) dL_isSound_481 lk_L_103 hl6 ⟨Nat.le_of_ble_eq_true rfl, Nat.le_of_ble_eq_true rfl⟩ (catLe (Nat.le_of_ble_eq_true rfl)) ⟨rfl, rfl⟩ rfl (Nat.le_of_ble_eq_true rfl) (Nat.le_of_ble_eq_true rfl) (fun z481 S481 A481 i481 p481 => ?_)
                        obtain ⟨rfl, rfl, hF481⟩ := p481
                        have hP := pi_fr hP hF481
                        have hFc := hFc.tr hF481
                        refine r_lclt C (tgt := 492) dL_isSound_484 dL_isSound_485 (by decide) (by omega) (by omega) (fun c484 => ?_) (fun c484 => ?_)
                        · exfalso; omega
                        · refine r_iconst C dL_isSound_488 ?_
                          refine r_goto C (tgt := 493) dL_isSound_489 (by decide) ?_
                          refine r_istore C dL_isSound_493 (ls1_8 rfl rfl) ?_
                          refine r_iinc C dL_isSound_495 lg_9 (ls1_9 rfl rfl) ?_
                          refine r_goto C (tgt := 284) dL_isSound_498 (by decide) ?_
                          refine r_le C (lle_k (lle_k (lle_k (lle_k (lle_k (lle_k (lle_k (lle_k (lle_k (lle_k (lle_f lle_0))))))))))) ?_
                          exact ih (k + 1) _ (by omega) (by omega) hFc (by omega)
              · refine r_aload_n C dL_isSound_379 lg_0 ?_
                refine r_iload_n C dL_isSound_380 lg_1 ?_
                refine r_iload_n C dL_isSound_381 lg_2 ?_
                refine r_iload C dL_isSound_382 lg_10 ?_
                refine q_V3J C (cZ_expensed hfl hP hak hy) dL_isSound_384 lk_L_103 hl6 ⟨Nat.le_of_ble_eq_true rfl, Nat.le_of_ble_eq_true rfl⟩ (catLe (Nat.le_of_ble_eq_true rfl)) ⟨rfl, rfl⟩ rfl (Nat.le_of_ble_eq_true rfl) (Nat.le_of_ble_eq_true rfl) (fun z384 S384 A384 i384 p384 => ?_)
                obtain ⟨rfl, rfl, hF384⟩ := p384
                have hP := pi_fr hP hF384
                have hFc := hFc.tr hF384
                refine r_lconst C dL_isSound_387 0 rfl ?_
                refine r_lclt C (tgt := 414) dL_isSound_388 dL_isSound_389 (by decide) (by omega) (by omega) (fun c388 => ?_) (fun c388 => ?_)
                · refine r_iconst C dL_isSound_414 ?_
                  refine r_istore C dL_isSound_415 (ls1_8 rfl rfl) ?_
                  refine r_iload C dL_isSound_417 lg_8 ?_
                  refine r_ifeq C (tgt := 492) dL_isSound_419 (by decide) (by omega) (fun c419 => ?_) (fun c419 => ?_)
                  · exfalso; omega
                  · refine r_iload_n C dL_isSound_422 lg_2 ?_
                    refine r_ifeq C (tgt := 488) dL_isSound_423 (by decide) (by omega) (fun c423 => ?_) (fun c423 => ?_)
                    · refine r_iconst C dL_isSound_488 ?_
                      refine r_goto C (tgt := 493) dL_isSound_489 (by decide) ?_
                      refine r_istore C dL_isSound_493 (ls1_8 rfl rfl) ?_
                      refine r_iinc C dL_isSound_495 lg_9 (ls1_9 rfl rfl) ?_
                      refine r_goto C (tgt := 284) dL_isSound_498 (by decide) ?_
                      refine r_le C (lle_k (lle_k (lle_k (lle_k (lle_k (lle_k (lle_k (lle_k (lle_k (lle_k (lle_f lle_0))))))))))) ?_
                      exact ih (k + 1) _ (by omega) (by omega) hFc (by omega)
                    · have hak1 : akOk item (day - 1) := ⟨hit, by omega⟩
                      obtain ⟨m1, m2, m3⟩ := mono_y (day := day) hP hit (y := y)
                      obtain ⟨z1, z2, z3, z4, z5, z6, z7⟩ := snd_y (day := day - 1) hP hit (y := y)
                      refine r_aload_n C dL_isSound_426 lg_0 ?_
                      refine r_iload_n C dL_isSound_427 lg_1 ?_
                      refine r_iload_n C dL_isSound_428 lg_2 ?_
                      refine q_V2J C (cZ_received hfl hP hak) dL_isSound_429 lk_L_86 hl6 ⟨Nat.le_of_ble_eq_true rfl, Nat.le_of_ble_eq_true rfl⟩ (catLe (Nat.le_of_ble_eq_true rfl)) ⟨rfl, rfl⟩ rfl (Nat.le_of_ble_eq_true rfl) (Nat.le_of_ble_eq_true rfl) (fun z429 S429 A429 i429 p429 => ?_)
                      obtain ⟨rfl, rfl, hF429⟩ := p429
                      have hP := pi_fr hP hF429
                      have hFc := hFc.tr hF429
                      refine r_aload_n C dL_isSound_432 lg_0 ?_
                      refine r_iload_n C dL_isSound_433 lg_1 ?_
                      refine r_iload_n C dL_isSound_434 lg_2 ?_
                      refine r_iconst C dL_isSound_435 ?_
                      refine r_isub C dL_isSound_436 ?_
                      refine q_V2J C (cZ_received hfl hP hak1) dL_isSound_437 lk_L_86 hl6 ⟨Nat.le_of_ble_eq_true rfl, Nat.le_of_ble_eq_true rfl⟩ (catLe (Nat.le_of_ble_eq_true rfl)) ⟨rfl, rfl⟩ rfl (Nat.le_of_ble_eq_true rfl) (Nat.le_of_ble_eq_true rfl) (fun z437 S437 A437 i437 p437 => ?_)
                      obtain ⟨rfl, rfl, hF437⟩ := p437
                      have hP := pi_fr hP hF437
                      have hFc := hFc.tr hF437
                      refine r_lclt C (tgt := 492) dL_isSound_440 dL_isSound_441 (by decide) (by omega) (by omega) (fun c440 => ?_) (fun c440 => ?_)
                      · exfalso; omega
                      · refine r_aload_n C dL_isSound_444 lg_0 ?_
                        refine r_iload_n C dL_isSound_445 lg_1 ?_
                        refine r_iload_n C dL_isSound_446 lg_2 ?_
                        refine r_iload C dL_isSound_447 lg_10 ?_
                        refine q_V3J C (cZ_issued hfl hP hak hy) dL_isSound_449 lk_L_97 hl6 ⟨Nat.le_of_ble_eq_true rfl, Nat.le_of_ble_eq_true rfl⟩ (catLe (Nat.le_of_ble_eq_true rfl)) ⟨rfl, rfl⟩ rfl (Nat.le_of_ble_eq_true rfl) (Nat.le_of_ble_eq_true rfl) (fun z449 S449 A449 i449 p449 => ?_)
                        obtain ⟨rfl, rfl, hF449⟩ := p449
                        have hP := pi_fr hP hF449
                        have hFc := hFc.tr hF449
                        refine r_aload_n C dL_isSound_452 lg_0 ?_
                        refine r_iload_n C dL_isSound_453 lg_1 ?_
                        refine r_iload_n C dL_isSound_454 lg_2 ?_
                        refine r_iconst C dL_isSound_455 ?_
                        refine r_isub C dL_isSound_456 ?_
                        refine r_iload C dL_isSound_457 lg_10 ?_
                        refine q_V3J C (cZ_issued hfl hP hak1 hy) dL_isSound_459 lk_L_97 hl6 ⟨Nat.le_of_ble_eq_true rfl, Nat.le_of_ble_eq_true rfl⟩ (catLe (Nat.le_of_ble_eq_true rfl)) ⟨rfl, rfl⟩ rfl (Nat.le_of_ble_eq_true rfl) (Nat.le_of_ble_eq_true rfl) (fun z459 S459 A459 i459 p459 => ?_)
                        obtain ⟨rfl, rfl, hF459⟩ := p459
                        have hP := pi_fr hP hF459
                        have hFc := hFc.tr hF459
                        refine r_lclt C (tgt := 492) dL_isSound_462 dL_isSound_463 (by decide) (by omega) (by omega) (fun c462 => ?_) (fun c462 => ?_)
                        · exfalso; omega
                        · refine r_aload_n C dL_isSound_466 lg_0 ?_
                          refine r_iload_n C dL_isSound_467 lg_1 ?_
                          refine r_iload_n C dL_isSound_468 lg_2 ?_
                          refine r_iload C dL_isSound_469 lg_10 ?_
                          refine q_V3J C (cZ_expensed hfl hP hak hy) dL_isSound_471 lk_L_103 hl6 ⟨Nat.le_of_ble_eq_true rfl, Nat.le_of_ble_eq_true rfl⟩ (catLe (Nat.le_of_ble_eq_true rfl)) ⟨rfl, rfl⟩ rfl (Nat.le_of_ble_eq_true rfl) (Nat.le_of_ble_eq_true rfl) (fun z471 S471 A471 i471 p471 => ?_)
                          obtain ⟨rfl, rfl, hF471⟩ := p471
                          have hP := pi_fr hP hF471
                          have hFc := hFc.tr hF471
                          refine r_aload_n C dL_isSound_474 lg_0 ?_
                          refine r_iload_n C dL_isSound_475 lg_1 ?_
                          refine r_iload_n C dL_isSound_476 lg_2 ?_
                          refine r_iconst C dL_isSound_477 ?_
                          refine r_isub C dL_isSound_478 ?_
                          refine r_iload C dL_isSound_479 lg_10 ?_
                          refine q_V3J C (cZ_expensed hfl hP hak1 hy) dL_isSound_481 lk_L_103 hl6 ⟨Nat.le_of_ble_eq_true rfl, Nat.le_of_ble_eq_true rfl⟩ (catLe (Nat.le_of_ble_eq_true rfl)) ⟨rfl, rfl⟩ rfl (Nat.le_of_ble_eq_true rfl) (Nat.le_of_ble_eq_true rfl) (fun z481 S481 A481 i481 p481 => ?_)
                          obtain ⟨rfl, rfl, hF481⟩ := p481
                          have hP := pi_fr hP hF481
                          have hFc := hFc.tr hF481
                          refine r_lclt C (tgt := 492) dL_isSound_484 dL_isSound_485 (by decide) (by omega) (by omega) (fun c484 => ?_) (fun c484 => ?_)
                          · exfalso; omega
                          · refine r_iconst C dL_isSound_488 ?_
                            refine r_goto C (tgt := 493) dL_isSound_489 (by decide) ?_
                            refine r_istore C dL_isSound_493 (ls1_8 rfl rfl) ?_
                            refine r_iinc C dL_isSound_495 lg_9 (ls1_9 rfl rfl) ?_
                            refine r_goto C (tgt := 284) dL_isSound_498 (by decide) ?_
                            refine r_le C (lle_k (lle_k (lle_k (lle_k (lle_k (lle_k (lle_k (lle_k (lle_k (lle_k (lle_f lle_0))))))))))) ?_
                            exact ih (k + 1) _ (by omega) (by omega) hFc (by omega)
                · refine r_iload C dL_isSound_392 lg_7 ?_
                  refine r_ifgt C (tgt := 410) dL_isSound_394 (by decide) (by omega) (fun c394 => ?_) (fun c394 => ?_)
                  · refine r_iconst C dL_isSound_410 ?_
                    refine r_goto C (tgt := 415) dL_isSound_411 (by decide) ?_
                    refine r_istore C dL_isSound_415 (ls1_8 rfl rfl) ?_
                    refine r_iload C dL_isSound_417 lg_8 ?_
                    refine r_ifeq C (tgt := 492) dL_isSound_419 (by decide) (by omega) (fun c419 => ?_) (fun c419 => ?_)
                    · exfalso; omega
                    · refine r_iload_n C dL_isSound_422 lg_2 ?_
                      refine r_ifeq C (tgt := 488) dL_isSound_423 (by decide) (by omega) (fun c423 => ?_) (fun c423 => ?_)
                      · refine r_iconst C dL_isSound_488 ?_
                        refine r_goto C (tgt := 493) dL_isSound_489 (by decide) ?_
                        refine r_istore C dL_isSound_493 (ls1_8 rfl rfl) ?_
                        refine r_iinc C dL_isSound_495 lg_9 (ls1_9 rfl rfl) ?_
                        refine r_goto C (tgt := 284) dL_isSound_498 (by decide) ?_
                        refine r_le C (lle_k (lle_k (lle_k (lle_k (lle_k (lle_k (lle_k (lle_k (lle_k (lle_k (lle_f lle_0))))))))))) ?_
                        exact ih (k + 1) _ (by omega) (by omega) hFc (by omega)
                      · have hak1 : akOk item (day - 1) := ⟨hit, by omega⟩
                        obtain ⟨m1, m2, m3⟩ := mono_y (day := day) hP hit (y := y)
                        obtain ⟨z1, z2, z3, z4, z5, z6, z7⟩ := snd_y (day := day - 1) hP hit (y := y)
                        refine r_aload_n C dL_isSound_426 lg_0 ?_
                        refine r_iload_n C dL_isSound_427 lg_1 ?_
                        refine r_iload_n C dL_isSound_428 lg_2 ?_
                        refine q_V2J C (cZ_received hfl hP hak) dL_isSound_429 lk_L_86 hl6 ⟨Nat.le_of_ble_eq_true rfl, Nat.le_of_ble_eq_true rfl⟩ (catLe (Nat.le_of_ble_eq_true rfl)) ⟨rfl, rfl⟩ rfl (Nat.le_of_ble_eq_true rfl) (Nat.le_of_ble_eq_true rfl) (fun z429 S429 A429 i429 p429 => ?_)
                        obtain ⟨rfl, rfl, hF429⟩ := p429
                        have hP := pi_fr hP hF429
                        have hFc := hFc.tr hF429
                        refine r_aload_n C dL_isSound_432 lg_0 ?_
                        refine r_iload_n C dL_isSound_433 lg_1 ?_
                        refine r_iload_n C dL_isSound_434 lg_2 ?_
                        refine r_iconst C dL_isSound_435 ?_
                        refine r_isub C dL_isSound_436 ?_
                        refine q_V2J C (cZ_received hfl hP hak1) dL_isSound_437 lk_L_86 hl6 ⟨Nat.le_of_ble_eq_true rfl, Nat.le_of_ble_eq_true rfl⟩ (catLe (Nat.le_of_ble_eq_true rfl)) ⟨rfl, rfl⟩ rfl (Nat.le_of_ble_eq_true rfl) (Nat.le_of_ble_eq_true rfl) (fun z437 S437 A437 i437 p437 => ?_)
                        obtain ⟨rfl, rfl, hF437⟩ := p437
                        have hP := pi_fr hP hF437
                        have hFc := hFc.tr hF437
                        refine r_lclt C (tgt := 492) dL_isSound_440 dL_isSound_441 (by decide) (by omega) (by omega) (fun c440 => ?_) (fun c440 => ?_)
                        · exfalso; omega
                        · refine r_aload_n C dL_isSound_444 lg_0 ?_
                          refine r_iload_n C dL_isSound_445 lg_1 ?_
                          refine r_iload_n C dL_isSound_446 lg_2 ?_
                          refine r_iload C dL_isSound_447 lg_10 ?_
                          refine q_V3J C (cZ_issued hfl hP hak hy) dL_isSound_449 lk_L_97 hl6 ⟨Nat.le_of_ble_eq_true rfl, Nat.le_of_ble_eq_true rfl⟩ (catLe (Nat.le_of_ble_eq_true rfl)) ⟨rfl, rfl⟩ rfl (Nat.le_of_ble_eq_true rfl) (Nat.le_of_ble_eq_true rfl) (fun z449 S449 A449 i449 p449 => ?_)
                          obtain ⟨rfl, rfl, hF449⟩ := p449
                          have hP := pi_fr hP hF449
                          have hFc := hFc.tr hF449
                          refine r_aload_n C dL_isSound_452 lg_0 ?_
                          refine r_iload_n C dL_isSound_453 lg_1 ?_
                          refine r_iload_n C dL_isSound_454 lg_2 ?_
                          refine r_iconst C dL_isSound_455 ?_
                          refine r_isub C dL_isSound_456 ?_
                          refine r_iload C dL_isSound_457 lg_10 ?_
                          refine q_V3J C (cZ_issued hfl hP hak1 hy) dL_isSound_459 lk_L_97 hl6 ⟨Nat.le_of_ble_eq_true rfl, Nat.le_of_ble_eq_true rfl⟩ (catLe (Nat.le_of_ble_eq_true rfl)) ⟨rfl, rfl⟩ rfl (Nat.le_of_ble_eq_true rfl) (Nat.le_of_ble_eq_true rfl) (fun z459 S459 A459 i459 p459 => ?_)
                          obtain ⟨rfl, rfl, hF459⟩ := p459
                          have hP := pi_fr hP hF459
                          have hFc := hFc.tr hF459
                          refine r_lclt C (tgt := 492) dL_isSound_462 dL_isSound_463 (by decide) (by omega) (by omega) (fun c462 => ?_) (fun c462 => ?_)
                          · exfalso; omega
                          · refine r_aload_n C dL_isSound_466 lg_0 ?_
                            refine r_iload_n C dL_isSound_467 lg_1 ?_
                            refine r_iload_n C dL_isSound_468 lg_2 ?_
                            refine r_iload C dL_isSound_469 lg_10 ?_
                            refine q_V3J C (cZ_expensed hfl hP hak hy) dL_isSound_471 lk_L_103 hl6 ⟨Nat.le_of_ble_eq_true rfl, Nat.le_of_ble_eq_true rfl⟩ (catLe (Nat.le_of_ble_eq_true rfl)) ⟨rfl, rfl⟩ rfl (Nat.le_of_ble_eq_true rfl) (Nat.le_of_ble_eq_true rfl) (fun z471 S471 A471 i471 p471 => ?_)
                            obtain ⟨rfl, rfl, hF471⟩ := p471
                            have hP := pi_fr hP hF471
                            have hFc := hFc.tr hF471
                            refine r_aload_n C dL_isSound_474 lg_0 ?_
                            refine r_iload_n C dL_isSound_475 lg_1 ?_
                            refine r_iload_n C dL_isSound_476 lg_2 ?_
                            refine r_iconst C dL_isSound_477 ?_
                            refine r_isub C dL_isSound_478 ?_
                            refine r_iload C dL_isSound_479 lg_10 ?_
                            refine q_V3J C (cZ_expensed hfl hP hak1 hy) dL_isSound_481 lk_L_103 hl6 ⟨Nat.le_of_ble_eq_true rfl, Nat.le_of_ble_eq_true rfl⟩ (catLe (Nat.le_of_ble_eq_true rfl)) ⟨rfl, rfl⟩ rfl (Nat.le_of_ble_eq_true rfl) (Nat.le_of_ble_eq_true rfl) (fun z481 S481 A481 i481 p481 => ?_)
                            obtain ⟨rfl, rfl, hF481⟩ := p481
                            have hP := pi_fr hP hF481
                            have hFc := hFc.tr hF481
                            refine r_lclt C (tgt := 492) dL_isSound_484 dL_isSound_485 (by decide) (by omega) (by omega) (fun c484 => ?_) (fun c484 => ?_)
                            · exfalso; omega
                            · refine r_iconst C dL_isSound_488 ?_
                              refine r_goto C (tgt := 493) dL_isSound_489 (by decide) ?_
                              refine r_istore C dL_isSound_493 (ls1_8 rfl rfl) ?_
                              refine r_iinc C dL_isSound_495 lg_9 (ls1_9 rfl rfl) ?_
                              refine r_goto C (tgt := 284) dL_isSound_498 (by decide) ?_
                              refine r_le C (lle_k (lle_k (lle_k (lle_k (lle_k (lle_k (lle_k (lle_k (lle_k (lle_k (lle_f lle_0))))))))))) ?_
                              exact ih (k + 1) _ (by omega) (by omega) hFc (by omega)
                  · refine r_aload_n C dL_isSound_397 lg_0 ?_
                    refine r_iload_n C dL_isSound_398 lg_1 ?_
                    refine r_iload_n C dL_isSound_399 lg_2 ?_
                    refine r_iload C dL_isSound_400 lg_10 ?_
                    refine q_V3J C (cZ_value hfl hP hak hy) dL_isSound_402 lk_L_93 hl6 ⟨Nat.le_of_ble_eq_true rfl, Nat.le_of_ble_eq_true rfl⟩ (catLe (Nat.le_of_ble_eq_true rfl)) ⟨rfl, rfl⟩ rfl (Nat.le_of_ble_eq_true rfl) (Nat.le_of_ble_eq_true rfl) (fun z402 S402 A402 i402 p402 => ?_)
                    obtain ⟨rfl, rfl, hF402⟩ := p402
                    have hP := pi_fr hP hF402
                    have hFc := hFc.tr hF402
                    refine r_lconst C dL_isSound_405 0 rfl ?_
                    refine r_lcne C (tgt := 414) dL_isSound_406 dL_isSound_407 (by decide) (by omega) (by omega) (fun c406 => ?_) (fun c406 => ?_)
                    · refine r_iconst C dL_isSound_414 ?_
                      refine r_istore C dL_isSound_415 (ls1_8 rfl rfl) ?_
                      refine r_iload C dL_isSound_417 lg_8 ?_
                      refine r_ifeq C (tgt := 492) dL_isSound_419 (by decide) (by omega) (fun c419 => ?_) (fun c419 => ?_)
                      · exfalso; omega
                      · refine r_iload_n C dL_isSound_422 lg_2 ?_
                        refine r_ifeq C (tgt := 488) dL_isSound_423 (by decide) (by omega) (fun c423 => ?_) (fun c423 => ?_)
                        · refine r_iconst C dL_isSound_488 ?_
                          refine r_goto C (tgt := 493) dL_isSound_489 (by decide) ?_
                          refine r_istore C dL_isSound_493 (ls1_8 rfl rfl) ?_
                          refine r_iinc C dL_isSound_495 lg_9 (ls1_9 rfl rfl) ?_
                          refine r_goto C (tgt := 284) dL_isSound_498 (by decide) ?_
                          refine r_le C (lle_k (lle_k (lle_k (lle_k (lle_k (lle_k (lle_k (lle_k (lle_k (lle_k (lle_f lle_0))))))))))) ?_
                          exact ih (k + 1) _ (by omega) (by omega) hFc (by omega)
                        · have hak1 : akOk item (day - 1) := ⟨hit, by omega⟩
                          obtain ⟨m1, m2, m3⟩ := mono_y (day := day) hP hit (y := y)
                          obtain ⟨z1, z2, z3, z4, z5, z6, z7⟩ := snd_y (day := day - 1) hP hit (y := y)
                          refine r_aload_n C dL_isSound_426 lg_0 ?_
                          refine r_iload_n C dL_isSound_427 lg_1 ?_
                          refine r_iload_n C dL_isSound_428 lg_2 ?_
                          refine q_V2J C (cZ_received hfl hP hak) dL_isSound_429 lk_L_86 hl6 ⟨Nat.le_of_ble_eq_true rfl, Nat.le_of_ble_eq_true rfl⟩ (catLe (Nat.le_of_ble_eq_true rfl)) ⟨rfl, rfl⟩ rfl (Nat.le_of_ble_eq_true rfl) (Nat.le_of_ble_eq_true rfl) (fun z429 S429 A429 i429 p429 => ?_)
                          obtain ⟨rfl, rfl, hF429⟩ := p429
                          have hP := pi_fr hP hF429
                          have hFc := hFc.tr hF429
                          refine r_aload_n C dL_isSound_432 lg_0 ?_
                          refine r_iload_n C dL_isSound_433 lg_1 ?_
                          refine r_iload_n C dL_isSound_434 lg_2 ?_
                          refine r_iconst C dL_isSound_435 ?_
                          refine r_isub C dL_isSound_436 ?_
                          refine q_V2J C (cZ_received hfl hP hak1) dL_isSound_437 lk_L_86 hl6 ⟨Nat.le_of_ble_eq_true rfl, Nat.le_of_ble_eq_true rfl⟩ (catLe (Nat.le_of_ble_eq_true rfl)) ⟨rfl, rfl⟩ rfl (Nat.le_of_ble_eq_true rfl) (Nat.le_of_ble_eq_true rfl) (fun z437 S437 A437 i437 p437 => ?_)
                          obtain ⟨rfl, rfl, hF437⟩ := p437
                          have hP := pi_fr hP hF437
                          have hFc := hFc.tr hF437
                          refine r_lclt C (tgt := 492) dL_isSound_440 dL_isSound_441 (by decide) (by omega) (by omega) (fun c440 => ?_) (fun c440 => ?_)
                          · exfalso; omega
                          · refine r_aload_n C dL_isSound_444 lg_0 ?_
                            refine r_iload_n C dL_isSound_445 lg_1 ?_
                            refine r_iload_n C dL_isSound_446 lg_2 ?_
                            refine r_iload C dL_isSound_447 lg_10 ?_
                            refine q_V3J C (cZ_issued hfl hP hak hy) dL_isSound_449 lk_L_97 hl6 ⟨Nat.le_of_ble_eq_true rfl, Nat.le_of_ble_eq_true rfl⟩ (catLe (Nat.le_of_ble_eq_true rfl)) ⟨rfl, rfl⟩ rfl (Nat.le_of_ble_eq_true rfl) (Nat.le_of_ble_eq_true rfl) (fun z449 S449 A449 i449 p449 => ?_)
                            obtain ⟨rfl, rfl, hF449⟩ := p449
                            have hP := pi_fr hP hF449
                            have hFc := hFc.tr hF449
                            refine r_aload_n C dL_isSound_452 lg_0 ?_
                            refine r_iload_n C dL_isSound_453 lg_1 ?_
                            refine r_iload_n C dL_isSound_454 lg_2 ?_
                            refine r_iconst C dL_isSound_455 ?_
                            refine r_isub C dL_isSound_456 ?_
                            refine r_iload C dL_isSound_457 lg_10 ?_
                            refine q_V3J C (cZ_issued hfl hP hak1 hy) dL_isSound_459 lk_L_97 hl6 ⟨Nat.le_of_ble_eq_true rfl, Nat.le_of_ble_eq_true rfl⟩ (catLe (Nat.le_of_ble_eq_true rfl)) ⟨rfl, rfl⟩ rfl (Nat.le_of_ble_eq_true rfl) (Nat.le_of_ble_eq_true rfl) (fun z459 S459 A459 i459 p459 => ?_)
                            obtain ⟨rfl, rfl, hF459⟩ := p459
                            have hP := pi_fr hP hF459
                            have hFc := hFc.tr hF459
                            refine r_lclt C (tgt := 492) dL_isSound_462 dL_isSound_463 (by decide) (by omega) (by omega) (fun c462 => ?_) (fun c462 => ?_)
                            · exfalso; omega
                            · refine r_aload_n C dL_isSound_466 lg_0 ?_
                              refine r_iload_n C dL_isSound_467 lg_1 ?_
                              refine r_iload_n C dL_isSound_468 lg_2 ?_
                              refine r_iload C dL_isSound_469 lg_10 ?_
                              refine q_V3J C (cZ_expensed hfl hP hak hy) dL_isSound_471 lk_L_103 hl6 ⟨Nat.le_of_ble_eq_true rfl, Nat.le_of_ble_eq_true rfl⟩ (catLe (Nat.le_of_ble_eq_true rfl)) ⟨rfl, rfl⟩ rfl (Nat.le_of_ble_eq_true rfl) (Nat.le_of_ble_eq_true rfl) (fun z471 S471 A471 i471 p471 => ?_)
                              obtain ⟨rfl, rfl, hF471⟩ := p471
                              have hP := pi_fr hP hF471
                              have hFc := hFc.tr hF471
                              refine r_aload_n C dL_isSound_474 lg_0 ?_
                              refine r_iload_n C dL_isSound_475 lg_1 ?_
                              refine r_iload_n C dL_isSound_476 lg_2 ?_
                              refine r_iconst C dL_isSound_477 ?_
                              refine r_isub C dL_isSound_478 ?_
                              refine r_iload C dL_isSound_479 lg_10 ?_
                              refine q_V3J C (cZ_expensed hfl hP hak1 hy) dL_isSound_481 lk_L_103 hl6 ⟨Nat.le_of_ble_eq_true rfl, Nat.le_of_ble_eq_true rfl⟩ (catLe (Nat.le_of_ble_eq_true rfl)) ⟨rfl, rfl⟩ rfl (Nat.le_of_ble_eq_true rfl) (Nat.le_of_ble_eq_true rfl) (fun z481 S481 A481 i481 p481 => ?_)
                              obtain ⟨rfl, rfl, hF481⟩ := p481
                              have hP := pi_fr hP hF481
                              have hFc := hFc.tr hF481
                              refine r_lclt C (tgt := 492) dL_isSound_484 dL_isSound_485 (by decide) (by omega) (by omega) (fun c484 => ?_) (fun c484 => ?_)
                              · exfalso; omega
                              · refine r_iconst C dL_isSound_488 ?_
                                refine r_goto C (tgt := 493) dL_isSound_489 (by decide) ?_
                                refine r_istore C dL_isSound_493 (ls1_8 rfl rfl) ?_
                                refine r_iinc C dL_isSound_495 lg_9 (ls1_9 rfl rfl) ?_
                                refine r_goto C (tgt := 284) dL_isSound_498 (by decide) ?_
                                refine r_le C (lle_k (lle_k (lle_k (lle_k (lle_k (lle_k (lle_k (lle_k (lle_k (lle_k (lle_f lle_0))))))))))) ?_
                                exact ih (k + 1) _ (by omega) (by omega) hFc (by omega)
                    · refine r_iconst C dL_isSound_410 ?_
                      refine r_goto C (tgt := 415) dL_isSound_411 (by decide) ?_
                      refine r_istore C dL_isSound_415 (ls1_8 rfl rfl) ?_
                      refine r_iload C dL_isSound_417 lg_8 ?_
                      refine r_ifeq C (tgt := 492) dL_isSound_419 (by decide) (by omega) (fun c419 => ?_) (fun c419 => ?_)
                      · exfalso; omega
                      · refine r_iload_n C dL_isSound_422 lg_2 ?_
                        refine r_ifeq C (tgt := 488) dL_isSound_423 (by decide) (by omega) (fun c423 => ?_) (fun c423 => ?_)
                        · refine r_iconst C dL_isSound_488 ?_
                          refine r_goto C (tgt := 493) dL_isSound_489 (by decide) ?_
                          refine r_istore C dL_isSound_493 (ls1_8 rfl rfl) ?_
                          refine r_iinc C dL_isSound_495 lg_9 (ls1_9 rfl rfl) ?_
                          refine r_goto C (tgt := 284) dL_isSound_498 (by decide) ?_
                          refine r_le C (lle_k (lle_k (lle_k (lle_k (lle_k (lle_k (lle_k (lle_k (lle_k (lle_k (lle_f lle_0))))))))))) ?_
                          exact ih (k + 1) _ (by omega) (by omega) hFc (by omega)
                        · have hak1 : akOk item (day - 1) := ⟨hit, by omega⟩
                          obtain ⟨m1, m2, m3⟩ := mono_y (day := day) hP hit (y := y)
                          obtain ⟨z1, z2, z3, z4, z5, z6, z7⟩ := snd_y (day := day - 1) hP hit (y := y)
                          refine r_aload_n C dL_isSound_426 lg_0 ?_
                          refine r_iload_n C dL_isSound_427 lg_1 ?_
                          refine r_iload_n C dL_isSound_428 lg_2 ?_
                          refine q_V2J C (cZ_received hfl hP hak) dL_isSound_429 lk_L_86 hl6 ⟨Nat.le_of_ble_eq_true rfl, Nat.le_of_ble_eq_true rfl⟩ (catLe (Nat.le_of_ble_eq_true rfl)) ⟨rfl, rfl⟩ rfl (Nat.le_of_ble_eq_true rfl) (Nat.le_of_ble_eq_true rfl) (fun z429 S429 A429 i429 p429 => ?_)
                          obtain ⟨rfl, rfl, hF429⟩ := p429
                          have hP := pi_fr hP hF429
                          have hFc := hFc.tr hF429
                          refine r_aload_n C dL_isSound_432 lg_0 ?_
                          refine r_iload_n C dL_isSound_433 lg_1 ?_
                          refine r_iload_n C dL_isSound_434 lg_2 ?_
                          refine r_iconst C dL_isSound_435 ?_
                          refine r_isub C dL_isSound_436 ?_
                          refine q_V2J C (cZ_received hfl hP hak1) dL_isSound_437 lk_L_86 hl6 ⟨Nat.le_of_ble_eq_true rfl, Nat.le_of_ble_eq_true rfl⟩ (catLe (Nat.le_of_ble_eq_true rfl)) ⟨rfl, rfl⟩ rfl (Nat.le_of_ble_eq_true rfl) (Nat.le_of_ble_eq_true rfl) (fun z437 S437 A437 i437 p437 => ?_)
                          obtain ⟨rfl, rfl, hF437⟩ := p437
                          have hP := pi_fr hP hF437
                          have hFc := hFc.tr hF437
                          refine r_lclt C (tgt := 492) dL_isSound_440 dL_isSound_441 (by decide) (by omega) (by omega) (fun c440 => ?_) (fun c440 => ?_)
                          · exfalso; omega
                          · refine r_aload_n C dL_isSound_444 lg_0 ?_
                            refine r_iload_n C dL_isSound_445 lg_1 ?_
                            refine r_iload_n C dL_isSound_446 lg_2 ?_
                            refine r_iload C dL_isSound_447 lg_10 ?_
                            refine q_V3J C (cZ_issued hfl hP hak hy) dL_isSound_449 lk_L_97 hl6 ⟨Nat.le_of_ble_eq_true rfl, Nat.le_of_ble_eq_true rfl⟩ (catLe (Nat.le_of_ble_eq_true rfl)) ⟨rfl, rfl⟩ rfl (Nat.le_of_ble_eq_true rfl) (Nat.le_of_ble_eq_true rfl) (fun z449 S449 A449 i449 p449 => ?_)
                            obtain ⟨rfl, rfl, hF449⟩ := p449
                            have hP := pi_fr hP hF449
                            have hFc := hFc.tr hF449
                            refine r_aload_n C dL_isSound_452 lg_0 ?_
                            refine r_iload_n C dL_isSound_453 lg_1 ?_
                            refine r_iload_n C dL_isSound_454 lg_2 ?_
                            refine r_iconst C dL_isSound_455 ?_
                            refine r_isub C dL_isSound_456 ?_
                            refine r_iload C dL_isSound_457 lg_10 ?_
                            refine q_V3J C (cZ_issued hfl hP hak1 hy) dL_isSound_459 lk_L_97 hl6 ⟨Nat.le_of_ble_eq_true rfl, Nat.le_of_ble_eq_true rfl⟩ (catLe (Nat.le_of_ble_eq_true rfl)) ⟨rfl, rfl⟩ rfl (Nat.le_of_ble_eq_true rfl) (Nat.le_of_ble_eq_true rfl) (fun z459 S459 A459 i459 p459 => ?_)
                            obtain ⟨rfl, rfl, hF459⟩ := p459
                            have hP := pi_fr hP hF459
                            have hFc := hFc.tr hF459
                            refine r_lclt C (tgt := 492) dL_isSound_462 dL_isSound_463 (by decide) (by omega) (by omega) (fun c462 => ?_) (fun c462 => ?_)
                            · exfalso; omega
                            · refine r_aload_n C dL_isSound_466 lg_0 ?_
                              refine r_iload_n C dL_isSound_467 lg_1 ?_
                              refine r_iload_n C dL_isSound_468 lg_2 ?_
                              refine r_iload C dL_isSound_469 lg_10 ?_
                              refine q_V3J C (cZ_expensed hfl hP hak hy) dL_isSound_471 lk_L_103 hl6 ⟨Nat.le_of_ble_eq_true rfl, Nat.le_of_ble_eq_true rfl⟩ (catLe (Nat.le_of_ble_eq_true rfl)) ⟨rfl, rfl⟩ rfl (Nat.le_of_ble_eq_true rfl) (Nat.le_of_ble_eq_true rfl) (fun z471 S471 A471 i471 p471 => ?_)
                              obtain ⟨rfl, rfl, hF471⟩ := p471
                              have hP := pi_fr hP hF471
                              have hFc := hFc.tr hF471
                              refine r_aload_n C dL_isSound_474 lg_0 ?_
                              refine r_iload_n C dL_isSound_475 lg_1 ?_
                              refine r_iload_n C dL_isSound_476 lg_2 ?_
                              refine r_iconst C dL_isSound_477 ?_
                              refine r_isub C dL_isSound_478 ?_
                              refine r_iload C dL_isSound_479 lg_10 ?_
                              refine q_V3J C (cZ_expensed hfl hP hak1 hy) dL_isSound_481 lk_L_103 hl6 ⟨Nat.le_of_ble_eq_true rfl, Nat.le_of_ble_eq_true rfl⟩ (catLe (Nat.le_of_ble_eq_true rfl)) ⟨rfl, rfl⟩ rfl (Nat.le_of_ble_eq_true rfl) (Nat.le_of_ble_eq_true rfl) (fun z481 S481 A481 i481 p481 => ?_)
                              obtain ⟨rfl, rfl, hF481⟩ := p481
                              have hP := pi_fr hP hF481
                              have hFc := hFc.tr hF481
                              refine r_lclt C (tgt := 492) dL_isSound_484 dL_isSound_485 (by decide) (by omega) (by omega) (fun c484 => ?_) (fun c484 => ?_)
                              · exfalso; omega
                              · refine r_iconst C dL_isSound_488 ?_
                                refine r_goto C (tgt := 493) dL_isSound_489 (by decide) ?_
                                refine r_istore C dL_isSound_493 (ls1_8 rfl rfl) ?_
                                refine r_iinc C dL_isSound_495 lg_9 (ls1_9 rfl rfl) ?_
                                refine r_goto C (tgt := 284) dL_isSound_498 (by decide) ?_
                                refine r_le C (lle_k (lle_k (lle_k (lle_k (lle_k (lle_k (lle_k (lle_k (lle_k (lle_k (lle_f lle_0))))))))))) ?_
                                exact ih (k + 1) _ (by omega) (by omega) hFc (by omega)
        refine r_iload C dL_isSound_284 lg_9 ?_
        refine r_iconst C dL_isSound_286 ?_
        refine r_icge C (tgt := 501) dL_isSound_287 (by decide) (by omega) (by omega) (fun c287 => ?_) (fun c287 => ?_)
        · refine r_iload C dL_isSound_501 lg_8 ?_
          exact f_Z F dL_isSound_503 (by omega) ⟨rfl, rfl, hF1⟩ (Nat.le_of_ble_eq_true rfl) (Nat.le_of_ble_eq_true rfl)
        · refine r_iload C dL_isSound_290 lg_8 ?_
          refine r_ifeq C (tgt := 501) dL_isSound_292 (by decide) (by omega) (fun c292 => ?_) (fun c292 => ?_)
          · exfalso; omega
          · refine r_iload C dL_isSound_295 lg_9 ?_
            refine r_iconst C dL_isSound_297 ?_
            refine r_icne C (tgt := 305) dL_isSound_298 (by decide) (by omega) (by omega) (fun c298 => ?_) (fun c298 => ?_)
            · refine r_iconst C dL_isSound_305 ?_
              refine r_istore C dL_isSound_306 (ls1_10 rfl rfl) ?_
              first
              | exact j308 1 (Or.inr rfl) (by omega)
              | exact j308 0 (Or.inl rfl) (by omega)
            · refine r_iconst C dL_isSound_301 ?_
              refine r_goto C (tgt := 306) dL_isSound_302 (by decide) ?_
              refine r_istore C dL_isSound_306 (ls1_10 rfl rfl) ?_
              first
              | exact j308 1 (Or.inr rfl) (by omega)
              | exact j308 0 (Or.inl rfl) (by omega)
    exact lp2 3 0 S0 (by omega) (by omega) hF0 (by omega)
  have lp1 : ∀ (N : Nat) (k O cs u : Int) (S1 : ST) (h1 : 0 ≤ k) (h2 : k ≤ hl9) (hF1 : Fr QF S S1) (hbit : ∀ j, 0 ≤ j → j < 64 → (hasB O j ↔ ∃ i, 0 ≤ i ∧ i < k ∧ (fun i => (qat (wk R item day).q i).2.2) i = j)) (hcs : cs = qcK (wk R item day).q k) (hu : u = quK (wk R item day).q k) (hub : 0 ≤ u ∧ u ≤ 1000 * k) (hN : hl9 - k < N), J 14 [some (vR A 6 0), some (vI item), some (vI day), some (vL O), none, some (vL cs), none, some (vI u), some (vI 1), some (vI k), none] [] S1 A 0 0 := by
    intro N
    induction N with
    | zero => intro k O cs u S1 h1 h2 hF1 hbit hcs hu hub hN; omega
    | succ N ih =>
      intro k O cs u S1 h1 h2 hF1 hbit hcs hu hub hN
      have hP := pi_fr hP0 hF1
      have hFc := hF1
      refine r_iload C dL_isSound_14 lg_9 ?_
      refine r_aload_n C dL_isSound_16 lg_0 ?_
      refine r_iload_n C dL_isSound_17 lg_1 ?_
      refine r_iload_n C dL_isSound_18 lg_2 ?_
      refine q_V2I C (cZ_layers hfl hP hak) dL_isSound_19 lk_L_90 hl6 ⟨Nat.le_of_ble_eq_true rfl, Nat.le_of_ble_eq_true rfl⟩ (catLe (Nat.le_of_ble_eq_true rfl)) ⟨rfl, rfl⟩ rfl (Nat.le_of_ble_eq_true rfl) (Nat.le_of_ble_eq_true rfl) (fun z19 S19 A19 i19 p19 => ?_)
      obtain ⟨rfl, rfl, hF19⟩ := p19
      have hP := pi_fr hP hF19
      have hFc := hFc.tr hF19
      refine r_icge C (tgt := 178) dL_isSound_22 (by decide) (by omega) (by omega) (fun c22 => ?_) (fun c22 => ?_)
      · have hk9 : k = ((wk R item day).q.length : Int) := by omega
        have hu9 : u = haR R item day := by rw [hu, hk9, (qcK_all _).2, hqu]
        have hcs9 : cs = qc (wk R item day).q := by rw [hcs, hk9, (qcK_all _).1]
        refine r_iload C dL_isSound_178 lg_8 ?_
        refine r_ifeq C (tgt := 278) dL_isSound_180 (by decide) (by omega) (fun c180 => ?_) (fun c180 => ?_)
        · exfalso; omega
        · refine r_aload_n C dL_isSound_183 lg_0 ?_
          refine r_iload_n C dL_isSound_184 lg_1 ?_
          refine r_iload_n C dL_isSound_185 lg_2 ?_
          refine q_V2I C (cZ_onHand hfl hP hak) dL_isSound_186 lk_L_80 hl6 ⟨Nat.le_of_ble_eq_true rfl, Nat.le_of_ble_eq_true rfl⟩ (catLe (Nat.le_of_ble_eq_true rfl)) ⟨rfl, rfl⟩ rfl (Nat.le_of_ble_eq_true rfl) (Nat.le_of_ble_eq_true rfl) (fun z186 S186 A186 i186 p186 => ?_)
          obtain ⟨rfl, rfl, rfl⟩ := p186
          refine r_iload C dL_isSound_189 lg_7 ?_
          refine r_icne C (tgt := 278) dL_isSound_191 (by decide) (by omega) (by omega) (fun c191 => ?_) (fun c191 => ?_)
          · exfalso; omega
          · refine r_aload_n C dL_isSound_194 lg_0 ?_
            refine r_iload_n C dL_isSound_195 lg_1 ?_
            refine r_iload_n C dL_isSound_196 lg_2 ?_
            refine r_iconst C dL_isSound_197 ?_
            refine q_V3J C (cZ_value hfl hP hak (Or.inl rfl)) dL_isSound_198 lk_L_93 hl6 ⟨Nat.le_of_ble_eq_true rfl, Nat.le_of_ble_eq_true rfl⟩ (catLe (Nat.le_of_ble_eq_true rfl)) ⟨rfl, rfl⟩ rfl (Nat.le_of_ble_eq_true rfl) (Nat.le_of_ble_eq_true rfl) (fun z198 S198 A198 i198 p198 => ?_)
            obtain ⟨rfl, rfl, hF198⟩ := p198
            have hP := pi_fr hP hF198
            have hFc := hFc.tr hF198
            rw [cI_t rfl]
            refine r_lload C dL_isSound_201 lg_5 ?_
            refine r_lcne C (tgt := 278) dL_isSound_203 dL_isSound_204 (by decide) (by omega) (by omega) (fun c203 => ?_) (fun c203 => ?_)
            · exfalso; omega
            · refine r_aload_n C dL_isSound_207 lg_0 ?_
              refine r_iload_n C dL_isSound_208 lg_1 ?_
              refine r_iload_n C dL_isSound_209 lg_2 ?_
              refine q_V2I C (cZ_available hfl hP hak) dL_isSound_210 lk_L_83 hl6 ⟨Nat.le_of_ble_eq_true rfl, Nat.le_of_ble_eq_true rfl⟩ (catLe (Nat.le_of_ble_eq_true rfl)) ⟨rfl, rfl⟩ rfl (Nat.le_of_ble_eq_true rfl) (Nat.le_of_ble_eq_true rfl) (fun z210 S210 A210 i210 p210 => ?_)
              obtain ⟨rfl, rfl, rfl⟩ := p210
              refine r_iflt C (tgt := 278) dL_isSound_213 (by decide) (by omega) (fun c213 => ?_) (fun c213 => ?_)
              · exfalso; omega
              · refine r_aload_n C dL_isSound_216 lg_0 ?_
                refine r_iload_n C dL_isSound_217 lg_1 ?_
                refine r_iload_n C dL_isSound_218 lg_2 ?_
                refine q_V2I C (cZ_available hfl hP hak) dL_isSound_219 lk_L_83 hl6 ⟨Nat.le_of_ble_eq_true rfl, Nat.le_of_ble_eq_true rfl⟩ (catLe (Nat.le_of_ble_eq_true rfl)) ⟨rfl, rfl⟩ rfl (Nat.le_of_ble_eq_true rfl) (Nat.le_of_ble_eq_true rfl) (fun z219 S219 A219 i219 p219 => ?_)
                obtain ⟨rfl, rfl, rfl⟩ := p219
                refine r_sipush C dL_isSound_222 (by decide) ?_
                refine r_icgt C (tgt := 278) dL_isSound_225 (by decide) (by omega) (by omega) (fun c225 => ?_) (fun c225 => ?_)
                · exfalso; omega
                · refine r_aload_n C dL_isSound_228 lg_0 ?_
                  refine r_iload_n C dL_isSound_229 lg_1 ?_
                  refine r_iload_n C dL_isSound_230 lg_2 ?_
                  refine q_V2I C (cZ_available hfl hP hak) dL_isSound_231 lk_L_83 hl6 ⟨Nat.le_of_ble_eq_true rfl, Nat.le_of_ble_eq_true rfl⟩ (catLe (Nat.le_of_ble_eq_true rfl)) ⟨rfl, rfl⟩ rfl (Nat.le_of_ble_eq_true rfl) (Nat.le_of_ble_eq_true rfl) (fun z231 S231 A231 i231 p231 => ?_)
                  obtain ⟨rfl, rfl, rfl⟩ := p231
                  refine r_iload C dL_isSound_234 lg_7 ?_
                  refine r_icgt C (tgt := 278) dL_isSound_236 (by decide) (by omega) (by omega) (fun c236 => ?_) (fun c236 => ?_)
                  · exfalso; omega
                  · refine r_aload_n C dL_isSound_239 lg_0 ?_
                    refine r_iload_n C dL_isSound_240 lg_1 ?_
                    refine r_iload_n C dL_isSound_241 lg_2 ?_
                    refine r_aload_n C dL_isSound_242 lg_0 ?_
                    refine r_iload_n C dL_isSound_243 lg_1 ?_
                    refine r_iload_n C dL_isSound_244 lg_2 ?_
                    refine q_V2I C (cZ_layers hfl hP hak) dL_isSound_245 lk_L_90 hl6 ⟨Nat.le_of_ble_eq_true rfl, Nat.le_of_ble_eq_true rfl⟩ (catLe (Nat.le_of_ble_eq_true rfl)) ⟨rfl, rfl⟩ rfl (Nat.le_of_ble_eq_true rfl) (Nat.le_of_ble_eq_true rfl) (fun z245 S245 A245 i245 p245 => ?_)
                    obtain ⟨rfl, rfl, hF245⟩ := p245
                    have hP := pi_fr hP hF245
                    have hFc := hFc.tr hF245
                    refine r_iconst C dL_isSound_248 ?_
                    refine r_W5J C (cQ_layer hfl hP (by omega) (by omega) (by omega) (by omega) (fun _ q => by omega)) dL_isSound_249 lk_L_132 ⟨Nat.le_of_ble_eq_true rfl, Nat.le_of_ble_eq_true rfl⟩ (catLe (Nat.le_of_ble_eq_true rfl)) 3 18 ⟨rfl, rfl⟩ (Nat.le_of_ble_eq_true rfl) (Nat.le_of_ble_eq_true rfl) (fun _ _ _ h9 => h9.elim) (fun z249 S249 A249 i249 p249 => ?_)
                    obtain ⟨e249, rfl, hF249⟩ := p249
                    have hP := pi_fr hP hF249
                    have hFc := hFc.tr hF249
                    have e249 : z249 = -5 := by
                      rcases e249 with ⟨_, h⟩ | ⟨h, _⟩
                      · exact absurd hak h
                      · exact h
                    subst e249
                    refine r_ldc2 C dL_isSound_252 cs_L_64 (-5) (by decide) ?_
                    refine r_lcne C (tgt := 278) dL_isSound_255 dL_isSound_256 (by decide) (by omega) (by omega) (fun c255 => ?_) (fun c255 => ?_)
                    · exfalso; omega
                    · refine r_aload_n C dL_isSound_259 lg_0 ?_
                      refine r_iload_n C dL_isSound_260 lg_1 ?_
                      refine r_iload_n C dL_isSound_261 lg_2 ?_
                      refine r_iconst C dL_isSound_262 ?_
                      refine r_iconst C dL_isSound_263 ?_
                      refine r_W5J C (cQ_layer hfl hP (by omega) (by omega) (by omega) (by omega) (fun _ q => by omega)) dL_isSound_264 lk_L_132 ⟨Nat.le_of_ble_eq_true rfl, Nat.le_of_ble_eq_true rfl⟩ (catLe (Nat.le_of_ble_eq_true rfl)) 3 18 ⟨rfl, rfl⟩ (Nat.le_of_ble_eq_true rfl) (Nat.le_of_ble_eq_true rfl) (fun _ _ _ h9 => h9.elim) (fun z264 S264 A264 i264 p264 => ?_)
                      obtain ⟨e264, rfl, hF264⟩ := p264
                      have hP := pi_fr hP hF264
                      have hFc := hFc.tr hF264
                      have e264 : z264 = -5 := by
                        rcases e264 with ⟨_, h⟩ | ⟨h, _⟩
                        · exact absurd hak h
                        · exact h
                      subst e264
                      refine r_ldc2 C dL_isSound_267 cs_L_64 (-5) (by decide) ?_
                      refine r_lcne C (tgt := 278) dL_isSound_270 dL_isSound_271 (by decide) (by omega) (by omega) (fun c270 => ?_) (fun c270 => ?_)
                      · exfalso; omega
                      · refine r_iconst C dL_isSound_274 ?_
                        refine r_goto C (tgt := 279) dL_isSound_275 (by decide) ?_
                        refine r_istore C dL_isSound_279 (ls1_8 rfl rfl) ?_
                        refine r_iconst C dL_isSound_281 ?_
                        refine r_istore C dL_isSound_282 (ls1_9 rfl rfl) ?_
                        refine r_le C (lle_k (lle_k (lle_k (lle_f (lle_k (lle_f (lle_k (lle_k (lle_k (lle_k (lle_k lle_0))))))))))) ?_
                        exact key u hu9 _ hFc
      · obtain ⟨⟨q1, q1b⟩, q2, ⟨q3, q4⟩, q5, q6, q7⟩ := hla k h1 (by omega)
        refine r_iload C dL_isSound_25 lg_8 ?_
        refine r_ifeq C (tgt := 178) dL_isSound_27 (by decide) (by omega) (fun c27 => ?_) (fun c27 => ?_)
        · exfalso; omega
        · refine r_aload_n C dL_isSound_30 lg_0 ?_
          refine r_iload_n C dL_isSound_31 lg_1 ?_
          refine r_iload_n C dL_isSound_32 lg_2 ?_
          refine r_iload C dL_isSound_33 lg_9 ?_
          refine q_V3I C (cZ_layerOrigin hfl hP hak (by omega)) dL_isSound_35 lk_L_75 hl6 ⟨Nat.le_of_ble_eq_true rfl, Nat.le_of_ble_eq_true rfl⟩ (catLe (Nat.le_of_ble_eq_true rfl)) ⟨rfl, rfl⟩ rfl (Nat.le_of_ble_eq_true rfl) (Nat.le_of_ble_eq_true rfl) (fun z35 S35 A35 i35 p35 => ?_)
          obtain ⟨rfl, rfl, hF35⟩ := p35
          have hP := pi_fr hP hF35
          have hFc := hFc.tr hF35
          refine r_istore C dL_isSound_38 (ls1_10 rfl rfl) ?_
          refine r_aload_n C dL_isSound_40 lg_0 ?_
          refine r_iload_n C dL_isSound_41 lg_1 ?_
          refine r_iload_n C dL_isSound_42 lg_2 ?_
          refine r_iload C dL_isSound_43 lg_9 ?_
          refine q_V3I C (cZ_layerQuantity hfl hP hak (by omega)) dL_isSound_45 lk_L_68 hl6 ⟨Nat.le_of_ble_eq_true rfl, Nat.le_of_ble_eq_true rfl⟩ (catLe (Nat.le_of_ble_eq_true rfl)) ⟨rfl, rfl⟩ rfl (Nat.le_of_ble_eq_true rfl) (Nat.le_of_ble_eq_true rfl) (fun z45 S45 A45 i45 p45 => ?_)
          obtain ⟨rfl, rfl, hF45⟩ := p45
          have hP := pi_fr hP hF45
          have hFc := hFc.tr hF45
          refine r_ifle C (tgt := 131) dL_isSound_48 (by decide) (by omega) (fun c48 => ?_) (fun c48 => ?_)
          · exfalso; omega
          · refine r_aload_n C dL_isSound_51 lg_0 ?_
            refine r_iload_n C dL_isSound_52 lg_1 ?_
            refine r_iload_n C dL_isSound_53 lg_2 ?_
            refine r_iload C dL_isSound_54 lg_9 ?_
            refine q_V3J C (cZ_layerCost hfl hP hak (by omega)) dL_isSound_56 lk_L_71 hl6 ⟨Nat.le_of_ble_eq_true rfl, Nat.le_of_ble_eq_true rfl⟩ (catLe (Nat.le_of_ble_eq_true rfl)) ⟨rfl, rfl⟩ rfl (Nat.le_of_ble_eq_true rfl) (Nat.le_of_ble_eq_true rfl) (fun z56 S56 A56 i56 p56 => ?_)
            obtain ⟨rfl, rfl, hF56⟩ := p56
            have hP := pi_fr hP hF56
            have hFc := hFc.tr hF56
            refine r_lconst C dL_isSound_59 0 rfl ?_
            refine r_lclt C (tgt := 131) dL_isSound_60 dL_isSound_61 (by decide) (by omega) (by omega) (fun c60 => ?_) (fun c60 => ?_)
            · exfalso; omega
            · refine r_iload C dL_isSound_64 lg_10 ?_
              refine r_iflt C (tgt := 131) dL_isSound_66 (by decide) (by omega) (fun c66 => ?_) (fun c66 => ?_)
              · exfalso; omega
              · refine r_iload C dL_isSound_69 lg_10 ?_
                refine r_aload_n C dL_isSound_71 lg_0 ?_
                refine q_V0I C (cZ_movements hfl hP) dL_isSound_72 lk_L_116 hl6 ⟨Nat.le_of_ble_eq_true rfl, Nat.le_of_ble_eq_true rfl⟩ (catLe (Nat.le_of_ble_eq_true rfl)) ⟨rfl, rfl⟩ rfl (Nat.le_of_ble_eq_true rfl) (Nat.le_of_ble_eq_true rfl) (fun z72 S72 A72 i72 p72 => ?_)
                obtain ⟨rfl, rfl, rfl⟩ := p72
                refine r_icge C (tgt := 131) dL_isSound_75 (by decide) (by omega) (by omega) (fun c75 => ?_) (fun c75 => ?_)
                · exfalso; omega
                · refine r_lload_n C dL_isSound_78 lg_3 ?_
                  refine r_iload C dL_isSound_79 lg_10 ?_
                  refine r_lshr C dL_isSound_81 (fun b81 => ?_)
                  refine r_lconst C dL_isSound_82 1 rfl ?_
                  refine r_land C dL_isSound_83 (fun b83 => ?_)
                  refine r_lconst C dL_isSound_84 0 rfl ?_
                  have hz85 : fLand (fLshr O (qat (wk R item day).q k).2.2) 1 = 0 := not_has (fun hb => by
                    obtain ⟨i, i0, i1, i2⟩ := (hbit _ q3 (by omega)).mp hb
                    exact qat_ne hnd i0 i1 (by omega) i2)
                  refine r_lcne C (tgt := 131) dL_isSound_85 dL_isSound_86 (by decide) (by omega) (by omega) (fun c85 => ?_) (fun c85 => ?_)
                  · exfalso; omega
                  · refine r_aload_n C dL_isSound_89 lg_0 ?_
                    refine r_iload C dL_isSound_90 lg_10 ?_
                    refine q_V1Z C (cZ_isCancelled hfl hP (by omega)) dL_isSound_92 lk_L_53 hl6 ⟨Nat.le_of_ble_eq_true rfl, Nat.le_of_ble_eq_true rfl⟩ (catLe (Nat.le_of_ble_eq_true rfl)) ⟨rfl, rfl⟩ rfl (Nat.le_of_ble_eq_true rfl) (Nat.le_of_ble_eq_true rfl) (fun z92 S92 A92 i92 p92 => ?_)
                    obtain ⟨rfl, rfl, rfl⟩ := p92
                    refine r_ifne C (tgt := 131) dL_isSound_95 (by decide) (by omega) (fun c95 => ?_) (fun c95 => ?_)
                    · exfalso; omega
                    · refine r_aload_n C dL_isSound_98 lg_0 ?_
                      refine r_iload C dL_isSound_99 lg_10 ?_
                      refine q_V1I C (cZ_dayOf hfl hP (by omega)) dL_isSound_101 lk_L_47 hl6 ⟨Nat.le_of_ble_eq_true rfl, Nat.le_of_ble_eq_true rfl⟩ (catLe (Nat.le_of_ble_eq_true rfl)) ⟨rfl, rfl⟩ rfl (Nat.le_of_ble_eq_true rfl) (Nat.le_of_ble_eq_true rfl) (fun z101 S101 A101 i101 p101 => ?_)
                      obtain ⟨rfl, rfl, rfl⟩ := p101
                      refine r_iload_n C dL_isSound_104 lg_2 ?_
                      refine r_icgt C (tgt := 131) dL_isSound_105 (by decide) (by omega) (by omega) (fun c105 => ?_) (fun c105 => ?_)
                      · exfalso; omega
                      · refine r_aload_n C dL_isSound_108 lg_0 ?_
                        refine r_iload C dL_isSound_109 lg_10 ?_
                        refine q_V1I C (cZ_kindOf hfl hP (by omega)) dL_isSound_111 lk_L_44 hl6 ⟨Nat.le_of_ble_eq_true rfl, Nat.le_of_ble_eq_true rfl⟩ (catLe (Nat.le_of_ble_eq_true rfl)) ⟨rfl, rfl⟩ rfl (Nat.le_of_ble_eq_true rfl) (Nat.le_of_ble_eq_true rfl) (fun z111 S111 A111 i111 p111 => ?_)
                        obtain ⟨rfl, rfl, rfl⟩ := p111
                        refine r_ifeq C (tgt := 127) dL_isSound_114 (by decide) (by omega) (fun c114 => ?_) (fun c114 => ?_)
                        · refine r_iconst C dL_isSound_127 ?_
                          refine r_goto C (tgt := 132) dL_isSound_128 (by decide) ?_
                          refine r_istore C dL_isSound_132 (ls1_8 rfl rfl) ?_
                          refine r_iload C dL_isSound_134 lg_8 ?_
                          refine r_ifeq C (tgt := 172) dL_isSound_136 (by decide) (by omega) (fun c136 => ?_) (fun c136 => ?_)
                          · exfalso; omega
                          · refine r_lload_n C dL_isSound_139 lg_3 ?_
                            refine r_lconst C dL_isSound_140 1 rfl ?_
                            refine r_iload C dL_isSound_141 lg_10 ?_
                            refine r_lshl C dL_isSound_143 (fun b143 => ?_)
                            refine r_lor C dL_isSound_144 (fun b144 => ?_)
                            refine r_lstore_n C dL_isSound_145 (ls2_3 rfl rfl) ?_
                            refine r_iload C dL_isSound_146 lg_7 ?_
                            refine r_aload_n C dL_isSound_148 lg_0 ?_
                            refine r_iload_n C dL_isSound_149 lg_1 ?_
                            refine r_iload_n C dL_isSound_150 lg_2 ?_
                            refine r_iload C dL_isSound_151 lg_9 ?_
                            refine q_V3I C (cZ_layerQuantity hfl hP hak (by omega)) dL_isSound_153 lk_L_68 hl6 ⟨Nat.le_of_ble_eq_true rfl, Nat.le_of_ble_eq_true rfl⟩ (catLe (Nat.le_of_ble_eq_true rfl)) ⟨rfl, rfl⟩ rfl (Nat.le_of_ble_eq_true rfl) (Nat.le_of_ble_eq_true rfl) (fun z153 S153 A153 i153 p153 => ?_)
                            obtain ⟨rfl, rfl, hF153⟩ := p153
                            have hP := pi_fr hP hF153
                            have hFc := hFc.tr hF153
                            refine r_iadd C dL_isSound_156 ?_
                            refine r_istore C dL_isSound_157 (ls1_7 rfl trivial) ?_
                            refine r_lload C dL_isSound_159 lg_5 ?_
                            refine r_aload_n C dL_isSound_161 lg_0 ?_
                            refine r_iload_n C dL_isSound_162 lg_1 ?_
                            refine r_iload_n C dL_isSound_163 lg_2 ?_
                            refine r_iload C dL_isSound_164 lg_9 ?_
                            refine q_V3J C (cZ_layerCost hfl hP hak (by omega)) dL_isSound_166 lk_L_71 hl6 ⟨Nat.le_of_ble_eq_true rfl, Nat.le_of_ble_eq_true rfl⟩ (catLe (Nat.le_of_ble_eq_true rfl)) ⟨rfl, rfl⟩ rfl (Nat.le_of_ble_eq_true rfl) (Nat.le_of_ble_eq_true rfl) (fun z166 S166 A166 i166 p166 => ?_)
                            obtain ⟨rfl, rfl, hF166⟩ := p166
                            have hP := pi_fr hP hF166
                            have hFc := hFc.tr hF166
                            refine r_ladd C dL_isSound_169 ?_
                            refine r_lstore C dL_isSound_170 (ls2_5 rfl trivial) ?_
                            refine r_iinc C dL_isSound_172 lg_9 (ls1_9 rfl rfl) ?_
                            refine r_goto C (tgt := 14) dL_isSound_175 (by decide) ?_
                            refine r_le C (lle_k (lle_k (lle_k (lle_k (lle_k (lle_k (lle_k (lle_k (lle_k (lle_k (lle_f lle_0))))))))))) ?_
                            exact ih (k + 1) _ _ _ _ (by omega) (by omega) hFc (bits_step ⟨q3, by omega⟩ h1 rfl hbit) (by rw [(qK_s _ h1).1, hcs]) (by rw [(qK_s _ h1).2, hu]) (by omega) (by omega)
                        · refine r_aload_n C dL_isSound_117 lg_0 ?_
                          refine r_iload C dL_isSound_118 lg_10 ?_
                          refine q_V1I C (cZ_kindOf hfl hP (by omega)) dL_isSound_120 lk_L_44 hl6 ⟨Nat.le_of_ble_eq_true rfl, Nat.le_of_ble_eq_true rfl⟩ (catLe (Nat.le_of_ble_eq_true rfl)) ⟨rfl, rfl⟩ rfl (Nat.le_of_ble_eq_true rfl) (Nat.le_of_ble_eq_true rfl) (fun z120 S120 A120 i120 p120 => ?_)
                          obtain ⟨rfl, rfl, rfl⟩ := p120
                          refine r_iconst C dL_isSound_123 ?_
                          refine r_icne C (tgt := 131) dL_isSound_124 (by decide) (by omega) (by omega) (fun c124 => ?_) (fun c124 => ?_)
                          · exfalso; omega
                          · refine r_iconst C dL_isSound_127 ?_
                            refine r_goto C (tgt := 132) dL_isSound_128 (by decide) ?_
                            refine r_istore C dL_isSound_132 (ls1_8 rfl rfl) ?_
                            refine r_iload C dL_isSound_134 lg_8 ?_
                            refine r_ifeq C (tgt := 172) dL_isSound_136 (by decide) (by omega) (fun c136 => ?_) (fun c136 => ?_)
                            · exfalso; omega
                            · refine r_lload_n C dL_isSound_139 lg_3 ?_
                              refine r_lconst C dL_isSound_140 1 rfl ?_
                              refine r_iload C dL_isSound_141 lg_10 ?_
                              refine r_lshl C dL_isSound_143 (fun b143 => ?_)
                              refine r_lor C dL_isSound_144 (fun b144 => ?_)
                              refine r_lstore_n C dL_isSound_145 (ls2_3 rfl rfl) ?_
                              refine r_iload C dL_isSound_146 lg_7 ?_
                              refine r_aload_n C dL_isSound_148 lg_0 ?_
                              refine r_iload_n C dL_isSound_149 lg_1 ?_
                              refine r_iload_n C dL_isSound_150 lg_2 ?_
                              refine r_iload C dL_isSound_151 lg_9 ?_
                              refine q_V3I C (cZ_layerQuantity hfl hP hak (by omega)) dL_isSound_153 lk_L_68 hl6 ⟨Nat.le_of_ble_eq_true rfl, Nat.le_of_ble_eq_true rfl⟩ (catLe (Nat.le_of_ble_eq_true rfl)) ⟨rfl, rfl⟩ rfl (Nat.le_of_ble_eq_true rfl) (Nat.le_of_ble_eq_true rfl) (fun z153 S153 A153 i153 p153 => ?_)
                              obtain ⟨rfl, rfl, hF153⟩ := p153
                              have hP := pi_fr hP hF153
                              have hFc := hFc.tr hF153
                              refine r_iadd C dL_isSound_156 ?_
                              refine r_istore C dL_isSound_157 (ls1_7 rfl trivial) ?_
                              refine r_lload C dL_isSound_159 lg_5 ?_
                              refine r_aload_n C dL_isSound_161 lg_0 ?_
                              refine r_iload_n C dL_isSound_162 lg_1 ?_
                              refine r_iload_n C dL_isSound_163 lg_2 ?_
                              refine r_iload C dL_isSound_164 lg_9 ?_
                              refine q_V3J C (cZ_layerCost hfl hP hak (by omega)) dL_isSound_166 lk_L_71 hl6 ⟨Nat.le_of_ble_eq_true rfl, Nat.le_of_ble_eq_true rfl⟩ (catLe (Nat.le_of_ble_eq_true rfl)) ⟨rfl, rfl⟩ rfl (Nat.le_of_ble_eq_true rfl) (Nat.le_of_ble_eq_true rfl) (fun z166 S166 A166 i166 p166 => ?_)
                              obtain ⟨rfl, rfl, hF166⟩ := p166
                              have hP := pi_fr hP hF166
                              have hFc := hFc.tr hF166
                              refine r_ladd C dL_isSound_169 ?_
                              refine r_lstore C dL_isSound_170 (ls2_5 rfl trivial) ?_
                              refine r_iinc C dL_isSound_172 lg_9 (ls1_9 rfl rfl) ?_
                              refine r_goto C (tgt := 14) dL_isSound_175 (by decide) ?_
                              refine r_le C (lle_k (lle_k (lle_k (lle_k (lle_k (lle_k (lle_k (lle_k (lle_k (lle_k (lle_f lle_0))))))))))) ?_
                              exact ih (k + 1) _ _ _ _ (by omega) (by omega) hFc (bits_step ⟨q3, by omega⟩ h1 rfl hbit) (by rw [(qK_s _ h1).1, hcs]) (by rw [(qK_s _ h1).2, hu]) (by omega) (by omega)
  refine r_lconst C dL_isSound_0 0 rfl ?_
  refine r_lstore_n C dL_isSound_1 (ls2_3 rfl rfl) ?_
  refine r_lconst C dL_isSound_2 0 rfl ?_
  refine r_lstore C dL_isSound_3 (ls2_5 rfl trivial) ?_
  refine r_iconst C dL_isSound_5 ?_
  refine r_istore C dL_isSound_6 (ls1_7 rfl trivial) ?_
  refine r_iconst C dL_isSound_8 ?_
  refine r_istore C dL_isSound_9 (ls1_8 rfl rfl) ?_
  refine r_iconst C dL_isSound_11 ?_
  refine r_istore C dL_isSound_12 (ls1_9 rfl rfl) ?_
  exact lp1 (hl9.toNat + 1) 0 0 0 0 S (by omega) (by omega) Fr.rf bits_0 rfl rfl (by omega) (by omega)
