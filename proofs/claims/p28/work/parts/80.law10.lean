/-! the law: what is landed -/
set_option maxRecDepth 20000 in
theorem cQ_isLanded {G : GT} {l : Launch} (hfl : l.stackTraces = false) {S : ST} {A : AB} {day a b s : Int} {R : RW} (hL : PL R S A) (hday : 0 ≤ day ∧ day ≤ 364) (ha : 1 ≤ a ∧ a ≤ 1000000) (hb : 0 ≤ b ∧ b ≤ 2) (hs : rL s) (hbit : allR R.n 64 (fun m => ¬ hasB s m)) : CT G l yL_isLanded cL_isLanded 13 (some .boolean) (rmk 10 68 291 186) S A [vR A 6 0, vR A 40 0, vR A 41 0, vI day, vI a, vI b, vL s] (oZ fun z S' A' => 1 = z ∧ AE A A' ∧ ∃ R' : RW, PL R' S' A') (noX) := by
  refine ct_ofN (own := RL) (mn := "isLanded") rfl rfl (by decide) hfl (lv0 := [some (vR A 6 0), some (vR A 40 0), some (vR A 41 0), some (vI day), some (vI a), some (vI b), some (vL s), none, none, none, none, none, none]) (ent_1 (cat_R _ _ _) (ent_1 (cat_R _ _ _) (ent_1 (cat_R _ _ _) (ent_1 rfl (ent_1 rfl (ent_1 rfl (ent_2 rfl (ent_n (ent_n (ent_n (ent_n (ent_n ent_0)))))))))))) rfl ?_
  intro J X C F FX FT FU hW hA
  have hP := hL.1
  have hR := hP.2.1
  have hn := hP.2.1.1
  have hp0 := hL.2.2.2.2.2.1
  have hl40 := hL.2.2.2.2.1.1
  have hl41 := hL.2.2.2.2.1.2.1
  have hFc : Fr QF S S := Fr.rf
  have j101 : ∀ (bo : Int) (hbo : (bo = 0 ∨ bo = 1) ∧ (bo = 1 ↔ (S 198 0 < day ∧ R.n < 60) ∧ LQR R s day)) (S1 : ST) (hFc : Fr QF S S1), J 101 [some (vR A 6 0), some (vR A 40 0), some (vR A 41 0), some (vI day), some (vI a), some (vI b), some (vL s), none, some (vI R.n), some (vI bo), some (vL (sumI (fun i => (wk R i 364).rcv) 6)), none, none] [] S1 A 0 0 := by
    intro bo hbo S1 hFc
    have hP := pi_fr hL.1 hFc
    by_cases hs0 : s = 0
    · refine r_aload_n C dL_isLanded_101 lg_0 ?_
      refine r_iload_n C dL_isLanded_102 lg_3 ?_
      refine r_iload C dL_isLanded_103 lg_4 ?_
      refine r_iload C dL_isLanded_105 lg_5 ?_
      refine r_lload C dL_isLanded_107 lg_6 ?_
      refine r_W5I C (cQ_land hfl hP (by omega) (by omega) (by omega) hs (pl_w (pl_fr hL hFc)) (pl_5 hL)) dL_isLanded_109 lk_L_160 ⟨Nat.le_of_ble_eq_true rfl, Nat.le_of_ble_eq_true rfl⟩ (catLe (Nat.le_of_ble_eq_true rfl)) 68 291 ⟨rfl, rfl⟩ (Nat.le_of_ble_eq_true rfl) (Nat.le_of_ble_eq_true rfl) (fun _ _ _ h9 => h9.elim) (fun z109 S109 A109 i109 p109 => ?_)
      obtain h109 := p109
      obtain ⟨rfl, rfl, rfl⟩ := ref6L p109 (fun q9 => q9.2.2.2 hs0)
      refine r_istore C dL_isLanded_112 (ls1_12 rfl trivial) ?_
      refine r_lload C dL_isLanded_114 lg_6 ?_
      refine r_lconst C dL_isLanded_116 0 rfl ?_
      refine r_lcne C (tgt := 134) dL_isLanded_117 dL_isLanded_118 (by decide) hs (by omega) (fun c117 => ?_) (fun c117 => ?_)
      · exfalso; omega
      · refine r_iload C dL_isLanded_121 lg_12 ?_
        refine r_bipush C dL_isLanded_123 (by decide) ?_
        refine r_icne C (tgt := 132) dL_isLanded_125 (by decide) (by omega) (by omega) (fun c125 => ?_) (fun c125 => ?_)
        · exfalso; omega
        · refine r_iconst C dL_isLanded_128 ?_
          refine r_goto C (tgt := 133) dL_isLanded_129 (by decide) ?_
          exact f_Z F dL_isLanded_133 (by omega) ⟨rfl, AE.rf, R, pl_fr hL hFc⟩ (Nat.le_of_ble_eq_true rfl) (Nat.le_of_ble_eq_true rfl)
    · by_cases hb0 : bo = 0
      · refine r_aload_n C dL_isLanded_101 lg_0 ?_
        refine r_iload_n C dL_isLanded_102 lg_3 ?_
        refine r_iload C dL_isLanded_103 lg_4 ?_
        refine r_iload C dL_isLanded_105 lg_5 ?_
        refine r_lload C dL_isLanded_107 lg_6 ?_
        refine r_W5I C (cQ_land hfl hP (by omega) (by omega) (by omega) hs (pl_w (pl_fr hL hFc)) (pl_5 hL)) dL_isLanded_109 lk_L_160 ⟨Nat.le_of_ble_eq_true rfl, Nat.le_of_ble_eq_true rfl⟩ (catLe (Nat.le_of_ble_eq_true rfl)) 68 291 ⟨rfl, rfl⟩ (Nat.le_of_ble_eq_true rfl) (Nat.le_of_ble_eq_true rfl) (fun _ _ _ h9 => h9.elim) (fun z109 S109 A109 i109 p109 => ?_)
        obtain h109 := p109
        have h198 := hFc 198 0 (by decide)
        have h197 := hP.1.2.2.1.1
        obtain ⟨rfl, rfl, rfl⟩ := ref7L p109 ⟨hday, ha, hb, hs0⟩ hbit (fun q9 => by
          have h9 : bo = 1 := hbo.2.mpr ⟨⟨by have := q9.1.1; omega, by have := q9.1.2; omega⟩, (lq_iff hP).mp q9.2.1⟩
          omega)
        refine r_istore C dL_isLanded_112 (ls1_12 rfl trivial) ?_
        refine r_lload C dL_isLanded_114 lg_6 ?_
        refine r_lconst C dL_isLanded_116 0 rfl ?_
        refine r_lcne C (tgt := 134) dL_isLanded_117 dL_isLanded_118 (by decide) hs (by omega) (fun c117 => ?_) (fun c117 => ?_)
        · refine r_iload C dL_isLanded_134 lg_9 ?_
          refine r_ifne C (tgt := 161) dL_isLanded_136 (by decide) (by omega) (fun c136 => ?_) (fun c136 => ?_)
          · exfalso; omega
          · refine r_iload C dL_isLanded_139 lg_12 ?_
            refine r_bipush C dL_isLanded_141 (by decide) ?_
            refine r_icne C (tgt := 159) dL_isLanded_143 (by decide) (by omega) (by omega) (fun c143 => ?_) (fun c143 => ?_)
            · exfalso; omega
            · refine r_aload_n C dL_isLanded_146 lg_0 ?_
              refine q_V0I C (cZ_movements hfl hP) dL_isLanded_147 lk_L_116 hP.1.1.1 ⟨Nat.le_of_ble_eq_true rfl, Nat.le_of_ble_eq_true rfl⟩ (catLe (Nat.le_of_ble_eq_true rfl)) ⟨rfl, rfl⟩ rfl (Nat.le_of_ble_eq_true rfl) (Nat.le_of_ble_eq_true rfl) (fun z147 S147 A147 i147 p147 => ?_)
              obtain ⟨rfl, rfl, rfl⟩ := p147
              refine r_iload C dL_isLanded_150 lg_8 ?_
              refine r_icne C (tgt := 159) dL_isLanded_152 (by decide) (by omega) (by omega) (fun c152 => ?_) (fun c152 => ?_)
              · exfalso; omega
              · refine r_iconst C dL_isLanded_155 ?_
                refine r_goto C (tgt := 160) dL_isLanded_156 (by decide) ?_
                exact f_Z F dL_isLanded_160 (by omega) ⟨rfl, AE.rf, R, pl_fr hL hFc⟩ (Nat.le_of_ble_eq_true rfl) (Nat.le_of_ble_eq_true rfl)
        · exfalso; omega
      · have hb1' : bo = 1 := by omega
        have hq9 := hbo.2.mp hb1'
        by_cases hsm : 0 < sumI (fun m => cI (hasB s m ∧ m < R.n) (bsC S1 b m) 0) 60
        · refine r_aload_n C dL_isLanded_101 lg_0 ?_
          refine r_iload_n C dL_isLanded_102 lg_3 ?_
          refine r_iload C dL_isLanded_103 lg_4 ?_
          refine r_iload C dL_isLanded_105 lg_5 ?_
          refine r_lload C dL_isLanded_107 lg_6 ?_
          refine r_W5I C (cQ_land hfl hP (by omega) (by omega) (by omega) hs (pl_w (pl_fr hL hFc)) (pl_5 hL)) dL_isLanded_109 lk_L_160 ⟨Nat.le_of_ble_eq_true rfl, Nat.le_of_ble_eq_true rfl⟩ (catLe (Nat.le_of_ble_eq_true rfl)) 68 291 ⟨rfl, rfl⟩ (Nat.le_of_ble_eq_true rfl) (Nat.le_of_ble_eq_true rfl) (fun _ _ _ h9 => h9.elim) (fun z109 S109 A109 i109 p109 => ?_)
          obtain h109 := p109
          have h198 := hFc 198 0 (by decide)
          have h197 := hP.1.2.2.1.1
          obtain ⟨rfl, hK, hC⟩ := accL p109 ⟨hday, ha, hb, hs0⟩ hbit ⟨⟨by omega, by omega⟩, (lq_iff hP).mpr hq9.2, hsm⟩
          obtain ⟨R1, hL1, r1, r2, r3, r4⟩ := land_ok (pl_fr hL hFc) hday ha hb hbit hq9.1.2 hq9.2 hsm hK hC
          have hE9 := hC.1
          rw [← (hE9 6 0 hL.1.1.1.1.2).1, ← (hE9 40 0 hl40.2).1, ← (hE9 41 0 hl41.2).1]
          clear hC hK
          refine r_istore C dL_isLanded_112 (ls1_12 rfl trivial) ?_
          refine r_lload C dL_isLanded_114 lg_6 ?_
          refine r_lconst C dL_isLanded_116 0 rfl ?_
          refine r_lcne C (tgt := 134) dL_isLanded_117 dL_isLanded_118 (by decide) hs (by omega) (fun c117 => ?_) (fun c117 => ?_)
          · refine r_iload C dL_isLanded_134 lg_9 ?_
            refine r_ifne C (tgt := 161) dL_isLanded_136 (by decide) (by omega) (fun c136 => ?_) (fun c136 => ?_)
            · refine r_iload C dL_isLanded_161 lg_12 ?_
              refine r_bipush C dL_isLanded_163 (by decide) ?_
              refine r_icne C (tgt := 189) dL_isLanded_165 (by decide) (by omega) (by omega) (fun c165 => ?_) (fun c165 => ?_)
              · refine r_aload_n C dL_isLanded_189 lg_2 ?_
                refine r_iload C dL_isLanded_190 lg_8 ?_
                refine r_iload C dL_isLanded_192 lg_4 ?_
                refine r_iast C (N := 60) 1312 dL_isLanded_194 (by decide) rfl rfl ⟨hl41.1, (hE9 41 0 hl41.2).2⟩ (by omega) (by omega) (by omega) (by omega) ?_
                have hP := hL1.1
                have hFc : Fr QF (upS S109 1312 R.n a) (upS S109 1312 R.n a) := Fr.rf
                refine r_iload C dL_isLanded_195 lg_12 ?_
                refine r_iload C dL_isLanded_197 lg_8 ?_
                refine r_icne C (tgt := 240) dL_isLanded_199 (by decide) (by omega) (by omega) (fun c199 => ?_) (fun c199 => ?_)
                · exfalso; omega
                · refine r_aload_n C dL_isLanded_202 lg_0 ?_
                  refine r_iload C dL_isLanded_203 lg_8 ?_
                  refine q_V1I C (cZ_kindOf hfl hP (by omega)) dL_isLanded_205 lk_L_44 hP.1.1.1 ⟨Nat.le_of_ble_eq_true rfl, Nat.le_of_ble_eq_true rfl⟩ (catLe (Nat.le_of_ble_eq_true rfl)) ⟨rfl, rfl⟩ rfl (Nat.le_of_ble_eq_true rfl) (Nat.le_of_ble_eq_true rfl) (fun z205 S205 A205 i205 p205 => ?_)
                  obtain ⟨rfl, rfl, rfl⟩ := p205
                  refine r_iconst C dL_isLanded_208 ?_
                  refine r_icne C (tgt := 240) dL_isLanded_209 (by decide) (by omega) (by omega) (fun c209 => ?_) (fun c209 => ?_)
                  · exfalso; omega
                  · refine r_aload_n C dL_isLanded_212 lg_0 ?_
                    refine r_iload C dL_isLanded_213 lg_8 ?_
                    refine q_V1I C (cZ_dayOf hfl hP (by omega)) dL_isLanded_215 lk_L_47 hP.1.1.1 ⟨Nat.le_of_ble_eq_true rfl, Nat.le_of_ble_eq_true rfl⟩ (catLe (Nat.le_of_ble_eq_true rfl)) ⟨rfl, rfl⟩ rfl (Nat.le_of_ble_eq_true rfl) (Nat.le_of_ble_eq_true rfl) (fun z215 S215 A215 i215 p215 => ?_)
                    obtain ⟨rfl, rfl, rfl⟩ := p215
                    refine r_iload_n C dL_isLanded_218 lg_3 ?_
                    refine r_icne C (tgt := 240) dL_isLanded_219 (by decide) (by omega) (by omega) (fun c219 => ?_) (fun c219 => ?_)
                    · exfalso; omega
                    · refine r_aload_n C dL_isLanded_222 lg_0 ?_
                      refine q_S1J C (cQ_receivedOfAll hfl hP) dL_isLanded_223 lk_L_173 ⟨Nat.le_of_ble_eq_true rfl, Nat.le_of_ble_eq_true rfl⟩ (catLe (Nat.le_of_ble_eq_true rfl)) ⟨rfl, rfl⟩ rfl (Nat.le_of_ble_eq_true rfl) (Nat.le_of_ble_eq_true rfl) (fun z223 S223 A223 i223 p223 => ?_)
                      obtain ⟨rfl, rfl, hF223⟩ := p223
                      have hP := pi_fr hP hF223
                      have hFc := hFc.tr hF223
                      refine r_lload C dL_isLanded_226 lg_10 ?_
                      refine r_iload C dL_isLanded_228 lg_4 ?_
                      refine r_i2l C dL_isLanded_230 (by omega) ?_
                      refine r_ladd C dL_isLanded_231 ?_
                      refine r_lcne C (tgt := 240) dL_isLanded_232 dL_isLanded_233 (by decide) (by omega) (by omega) (fun c232 => ?_) (fun c232 => ?_)
                      · exfalso; omega
                      · refine r_iconst C dL_isLanded_236 ?_
                        refine r_goto C (tgt := 241) dL_isLanded_237 (by decide) ?_
                        exact f_Z F dL_isLanded_241 (by omega) ⟨rfl, hE9, R1, pl_fr hL1 hFc⟩ (Nat.le_of_ble_eq_true rfl) (Nat.le_of_ble_eq_true rfl)
              · exfalso; omega
            · exfalso; omega
          · exfalso; omega
        · refine r_aload_n C dL_isLanded_101 lg_0 ?_
          refine r_iload_n C dL_isLanded_102 lg_3 ?_
          refine r_iload C dL_isLanded_103 lg_4 ?_
          refine r_iload C dL_isLanded_105 lg_5 ?_
          refine r_lload C dL_isLanded_107 lg_6 ?_
          refine r_W5I C (cQ_land hfl hP (by omega) (by omega) (by omega) hs (pl_w (pl_fr hL hFc)) (pl_5 hL)) dL_isLanded_109 lk_L_160 ⟨Nat.le_of_ble_eq_true rfl, Nat.le_of_ble_eq_true rfl⟩ (catLe (Nat.le_of_ble_eq_true rfl)) 68 291 ⟨rfl, rfl⟩ (Nat.le_of_ble_eq_true rfl) (Nat.le_of_ble_eq_true rfl) (fun _ _ _ h9 => h9.elim) (fun z109 S109 A109 i109 p109 => ?_)
          obtain h109 := p109
          have h198 := hFc 198 0 (by decide)
          have h197 := hP.1.2.2.1.1
          obtain ⟨rfl, rfl, rfl⟩ := ref7L p109 ⟨hday, ha, hb, hs0⟩ hbit (fun q9 => hsm q9.2.2)
          have hb1 : b = 1 := Classical.byContradiction fun q9 => hsm (sm_pos (pl_fr hL hFc) hb hq9.2 hs hs0 hbit q9)
          refine r_istore C dL_isLanded_112 (ls1_12 rfl trivial) ?_
          refine r_lload C dL_isLanded_114 lg_6 ?_
          refine r_lconst C dL_isLanded_116 0 rfl ?_
          refine r_lcne C (tgt := 134) dL_isLanded_117 dL_isLanded_118 (by decide) hs (by omega) (fun c117 => ?_) (fun c117 => ?_)
          · refine r_iload C dL_isLanded_134 lg_9 ?_
            refine r_ifne C (tgt := 161) dL_isLanded_136 (by decide) (by omega) (fun c136 => ?_) (fun c136 => ?_)
            · refine r_iload C dL_isLanded_161 lg_12 ?_
              refine r_bipush C dL_isLanded_163 (by decide) ?_
              refine r_icne C (tgt := 189) dL_isLanded_165 (by decide) (by omega) (by omega) (fun c165 => ?_) (fun c165 => ?_)
              · exfalso; omega
              · refine r_iload C dL_isLanded_168 lg_5 ?_
                refine r_iconst C dL_isLanded_170 ?_
                refine r_icne C (tgt := 187) dL_isLanded_171 (by decide) (by omega) (by omega) (fun c171 => ?_) (fun c171 => ?_)
                · exfalso; omega
                · refine r_aload_n C dL_isLanded_174 lg_0 ?_
                  refine q_V0I C (cZ_movements hfl hP) dL_isLanded_175 lk_L_116 hP.1.1.1 ⟨Nat.le_of_ble_eq_true rfl, Nat.le_of_ble_eq_true rfl⟩ (catLe (Nat.le_of_ble_eq_true rfl)) ⟨rfl, rfl⟩ rfl (Nat.le_of_ble_eq_true rfl) (Nat.le_of_ble_eq_true rfl) (fun z175 S175 A175 i175 p175 => ?_)
                  obtain ⟨rfl, rfl, rfl⟩ := p175
                  refine r_iload C dL_isLanded_178 lg_8 ?_
                  refine r_icne C (tgt := 187) dL_isLanded_180 (by decide) (by omega) (by omega) (fun c180 => ?_) (fun c180 => ?_)
                  · exfalso; omega
                  · refine r_iconst C dL_isLanded_183 ?_
                    refine r_goto C (tgt := 188) dL_isLanded_184 (by decide) ?_
                    exact f_Z F dL_isLanded_188 (by omega) ⟨rfl, AE.rf, R, pl_fr hL hFc⟩ (Nat.le_of_ble_eq_true rfl) (Nat.le_of_ble_eq_true rfl)
            · exfalso; omega
          · exfalso; omega
  have j95 : ∀ (bo : Int) (hbo : (bo = 0 ∨ bo = 1) ∧ (bo = 1 ↔ (S 198 0 < day ∧ R.n < 60) ∧ LQR R s day)), J 95 [some (vR A 6 0), some (vR A 40 0), some (vR A 41 0), some (vI day), some (vI a), some (vI b), some (vL s), none, some (vI R.n), some (vI bo), none, none, none] [] S A 0 0 := by
    intro bo hbo
    refine r_aload_n C dL_isLanded_95 lg_0 ?_
    refine q_S1J C (cQ_receivedOfAll hfl hP) dL_isLanded_96 lk_L_173 ⟨Nat.le_of_ble_eq_true rfl, Nat.le_of_ble_eq_true rfl⟩ (catLe (Nat.le_of_ble_eq_true rfl)) ⟨rfl, rfl⟩ rfl (Nat.le_of_ble_eq_true rfl) (Nat.le_of_ble_eq_true rfl) (fun z96 S96 A96 i96 p96 => ?_)
    obtain ⟨rfl, rfl, hF96⟩ := p96
    have hP := pi_fr hP hF96
    have hFc := hFc.tr hF96
    refine r_lstore C dL_isLanded_99 (ls2_10 rfl rfl) ?_
    exact j101 bo hbo _ hFc
  have lp : ∀ (N : Nat) (k bo : Int) (h1 : 0 ≤ k) (h2 : k ≤ R.n) (hbo : (bo = 0 ∨ bo = 1) ∧ (bo = 1 ↔ (S 198 0 < day ∧ R.n < 60) ∧ allR 0 k (fun r => hasB s r → R.gn r = 0 ∧ R.kd r = 0 ∧ R.dy r ≤ day))) (hN : R.n - k < N), J 30 [some (vR A 6 0), some (vR A 40 0), some (vR A 41 0), some (vI day), some (vI a), some (vI b), some (vL s), none, some (vI R.n), some (vI bo), some (vI k), none, none] [] S A 0 0 := by
    intro N
    induction N with
    | zero => intro k bo h1 h2 hbo hN; omega
    | succ N ih =>
      intro k bo h1 h2 hbo hN
      obtain ⟨hb1, hb2⟩ := hbo
      rcases hb1 with rfl | rfl
      · refine r_iload C dL_isLanded_30 lg_10 ?_
        refine r_iload C dL_isLanded_32 lg_8 ?_
        refine r_icge C (tgt := 95) dL_isLanded_34 (by decide) (by omega) (by omega) (fun c34 => ?_) (fun c34 => ?_)
        · have hkn : k = R.n := by omega
          refine r_le C (lle_k (lle_k (lle_k (lle_k (lle_k (lle_k (lle_k (lle_k (lle_k (lle_k (lle_f (lle_k (lle_k lle_0))))))))))))) ?_
          exact j95 _ ⟨by omega, by rw [hkn] at hb2; exact hb2⟩
        · refine r_iload C dL_isLanded_37 lg_9 ?_
          refine r_ifeq C (tgt := 86) dL_isLanded_39 (by decide) (by omega) (fun c39 => ?_) (fun c39 => ?_)
          · refine r_iconst C dL_isLanded_86 ?_
            refine r_istore C dL_isLanded_87 (ls1_9 rfl rfl) ?_
            refine r_iinc C dL_isLanded_89 lg_10 (ls1_10 rfl rfl) ?_
            refine r_goto C (tgt := 30) dL_isLanded_92 (by decide) ?_
            exact ih (k + 1) _ (by omega) (by omega) ⟨Or.inl rfl, ⟨fun q9 => by omega, fun q9 => absurd (hb2.mpr ⟨q9.1, ((allR_s h1).mp q9.2).1⟩) (by omega)⟩⟩ (by omega)
          · exfalso; omega
      · by_cases hQ : (hasB s k → R.gn k = 0 ∧ R.kd k = 0 ∧ R.dy k ≤ day)
        · refine r_iload C dL_isLanded_30 lg_10 ?_
          refine r_iload C dL_isLanded_32 lg_8 ?_
          refine r_icge C (tgt := 95) dL_isLanded_34 (by decide) (by omega) (by omega) (fun c34 => ?_) (fun c34 => ?_)
          · have hkn : k = R.n := by omega
            refine r_le C (lle_k (lle_k (lle_k (lle_k (lle_k (lle_k (lle_k (lle_k (lle_k (lle_k (lle_f (lle_k (lle_k lle_0))))))))))))) ?_
            exact j95 _ ⟨by omega, by rw [hkn] at hb2; exact hb2⟩
          · refine r_iload C dL_isLanded_37 lg_9 ?_
            refine r_ifeq C (tgt := 86) dL_isLanded_39 (by decide) (by omega) (fun c39 => ?_) (fun c39 => ?_)
            · exfalso; omega
            · refine r_lload C dL_isLanded_42 lg_6 ?_
              refine r_iload C dL_isLanded_44 lg_10 ?_
              refine r_lshr C dL_isLanded_46 (fun b46 => ?_)
              refine r_lconst C dL_isLanded_47 1 rfl ?_
              refine r_land C dL_isLanded_48 (fun b48 => ?_)
              refine r_lconst C dL_isLanded_49 0 rfl ?_
              refine r_lceq C (tgt := 82) dL_isLanded_50 dL_isLanded_51 (by decide) (by omega) (by omega) (fun c50 => ?_) (fun c50 => ?_)
              · refine r_iconst C dL_isLanded_82 ?_
                refine r_goto C (tgt := 87) dL_isLanded_83 (by decide) ?_
                refine r_istore C dL_isLanded_87 (ls1_9 rfl rfl) ?_
                refine r_iinc C dL_isLanded_89 lg_10 (ls1_10 rfl rfl) ?_
                refine r_goto C (tgt := 30) dL_isLanded_92 (by decide) ?_
                exact ih (k + 1) _ (by omega) (by omega) ⟨Or.inr rfl, ⟨fun _ => ⟨(hb2.mp rfl).1, (allR_s h1).mpr ⟨(hb2.mp rfl).2, hQ⟩⟩, fun _ => rfl⟩⟩ (by omega)
              · have hbk : hasB s k := (land_01 _).resolve_left c50
                obtain ⟨g1, g2, g3⟩ := hQ hbk
                refine r_aload_n C dL_isLanded_54 lg_0 ?_
                refine r_iload C dL_isLanded_55 lg_10 ?_
                refine q_V1Z C (cZ_isCancelled hfl hP (by omega)) dL_isLanded_57 lk_L_53 hP.1.1.1 ⟨Nat.le_of_ble_eq_true rfl, Nat.le_of_ble_eq_true rfl⟩ (catLe (Nat.le_of_ble_eq_true rfl)) ⟨rfl, rfl⟩ rfl (Nat.le_of_ble_eq_true rfl) (Nat.le_of_ble_eq_true rfl) (fun z57 S57 A57 i57 p57 => ?_)
                obtain ⟨rfl, rfl, rfl⟩ := p57
                refine r_ifne C (tgt := 86) dL_isLanded_60 (by decide) (by omega) (fun c60 => ?_) (fun c60 => ?_)
                · exfalso; omega
                · refine r_aload_n C dL_isLanded_63 lg_0 ?_
                  refine r_iload C dL_isLanded_64 lg_10 ?_
                  refine q_V1I C (cZ_kindOf hfl hP (by omega)) dL_isLanded_66 lk_L_44 hP.1.1.1 ⟨Nat.le_of_ble_eq_true rfl, Nat.le_of_ble_eq_true rfl⟩ (catLe (Nat.le_of_ble_eq_true rfl)) ⟨rfl, rfl⟩ rfl (Nat.le_of_ble_eq_true rfl) (Nat.le_of_ble_eq_true rfl) (fun z66 S66 A66 i66 p66 => ?_)
                  obtain ⟨rfl, rfl, rfl⟩ := p66
                  refine r_ifne C (tgt := 86) dL_isLanded_69 (by decide) (by omega) (fun c69 => ?_) (fun c69 => ?_)
                  · exfalso; omega
                  · refine r_aload_n C dL_isLanded_72 lg_0 ?_
                    refine r_iload C dL_isLanded_73 lg_10 ?_
                    refine q_V1I C (cZ_dayOf hfl hP (by omega)) dL_isLanded_75 lk_L_47 hP.1.1.1 ⟨Nat.le_of_ble_eq_true rfl, Nat.le_of_ble_eq_true rfl⟩ (catLe (Nat.le_of_ble_eq_true rfl)) ⟨rfl, rfl⟩ rfl (Nat.le_of_ble_eq_true rfl) (Nat.le_of_ble_eq_true rfl) (fun z75 S75 A75 i75 p75 => ?_)
                    obtain ⟨rfl, rfl, rfl⟩ := p75
                    refine r_iload_n C dL_isLanded_78 lg_3 ?_
                    refine r_icgt C (tgt := 86) dL_isLanded_79 (by decide) (by omega) (by omega) (fun c79 => ?_) (fun c79 => ?_)
                    · exfalso; omega
                    · refine r_iconst C dL_isLanded_82 ?_
                      refine r_goto C (tgt := 87) dL_isLanded_83 (by decide) ?_
                      refine r_istore C dL_isLanded_87 (ls1_9 rfl rfl) ?_
                      refine r_iinc C dL_isLanded_89 lg_10 (ls1_10 rfl rfl) ?_
                      refine r_goto C (tgt := 30) dL_isLanded_92 (by decide) ?_
                      exact ih (k + 1) _ (by omega) (by omega) ⟨Or.inr rfl, ⟨fun _ => ⟨(hb2.mp rfl).1, (allR_s h1).mpr ⟨(hb2.mp rfl).2, hQ⟩⟩, fun _ => rfl⟩⟩ (by omega)
        · refine r_iload C dL_isLanded_30 lg_10 ?_
          refine r_iload C dL_isLanded_32 lg_8 ?_
          refine r_icge C (tgt := 95) dL_isLanded_34 (by decide) (by omega) (by omega) (fun c34 => ?_) (fun c34 => ?_)
          · have hkn : k = R.n := by omega
            refine r_le C (lle_k (lle_k (lle_k (lle_k (lle_k (lle_k (lle_k (lle_k (lle_k (lle_k (lle_f (lle_k (lle_k lle_0))))))))))))) ?_
            exact j95 _ ⟨by omega, by rw [hkn] at hb2; exact hb2⟩
          · refine r_iload C dL_isLanded_37 lg_9 ?_
            refine r_ifeq C (tgt := 86) dL_isLanded_39 (by decide) (by omega) (fun c39 => ?_) (fun c39 => ?_)
            · exfalso; omega
            · refine r_lload C dL_isLanded_42 lg_6 ?_
              refine r_iload C dL_isLanded_44 lg_10 ?_
              refine r_lshr C dL_isLanded_46 (fun b46 => ?_)
              refine r_lconst C dL_isLanded_47 1 rfl ?_
              refine r_land C dL_isLanded_48 (fun b48 => ?_)
              refine r_lconst C dL_isLanded_49 0 rfl ?_
              refine r_lceq C (tgt := 82) dL_isLanded_50 dL_isLanded_51 (by decide) (by omega) (by omega) (fun c50 => ?_) (fun c50 => ?_)
              · exact absurd (fun hb9 => by
                  have h9 : fLand (fLshr s k) 1 = 1 := hb9
                  omega) hQ
              · refine r_aload_n C dL_isLanded_54 lg_0 ?_
                refine r_iload C dL_isLanded_55 lg_10 ?_
                refine q_V1Z C (cZ_isCancelled hfl hP (by omega)) dL_isLanded_57 lk_L_53 hP.1.1.1 ⟨Nat.le_of_ble_eq_true rfl, Nat.le_of_ble_eq_true rfl⟩ (catLe (Nat.le_of_ble_eq_true rfl)) ⟨rfl, rfl⟩ rfl (Nat.le_of_ble_eq_true rfl) (Nat.le_of_ble_eq_true rfl) (fun z57 S57 A57 i57 p57 => ?_)
                obtain ⟨rfl, rfl, rfl⟩ := p57
                refine r_ifne C (tgt := 86) dL_isLanded_60 (by decide) (by omega) (fun c60 => ?_) (fun c60 => ?_)
                · refine r_iconst C dL_isLanded_86 ?_
                  refine r_istore C dL_isLanded_87 (ls1_9 rfl rfl) ?_
                  refine r_iinc C dL_isLanded_89 lg_10 (ls1_10 rfl rfl) ?_
                  refine r_goto C (tgt := 30) dL_isLanded_92 (by decide) ?_
                  exact ih (k + 1) _ (by omega) (by omega) ⟨Or.inl rfl, ⟨fun q9 => by omega, fun q9 => absurd ((allR_s h1).mp q9.2).2 hQ⟩⟩ (by omega)
                · refine r_aload_n C dL_isLanded_63 lg_0 ?_
                  refine r_iload C dL_isLanded_64 lg_10 ?_
                  refine q_V1I C (cZ_kindOf hfl hP (by omega)) dL_isLanded_66 lk_L_44 hP.1.1.1 ⟨Nat.le_of_ble_eq_true rfl, Nat.le_of_ble_eq_true rfl⟩ (catLe (Nat.le_of_ble_eq_true rfl)) ⟨rfl, rfl⟩ rfl (Nat.le_of_ble_eq_true rfl) (Nat.le_of_ble_eq_true rfl) (fun z66 S66 A66 i66 p66 => ?_)
                  obtain ⟨rfl, rfl, rfl⟩ := p66
                  refine r_ifne C (tgt := 86) dL_isLanded_69 (by decide) (by omega) (fun c69 => ?_) (fun c69 => ?_)
                  · refine r_iconst C dL_isLanded_86 ?_
                    refine r_istore C dL_isLanded_87 (ls1_9 rfl rfl) ?_
                    refine r_iinc C dL_isLanded_89 lg_10 (ls1_10 rfl rfl) ?_
                    refine r_goto C (tgt := 30) dL_isLanded_92 (by decide) ?_
                    exact ih (k + 1) _ (by omega) (by omega) ⟨Or.inl rfl, ⟨fun q9 => by omega, fun q9 => absurd ((allR_s h1).mp q9.2).2 hQ⟩⟩ (by omega)
                  · refine r_aload_n C dL_isLanded_72 lg_0 ?_
                    refine r_iload C dL_isLanded_73 lg_10 ?_
                    refine q_V1I C (cZ_dayOf hfl hP (by omega)) dL_isLanded_75 lk_L_47 hP.1.1.1 ⟨Nat.le_of_ble_eq_true rfl, Nat.le_of_ble_eq_true rfl⟩ (catLe (Nat.le_of_ble_eq_true rfl)) ⟨rfl, rfl⟩ rfl (Nat.le_of_ble_eq_true rfl) (Nat.le_of_ble_eq_true rfl) (fun z75 S75 A75 i75 p75 => ?_)
                    obtain ⟨rfl, rfl, rfl⟩ := p75
                    refine r_iload_n C dL_isLanded_78 lg_3 ?_
                    refine r_icgt C (tgt := 86) dL_isLanded_79 (by decide) (by omega) (by omega) (fun c79 => ?_) (fun c79 => ?_)
                    · refine r_iconst C dL_isLanded_86 ?_
                      refine r_istore C dL_isLanded_87 (ls1_9 rfl rfl) ?_
                      refine r_iinc C dL_isLanded_89 lg_10 (ls1_10 rfl rfl) ?_
                      refine r_goto C (tgt := 30) dL_isLanded_92 (by decide) ?_
                      exact ih (k + 1) _ (by omega) (by omega) ⟨Or.inl rfl, ⟨fun q9 => by omega, fun q9 => absurd ((allR_s h1).mp q9.2).2 hQ⟩⟩ (by omega)
                    · exact absurd (fun _ => ⟨by omega, by omega, by omega⟩) hQ
  refine r_aload_n C dL_isLanded_0 lg_0 ?_
  refine q_V0I C (cZ_movements hfl hP) dL_isLanded_1 lk_L_116 hP.1.1.1 ⟨Nat.le_of_ble_eq_true rfl, Nat.le_of_ble_eq_true rfl⟩ (catLe (Nat.le_of_ble_eq_true rfl)) ⟨rfl, rfl⟩ rfl (Nat.le_of_ble_eq_true rfl) (Nat.le_of_ble_eq_true rfl) (fun z1 S1 A1 i1 p1 => ?_)
  obtain ⟨rfl, rfl, rfl⟩ := p1
  refine r_istore C dL_isLanded_4 (ls1_8 rfl trivial) ?_
  refine r_iload_n C dL_isLanded_6 lg_3 ?_
  refine r_aload_n C dL_isLanded_7 lg_1 ?_
  refine r_iconst C dL_isLanded_8 ?_
  refine r_iald C (N := 1) 1280 dL_isLanded_9 (by decide) rfl rfl hl40 (by omega) (by omega) (by omega) (fun g9 => ?_)
  rw [hp0.1]
  refine r_icle C (tgt := 24) dL_isLanded_10 (by decide) (by omega) (by omega) (fun c10 => ?_) (fun c10 => ?_)
  · refine r_iconst C dL_isLanded_24 ?_
    refine r_istore C dL_isLanded_25 (ls1_9 rfl rfl) ?_
    refine r_iconst C dL_isLanded_27 ?_
    refine r_istore C dL_isLanded_28 (ls1_10 rfl rfl) ?_
    exact lp (R.n.toNat + 1) 0 _ (by omega) (by omega) ⟨by omega, ⟨fun q9 => ⟨by omega, fun m m0 m1 => by omega⟩, fun q9 => by have := q9.1.1; have := q9.1.2; omega⟩⟩ (by omega)
  · refine r_iload C dL_isLanded_13 lg_8 ?_
    refine r_bipush C dL_isLanded_15 (by decide) ?_
    refine r_icge C (tgt := 24) dL_isLanded_17 (by decide) (by omega) (by omega) (fun c17 => ?_) (fun c17 => ?_)
    · refine r_iconst C dL_isLanded_24 ?_
      refine r_istore C dL_isLanded_25 (ls1_9 rfl rfl) ?_
      refine r_iconst C dL_isLanded_27 ?_
      refine r_istore C dL_isLanded_28 (ls1_10 rfl rfl) ?_
      exact lp (R.n.toNat + 1) 0 _ (by omega) (by omega) ⟨by omega, ⟨fun q9 => ⟨by omega, fun m m0 m1 => by omega⟩, fun q9 => by have := q9.1.1; have := q9.1.2; omega⟩⟩ (by omega)
    · refine r_iconst C dL_isLanded_20 ?_
      refine r_goto C (tgt := 25) dL_isLanded_21 (by decide) ?_
      refine r_istore C dL_isLanded_25 (ls1_9 rfl rfl) ?_
      refine r_iconst C dL_isLanded_27 ?_
      refine r_istore C dL_isLanded_28 (ls1_10 rfl rfl) ?_
      exact lp (R.n.toNat + 1) 0 _ (by omega) (by omega) ⟨by omega, ⟨fun q9 => ⟨by omega, fun m m0 m1 => by omega⟩, fun q9 => by have := q9.1.1; have := q9.1.2; omega⟩⟩ (by omega)
