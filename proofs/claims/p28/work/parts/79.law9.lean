/-! the law: what is cancelled -/
set_option maxRecDepth 20000 in
theorem cQ_isCancelled {G : GT} {l : Launch} (hfl : l.stackTraces = false) {S : ST} {A : AB} {m : Int} {R : RW} (hL : PL R S A) (hm : 0 ≤ m ∧ m < R.n) : CT G l yL_isCancelled cL_isCancelled 10 (some .boolean) (rmk 12 8 48 229) S A [vR A 6 0, vR A 40 0, vI m] (oZ fun z S' A' => 1 = z ∧ AE A A' ∧ ∃ R' : RW, PL R' S' A') (noX) := by
  refine ct_ofN (own := RL) (mn := "isCancelled") rfl rfl (by decide) hfl (lv0 := [some (vR A 6 0), some (vR A 40 0), some (vI m), none, none, none, none, none, none, none]) (ent_1 (cat_R _ _ _) (ent_1 (cat_R _ _ _) (ent_1 rfl (ent_n (ent_n (ent_n (ent_n (ent_n (ent_n (ent_n ent_0)))))))))) rfl ?_
  intro J X C F FX FT FU hW hA
  have hP := hL.1
  have hR := hP.2.1
  have hn := hP.2.1.1
  have hp0 := hL.2.2.2.2.2.1
  have hl40 := hL.2.2.2.2.1.1
  have hFc : Fr QF S S := Fr.rf
  have hg01 : R.gn m = 0 ∨ R.gn m = 1 := by
    have h9 := (hP.1.2.2.2.2.1 m hm.1 hm.2).1.2.2.2.2.2.2.2.1
    have h8 := (hW 103 m).2.2.1 rfl
    rw [h9] at h8
    exact h8
  have key : ∀ (cl rc : Int) (hcl : (cl = 0 ∨ cl = 1) ∧ (cl = 1 ↔ R.dy m ≤ S 198 0)) (hrc : (rc = 0 ∨ rc = 1) ∧ (rc = 1 ↔ R.kd m = 0)), J 45 [some (vR A 6 0), some (vR A 40 0), some (vI m), some (vI (R.gn m)), some (vI cl), some (vI rc), some (vI 0), some (vI 0), none, none] [] S A 0 0 := by
    intro cl rc hcl hrc
    have hgn : R.gn m = 0 ∨ R.gn m = 1 := hg01
    have j79 : ∀ (i9 k : Int), i9 = ((LdR R).length : Int) → J 79 [some (vR A 6 0), some (vR A 40 0), some (vI m), some (vI (R.gn m)), some (vI cl), some (vI rc), some (vI i9), some (vI k), none, none] [] S A 0 0 := by
      intro i9 k hi9
      by_cases hcc : CCR R S m
      · have hcc1 := hcc.1
        have hcc2 := hcc.2.1
        refine r_aload_n C dL_isCancelled_79 lg_0 ?_
        refine q_S1J C (cQ_all hfl hP) dL_isCancelled_80 lk_L_146 ⟨Nat.le_of_ble_eq_true rfl, Nat.le_of_ble_eq_true rfl⟩ (catLe (Nat.le_of_ble_eq_true rfl)) ⟨rfl, rfl⟩ rfl (Nat.le_of_ble_eq_true rfl) (Nat.le_of_ble_eq_true rfl) (fun z80 S80 A80 i80 p80 => ?_)
        obtain ⟨rfl, rfl, hF80⟩ := p80
        have hP := pi_fr hP hF80
        have hFc := hFc.tr hF80
        refine r_lstore C dL_isCancelled_83 (ls2_7 rfl rfl) ?_
        refine r_aload_n C dL_isCancelled_85 lg_0 ?_
        refine r_iload_n C dL_isCancelled_86 lg_2 ?_
        refine r_W2I C (cQ_cancel hfl hP (by omega)) dL_isCancelled_87 lk_L_163 ⟨Nat.le_of_ble_eq_true rfl, Nat.le_of_ble_eq_true rfl⟩ (catLe (Nat.le_of_ble_eq_true rfl)) 4 24 ⟨rfl, rfl⟩ (Nat.le_of_ble_eq_true rfl) (Nat.le_of_ble_eq_true rfl) (fun _ _ _ h9 => h9.elim) (fun z87 S87 A87 i87 p87 => ?_)
        obtain ⟨rfl, e87⟩ := p87
        have h198 := hFc 198 0 (by decide)
        have hc2 : CCR R S80 m := by
          unfold CCR
          rw [h198]; exact hcc
        obtain ⟨rfl, hK, hF87⟩ := acc7C e87 hm ((cc_iff hP hm).mpr hc2)
        have hlen := len_C hR hm hcc.1
        have hL1 := pl_can (pl_fr hL hFc) hm hc2 hK hF87
        have hP := hL1.1
        have hm1 : 0 ≤ m ∧ m < (rwC R m).n := hm
        have hg1 : (rwC R m).gn m = 1 := fu_self _ _ _
        have hnl : 0 ≤ ((LdR (rwC R m)).length : Int) := by omega
        have hFc : Fr QF S87 S87 := Fr.rf
        refine r_istore C dL_isCancelled_90 (ls1_9 rfl trivial) ?_
        refine r_iload C dL_isCancelled_92 lg_9 ?_
        refine r_ifge C (tgt := 134) dL_isCancelled_94 (by decide) (by omega) (fun c94 => ?_) (fun c94 => ?_)
        · refine r_iload_n C dL_isCancelled_134 lg_3 ?_
          refine r_ifne C (tgt := 183) dL_isCancelled_135 (by decide) (by omega) (fun c135 => ?_) (fun c135 => ?_)
          · exfalso; omega
          · refine r_iload C dL_isCancelled_138 lg_4 ?_
            refine r_ifne C (tgt := 183) dL_isCancelled_140 (by decide) (by omega) (fun c140 => ?_) (fun c140 => ?_)
            · exfalso; omega
            · refine r_iload C dL_isCancelled_143 lg_9 ?_
              refine r_iload C dL_isCancelled_145 lg_6 ?_
              refine r_iconst C dL_isCancelled_147 ?_
              refine r_isub C dL_isCancelled_148 ?_
              refine r_icne C (tgt := 183) dL_isCancelled_149 (by decide) (by omega) (by omega) (fun c149 => ?_) (fun c149 => ?_)
              · exfalso; omega
              · refine r_aload_n C dL_isCancelled_152 lg_0 ?_
                refine r_iload_n C dL_isCancelled_153 lg_2 ?_
                refine q_V1Z C (cZ_isCancelled hfl hP hm1) dL_isCancelled_154 lk_L_53 hP.1.1.1 ⟨Nat.le_of_ble_eq_true rfl, Nat.le_of_ble_eq_true rfl⟩ (catLe (Nat.le_of_ble_eq_true rfl)) ⟨rfl, rfl⟩ rfl (Nat.le_of_ble_eq_true rfl) (Nat.le_of_ble_eq_true rfl) (fun z154 S154 A154 i154 p154 => ?_)
                obtain ⟨rfl, rfl, rfl⟩ := p154
                refine r_ifeq C (tgt := 183) dL_isCancelled_157 (by decide) (by omega) (fun c157 => ?_) (fun c157 => ?_)
                · exfalso; omega
                · refine r_aload_n C dL_isCancelled_160 lg_0 ?_
                  refine r_iload_n C dL_isCancelled_161 lg_2 ?_
                  refine q_V1I C (cZ_placeOf hfl hP hm1) dL_isCancelled_162 lk_L_50 hP.1.1.1 ⟨Nat.le_of_ble_eq_true rfl, Nat.le_of_ble_eq_true rfl⟩ (catLe (Nat.le_of_ble_eq_true rfl)) ⟨rfl, rfl⟩ rfl (Nat.le_of_ble_eq_true rfl) (Nat.le_of_ble_eq_true rfl) (fun z162 S162 A162 i162 p162 => ?_)
                  obtain ⟨rfl, rfl, rfl⟩ := p162
                  rw [cI_f (show ¬ (rwC R m).gn m = 0 by omega)]
                  refine r_iconst C dL_isCancelled_165 ?_
                  refine r_icne C (tgt := 183) dL_isCancelled_166 (by decide) (by omega) (by omega) (fun c166 => ?_) (fun c166 => ?_)
                  · exfalso; omega
                  · refine r_aload_n C dL_isCancelled_169 lg_0 ?_
                    refine r_iload_n C dL_isCancelled_170 lg_2 ?_
                    refine r_W2I C (cQ_cancel hfl hP (by omega)) dL_isCancelled_171 lk_L_163 ⟨Nat.le_of_ble_eq_true rfl, Nat.le_of_ble_eq_true rfl⟩ (catLe (Nat.le_of_ble_eq_true rfl)) 4 24 ⟨rfl, rfl⟩ (Nat.le_of_ble_eq_true rfl) (Nat.le_of_ble_eq_true rfl) (fun _ _ _ h9 => h9.elim) (fun z171 S171 A171 i171 p171 => ?_)
                    obtain ⟨rfl, e171⟩ := p171
                    obtain ⟨rfl, rfl⟩ := ref7C e171 hm1 (fun q9 => by
                      have := ((cc_iff hP hm1).mp q9).1
                      omega)
                    refine r_bipush C dL_isCancelled_174 (by decide) ?_
                    refine r_icne C (tgt := 183) dL_isCancelled_176 (by decide) (by omega) (by omega) (fun c176 => ?_) (fun c176 => ?_)
                    · exfalso; omega
                    · refine r_iconst C dL_isCancelled_179 ?_
                      refine r_goto C (tgt := 184) dL_isCancelled_180 (by decide) ?_
                      exact f_Z F dL_isCancelled_184 (by omega) ⟨rfl, AE.rf, rwC R m, pl_fr hL1 hFc⟩ (Nat.le_of_ble_eq_true rfl) (Nat.le_of_ble_eq_true rfl)
        · exfalso; omega
      · refine r_aload_n C dL_isCancelled_79 lg_0 ?_
        refine q_S1J C (cQ_all hfl hP) dL_isCancelled_80 lk_L_146 ⟨Nat.le_of_ble_eq_true rfl, Nat.le_of_ble_eq_true rfl⟩ (catLe (Nat.le_of_ble_eq_true rfl)) ⟨rfl, rfl⟩ rfl (Nat.le_of_ble_eq_true rfl) (Nat.le_of_ble_eq_true rfl) (fun z80 S80 A80 i80 p80 => ?_)
        obtain ⟨rfl, rfl, hF80⟩ := p80
        have hP := pi_fr hP hF80
        have hFc := hFc.tr hF80
        refine r_lstore C dL_isCancelled_83 (ls2_7 rfl rfl) ?_
        refine r_aload_n C dL_isCancelled_85 lg_0 ?_
        refine r_iload_n C dL_isCancelled_86 lg_2 ?_
        refine r_W2I C (cQ_cancel hfl hP (by omega)) dL_isCancelled_87 lk_L_163 ⟨Nat.le_of_ble_eq_true rfl, Nat.le_of_ble_eq_true rfl⟩ (catLe (Nat.le_of_ble_eq_true rfl)) 4 24 ⟨rfl, rfl⟩ (Nat.le_of_ble_eq_true rfl) (Nat.le_of_ble_eq_true rfl) (fun _ _ _ h9 => h9.elim) (fun z87 S87 A87 i87 p87 => ?_)
        obtain ⟨rfl, e87⟩ := p87
        have h198 := hFc 198 0 (by decide)
        obtain ⟨rfl, rfl⟩ := ref7C e87 hm (fun q9 => hcc (by
          have h9 := (cc_iff hP hm).mp q9
          unfold CCR at h9 ⊢
          rw [h198] at h9; exact h9))
        refine r_istore C dL_isCancelled_90 (ls1_9 rfl trivial) ?_
        refine r_iload C dL_isCancelled_92 lg_9 ?_
        refine r_ifge C (tgt := 134) dL_isCancelled_94 (by decide) (by omega) (fun c94 => ?_) (fun c94 => ?_)
        · exfalso; omega
        · refine r_iload C dL_isCancelled_97 lg_9 ?_
          refine r_bipush C dL_isCancelled_99 (by decide) ?_
          refine r_icne C (tgt := 132) dL_isCancelled_101 (by decide) (by omega) (by omega) (fun c101 => ?_) (fun c101 => ?_)
          · exfalso; omega
          · refine r_aload_n C dL_isCancelled_104 lg_0 ?_
            refine q_S1J C (cQ_all hfl hP) dL_isCancelled_105 lk_L_146 ⟨Nat.le_of_ble_eq_true rfl, Nat.le_of_ble_eq_true rfl⟩ (catLe (Nat.le_of_ble_eq_true rfl)) ⟨rfl, rfl⟩ rfl (Nat.le_of_ble_eq_true rfl) (Nat.le_of_ble_eq_true rfl) (fun z105 S105 A105 i105 p105 => ?_)
            obtain ⟨rfl, rfl, hF105⟩ := p105
            have hP := pi_fr hP hF105
            have hFc := hFc.tr hF105
            refine r_lload C dL_isCancelled_108 lg_7 ?_
            refine r_lcne C (tgt := 132) dL_isCancelled_110 dL_isCancelled_111 (by decide) (wL_r _) (wL_r _) (fun c110 => ?_) (fun c110 => ?_)
            · exfalso; omega
            · refine r_iload_n C dL_isCancelled_114 lg_3 ?_
              refine r_ifne C (tgt := 128) dL_isCancelled_115 (by decide) (by omega) (fun c115 => ?_) (fun c115 => ?_)
              · refine r_iconst C dL_isCancelled_128 ?_
                refine r_goto C (tgt := 133) dL_isCancelled_129 (by decide) ?_
                exact f_Z F dL_isCancelled_133 (by omega) ⟨rfl, AE.rf, R, pl_fr hL hFc⟩ (Nat.le_of_ble_eq_true rfl) (Nat.le_of_ble_eq_true rfl)
              · refine r_iload C dL_isCancelled_118 lg_4 ?_
                refine r_ifne C (tgt := 128) dL_isCancelled_120 (by decide) (by omega) (fun c120 => ?_) (fun c120 => ?_)
                · refine r_iconst C dL_isCancelled_128 ?_
                  refine r_goto C (tgt := 133) dL_isCancelled_129 (by decide) ?_
                  exact f_Z F dL_isCancelled_133 (by omega) ⟨rfl, AE.rf, R, pl_fr hL hFc⟩ (Nat.le_of_ble_eq_true rfl) (Nat.le_of_ble_eq_true rfl)
                · refine r_iload C dL_isCancelled_123 lg_5 ?_
                  refine r_ifeq C (tgt := 132) dL_isCancelled_125 (by decide) (by omega) (fun c125 => ?_) (fun c125 => ?_)
                  · exact absurd (rfl : (0 : Int) = 0) (fun _ => hcc ⟨by omega, by omega, fun q9 => by omega⟩)
                  · refine r_iconst C dL_isCancelled_128 ?_
                    refine r_goto C (tgt := 133) dL_isCancelled_129 (by decide) ?_
                    exact f_Z F dL_isCancelled_133 (by omega) ⟨rfl, AE.rf, R, pl_fr hL hFc⟩ (Nat.le_of_ble_eq_true rfl) (Nat.le_of_ble_eq_true rfl)
    have lp : ∀ (N : Nat) (k i9 : Int) (h1 : 0 ≤ k) (h2 : k ≤ R.n) (hi : i9 = sumI (cnt9 R) k) (hN : R.n - k < N), J 45 [some (vR A 6 0), some (vR A 40 0), some (vI m), some (vI (R.gn m)), some (vI cl), some (vI rc), some (vI i9), some (vI k), none, none] [] S A 0 0 := by
      intro N
      induction N with
      | zero => intro k i9 h1 h2 hi hN; omega
      | succ N ih =>
        intro k i9 h1 h2 hi hN
        have hz := h1
        refine r_iload C dL_isCancelled_45 lg_7 ?_
        refine r_aload_n C dL_isCancelled_47 lg_0 ?_
        refine q_V0I C (cZ_movements hfl hP) dL_isCancelled_48 lk_L_116 hP.1.1.1 ⟨Nat.le_of_ble_eq_true rfl, Nat.le_of_ble_eq_true rfl⟩ (catLe (Nat.le_of_ble_eq_true rfl)) ⟨rfl, rfl⟩ rfl (Nat.le_of_ble_eq_true rfl) (Nat.le_of_ble_eq_true rfl) (fun z48 S48 A48 i48 p48 => ?_)
        obtain ⟨rfl, rfl, rfl⟩ := p48
        refine r_icge C (tgt := 79) dL_isCancelled_51 (by decide) (by omega) (by omega) (fun c51 => ?_) (fun c51 => ?_)
        · exact j79 i9 k (by rw [hi, show k = R.n by omega]; exact cnt9_n hR)
        · refine r_iload C dL_isCancelled_54 lg_6 ?_
          refine r_aload_n C dL_isCancelled_56 lg_0 ?_
          refine r_iload C dL_isCancelled_57 lg_7 ?_
          refine q_V1Z C (cZ_isCancelled hfl hP (by omega)) dL_isCancelled_59 lk_L_53 hP.1.1.1 ⟨Nat.le_of_ble_eq_true rfl, Nat.le_of_ble_eq_true rfl⟩ (catLe (Nat.le_of_ble_eq_true rfl)) ⟨rfl, rfl⟩ rfl (Nat.le_of_ble_eq_true rfl) (Nat.le_of_ble_eq_true rfl) (fun z59 S59 A59 i59 p59 => ?_)
          obtain ⟨rfl, rfl, rfl⟩ := p59
          refine r_ifeq C (tgt := 69) dL_isCancelled_62 (by decide) (by omega) (fun c62 => ?_) (fun c62 => ?_)
          · refine r_iconst C dL_isCancelled_69 ?_
            refine r_iadd C dL_isCancelled_70 ?_
            refine r_istore C dL_isCancelled_71 (ls1_6 rfl rfl) ?_
            refine r_iinc C dL_isCancelled_73 lg_7 (ls1_7 rfl rfl) ?_
            refine r_goto C (tgt := 45) dL_isCancelled_76 (by decide) ?_
            exact ih (k + 1) _ (by omega) (by omega) (by rw [sumI_s _ h1, hi]; show _ = _ + (if _ then _ else _); first | rw [if_pos c62] | rw [if_neg c62]; try rw [Int.add_zero]) (by omega)
          · refine r_iconst C dL_isCancelled_65 ?_
            refine r_goto C (tgt := 70) dL_isCancelled_66 (by decide) ?_
            refine r_iadd C dL_isCancelled_70 ?_
            refine r_istore C dL_isCancelled_71 (ls1_6 rfl rfl) ?_
            refine r_iinc C dL_isCancelled_73 lg_7 (ls1_7 rfl rfl) ?_
            refine r_goto C (tgt := 45) dL_isCancelled_76 (by decide) ?_
            exact ih (k + 1) _ (by omega) (by omega) (by rw [sumI_s _ h1, hi]; show _ = _ + (if _ then _ else _); first | rw [if_pos c62] | rw [if_neg c62]; try rw [Int.add_zero]) (by omega)
    exact lp (R.n.toNat + 1) 0 0 (by omega) (by omega) rfl (by omega)
  refine r_aload_n C dL_isCancelled_0 lg_0 ?_
  refine r_iload_n C dL_isCancelled_1 lg_2 ?_
  refine q_V1Z C (cZ_isCancelled hfl hP (by omega)) dL_isCancelled_2 lk_L_53 hP.1.1.1 ⟨Nat.le_of_ble_eq_true rfl, Nat.le_of_ble_eq_true rfl⟩ (catLe (Nat.le_of_ble_eq_true rfl)) ⟨rfl, rfl⟩ rfl (Nat.le_of_ble_eq_true rfl) (Nat.le_of_ble_eq_true rfl) (fun z2 S2 A2 i2 p2 => ?_)
  obtain ⟨rfl, rfl, rfl⟩ := p2
  refine r_istore_n C dL_isCancelled_5 (ls1_3 rfl rfl) ?_
  refine r_aload_n C dL_isCancelled_6 lg_0 ?_
  refine r_iload_n C dL_isCancelled_7 lg_2 ?_
  refine q_V1I C (cZ_dayOf hfl hP (by omega)) dL_isCancelled_8 lk_L_47 hP.1.1.1 ⟨Nat.le_of_ble_eq_true rfl, Nat.le_of_ble_eq_true rfl⟩ (catLe (Nat.le_of_ble_eq_true rfl)) ⟨rfl, rfl⟩ rfl (Nat.le_of_ble_eq_true rfl) (Nat.le_of_ble_eq_true rfl) (fun z8 S8 A8 i8 p8 => ?_)
  obtain ⟨rfl, rfl, rfl⟩ := p8
  refine r_aload_n C dL_isCancelled_11 lg_1 ?_
  refine r_iconst C dL_isCancelled_12 ?_
  refine r_iald C (N := 1) 1280 dL_isCancelled_13 (by decide) rfl rfl hl40 (by omega) (by omega) (by omega) (fun g13 => ?_)
  rw [hp0.1]
  refine r_icgt C (tgt := 21) dL_isCancelled_14 (by decide) (by omega) (by omega) (fun c14 => ?_) (fun c14 => ?_)
  · refine r_iconst C dL_isCancelled_21 ?_
    refine r_istore C dL_isCancelled_22 (ls1_4 rfl rfl) ?_
    refine r_aload_n C dL_isCancelled_24 lg_0 ?_
    refine r_iload_n C dL_isCancelled_25 lg_2 ?_
    refine q_V1I C (cZ_kindOf hfl hP (by omega)) dL_isCancelled_26 lk_L_44 hP.1.1.1 ⟨Nat.le_of_ble_eq_true rfl, Nat.le_of_ble_eq_true rfl⟩ (catLe (Nat.le_of_ble_eq_true rfl)) ⟨rfl, rfl⟩ rfl (Nat.le_of_ble_eq_true rfl) (Nat.le_of_ble_eq_true rfl) (fun z26 S26 A26 i26 p26 => ?_)
    obtain ⟨rfl, rfl, rfl⟩ := p26
    refine r_ifne C (tgt := 36) dL_isCancelled_29 (by decide) (by omega) (fun c29 => ?_) (fun c29 => ?_)
    · refine r_iconst C dL_isCancelled_36 ?_
      refine r_istore C dL_isCancelled_37 (ls1_5 rfl rfl) ?_
      refine r_iconst C dL_isCancelled_39 ?_
      refine r_istore C dL_isCancelled_40 (ls1_6 rfl rfl) ?_
      refine r_iconst C dL_isCancelled_42 ?_
      refine r_istore C dL_isCancelled_43 (ls1_7 rfl rfl) ?_
      exact key _ _ ⟨by omega, by omega⟩ ⟨by omega, by omega⟩
    · refine r_iconst C dL_isCancelled_32 ?_
      refine r_goto C (tgt := 37) dL_isCancelled_33 (by decide) ?_
      refine r_istore C dL_isCancelled_37 (ls1_5 rfl rfl) ?_
      refine r_iconst C dL_isCancelled_39 ?_
      refine r_istore C dL_isCancelled_40 (ls1_6 rfl rfl) ?_
      refine r_iconst C dL_isCancelled_42 ?_
      refine r_istore C dL_isCancelled_43 (ls1_7 rfl rfl) ?_
      exact key _ _ ⟨by omega, by omega⟩ ⟨by omega, by omega⟩
  · refine r_iconst C dL_isCancelled_17 ?_
    refine r_goto C (tgt := 22) dL_isCancelled_18 (by decide) ?_
    refine r_istore C dL_isCancelled_22 (ls1_4 rfl rfl) ?_
    refine r_aload_n C dL_isCancelled_24 lg_0 ?_
    refine r_iload_n C dL_isCancelled_25 lg_2 ?_
    refine q_V1I C (cZ_kindOf hfl hP (by omega)) dL_isCancelled_26 lk_L_44 hP.1.1.1 ⟨Nat.le_of_ble_eq_true rfl, Nat.le_of_ble_eq_true rfl⟩ (catLe (Nat.le_of_ble_eq_true rfl)) ⟨rfl, rfl⟩ rfl (Nat.le_of_ble_eq_true rfl) (Nat.le_of_ble_eq_true rfl) (fun z26 S26 A26 i26 p26 => ?_)
    obtain ⟨rfl, rfl, rfl⟩ := p26
    refine r_ifne C (tgt := 36) dL_isCancelled_29 (by decide) (by omega) (fun c29 => ?_) (fun c29 => ?_)
    · refine r_iconst C dL_isCancelled_36 ?_
      refine r_istore C dL_isCancelled_37 (ls1_5 rfl rfl) ?_
      refine r_iconst C dL_isCancelled_39 ?_
      refine r_istore C dL_isCancelled_40 (ls1_6 rfl rfl) ?_
      refine r_iconst C dL_isCancelled_42 ?_
      refine r_istore C dL_isCancelled_43 (ls1_7 rfl rfl) ?_
      exact key _ _ ⟨by omega, by omega⟩ ⟨by omega, by omega⟩
    · refine r_iconst C dL_isCancelled_32 ?_
      refine r_goto C (tgt := 37) dL_isCancelled_33 (by decide) ?_
      refine r_istore C dL_isCancelled_37 (ls1_5 rfl rfl) ?_
      refine r_iconst C dL_isCancelled_39 ?_
      refine r_istore C dL_isCancelled_40 (ls1_6 rfl rfl) ?_
      refine r_iconst C dL_isCancelled_42 ?_
      refine r_istore C dL_isCancelled_43 (ls1_7 rfl rfl) ?_
      exact key _ _ ⟨by omega, by omega⟩ ⟨by omega, by omega⟩
