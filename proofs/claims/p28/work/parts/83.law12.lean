/-! the law: a round -/
set_option maxRecDepth 20000 in
theorem lw_loop {G : GT} {l : Launch} (hfl : l.stackTraces = false) {b0 L : Nat} {xs : Nat → Int32} {mn : String} {tb : List ExceptionTableEntry} {J : JT} {X : XT} (C : Cx G l room_1 cL_law 18 RL mn tb J X) (CL : CxL G l room_1 cL_law 18 RL mn tb b0 L xs J X) (F : FinL J) (hLn : L ≤ 260) : ∀ (N : Nat) (t : Int) (R : RW) (S1 : ST) (A1 : AB) (k9 n9 : Nat) (h1 : 0 ≤ t) (h2 : t ≤ 70) (hL : PL R S1 A1) (hk9 : k9 ≤ 1400 + 100 * t + 11300 * ((t + 7) / 8) + 640 * ((t + 23) / 24)) (hn9 : n9 ≤ 7000 + 500 * t + 67800 * ((t + 7) / 8) + 3200 * ((t + 23) / 24)) (hN : 70 - t < N), J 91 [some (.ref b0), some (vR A1 6 0), some (vR A1 40 0), some (vR A1 41 0), some (vR A1 42 0), some (vI 1), some (vI t), none, none, none, none, none, none, none, none, none, none, none] [] S1 A1 k9 n9 := by
  intro N
  induction N with
  | zero => intro t R S1 A1 k9 n9 h1 h2 hL hk9 hn9 hN; omega
  | succ N ih =>
    intro t R S1 A1 k9 n9 h1 h2 hL hk9 hn9 hN
    have hP := hL.1
    have hn := hP.2.1.1
    have hp0 := hL.2.2.2.2.2.1
    have l6 := hL.1.1.1.1
    obtain ⟨l40, l41, l42⟩ := hL.2.2.2.2.1
    have hFc : Fr QF S1 S1 := Fr.rf
    by_cases ht70 : 70 ≤ t
    · refine r_iload C dL_law_91 lg_6 ?_
      refine r_bipush C dL_law_93 (by decide) ?_
      refine r_icge C (tgt := 881) dL_law_95 (by decide) (by omega) (by omega) (fun c95 => ?_) (fun c95 => ?_)
      · refine r_iload C dL_law_881 lg_5 ?_
        exact F _ _ _ _ _ _ dL_law_883 (by omega) (by omega)
      · exfalso; omega
    have j784 : ∀ (R2 : RW) (S2 : ST) (A2 : AB) (k8 n8 : Nat) (hL2 : PL R2 S2 A2) (hk8 : k8 ≤ k9 + 80) (hn8 : n8 ≤ n9 + 350) (x it day : Int) (hx : 0 ≤ x ∧ x ≤ 2147483647) (hit : 0 ≤ it ∧ it ≤ 5) (hday : 0 ≤ day ∧ day ≤ 364), J 784 [some (.ref b0), some (vR A2 6 0), some (vR A2 40 0), some (vR A2 41 0), some (vR A2 42 0), some (vI 1), some (vI t), some (vI x), some (vI (x / 32)), none, some (vI it), some (vI day), none, none, none, none, none, none] [] S2 A2 k8 n8 := by
      intro R2 S2 A2 k8 n8 hL2 hk8 hn8 x it day hx hit hday
      have hP := hL2.1
      have hFc : Fr QF S2 S2 := Fr.rf
      refine r_iload C dL_law_784 lg_5 ?_
      refine r_ifeq C (tgt := 872) dL_law_786 (by decide) (by omega) (fun c786 => ?_) (fun c786 => ?_)
      · exfalso; omega
      · refine r_aload_n C dL_law_789 lg_1 ?_
        refine r_iload C dL_law_790 lg_10 ?_
        refine r_iload C dL_law_792 lg_11 ?_
        refine r_S3Z C (cQ_isSound hfl hP ⟨hit, hday⟩) dL_law_794 lk_L_177 ⟨Nat.le_of_ble_eq_true rfl, Nat.le_of_ble_eq_true rfl⟩ (catLe (Nat.le_of_ble_eq_true rfl)) 6 36 ⟨rfl, rfl⟩ (show _ ≤ 671858 by omega) (show _ ≤ 7086125 by omega) (fun _ _ _ h9 => h9.elim) (fun z794 S794 A794 i794 p794 => ?_)
        obtain ⟨rfl, rfl, hF794⟩ := p794
        have hP := pi_fr hP hF794
        have hFc := hFc.tr hF794
        refine r_ifeq C (tgt := 872) dL_law_797 (by decide) (by omega) (fun c797 => ?_) (fun c797 => ?_)
        · exfalso; omega
        · refine r_aload_n C dL_law_800 lg_1 ?_
          refine r_iload C dL_law_801 lg_10 ?_
          refine r_sipush C dL_law_803 (by decide) ?_
          refine r_S3Z C (cQ_isSound hfl hP ⟨hit, by omega, by omega⟩) dL_law_806 lk_L_177 ⟨Nat.le_of_ble_eq_true rfl, Nat.le_of_ble_eq_true rfl⟩ (catLe (Nat.le_of_ble_eq_true rfl)) 6 36 ⟨rfl, rfl⟩ (show _ ≤ 671858 by omega) (show _ ≤ 7086125 by omega) (fun _ _ _ h9 => h9.elim) (fun z806 S806 A806 i806 p806 => ?_)
          obtain ⟨rfl, rfl, hF806⟩ := p806
          have hP := pi_fr hP hF806
          have hFc := hFc.tr hF806
          refine r_ifeq C (tgt := 872) dL_law_809 (by decide) (by omega) (fun c809 => ?_) (fun c809 => ?_)
          · exfalso; omega
          · refine r_aload_n C dL_law_812 lg_1 ?_
            refine r_iload C dL_law_813 lg_8 ?_
            refine r_bipush C dL_law_815 (by decide) ?_
            refine r_irem C dL_law_817 (by omega) (by omega) (by omega) (by omega) ?_
            refine r_iload C dL_law_818 lg_8 ?_
            refine r_bipush C dL_law_820 (by decide) ?_
            refine r_idiv C dL_law_822 (by omega) (by omega) (by omega) (by omega) ?_
            refine r_sipush C dL_law_823 (by decide) ?_
            refine r_irem C dL_law_826 (by omega) (by omega) (by omega) (by omega) ?_
            refine r_S3Z C (cQ_isSound hfl hP ⟨⟨by omega, by omega⟩, by omega, by omega⟩) dL_law_827 lk_L_177 ⟨Nat.le_of_ble_eq_true rfl, Nat.le_of_ble_eq_true rfl⟩ (catLe (Nat.le_of_ble_eq_true rfl)) 6 36 ⟨rfl, rfl⟩ (show _ ≤ 671858 by omega) (show _ ≤ 7086125 by omega) (fun _ _ _ h9 => h9.elim) (fun z827 S827 A827 i827 p827 => ?_)
            obtain ⟨rfl, rfl, hF827⟩ := p827
            have hP := pi_fr hP hF827
            have hFc := hFc.tr hF827
            refine r_ifeq C (tgt := 872) dL_law_830 (by decide) (by omega) (fun c830 => ?_) (fun c830 => ?_)
            · exfalso; omega
            · refine r_iload C dL_law_833 lg_6 ?_
              refine r_bipush C dL_law_835 (by decide) ?_
              refine r_irem C dL_law_837 (by omega) (by omega) (by omega) (by omega) ?_
              refine r_ifgt C (tgt := 849) dL_law_838 (by decide) (by omega) (fun c838 => ?_) (fun c838 => ?_)
              · refine r_iload C dL_law_849 lg_6 ?_
                refine r_bipush C dL_law_851 (by decide) ?_
                refine r_irem C dL_law_853 (by omega) (by omega) (by omega) (by omega) ?_
                refine r_ifgt C (tgt := 868) dL_law_854 (by decide) (by omega) (fun c854 => ?_) (fun c854 => ?_)
                · refine r_iconst C dL_law_868 ?_
                  refine r_goto C (tgt := 873) dL_law_869 (by decide) ?_
                  refine r_istore C dL_law_873 (ls1_5 rfl (cat_R _ _ _)) ?_
                  refine r_iinc C dL_law_875 lg_6 (ls1_6 rfl rfl) ?_
                  refine r_goto C (tgt := 91) dL_law_878 (by decide) ?_
                  refine r_le C (lle_k (lle_k (lle_k (lle_k (lle_k (lle_k (lle_k (lle_f (lle_f (lle_k (lle_f (lle_f (lle_k (lle_k (lle_k (lle_k (lle_k (lle_k lle_0)))))))))))))))))) ?_
                  exact ih (t + 1) R2 _ A2 _ _ (by omega) (by omega) (pl_fr hL2 hFc) (by omega) (by omega) (by omega)
                · refine r_aload_n C dL_law_857 lg_1 ?_
                  refine r_iload C dL_law_858 lg_7 ?_
                  refine r_iconst C dL_law_860 ?_
                  refine r_idiv C dL_law_861 (by omega) (by omega) (by omega) (by omega) ?_
                  refine r_S2Z C (cQ_isRefused hfl hP (by omega) (pl_w (pl_fr hL2 hFc)) (pl_5 hL2)) dL_law_862 lk_L_181 ⟨Nat.le_of_ble_eq_true rfl, Nat.le_of_ble_eq_true rfl⟩ (catLe (Nat.le_of_ble_eq_true rfl)) 640 3200 ⟨rfl, rfl⟩ (show _ ≤ 671858 by omega) (show _ ≤ 7086125 by omega) (fun _ _ _ h9 => h9.elim) (fun z862 S862 A862 i862 p862 => ?_)
                  obtain ⟨rfl, rfl, hF862⟩ := p862
                  have hP := pi_fr hP hF862
                  have hFc := hFc.tr hF862
                  refine r_ifeq C (tgt := 872) dL_law_865 (by decide) (by omega) (fun c865 => ?_) (fun c865 => ?_)
                  · exfalso; omega
                  · refine r_iconst C dL_law_868 ?_
                    refine r_goto C (tgt := 873) dL_law_869 (by decide) ?_
                    refine r_istore C dL_law_873 (ls1_5 rfl (cat_R _ _ _)) ?_
                    refine r_iinc C dL_law_875 lg_6 (ls1_6 rfl rfl) ?_
                    refine r_goto C (tgt := 91) dL_law_878 (by decide) ?_
                    refine r_le C (lle_k (lle_k (lle_k (lle_k (lle_k (lle_k (lle_k (lle_f (lle_f (lle_k (lle_f (lle_f (lle_k (lle_k (lle_k (lle_k (lle_k (lle_k lle_0)))))))))))))))))) ?_
                    exact ih (t + 1) R2 _ A2 _ _ (by omega) (by omega) (pl_fr hL2 hFc) (by omega) (by omega) (by omega)
              · refine r_aload_n C dL_law_841 lg_1 ?_
                refine r_aload_n C dL_law_842 lg_3 ?_
                refine r_S2Z C (cQ_areMovements hfl hP hL2.2.1 hL2.2.2.2.2.1.2.1 (pl_am (pl_fr hL2 hFc))) dL_law_843 lk_L_201 ⟨Nat.le_of_ble_eq_true rfl, Nat.le_of_ble_eq_true rfl⟩ (catLe (Nat.le_of_ble_eq_true rfl)) 11300 67800 ⟨rfl, rfl⟩ (show _ ≤ 671858 by omega) (show _ ≤ 7086125 by omega) (fun _ _ _ h9 => h9.elim) (fun z843 S843 A843 i843 p843 => ?_)
                obtain ⟨rfl, rfl, hF843⟩ := p843
                have hP := pi_fr hP hF843
                have hFc := hFc.tr hF843
                refine r_ifeq C (tgt := 872) dL_law_846 (by decide) (by omega) (fun c846 => ?_) (fun c846 => ?_)
                · exfalso; omega
                · refine r_iload C dL_law_849 lg_6 ?_
                  refine r_bipush C dL_law_851 (by decide) ?_
                  refine r_irem C dL_law_853 (by omega) (by omega) (by omega) (by omega) ?_
                  refine r_ifgt C (tgt := 868) dL_law_854 (by decide) (by omega) (fun c854 => ?_) (fun c854 => ?_)
                  · refine r_iconst C dL_law_868 ?_
                    refine r_goto C (tgt := 873) dL_law_869 (by decide) ?_
                    refine r_istore C dL_law_873 (ls1_5 rfl (cat_R _ _ _)) ?_
                    refine r_iinc C dL_law_875 lg_6 (ls1_6 rfl rfl) ?_
                    refine r_goto C (tgt := 91) dL_law_878 (by decide) ?_
                    refine r_le C (lle_k (lle_k (lle_k (lle_k (lle_k (lle_k (lle_k (lle_f (lle_f (lle_k (lle_f (lle_f (lle_k (lle_k (lle_k (lle_k (lle_k (lle_k lle_0)))))))))))))))))) ?_
                    exact ih (t + 1) R2 _ A2 _ _ (by omega) (by omega) (pl_fr hL2 hFc) (by omega) (by omega) (by omega)
                  · refine r_aload_n C dL_law_857 lg_1 ?_
                    refine r_iload C dL_law_858 lg_7 ?_
                    refine r_iconst C dL_law_860 ?_
                    refine r_idiv C dL_law_861 (by omega) (by omega) (by omega) (by omega) ?_
                    refine r_S2Z C (cQ_isRefused hfl hP (by omega) (pl_w (pl_fr hL2 hFc)) (pl_5 hL2)) dL_law_862 lk_L_181 ⟨Nat.le_of_ble_eq_true rfl, Nat.le_of_ble_eq_true rfl⟩ (catLe (Nat.le_of_ble_eq_true rfl)) 640 3200 ⟨rfl, rfl⟩ (show _ ≤ 671858 by omega) (show _ ≤ 7086125 by omega) (fun _ _ _ h9 => h9.elim) (fun z862 S862 A862 i862 p862 => ?_)
                    obtain ⟨rfl, rfl, hF862⟩ := p862
                    have hP := pi_fr hP hF862
                    have hFc := hFc.tr hF862
                    refine r_ifeq C (tgt := 872) dL_law_865 (by decide) (by omega) (fun c865 => ?_) (fun c865 => ?_)
                    · exfalso; omega
                    · refine r_iconst C dL_law_868 ?_
                      refine r_goto C (tgt := 873) dL_law_869 (by decide) ?_
                      refine r_istore C dL_law_873 (ls1_5 rfl (cat_R _ _ _)) ?_
                      refine r_iinc C dL_law_875 lg_6 (ls1_6 rfl rfl) ?_
                      refine r_goto C (tgt := 91) dL_law_878 (by decide) ?_
                      refine r_le C (lle_k (lle_k (lle_k (lle_k (lle_k (lle_k (lle_k (lle_f (lle_f (lle_k (lle_f (lle_f (lle_k (lle_k (lle_k (lle_k (lle_k (lle_k lle_0)))))))))))))))))) ?_
                      exact ih (t + 1) R2 _ A2 _ _ (by omega) (by omega) (pl_fr hL2 hFc) (by omega) (by omega) (by omega)
    have jop : ∀ (x it day q c : Int) (hx : 0 ≤ x ∧ x ≤ 2147483647) (hit : 0 ≤ it ∧ it ≤ 5) (hday : 0 ≤ day ∧ day ≤ 364) (hq : 1 ≤ q ∧ q ≤ 1000) (hc : 0 ≤ c ∧ c ≤ 1000000), J 217 [some (.ref b0), some (vR A1 6 0), some (vR A1 40 0), some (vR A1 41 0), some (vR A1 42 0), some (vI 1), some (vI t), some (vI x), some (vI (x / 32)), some (vI (x % 32)), some (vI it), some (vI day), some (vI q), some (vI c), none, none, none, none] [] S1 A1 k9 n9 := by
      intro x it day q c hx hit hday hq hc
      have j308 : ∀ (qq : Int) (hqq : 1 ≤ qq ∧ qq ≤ 1000), J 308 [some (.ref b0), some (vR A1 6 0), some (vR A1 40 0), some (vR A1 41 0), some (vR A1 42 0), some (vI 1), some (vI t), some (vI x), some (vI (x / 32)), some (vI (x % 32)), some (vI it), some (vI day), some (vI q), some (vI c), none, none, none, none] [vI qq, vI it, vI day, vI 1, vR A1 40 0, vR A1 6 0] S1 A1 k9 n9 := by
        intro qq hqq
        refine r_iconst C dL_law_308 ?_
        refine r_S7Z C (cQ_isPosted hfl hL (by omega) ⟨hit, hday⟩ hqq ⟨by omega, by omega⟩) dL_law_309 lk_L_189 ⟨Nat.le_of_ble_eq_true rfl, Nat.le_of_ble_eq_true rfl⟩ (catLe (Nat.le_of_ble_eq_true rfl)) 9 57 ⟨rfl, rfl⟩ (show _ ≤ 671858 by omega) (show _ ≤ 7086125 by omega) (fun _ _ _ h9 => h9.elim) (fun z309 S309 A309 i309 p309 => ?_)
        obtain ⟨rfl, hE309, R309, hL309⟩ := p309
        rw [← (hE309 6 0 l6.2).1, ← (hE309 40 0 l40.2).1, ← (hE309 41 0 l41.2).1, ← (hE309 42 0 l42.2).1]
        refine r_istore C dL_law_312 (ls1_5 rfl (cat_R _ _ _)) ?_
        refine r_goto C (tgt := 784) dL_law_314 (by decide) ?_
        refine r_le C (lle_k (lle_k (lle_k (lle_k (lle_k (lle_k (lle_k (lle_k (lle_k (lle_f (lle_k (lle_k (lle_f (lle_f (lle_k (lle_k (lle_k (lle_k lle_0)))))))))))))))))) ?_
        exact j784 R309 S309 A309 _ _ hL309 (by omega) (by omega) x it day hx hit hday
      have j368 : ∀ (qq : Int) (hqq : 1 ≤ qq ∧ qq ≤ 1000), J 368 [some (.ref b0), some (vR A1 6 0), some (vR A1 40 0), some (vR A1 41 0), some (vR A1 42 0), some (vI 1), some (vI t), some (vI x), some (vI (x / 32)), some (vI (x % 32)), some (vI it), some (vI day), some (vI q), some (vI c), none, none, none, none] [vI qq, vI it, vI day, vI 2, vR A1 40 0, vR A1 6 0] S1 A1 k9 n9 := by
        intro qq hqq
        refine r_iload C dL_law_368 lg_13 ?_
        refine r_S7Z C (cQ_isPosted hfl hL (by omega) ⟨hit, hday⟩ hqq hc) dL_law_370 lk_L_189 ⟨Nat.le_of_ble_eq_true rfl, Nat.le_of_ble_eq_true rfl⟩ (catLe (Nat.le_of_ble_eq_true rfl)) 9 57 ⟨rfl, rfl⟩ (show _ ≤ 671858 by omega) (show _ ≤ 7086125 by omega) (fun _ _ _ h9 => h9.elim) (fun z370 S370 A370 i370 p370 => ?_)
        obtain ⟨rfl, hE370, R370, hL370⟩ := p370
        rw [← (hE370 6 0 l6.2).1, ← (hE370 40 0 l40.2).1, ← (hE370 41 0 l41.2).1, ← (hE370 42 0 l42.2).1]
        refine r_istore C dL_law_373 (ls1_5 rfl (cat_R _ _ _)) ?_
        refine r_goto C (tgt := 784) dL_law_375 (by decide) ?_
        refine r_le C (lle_k (lle_k (lle_k (lle_k (lle_k (lle_k (lle_k (lle_k (lle_k (lle_f (lle_k (lle_k (lle_f (lle_f (lle_k (lle_k (lle_k (lle_k lle_0)))))))))))))))))) ?_
        exact j784 R370 S370 A370 _ _ hL370 (by omega) (by omega) x it day hx hit hday
      have j509 : ∀ (st m : Int) (hst : rL st) (hbt : allR R.n 64 (fun r => ¬ hasB st r)) (hm : m = 40 ∨ m = 900000), J 509 [some (.ref b0), some (vR A1 6 0), some (vR A1 40 0), some (vR A1 41 0), some (vR A1 42 0), some (vI 1), some (vI t), some (vI x), some (vI (x / 32)), none, some (vI it), some (vI day), none, none, some (vL st), none, none, none] [vI m, vI (x / 32 / 700), vI 1, vI day, vR A1 41 0, vR A1 40 0, vR A1 6 0] S1 A1 k9 n9 := by
        intro st m hst hbt hm
        have he1 := Int.emod_nonneg (x / 32 / 700) (show m ≠ 0 by omega)
        have he2 := Int.emod_lt_of_pos (x / 32 / 700) (show 0 < m by omega)
        refine r_irem C dL_law_509 (by omega) (by omega) (by omega) (by omega) ?_
        refine r_iadd C dL_law_510 ?_
        refine r_iload C dL_law_511 lg_8 ?_
        refine r_iconst C dL_law_513 ?_
        refine r_idiv C dL_law_514 (by omega) (by omega) (by omega) (by omega) ?_
        refine r_iconst C dL_law_515 ?_
        refine r_irem C dL_law_516 (by omega) (by omega) (by omega) (by omega) ?_
        refine r_lload C dL_law_517 lg_14 ?_
        refine r_S7Z C (cQ_isLanded hfl hL hday ⟨by omega, by omega⟩ ⟨by omega, by omega⟩ hst hbt) dL_law_519 lk_L_194 ⟨Nat.le_of_ble_eq_true rfl, Nat.le_of_ble_eq_true rfl⟩ (catLe (Nat.le_of_ble_eq_true rfl)) 68 291 ⟨rfl, rfl⟩ (show _ ≤ 671858 by omega) (show _ ≤ 7086125 by omega) (fun _ _ _ h9 => h9.elim) (fun z519 S519 A519 i519 p519 => ?_)
        obtain ⟨rfl, hE519, R519, hL519⟩ := p519
        rw [← (hE519 6 0 l6.2).1, ← (hE519 40 0 l40.2).1, ← (hE519 41 0 l41.2).1, ← (hE519 42 0 l42.2).1]
        refine r_istore C dL_law_522 (ls1_5 rfl (cat_R _ _ _)) ?_
        refine r_goto C (tgt := 784) dL_law_524 (by decide) ?_
        refine r_le C (lle_k (lle_k (lle_k (lle_k (lle_k (lle_k (lle_k (lle_k (lle_k (lle_k (lle_k (lle_k (lle_k (lle_k (lle_f (lle_k (lle_k (lle_k lle_0)))))))))))))))))) ?_
        exact j784 R519 S519 A519 _ _ hL519 (by omega) (by omega) x it day hx hit hday
      have lp391 : ∀ (N : Nat) (k st : Int) (h1 : 0 ≤ k) (h2 : k ≤ R.n) (hst : rL st) (hbs : ∀ r, k ≤ r → r < 64 → ¬ hasB st r) (hN : R.n - k < N), J 391 [some (.ref b0), some (vR A1 6 0), some (vR A1 40 0), some (vR A1 41 0), some (vR A1 42 0), some (vI 1), some (vI t), some (vI x), some (vI (x / 32)), none, some (vI it), some (vI day), none, none, some (vL st), none, some (vI k), none] [] S1 A1 k9 n9 := by
        intro N
        induction N with
        | zero => intro k st h1 h2 hst hbs hN; omega
        | succ N ih =>
          intro k st h1 h2 hst hbs hN
          have j474 : ∀ (v : Int) (hv : v = fLshl 1 k ∨ v = 0) (hkn : k < R.n), J 474 [some (.ref b0), some (vR A1 6 0), some (vR A1 40 0), some (vR A1 41 0), some (vR A1 42 0), some (vI 1), some (vI t), some (vI x), some (vI (x / 32)), none, some (vI it), some (vI day), none, none, some (vL st), none, some (vI k), none] [vL v, vL st] S1 A1 k9 n9 := by
            intro v hv hkn
            refine r_lor C dL_law_474 (fun b474 => ?_)
            refine r_lstore C dL_law_475 (ls2_14 rfl trivial) ?_
            refine r_iinc C dL_law_477 lg_16 (ls1_16 rfl trivial) ?_
            refine r_goto C (tgt := 391) dL_law_480 (by decide) ?_
            exact ih (k + 1) _ (by omega) (by omega) b474 (set_bits hbs h1 (by omega) hv) (by omega)
          refine r_iload C dL_law_391 lg_16 ?_
          refine r_aload_n C dL_law_393 lg_1 ?_
          refine q_V0I C (cZ_movements hfl hP) dL_law_394 lk_L_116 hP.1.1.1 ⟨Nat.le_of_ble_eq_true rfl, Nat.le_of_ble_eq_true rfl⟩ (catLe (Nat.le_of_ble_eq_true rfl)) ⟨rfl, rfl⟩ rfl (show _ ≤ 671858 by omega) (show _ ≤ 7086125 by omega) (fun z394 S394 A394 i394 p394 => ?_)
          obtain ⟨rfl, rfl, rfl⟩ := p394
          refine r_icge C (tgt := 483) dL_law_397 (by decide) (by omega) (by omega) (fun c397 => ?_) (fun c397 => ?_)
          · refine r_aload_n C dL_law_483 lg_1 ?_
            refine r_aload_n C dL_law_484 lg_2 ?_
            refine r_aload_n C dL_law_485 lg_3 ?_
            refine r_iload C dL_law_486 lg_11 ?_
            refine r_iconst C dL_law_488 ?_
            refine r_iload C dL_law_489 lg_8 ?_
            refine r_sipush C dL_law_491 (by decide) ?_
            refine r_idiv C dL_law_494 (by omega) (by omega) (by omega) (by omega) ?_
            refine r_iload C dL_law_495 lg_8 ?_
            refine r_iconst C dL_law_497 ?_
            refine r_irem C dL_law_498 (by omega) (by omega) (by omega) (by omega) ?_
            refine r_ifne C (tgt := 507) dL_law_499 (by decide) (by omega) (fun c499 => ?_) (fun c499 => ?_)
            · refine r_ldc C dL_law_507 cs_L_193 900000 (by decide) ?_
              refine r_le C (lle_k (lle_k (lle_k (lle_k (lle_k (lle_k (lle_k (lle_k (lle_k (lle_k (lle_k (lle_k (lle_k (lle_k (lle_k (lle_k (lle_f (lle_k lle_0)))))))))))))))))) ?_
              exact j509 st _ hst (fun r r0 r1 => hbs r (by omega) r1) (by omega)
            · refine r_bipush C dL_law_502 (by decide) ?_
              refine r_goto C (tgt := 509) dL_law_504 (by decide) ?_
              refine r_le C (lle_k (lle_k (lle_k (lle_k (lle_k (lle_k (lle_k (lle_k (lle_k (lle_k (lle_k (lle_k (lle_k (lle_k (lle_k (lle_k (lle_f (lle_k lle_0)))))))))))))))))) ?_
              exact j509 st _ hst (fun r r0 r1 => hbs r (by omega) r1) (by omega)
          · refine r_aload_n C dL_law_400 lg_1 ?_
            refine r_iload C dL_law_401 lg_16 ?_
            refine q_V1Z C (cZ_isCancelled hfl hP (by omega)) dL_law_403 lk_L_53 hP.1.1.1 ⟨Nat.le_of_ble_eq_true rfl, Nat.le_of_ble_eq_true rfl⟩ (catLe (Nat.le_of_ble_eq_true rfl)) ⟨rfl, rfl⟩ rfl (show _ ≤ 671858 by omega) (show _ ≤ 7086125 by omega) (fun z403 S403 A403 i403 p403 => ?_)
            obtain ⟨rfl, rfl, rfl⟩ := p403
            refine r_ifne C (tgt := 433) dL_law_406 (by decide) (by omega) (fun c406 => ?_) (fun c406 => ?_)
            · refine r_iconst C dL_law_433 ?_
              refine r_istore C dL_law_434 (ls1_17 rfl rfl) ?_
              refine r_lload C dL_law_436 lg_14 ?_
              refine r_iload C dL_law_438 lg_17 ?_
              refine r_ifne C (tgt := 451) dL_law_440 (by decide) (by omega) (fun c440 => ?_) (fun c440 => ?_)
              · refine r_iload C dL_law_451 lg_8 ?_
                refine r_bipush C dL_law_453 (by decide) ?_
                refine r_idiv C dL_law_455 (by omega) (by omega) (by omega) (by omega) ?_
                refine r_iload C dL_law_456 lg_16 ?_
                refine r_iconst C dL_law_458 ?_
                refine r_imul C dL_law_459 ?_
                refine r_iadd C dL_law_460 ?_
                refine r_iconst C dL_law_461 ?_
                refine r_irem C dL_law_462 (by omega) (by omega) (by omega) (by omega) ?_
                refine r_ifle C (tgt := 473) dL_law_463 (by decide) (by omega) (fun c463 => ?_) (fun c463 => ?_)
                · refine r_lconst C dL_law_473 0 rfl ?_
                  refine r_le C (lle_k (lle_k (lle_k (lle_k (lle_k (lle_k (lle_k (lle_k (lle_k (lle_k (lle_k (lle_k (lle_k (lle_k (lle_k (lle_k (lle_k (lle_f lle_0)))))))))))))))))) ?_
                  first
                  | exact j474 _ (Or.inl rfl) (by omega)
                  | exact j474 _ (Or.inr rfl) (by omega)
                · refine r_lconst C dL_law_466 1 rfl ?_
                  refine r_iload C dL_law_467 lg_16 ?_
                  refine r_lshl C dL_law_469 (fun b469 => ?_)
                  refine r_goto C (tgt := 474) dL_law_470 (by decide) ?_
                  refine r_le C (lle_k (lle_k (lle_k (lle_k (lle_k (lle_k (lle_k (lle_k (lle_k (lle_k (lle_k (lle_k (lle_k (lle_k (lle_k (lle_k (lle_k (lle_f lle_0)))))))))))))))))) ?_
                  first
                  | exact j474 _ (Or.inl rfl) (by omega)
                  | exact j474 _ (Or.inr rfl) (by omega)
              · refine r_iload C dL_law_443 lg_8 ?_
                refine r_bipush C dL_law_445 (by decide) ?_
                refine r_irem C dL_law_447 (by omega) (by omega) (by omega) (by omega) ?_
                refine r_ifne C (tgt := 473) dL_law_448 (by decide) (by omega) (fun c448 => ?_) (fun c448 => ?_)
                · refine r_lconst C dL_law_473 0 rfl ?_
                  refine r_le C (lle_k (lle_k (lle_k (lle_k (lle_k (lle_k (lle_k (lle_k (lle_k (lle_k (lle_k (lle_k (lle_k (lle_k (lle_k (lle_k (lle_k (lle_f lle_0)))))))))))))))))) ?_
                  first
                  | exact j474 _ (Or.inl rfl) (by omega)
                  | exact j474 _ (Or.inr rfl) (by omega)
                · refine r_iload C dL_law_451 lg_8 ?_
                  refine r_bipush C dL_law_453 (by decide) ?_
                  refine r_idiv C dL_law_455 (by omega) (by omega) (by omega) (by omega) ?_
                  refine r_iload C dL_law_456 lg_16 ?_
                  refine r_iconst C dL_law_458 ?_
                  refine r_imul C dL_law_459 ?_
                  refine r_iadd C dL_law_460 ?_
                  refine r_iconst C dL_law_461 ?_
                  refine r_irem C dL_law_462 (by omega) (by omega) (by omega) (by omega) ?_
                  refine r_ifle C (tgt := 473) dL_law_463 (by decide) (by omega) (fun c463 => ?_) (fun c463 => ?_)
                  · refine r_lconst C dL_law_473 0 rfl ?_
                    refine r_le C (lle_k (lle_k (lle_k (lle_k (lle_k (lle_k (lle_k (lle_k (lle_k (lle_k (lle_k (lle_k (lle_k (lle_k (lle_k (lle_k (lle_k (lle_f lle_0)))))))))))))))))) ?_
                    first
                    | exact j474 _ (Or.inl rfl) (by omega)
                    | exact j474 _ (Or.inr rfl) (by omega)
                  · refine r_lconst C dL_law_466 1 rfl ?_
                    refine r_iload C dL_law_467 lg_16 ?_
                    refine r_lshl C dL_law_469 (fun b469 => ?_)
                    refine r_goto C (tgt := 474) dL_law_470 (by decide) ?_
                    refine r_le C (lle_k (lle_k (lle_k (lle_k (lle_k (lle_k (lle_k (lle_k (lle_k (lle_k (lle_k (lle_k (lle_k (lle_k (lle_k (lle_k (lle_k (lle_f lle_0)))))))))))))))))) ?_
                    first
                    | exact j474 _ (Or.inl rfl) (by omega)
                    | exact j474 _ (Or.inr rfl) (by omega)
            · refine r_aload_n C dL_law_409 lg_1 ?_
              refine r_iload C dL_law_410 lg_16 ?_
              refine q_V1I C (cZ_kindOf hfl hP (by omega)) dL_law_412 lk_L_44 hP.1.1.1 ⟨Nat.le_of_ble_eq_true rfl, Nat.le_of_ble_eq_true rfl⟩ (catLe (Nat.le_of_ble_eq_true rfl)) ⟨rfl, rfl⟩ rfl (show _ ≤ 671858 by omega) (show _ ≤ 7086125 by omega) (fun z412 S412 A412 i412 p412 => ?_)
              obtain ⟨rfl, rfl, rfl⟩ := p412
              refine r_ifne C (tgt := 433) dL_law_415 (by decide) (by omega) (fun c415 => ?_) (fun c415 => ?_)
              · refine r_iconst C dL_law_433 ?_
                refine r_istore C dL_law_434 (ls1_17 rfl rfl) ?_
                refine r_lload C dL_law_436 lg_14 ?_
                refine r_iload C dL_law_438 lg_17 ?_
                refine r_ifne C (tgt := 451) dL_law_440 (by decide) (by omega) (fun c440 => ?_) (fun c440 => ?_)
                · refine r_iload C dL_law_451 lg_8 ?_
                  refine r_bipush C dL_law_453 (by decide) ?_
                  refine r_idiv C dL_law_455 (by omega) (by omega) (by omega) (by omega) ?_
                  refine r_iload C dL_law_456 lg_16 ?_
                  refine r_iconst C dL_law_458 ?_
                  refine r_imul C dL_law_459 ?_
                  refine r_iadd C dL_law_460 ?_
                  refine r_iconst C dL_law_461 ?_
                  refine r_irem C dL_law_462 (by omega) (by omega) (by omega) (by omega) ?_
                  refine r_ifle C (tgt := 473) dL_law_463 (by decide) (by omega) (fun c463 => ?_) (fun c463 => ?_)
                  · refine r_lconst C dL_law_473 0 rfl ?_
                    refine r_le C (lle_k (lle_k (lle_k (lle_k (lle_k (lle_k (lle_k (lle_k (lle_k (lle_k (lle_k (lle_k (lle_k (lle_k (lle_k (lle_k (lle_k (lle_f lle_0)))))))))))))))))) ?_
                    first
                    | exact j474 _ (Or.inl rfl) (by omega)
                    | exact j474 _ (Or.inr rfl) (by omega)
                  · refine r_lconst C dL_law_466 1 rfl ?_
                    refine r_iload C dL_law_467 lg_16 ?_
                    refine r_lshl C dL_law_469 (fun b469 => ?_)
                    refine r_goto C (tgt := 474) dL_law_470 (by decide) ?_
                    refine r_le C (lle_k (lle_k (lle_k (lle_k (lle_k (lle_k (lle_k (lle_k (lle_k (lle_k (lle_k (lle_k (lle_k (lle_k (lle_k (lle_k (lle_k (lle_f lle_0)))))))))))))))))) ?_
                    first
                    | exact j474 _ (Or.inl rfl) (by omega)
                    | exact j474 _ (Or.inr rfl) (by omega)
                · refine r_iload C dL_law_443 lg_8 ?_
                  refine r_bipush C dL_law_445 (by decide) ?_
                  refine r_irem C dL_law_447 (by omega) (by omega) (by omega) (by omega) ?_
                  refine r_ifne C (tgt := 473) dL_law_448 (by decide) (by omega) (fun c448 => ?_) (fun c448 => ?_)
                  · refine r_lconst C dL_law_473 0 rfl ?_
                    refine r_le C (lle_k (lle_k (lle_k (lle_k (lle_k (lle_k (lle_k (lle_k (lle_k (lle_k (lle_k (lle_k (lle_k (lle_k (lle_k (lle_k (lle_k (lle_f lle_0)))))))))))))))))) ?_
                    first
                    | exact j474 _ (Or.inl rfl) (by omega)
                    | exact j474 _ (Or.inr rfl) (by omega)
                  · refine r_iload C dL_law_451 lg_8 ?_
                    refine r_bipush C dL_law_453 (by decide) ?_
                    refine r_idiv C dL_law_455 (by omega) (by omega) (by omega) (by omega) ?_
                    refine r_iload C dL_law_456 lg_16 ?_
                    refine r_iconst C dL_law_458 ?_
                    refine r_imul C dL_law_459 ?_
                    refine r_iadd C dL_law_460 ?_
                    refine r_iconst C dL_law_461 ?_
                    refine r_irem C dL_law_462 (by omega) (by omega) (by omega) (by omega) ?_
                    refine r_ifle C (tgt := 473) dL_law_463 (by decide) (by omega) (fun c463 => ?_) (fun c463 => ?_)
                    · refine r_lconst C dL_law_473 0 rfl ?_
                      refine r_le C (lle_k (lle_k (lle_k (lle_k (lle_k (lle_k (lle_k (lle_k (lle_k (lle_k (lle_k (lle_k (lle_k (lle_k (lle_k (lle_k (lle_k (lle_f lle_0)))))))))))))))))) ?_
                      first
                      | exact j474 _ (Or.inl rfl) (by omega)
                      | exact j474 _ (Or.inr rfl) (by omega)
                    · refine r_lconst C dL_law_466 1 rfl ?_
                      refine r_iload C dL_law_467 lg_16 ?_
                      refine r_lshl C dL_law_469 (fun b469 => ?_)
                      refine r_goto C (tgt := 474) dL_law_470 (by decide) ?_
                      refine r_le C (lle_k (lle_k (lle_k (lle_k (lle_k (lle_k (lle_k (lle_k (lle_k (lle_k (lle_k (lle_k (lle_k (lle_k (lle_k (lle_k (lle_k (lle_f lle_0)))))))))))))))))) ?_
                      first
                      | exact j474 _ (Or.inl rfl) (by omega)
                      | exact j474 _ (Or.inr rfl) (by omega)
              · refine r_aload_n C dL_law_418 lg_1 ?_
                refine r_iload C dL_law_419 lg_16 ?_
                refine q_V1I C (cZ_dayOf hfl hP (by omega)) dL_law_421 lk_L_47 hP.1.1.1 ⟨Nat.le_of_ble_eq_true rfl, Nat.le_of_ble_eq_true rfl⟩ (catLe (Nat.le_of_ble_eq_true rfl)) ⟨rfl, rfl⟩ rfl (show _ ≤ 671858 by omega) (show _ ≤ 7086125 by omega) (fun z421 S421 A421 i421 p421 => ?_)
                obtain ⟨rfl, rfl, rfl⟩ := p421
                refine r_iload C dL_law_424 lg_11 ?_
                refine r_icgt C (tgt := 433) dL_law_426 (by decide) (by omega) (by omega) (fun c426 => ?_) (fun c426 => ?_)
                · refine r_iconst C dL_law_433 ?_
                  refine r_istore C dL_law_434 (ls1_17 rfl rfl) ?_
                  refine r_lload C dL_law_436 lg_14 ?_
                  refine r_iload C dL_law_438 lg_17 ?_
                  refine r_ifne C (tgt := 451) dL_law_440 (by decide) (by omega) (fun c440 => ?_) (fun c440 => ?_)
                  · refine r_iload C dL_law_451 lg_8 ?_
                    refine r_bipush C dL_law_453 (by decide) ?_
                    refine r_idiv C dL_law_455 (by omega) (by omega) (by omega) (by omega) ?_
                    refine r_iload C dL_law_456 lg_16 ?_
                    refine r_iconst C dL_law_458 ?_
                    refine r_imul C dL_law_459 ?_
                    refine r_iadd C dL_law_460 ?_
                    refine r_iconst C dL_law_461 ?_
                    refine r_irem C dL_law_462 (by omega) (by omega) (by omega) (by omega) ?_
                    refine r_ifle C (tgt := 473) dL_law_463 (by decide) (by omega) (fun c463 => ?_) (fun c463 => ?_)
                    · refine r_lconst C dL_law_473 0 rfl ?_
                      refine r_le C (lle_k (lle_k (lle_k (lle_k (lle_k (lle_k (lle_k (lle_k (lle_k (lle_k (lle_k (lle_k (lle_k (lle_k (lle_k (lle_k (lle_k (lle_f lle_0)))))))))))))))))) ?_
                      first
                      | exact j474 _ (Or.inl rfl) (by omega)
                      | exact j474 _ (Or.inr rfl) (by omega)
                    · refine r_lconst C dL_law_466 1 rfl ?_
                      refine r_iload C dL_law_467 lg_16 ?_
                      refine r_lshl C dL_law_469 (fun b469 => ?_)
                      refine r_goto C (tgt := 474) dL_law_470 (by decide) ?_
                      refine r_le C (lle_k (lle_k (lle_k (lle_k (lle_k (lle_k (lle_k (lle_k (lle_k (lle_k (lle_k (lle_k (lle_k (lle_k (lle_k (lle_k (lle_k (lle_f lle_0)))))))))))))))))) ?_
                      first
                      | exact j474 _ (Or.inl rfl) (by omega)
                      | exact j474 _ (Or.inr rfl) (by omega)
                  · refine r_iload C dL_law_443 lg_8 ?_
                    refine r_bipush C dL_law_445 (by decide) ?_
                    refine r_irem C dL_law_447 (by omega) (by omega) (by omega) (by omega) ?_
                    refine r_ifne C (tgt := 473) dL_law_448 (by decide) (by omega) (fun c448 => ?_) (fun c448 => ?_)
                    · refine r_lconst C dL_law_473 0 rfl ?_
                      refine r_le C (lle_k (lle_k (lle_k (lle_k (lle_k (lle_k (lle_k (lle_k (lle_k (lle_k (lle_k (lle_k (lle_k (lle_k (lle_k (lle_k (lle_k (lle_f lle_0)))))))))))))))))) ?_
                      first
                      | exact j474 _ (Or.inl rfl) (by omega)
                      | exact j474 _ (Or.inr rfl) (by omega)
                    · refine r_iload C dL_law_451 lg_8 ?_
                      refine r_bipush C dL_law_453 (by decide) ?_
                      refine r_idiv C dL_law_455 (by omega) (by omega) (by omega) (by omega) ?_
                      refine r_iload C dL_law_456 lg_16 ?_
                      refine r_iconst C dL_law_458 ?_
                      refine r_imul C dL_law_459 ?_
                      refine r_iadd C dL_law_460 ?_
                      refine r_iconst C dL_law_461 ?_
                      refine r_irem C dL_law_462 (by omega) (by omega) (by omega) (by omega) ?_
                      refine r_ifle C (tgt := 473) dL_law_463 (by decide) (by omega) (fun c463 => ?_) (fun c463 => ?_)
                      · refine r_lconst C dL_law_473 0 rfl ?_
                        refine r_le C (lle_k (lle_k (lle_k (lle_k (lle_k (lle_k (lle_k (lle_k (lle_k (lle_k (lle_k (lle_k (lle_k (lle_k (lle_k (lle_k (lle_k (lle_f lle_0)))))))))))))))))) ?_
                        first
                        | exact j474 _ (Or.inl rfl) (by omega)
                        | exact j474 _ (Or.inr rfl) (by omega)
                      · refine r_lconst C dL_law_466 1 rfl ?_
                        refine r_iload C dL_law_467 lg_16 ?_
                        refine r_lshl C dL_law_469 (fun b469 => ?_)
                        refine r_goto C (tgt := 474) dL_law_470 (by decide) ?_
                        refine r_le C (lle_k (lle_k (lle_k (lle_k (lle_k (lle_k (lle_k (lle_k (lle_k (lle_k (lle_k (lle_k (lle_k (lle_k (lle_k (lle_k (lle_k (lle_f lle_0)))))))))))))))))) ?_
                        first
                        | exact j474 _ (Or.inl rfl) (by omega)
                        | exact j474 _ (Or.inr rfl) (by omega)
                · refine r_iconst C dL_law_429 ?_
                  refine r_goto C (tgt := 434) dL_law_430 (by decide) ?_
                  refine r_istore C dL_law_434 (ls1_17 rfl rfl) ?_
                  refine r_lload C dL_law_436 lg_14 ?_
                  refine r_iload C dL_law_438 lg_17 ?_
                  refine r_ifne C (tgt := 451) dL_law_440 (by decide) (by omega) (fun c440 => ?_) (fun c440 => ?_)
                  · refine r_iload C dL_law_451 lg_8 ?_
                    refine r_bipush C dL_law_453 (by decide) ?_
                    refine r_idiv C dL_law_455 (by omega) (by omega) (by omega) (by omega) ?_
                    refine r_iload C dL_law_456 lg_16 ?_
                    refine r_iconst C dL_law_458 ?_
                    refine r_imul C dL_law_459 ?_
                    refine r_iadd C dL_law_460 ?_
                    refine r_iconst C dL_law_461 ?_
                    refine r_irem C dL_law_462 (by omega) (by omega) (by omega) (by omega) ?_
                    refine r_ifle C (tgt := 473) dL_law_463 (by decide) (by omega) (fun c463 => ?_) (fun c463 => ?_)
                    · refine r_lconst C dL_law_473 0 rfl ?_
                      refine r_le C (lle_k (lle_k (lle_k (lle_k (lle_k (lle_k (lle_k (lle_k (lle_k (lle_k (lle_k (lle_k (lle_k (lle_k (lle_k (lle_k (lle_k (lle_f lle_0)))))))))))))))))) ?_
                      first
                      | exact j474 _ (Or.inl rfl) (by omega)
                      | exact j474 _ (Or.inr rfl) (by omega)
                    · refine r_lconst C dL_law_466 1 rfl ?_
                      refine r_iload C dL_law_467 lg_16 ?_
                      refine r_lshl C dL_law_469 (fun b469 => ?_)
                      refine r_goto C (tgt := 474) dL_law_470 (by decide) ?_
                      refine r_le C (lle_k (lle_k (lle_k (lle_k (lle_k (lle_k (lle_k (lle_k (lle_k (lle_k (lle_k (lle_k (lle_k (lle_k (lle_k (lle_k (lle_k (lle_f lle_0)))))))))))))))))) ?_
                      first
                      | exact j474 _ (Or.inl rfl) (by omega)
                      | exact j474 _ (Or.inr rfl) (by omega)
                  · refine r_iload C dL_law_443 lg_8 ?_
                    refine r_bipush C dL_law_445 (by decide) ?_
                    refine r_irem C dL_law_447 (by omega) (by omega) (by omega) (by omega) ?_
                    refine r_ifne C (tgt := 473) dL_law_448 (by decide) (by omega) (fun c448 => ?_) (fun c448 => ?_)
                    · refine r_lconst C dL_law_473 0 rfl ?_
                      refine r_le C (lle_k (lle_k (lle_k (lle_k (lle_k (lle_k (lle_k (lle_k (lle_k (lle_k (lle_k (lle_k (lle_k (lle_k (lle_k (lle_k (lle_k (lle_f lle_0)))))))))))))))))) ?_
                      first
                      | exact j474 _ (Or.inl rfl) (by omega)
                      | exact j474 _ (Or.inr rfl) (by omega)
                    · refine r_iload C dL_law_451 lg_8 ?_
                      refine r_bipush C dL_law_453 (by decide) ?_
                      refine r_idiv C dL_law_455 (by omega) (by omega) (by omega) (by omega) ?_
                      refine r_iload C dL_law_456 lg_16 ?_
                      refine r_iconst C dL_law_458 ?_
                      refine r_imul C dL_law_459 ?_
                      refine r_iadd C dL_law_460 ?_
                      refine r_iconst C dL_law_461 ?_
                      refine r_irem C dL_law_462 (by omega) (by omega) (by omega) (by omega) ?_
                      refine r_ifle C (tgt := 473) dL_law_463 (by decide) (by omega) (fun c463 => ?_) (fun c463 => ?_)
                      · refine r_lconst C dL_law_473 0 rfl ?_
                        refine r_le C (lle_k (lle_k (lle_k (lle_k (lle_k (lle_k (lle_k (lle_k (lle_k (lle_k (lle_k (lle_k (lle_k (lle_k (lle_k (lle_k (lle_k (lle_f lle_0)))))))))))))))))) ?_
                        first
                        | exact j474 _ (Or.inl rfl) (by omega)
                        | exact j474 _ (Or.inr rfl) (by omega)
                      · refine r_lconst C dL_law_466 1 rfl ?_
                        refine r_iload C dL_law_467 lg_16 ?_
                        refine r_lshl C dL_law_469 (fun b469 => ?_)
                        refine r_goto C (tgt := 474) dL_law_470 (by decide) ?_
                        refine r_le C (lle_k (lle_k (lle_k (lle_k (lle_k (lle_k (lle_k (lle_k (lle_k (lle_k (lle_k (lle_k (lle_k (lle_k (lle_k (lle_k (lle_k (lle_f lle_0)))))))))))))))))) ?_
                        first
                        | exact j474 _ (Or.inl rfl) (by omega)
                        | exact j474 _ (Or.inr rfl) (by omega)
      have j610 : ∀ (to : Int) (hto : 0 ≤ to ∧ to ≤ 364), J 610 [some (.ref b0), some (vR A1 6 0), some (vR A1 40 0), some (vR A1 41 0), some (vR A1 42 0), some (vI 1), some (vI t), some (vI x), some (vI (x / 32)), none, some (vI it), some (vI day), none, none, none, none, none, none] [vI to] S1 A1 k9 n9 := by
        intro to hto
        by_cases hgt : S1 198 0 < to
        · refine r_istore C dL_law_610 (ls1_14 rfl trivial) ?_
          refine r_iload C dL_law_612 lg_14 ?_
          refine r_aload_n C dL_law_614 lg_2 ?_
          refine r_iconst C dL_law_615 ?_
          refine r_iald C (N := 1) 1280 dL_law_616 (by decide) rfl rfl l40 (by omega) (by omega) (by omega) (fun g616 => ?_)
          rw [hp0.1]
          refine r_icle C (tgt := 626) dL_law_617 (by decide) (by omega) (by omega) (fun c617 => ?_) (fun c617 => ?_)
          · exfalso; omega
          · refine r_aload_n C dL_law_620 lg_2 ?_
            refine r_iconst C dL_law_621 ?_
            refine r_iald C (N := 1) 1280 dL_law_622 (by decide) rfl rfl l40 (by omega) (by omega) (by omega) (fun g622 => ?_)
            rw [hp0.1]
            refine r_goto C (tgt := 628) dL_law_623 (by decide) ?_
            refine r_istore C dL_law_628 (ls1_15 rfl rfl) ?_
            refine r_aload_n C dL_law_630 lg_1 ?_
            refine q_S1J C (cQ_all hfl hP) dL_law_631 lk_L_146 ⟨Nat.le_of_ble_eq_true rfl, Nat.le_of_ble_eq_true rfl⟩ (catLe (Nat.le_of_ble_eq_true rfl)) ⟨rfl, rfl⟩ rfl (show _ ≤ 671858 by omega) (show _ ≤ 7086125 by omega) (fun z631 S631 A631 i631 p631 => ?_)
            obtain ⟨rfl, rfl, hF631⟩ := p631
            have hP := pi_fr hP hF631
            have hFc := hFc.tr hF631
            refine r_lstore C dL_law_634 (ls2_16 rfl rfl) ?_
            refine r_aload_n C dL_law_636 lg_1 ?_
            refine r_iload C dL_law_637 lg_14 ?_
            refine r_W2I C (cQ_close hfl hP (by omega)) dL_law_639 lk_L_166 ⟨Nat.le_of_ble_eq_true rfl, Nat.le_of_ble_eq_true rfl⟩ (catLe (Nat.le_of_ble_eq_true rfl)) 2 12 ⟨rfl, rfl⟩ (show _ ≤ 671858 by omega) (show _ ≤ 7086125 by omega) (fun _ _ _ h9 => h9.elim) (fun z639 S639 A639 i639 p639 => ?_)
            obtain ⟨rfl, e639⟩ := p639
            obtain ⟨e639a, e639⟩ := accK e639 hto (by rw [hFc 198 0 (by decide)]; exact hgt)
            have hF631 := hFc
            rw [hFc 198 0 (by decide)] at e639a
            have hP : PI R S639 A1 := by rw [← e639]; exact pi_up hP (by decide)
            have hFc : Fr QF S639 S639 := Fr.rf
            have e198 : S639 198 0 = to := by rw [← e639, upS_self]
            have e1280 : S639 1280 0 = S1 198 0 := by rw [← e639, upS_c _ _ (by decide), hF631 1280 0 (by decide), hp0.1]
            refine r_iload C dL_law_642 lg_15 ?_
            refine r_icne C (tgt := 686) dL_law_644 (by decide) (by omega) (by omega) (fun c644 => ?_) (fun c644 => ?_)
            · exfalso; omega
            · refine r_aload_n C dL_law_647 lg_1 ?_
              refine q_S1J C (cQ_all hfl hP) dL_law_648 lk_L_146 ⟨Nat.le_of_ble_eq_true rfl, Nat.le_of_ble_eq_true rfl⟩ (catLe (Nat.le_of_ble_eq_true rfl)) ⟨rfl, rfl⟩ rfl (show _ ≤ 671858 by omega) (show _ ≤ 7086125 by omega) (fun z648 S648 A648 i648 p648 => ?_)
              obtain ⟨rfl, rfl, hF648⟩ := p648
              have hP := pi_fr hP hF648
              have hFc := hFc.tr hF648
              refine r_lload C dL_law_651 lg_16 ?_
              refine r_lcne C (tgt := 686) dL_law_653 dL_law_654 (by decide) (wL_r _) (wL_r _) (fun c653 => ?_) (fun c653 => ?_)
              · exfalso; omega
              · refine r_aload_n C dL_law_657 lg_1 ?_
                refine r_iload C dL_law_658 lg_14 ?_
                refine r_W2I C (cQ_close hfl hP (by omega)) dL_law_660 lk_L_166 ⟨Nat.le_of_ble_eq_true rfl, Nat.le_of_ble_eq_true rfl⟩ (catLe (Nat.le_of_ble_eq_true rfl)) 2 12 ⟨rfl, rfl⟩ (show _ ≤ 671858 by omega) (show _ ≤ 7086125 by omega) (fun _ _ _ h9 => h9.elim) (fun z660 S660 A660 i660 p660 => ?_)
                obtain ⟨rfl, e660⟩ := p660
                obtain ⟨rfl, rfl⟩ := ref7K e660 hto (by rw [hFc 198 0 (by decide), e198]; omega)
                refine r_bipush C dL_law_663 (by decide) ?_
                refine r_icne C (tgt := 686) dL_law_665 (by decide) (by omega) (by omega) (fun c665 => ?_) (fun c665 => ?_)
                · exfalso; omega
                · refine r_aload_n C dL_law_668 lg_1 ?_
                  refine r_iload C dL_law_669 lg_14 ?_
                  refine r_iconst C dL_law_671 ?_
                  refine r_iconst C dL_law_672 ?_
                  refine r_iconst C dL_law_673 ?_
                  refine r_W5I C (cQ_receive hfl hP (by omega) (by omega) (by omega) (by omega)) dL_law_674 lk_L_150 ⟨Nat.le_of_ble_eq_true rfl, Nat.le_of_ble_eq_true rfl⟩ (catLe (Nat.le_of_ble_eq_true rfl)) 8 51 ⟨rfl, rfl⟩ (show _ ≤ 671858 by omega) (show _ ≤ 7086125 by omega) (fun _ _ _ h9 => h9.elim) (fun z674 S674 A674 i674 p674 => ?_)
                  obtain h674 := p674
                  obtain ⟨rfl, rfl, rfl⟩ := ref7 p674 ⟨⟨⟨by omega, by omega⟩, hto⟩, ⟨by omega, by omega⟩, by omega, by omega⟩ (fun q9 => by
                    have h9 := q9.1.1
                    rw [hFc 198 0 (by decide), e198] at h9
                    omega)
                  refine r_bipush C dL_law_677 (by decide) ?_
                  refine r_icne C (tgt := 686) dL_law_679 (by decide) (by omega) (by omega) (fun c679 => ?_) (fun c679 => ?_)
                  · exfalso; omega
                  · refine r_iconst C dL_law_682 ?_
                    refine r_goto C (tgt := 687) dL_law_683 (by decide) ?_
                    refine r_istore C dL_law_687 (ls1_5 rfl (cat_R _ _ _)) ?_
                    refine r_aload_n C dL_law_689 lg_2 ?_
                    refine r_iconst C dL_law_690 ?_
                    refine r_iload C dL_law_691 lg_14 ?_
                    refine r_aload_n C dL_law_693 lg_2 ?_
                    refine r_iconst C dL_law_694 ?_
                    refine r_iald C (N := 1) 1280 dL_law_695 (by decide) rfl rfl l40 (by omega) (by omega) (by omega) (fun g695 => ?_)
                    rw [hFc 1280 0 (by decide), e1280]
                    refine r_icle C (tgt := 704) dL_law_696 (by decide) (by omega) (by omega) (fun c696 => ?_) (fun c696 => ?_)
                    · exfalso; omega
                    · refine r_iload C dL_law_699 lg_14 ?_
                      refine r_goto C (tgt := 707) dL_law_701 (by decide) ?_
                      refine r_iast C (N := 1) 1280 dL_law_707 (by decide) rfl rfl l40 (by omega) (by omega) (by omega) (by omega) ?_
                      refine r_goto C (tgt := 784) dL_law_708 (by decide) ?_
                      refine r_le C (lle_k (lle_k (lle_k (lle_k (lle_k (lle_k (lle_k (lle_k (lle_k (lle_k (lle_k (lle_k (lle_k (lle_k (lle_f (lle_f (lle_f (lle_k lle_0)))))))))))))))))) ?_
                      exact j784 R _ A1 _ _ (pl_close hL hto hF631 e639 hFc) (by omega) (by omega) x it day hx hit hday
        · refine r_istore C dL_law_610 (ls1_14 rfl trivial) ?_
          refine r_iload C dL_law_612 lg_14 ?_
          refine r_aload_n C dL_law_614 lg_2 ?_
          refine r_iconst C dL_law_615 ?_
          refine r_iald C (N := 1) 1280 dL_law_616 (by decide) rfl rfl l40 (by omega) (by omega) (by omega) (fun g616 => ?_)
          rw [hp0.1]
          refine r_icle C (tgt := 626) dL_law_617 (by decide) (by omega) (by omega) (fun c617 => ?_) (fun c617 => ?_)
          · refine r_bipush C dL_law_626 (by decide) ?_
            refine r_istore C dL_law_628 (ls1_15 rfl rfl) ?_
            refine r_aload_n C dL_law_630 lg_1 ?_
            refine q_S1J C (cQ_all hfl hP) dL_law_631 lk_L_146 ⟨Nat.le_of_ble_eq_true rfl, Nat.le_of_ble_eq_true rfl⟩ (catLe (Nat.le_of_ble_eq_true rfl)) ⟨rfl, rfl⟩ rfl (show _ ≤ 671858 by omega) (show _ ≤ 7086125 by omega) (fun z631 S631 A631 i631 p631 => ?_)
            obtain ⟨rfl, rfl, hF631⟩ := p631
            have hP := pi_fr hP hF631
            have hFc := hFc.tr hF631
            refine r_lstore C dL_law_634 (ls2_16 rfl rfl) ?_
            refine r_aload_n C dL_law_636 lg_1 ?_
            refine r_iload C dL_law_637 lg_14 ?_
            refine r_W2I C (cQ_close hfl hP (by omega)) dL_law_639 lk_L_166 ⟨Nat.le_of_ble_eq_true rfl, Nat.le_of_ble_eq_true rfl⟩ (catLe (Nat.le_of_ble_eq_true rfl)) 2 12 ⟨rfl, rfl⟩ (show _ ≤ 671858 by omega) (show _ ≤ 7086125 by omega) (fun _ _ _ h9 => h9.elim) (fun z639 S639 A639 i639 p639 => ?_)
            obtain ⟨rfl, e639⟩ := p639
            obtain ⟨rfl, rfl⟩ := ref7K e639 hto (by rw [hFc 198 0 (by decide)]; exact hgt)
            refine r_iload C dL_law_642 lg_15 ?_
            refine r_icne C (tgt := 686) dL_law_644 (by decide) (by omega) (by omega) (fun c644 => ?_) (fun c644 => ?_)
            · exfalso; omega
            · refine r_aload_n C dL_law_647 lg_1 ?_
              refine q_S1J C (cQ_all hfl hP) dL_law_648 lk_L_146 ⟨Nat.le_of_ble_eq_true rfl, Nat.le_of_ble_eq_true rfl⟩ (catLe (Nat.le_of_ble_eq_true rfl)) ⟨rfl, rfl⟩ rfl (show _ ≤ 671858 by omega) (show _ ≤ 7086125 by omega) (fun z648 S648 A648 i648 p648 => ?_)
              obtain ⟨rfl, rfl, hF648⟩ := p648
              have hP := pi_fr hP hF648
              have hFc := hFc.tr hF648
              refine r_lload C dL_law_651 lg_16 ?_
              refine r_lcne C (tgt := 686) dL_law_653 dL_law_654 (by decide) (wL_r _) (wL_r _) (fun c653 => ?_) (fun c653 => ?_)
              · exfalso; omega
              · refine r_aload_n C dL_law_657 lg_1 ?_
                refine r_iload C dL_law_658 lg_14 ?_
                refine r_W2I C (cQ_close hfl hP (by omega)) dL_law_660 lk_L_166 ⟨Nat.le_of_ble_eq_true rfl, Nat.le_of_ble_eq_true rfl⟩ (catLe (Nat.le_of_ble_eq_true rfl)) 2 12 ⟨rfl, rfl⟩ (show _ ≤ 671858 by omega) (show _ ≤ 7086125 by omega) (fun _ _ _ h9 => h9.elim) (fun z660 S660 A660 i660 p660 => ?_)
                obtain ⟨rfl, e660⟩ := p660
                obtain ⟨rfl, rfl⟩ := ref7K e660 hto (by rw [hFc 198 0 (by decide)]; exact hgt)
                refine r_bipush C dL_law_663 (by decide) ?_
                refine r_icne C (tgt := 686) dL_law_665 (by decide) (by omega) (by omega) (fun c665 => ?_) (fun c665 => ?_)
                · exfalso; omega
                · refine r_aload_n C dL_law_668 lg_1 ?_
                  refine r_iload C dL_law_669 lg_14 ?_
                  refine r_iconst C dL_law_671 ?_
                  refine r_iconst C dL_law_672 ?_
                  refine r_iconst C dL_law_673 ?_
                  refine r_W5I C (cQ_receive hfl hP (by omega) (by omega) (by omega) (by omega)) dL_law_674 lk_L_150 ⟨Nat.le_of_ble_eq_true rfl, Nat.le_of_ble_eq_true rfl⟩ (catLe (Nat.le_of_ble_eq_true rfl)) 8 51 ⟨rfl, rfl⟩ (show _ ≤ 671858 by omega) (show _ ≤ 7086125 by omega) (fun _ _ _ h9 => h9.elim) (fun z674 S674 A674 i674 p674 => ?_)
                  obtain h674 := p674
                  obtain ⟨rfl, rfl, rfl⟩ := ref7 p674 ⟨⟨⟨by omega, by omega⟩, hto⟩, ⟨by omega, by omega⟩, by omega, by omega⟩ (fun q9 => by
                    have h9 := q9.1.1
                    rw [hFc 198 0 (by decide)] at h9
                    omega)
                  refine r_bipush C dL_law_677 (by decide) ?_
                  refine r_icne C (tgt := 686) dL_law_679 (by decide) (by omega) (by omega) (fun c679 => ?_) (fun c679 => ?_)
                  · exfalso; omega
                  · refine r_iconst C dL_law_682 ?_
                    refine r_goto C (tgt := 687) dL_law_683 (by decide) ?_
                    refine r_istore C dL_law_687 (ls1_5 rfl (cat_R _ _ _)) ?_
                    refine r_aload_n C dL_law_689 lg_2 ?_
                    refine r_iconst C dL_law_690 ?_
                    refine r_iload C dL_law_691 lg_14 ?_
                    refine r_aload_n C dL_law_693 lg_2 ?_
                    refine r_iconst C dL_law_694 ?_
                    refine r_iald C (N := 1) 1280 dL_law_695 (by decide) rfl rfl l40 (by omega) (by omega) (by omega) (fun g695 => ?_)
                    rw [hFc 1280 0 (by decide), hp0.1]
                    refine r_icle C (tgt := 704) dL_law_696 (by decide) (by omega) (by omega) (fun c696 => ?_) (fun c696 => ?_)
                    · refine r_aload_n C dL_law_704 lg_2 ?_
                      refine r_iconst C dL_law_705 ?_
                      refine r_iald C (N := 1) 1280 dL_law_706 (by decide) rfl rfl l40 (by omega) (by omega) (by omega) (fun g706 => ?_)
                      rw [hFc 1280 0 (by decide), hp0.1]
                      refine r_iast C (N := 1) 1280 dL_law_707 (by decide) rfl rfl l40 (by omega) (by omega) (by omega) (by omega) ?_
                      refine r_goto C (tgt := 784) dL_law_708 (by decide) ?_
                      refine r_le C (lle_k (lle_k (lle_k (lle_k (lle_k (lle_k (lle_k (lle_k (lle_k (lle_k (lle_k (lle_k (lle_k (lle_k (lle_f (lle_f (lle_f (lle_k lle_0)))))))))))))))))) ?_
                      exact j784 R _ A1 _ _ (pl_same (pl_fr hL hFc) (by rw [hFc 198 0 (by decide)])) (by omega) (by omega) x it day hx hit hday
                    · exfalso; omega
          · exfalso; omega
      have j711 : ∀ (u9 : Unit), J 711 [some (.ref b0), some (vR A1 6 0), some (vR A1 40 0), some (vR A1 41 0), some (vR A1 42 0), some (vI 1), some (vI t), some (vI x), some (vI (x / 32)), none, some (vI it), some (vI day), none, none, none, none, none, none] [] S1 A1 k9 n9 := by
        intro u9
        have hi9 : 0 ≤ x / 32 % 6 ∧ x / 32 % 6 ≤ 5 := by omega
        have hv9 : 1 ≤ 1 + x / 32 / 6 % 100 ∧ 1 + x / 32 / 6 % 100 ≤ 100 := by omega
        have hw9 := hL.2.2.2.2.2.2.2 (x / 32 % 6) hi9.1 hi9.2
        refine r_aload C dL_law_711 lg_4 ?_
        refine r_iload C dL_law_713 lg_8 ?_
        refine r_bipush C dL_law_715 (by decide) ?_
        refine r_irem C dL_law_717 (by omega) (by omega) (by omega) (by omega) ?_
        refine r_iald C (N := 6) 1344 dL_law_718 (by decide) rfl rfl l42 (by omega) (by omega) (by omega) (fun g718 => ?_)
        refine r_istore C dL_law_719 (ls1_14 rfl trivial) ?_
        refine r_aload_n C dL_law_721 lg_1 ?_
        refine q_S1J C (cQ_all hfl hP) dL_law_722 lk_L_146 ⟨Nat.le_of_ble_eq_true rfl, Nat.le_of_ble_eq_true rfl⟩ (catLe (Nat.le_of_ble_eq_true rfl)) ⟨rfl, rfl⟩ rfl (show _ ≤ 671858 by omega) (show _ ≤ 7086125 by omega) (fun z722 S722 A722 i722 p722 => ?_)
        obtain ⟨rfl, rfl, hF722⟩ := p722
        have hP := pi_fr hP hF722
        have hFc := hFc.tr hF722
        refine r_lstore C dL_law_725 (ls2_15 rfl rfl) ?_
        refine r_aload C dL_law_727 lg_4 ?_
        refine r_iload C dL_law_729 lg_8 ?_
        refine r_bipush C dL_law_731 (by decide) ?_
        refine r_irem C dL_law_733 (by omega) (by omega) (by omega) (by omega) ?_
        refine r_iconst C dL_law_734 ?_
        refine r_iload C dL_law_735 lg_8 ?_
        refine r_bipush C dL_law_737 (by decide) ?_
        refine r_idiv C dL_law_739 (by omega) (by omega) (by omega) (by omega) ?_
        refine r_bipush C dL_law_740 (by decide) ?_
        refine r_irem C dL_law_742 (by omega) (by omega) (by omega) (by omega) ?_
        refine r_iadd C dL_law_743 ?_
        refine r_iast C (N := 6) 1344 dL_law_744 (by decide) rfl rfl l42 (by omega) (by omega) (by omega) (by omega) ?_
        refine r_gS (fun S744 h744 => ?_)
        have hF722 := hFc
        have hP : PI R S744 A1 := by rw [h744]; exact pi_up hP (by decide)
        have hFc : Fr QF S744 S744 := Fr.rf
        refine r_aload_n C dL_law_745 lg_1 ?_
        refine r_iload C dL_law_746 lg_8 ?_
        refine r_bipush C dL_law_748 (by decide) ?_
        refine r_irem C dL_law_750 (by omega) (by omega) (by omega) (by omega) ?_
        refine r_aload C dL_law_751 lg_4 ?_
        refine r_iload C dL_law_753 lg_8 ?_
        refine r_bipush C dL_law_755 (by decide) ?_
        refine r_irem C dL_law_757 (by omega) (by omega) (by omega) (by omega) ?_
        refine r_iald C (N := 6) 1344 dL_law_758 (by decide) rfl rfl l42 (by omega) (by omega) (by omega) (fun g758 => ?_)
        rw [show S744 1344 (x / 32 % 6) = 1 + x / 32 / 6 % 100 by rw [h744, upS_self]]
        refine r_W3I C (cQ_setWeight hfl hP (by omega) (by omega)) dL_law_759 lk_L_168 ⟨Nat.le_of_ble_eq_true rfl, Nat.le_of_ble_eq_true rfl⟩ (catLe (Nat.le_of_ble_eq_true rfl)) 2 12 ⟨rfl, rfl⟩ (show _ ≤ 671858 by omega) (show _ ≤ 7086125 by omega) (fun _ _ _ h9 => h9.elim) (fun z759 S759 A759 i759 p759 => ?_)
        obtain ⟨rfl, e759⟩ := p759
        obtain ⟨e759a, e759⟩ := accW e759 ⟨hi9, hv9⟩
        have e288 : S744 288 (x / 32 % 6) = S1 288 (x / 32 % 6) := by rw [h744, upS_c _ _ (by decide), hF722 288 _ (by decide)]
        have hP : PI R S759 A1 := by rw [← e759]; exact pi_up hP (by decide)
        have hFc : Fr QF S759 S759 := Fr.rf
        refine r_iload C dL_law_762 lg_14 ?_
        refine r_icne C (tgt := 781) dL_law_764 (by decide) (by omega) (by omega) (fun c764 => ?_) (fun c764 => ?_)
        · exfalso; omega
        · refine r_aload_n C dL_law_767 lg_1 ?_
          refine q_S1J C (cQ_all hfl hP) dL_law_768 lk_L_146 ⟨Nat.le_of_ble_eq_true rfl, Nat.le_of_ble_eq_true rfl⟩ (catLe (Nat.le_of_ble_eq_true rfl)) ⟨rfl, rfl⟩ rfl (show _ ≤ 671858 by omega) (show _ ≤ 7086125 by omega) (fun z768 S768 A768 i768 p768 => ?_)
          obtain ⟨rfl, rfl, hF768⟩ := p768
          have hP := pi_fr hP hF768
          have hFc := hFc.tr hF768
          refine r_lload C dL_law_771 lg_15 ?_
          refine r_lcne C (tgt := 781) dL_law_773 dL_law_774 (by decide) (wL_r _) (wL_r _) (fun c773 => ?_) (fun c773 => ?_)
          · exfalso; omega
          · refine r_iconst C dL_law_777 ?_
            refine r_goto C (tgt := 782) dL_law_778 (by decide) ?_
            refine r_istore C dL_law_782 (ls1_5 rfl (cat_R _ _ _)) ?_
            refine r_le C (lle_k (lle_k (lle_k (lle_k (lle_k (lle_k (lle_k (lle_k (lle_k (lle_k (lle_k (lle_k (lle_k (lle_k (lle_f (lle_f (lle_k (lle_k lle_0)))))))))))))))))) ?_
            exact j784 R _ A1 _ _ (pl_setw hL hi9 hv9 hF722 h744 e759 hFc) (by omega) (by omega) x it day hx hit hday
      have j558 : ∀ (u9 : Unit), J 558 [some (.ref b0), some (vR A1 6 0), some (vR A1 40 0), some (vR A1 41 0), some (vR A1 42 0), some (vI 1), some (vI t), some (vI x), some (vI (x / 32)), some (vI (x % 32)), some (vI it), some (vI day), none, none, none, none, none, none] [] S1 A1 k9 n9 := by
        intro u9
        refine r_iload C dL_law_558 lg_9 ?_
        refine r_bipush C dL_law_560 (by decide) ?_
        refine r_icne C (tgt := 711) dL_law_562 (by decide) (by omega) (by omega) (fun c562 => ?_) (fun c562 => ?_)
        · refine r_le C (lle_k (lle_k (lle_k (lle_k (lle_k (lle_k (lle_k (lle_k (lle_k (lle_f (lle_k (lle_k (lle_k (lle_k (lle_k (lle_k (lle_k (lle_k lle_0)))))))))))))))))) ?_
          exact j711 ()
        · refine r_iload C dL_law_565 lg_8 ?_
          refine r_iconst C dL_law_567 ?_
          refine r_irem C dL_law_568 (by omega) (by omega) (by omega) (by omega) ?_
          refine r_ifne C (tgt := 711) dL_law_569 (by decide) (by omega) (fun c569 => ?_) (fun c569 => ?_)
          · refine r_le C (lle_k (lle_k (lle_k (lle_k (lle_k (lle_k (lle_k (lle_k (lle_k (lle_f (lle_k (lle_k (lle_k (lle_k (lle_k (lle_k (lle_k (lle_k lle_0)))))))))))))))))) ?_
            exact j711 ()
          · refine r_aload_n C dL_law_572 lg_2 ?_
            refine r_iconst C dL_law_573 ?_
            refine r_iald C (N := 1) 1280 dL_law_574 (by decide) rfl rfl l40 (by omega) (by omega) (by omega) (fun g574 => ?_)
            rw [hp0.1]
            refine r_iconst C dL_law_575 ?_
            refine r_iadd C dL_law_576 ?_
            refine r_iload C dL_law_577 lg_8 ?_
            refine r_iconst C dL_law_579 ?_
            refine r_idiv C dL_law_580 (by omega) (by omega) (by omega) (by omega) ?_
            refine r_bipush C dL_law_581 (by decide) ?_
            refine r_irem C dL_law_583 (by omega) (by omega) (by omega) (by omega) ?_
            refine r_iadd C dL_law_584 ?_
            refine r_sipush C dL_law_585 (by decide) ?_
            refine r_icge C (tgt := 607) dL_law_588 (by decide) (by omega) (by omega) (fun c588 => ?_) (fun c588 => ?_)
            · refine r_sipush C dL_law_607 (by decide) ?_
              refine r_le C (lle_k (lle_k (lle_k (lle_k (lle_k (lle_k (lle_k (lle_k (lle_k (lle_f (lle_k (lle_k (lle_k (lle_k (lle_k (lle_k (lle_k (lle_k lle_0)))))))))))))))))) ?_
              exact j610 _ ⟨by omega, by omega⟩
            · refine r_aload_n C dL_law_591 lg_2 ?_
              refine r_iconst C dL_law_592 ?_
              refine r_iald C (N := 1) 1280 dL_law_593 (by decide) rfl rfl ⟨by omega, by omega⟩ (by omega) (by omega) (by omega) (fun g593 => ?_)
              refine r_iconst C dL_law_594 ?_
              rw [hp0.1]
              refine r_iadd C dL_law_595 ?_
              refine r_iload C dL_law_596 lg_8 ?_
              refine r_iconst C dL_law_598 ?_
              refine r_idiv C dL_law_599 (by omega) (by omega) (by omega) (by omega) ?_
              refine r_bipush C dL_law_600 (by decide) ?_
              refine r_irem C dL_law_602 (by omega) (by omega) (by omega) (by omega) ?_
              refine r_iadd C dL_law_603 ?_
              refine r_goto C (tgt := 610) dL_law_604 (by decide) ?_
              refine r_le C (lle_k (lle_k (lle_k (lle_k (lle_k (lle_k (lle_k (lle_k (lle_k (lle_f (lle_k (lle_k (lle_k (lle_k (lle_k (lle_k (lle_k (lle_k lle_0)))))))))))))))))) ?_
              exact j610 _ ⟨by omega, by omega⟩
      refine r_iload C dL_law_217 lg_9 ?_
      refine r_bipush C dL_law_219 (by decide) ?_
      refine r_icge C (tgt := 243) dL_law_221 (by decide) (by omega) (by omega) (fun c221 => ?_) (fun c221 => ?_)
      · refine r_iload C dL_law_243 lg_9 ?_
        refine r_bipush C dL_law_245 (by decide) ?_
        refine r_icge C (tgt := 317) dL_law_247 (by decide) (by omega) (by omega) (fun c247 => ?_) (fun c247 => ?_)
        · refine r_iload C dL_law_317 lg_9 ?_
          refine r_bipush C dL_law_319 (by decide) ?_
          refine r_icge C (tgt := 378) dL_law_321 (by decide) (by omega) (by omega) (fun c321 => ?_) (fun c321 => ?_)
          · refine r_iload C dL_law_378 lg_9 ?_
            refine r_bipush C dL_law_380 (by decide) ?_
            refine r_icge C (tgt := 527) dL_law_382 (by decide) (by omega) (by omega) (fun c382 => ?_) (fun c382 => ?_)
            · refine r_iload C dL_law_527 lg_9 ?_
              refine r_bipush C dL_law_529 (by decide) ?_
              refine r_icge C (tgt := 558) dL_law_531 (by decide) (by omega) (by omega) (fun c531 => ?_) (fun c531 => ?_)
              · refine r_le C (lle_k (lle_k (lle_k (lle_k (lle_k (lle_k (lle_k (lle_k (lle_k (lle_k (lle_k (lle_k (lle_f (lle_f (lle_k (lle_k (lle_k (lle_k lle_0)))))))))))))))))) ?_
                exact j558 ()
              · refine r_aload_n C dL_law_534 lg_1 ?_
                refine q_V0I C (cZ_movements hfl hP) dL_law_535 lk_L_116 hP.1.1.1 ⟨Nat.le_of_ble_eq_true rfl, Nat.le_of_ble_eq_true rfl⟩ (catLe (Nat.le_of_ble_eq_true rfl)) ⟨rfl, rfl⟩ rfl (show _ ≤ 671858 by omega) (show _ ≤ 7086125 by omega) (fun z535 S535 A535 i535 p535 => ?_)
                obtain ⟨rfl, rfl, rfl⟩ := p535
                refine r_ifle C (tgt := 558) dL_law_538 (by decide) (by omega) (fun c538 => ?_) (fun c538 => ?_)
                · refine r_le C (lle_k (lle_k (lle_k (lle_k (lle_k (lle_k (lle_k (lle_k (lle_k (lle_k (lle_k (lle_k (lle_f (lle_f (lle_k (lle_k (lle_k (lle_k lle_0)))))))))))))))))) ?_
                  exact j558 ()
                · refine r_aload_n C dL_law_541 lg_1 ?_
                  refine r_aload_n C dL_law_542 lg_2 ?_
                  refine r_iload C dL_law_543 lg_8 ?_
                  refine r_aload_n C dL_law_545 lg_1 ?_
                  refine q_V0I C (cZ_movements hfl hP) dL_law_546 lk_L_116 hP.1.1.1 ⟨Nat.le_of_ble_eq_true rfl, Nat.le_of_ble_eq_true rfl⟩ (catLe (Nat.le_of_ble_eq_true rfl)) ⟨rfl, rfl⟩ rfl (show _ ≤ 671858 by omega) (show _ ≤ 7086125 by omega) (fun z546 S546 A546 i546 p546 => ?_)
                  obtain ⟨rfl, rfl, rfl⟩ := p546
                  refine r_irem C dL_law_549 (by omega) (by omega) (by omega) (by omega) ?_
                  have hm1 := Int.emod_nonneg (x / 32) (show R.n ≠ 0 by omega)
                  have hm2 := Int.emod_lt_of_pos (x / 32) (show 0 < R.n by omega)
                  refine r_S3Z C (cQ_isCancelled hfl hL ⟨hm1, hm2⟩) dL_law_550 lk_L_198 ⟨Nat.le_of_ble_eq_true rfl, Nat.le_of_ble_eq_true rfl⟩ (catLe (Nat.le_of_ble_eq_true rfl)) 8 48 ⟨rfl, rfl⟩ (show _ ≤ 671858 by omega) (show _ ≤ 7086125 by omega) (fun _ _ _ h9 => h9.elim) (fun z550 S550 A550 i550 p550 => ?_)
                  obtain ⟨rfl, hE550, R550, hL550⟩ := p550
                  rw [← (hE550 6 0 l6.2).1, ← (hE550 40 0 l40.2).1, ← (hE550 41 0 l41.2).1, ← (hE550 42 0 l42.2).1]
                  refine r_istore C dL_law_553 (ls1_5 rfl (cat_R _ _ _)) ?_
                  refine r_goto C (tgt := 784) dL_law_555 (by decide) ?_
                  refine r_le C (lle_k (lle_k (lle_k (lle_k (lle_k (lle_k (lle_k (lle_k (lle_k (lle_f (lle_k (lle_k (lle_f (lle_f (lle_k (lle_k (lle_k (lle_k lle_0)))))))))))))))))) ?_
                  first
                  | exact j784 R235 S235 A235 _ _ hL235 (by omega) (by omega) x it day hx hit hday
                  | exact j784 R550 S550 A550 _ _ hL550 (by omega) (by omega) x it day hx hit hday
            · refine r_lconst C dL_law_385 0 rfl ?_
              refine r_lstore C dL_law_386 (ls2_14 rfl rfl) ?_
              refine r_iconst C dL_law_388 ?_
              refine r_istore C dL_law_389 (ls1_16 rfl trivial) ?_
              refine r_le C (lle_k (lle_k (lle_k (lle_k (lle_k (lle_k (lle_k (lle_k (lle_k (lle_f (lle_k (lle_k (lle_f (lle_f (lle_k (lle_k (lle_k (lle_k lle_0)))))))))))))))))) ?_
              exact lp391 (R.n.toNat + 1) 0 0 (by omega) (by omega) (by omega) (fun r r0 r1 => bit_z r0 r1) (by omega)
          · refine r_aload_n C dL_law_324 lg_1 ?_
            refine r_iload C dL_law_325 lg_10 ?_
            refine r_iload C dL_law_327 lg_11 ?_
            refine q_V2I C (cZ_onHand hfl hP ⟨hit, hday⟩) dL_law_329 lk_L_80 hP.1.1.1 ⟨Nat.le_of_ble_eq_true rfl, Nat.le_of_ble_eq_true rfl⟩ (catLe (Nat.le_of_ble_eq_true rfl)) ⟨rfl, rfl⟩ rfl (show _ ≤ 671858 by omega) (show _ ≤ 7086125 by omega) (fun z329 S329 A329 i329 p329 => ?_)
            obtain ⟨rfl, rfl, rfl⟩ := p329
            refine r_istore C dL_law_332 (ls1_14 rfl rfl) ?_
            refine r_aload_n C dL_law_334 lg_1 ?_
            refine r_aload_n C dL_law_335 lg_2 ?_
            refine r_iconst C dL_law_336 ?_
            refine r_iload C dL_law_337 lg_11 ?_
            refine r_iload C dL_law_339 lg_10 ?_
            refine r_iload C dL_law_341 lg_9 ?_
            refine r_bipush C dL_law_343 (by decide) ?_
            refine r_icge C (tgt := 366) dL_law_345 (by decide) (by omega) (by omega) (fun c345 => ?_) (fun c345 => ?_)
            · refine r_iload C dL_law_366 lg_12 ?_
              refine r_le C (lle_k (lle_k (lle_k (lle_k (lle_k (lle_k (lle_k (lle_k (lle_k (lle_k (lle_k (lle_k (lle_k (lle_k (lle_f (lle_k (lle_k (lle_k lle_0)))))))))))))))))) ?_
              exact j368 _ ⟨by omega, by omega⟩
            · refine r_iload C dL_law_348 lg_14 ?_
              refine r_ifle C (tgt := 366) dL_law_350 (by decide) (by omega) (fun c350 => ?_) (fun c350 => ?_)
              · refine r_iload C dL_law_366 lg_12 ?_
                refine r_le C (lle_k (lle_k (lle_k (lle_k (lle_k (lle_k (lle_k (lle_k (lle_k (lle_k (lle_k (lle_k (lle_k (lle_k (lle_f (lle_k (lle_k (lle_k lle_0)))))))))))))))))) ?_
                exact j368 _ ⟨by omega, by omega⟩
              · refine r_iload C dL_law_353 lg_14 ?_
                refine r_sipush C dL_law_355 (by decide) ?_
                refine r_icge C (tgt := 366) dL_law_358 (by decide) (by omega) (by omega) (fun c358 => ?_) (fun c358 => ?_)
                · refine r_iload C dL_law_366 lg_12 ?_
                  refine r_le C (lle_k (lle_k (lle_k (lle_k (lle_k (lle_k (lle_k (lle_k (lle_k (lle_k (lle_k (lle_k (lle_k (lle_k (lle_f (lle_k (lle_k (lle_k lle_0)))))))))))))))))) ?_
                  exact j368 _ ⟨by omega, by omega⟩
                · refine r_iload C dL_law_361 lg_14 ?_
                  refine r_goto C (tgt := 368) dL_law_363 (by decide) ?_
                  refine r_le C (lle_k (lle_k (lle_k (lle_k (lle_k (lle_k (lle_k (lle_k (lle_k (lle_k (lle_k (lle_k (lle_k (lle_k (lle_f (lle_k (lle_k (lle_k lle_0)))))))))))))))))) ?_
                  exact j368 _ ⟨by omega, by omega⟩
        · refine r_aload_n C dL_law_250 lg_1 ?_
          refine r_iload C dL_law_251 lg_10 ?_
          refine r_iload C dL_law_253 lg_11 ?_
          refine q_V2I C (cZ_available hfl hP ⟨hit, hday⟩) dL_law_255 lk_L_83 hP.1.1.1 ⟨Nat.le_of_ble_eq_true rfl, Nat.le_of_ble_eq_true rfl⟩ (catLe (Nat.le_of_ble_eq_true rfl)) ⟨rfl, rfl⟩ rfl (show _ ≤ 671858 by omega) (show _ ≤ 7086125 by omega) (fun z255 S255 A255 i255 p255 => ?_)
          obtain ⟨rfl, rfl, rfl⟩ := p255
          have hav := av_ok (day := day) hP.2.1 (hP.2.2.2 it hit.1 hit.2)
          refine r_istore C dL_law_258 (ls1_14 rfl rfl) ?_
          refine r_aload_n C dL_law_260 lg_1 ?_
          refine r_aload_n C dL_law_261 lg_2 ?_
          refine r_iconst C dL_law_262 ?_
          refine r_iload C dL_law_263 lg_11 ?_
          refine r_iload C dL_law_265 lg_10 ?_
          refine r_iload C dL_law_267 lg_9 ?_
          refine r_bipush C dL_law_269 (by decide) ?_
          refine r_icge C (tgt := 284) dL_law_271 (by decide) (by omega) (by omega) (fun c271 => ?_) (fun c271 => ?_)
          · refine r_iload C dL_law_284 lg_9 ?_
            refine r_bipush C dL_law_286 (by decide) ?_
            refine r_icge C (tgt := 306) dL_law_288 (by decide) (by omega) (by omega) (fun c288 => ?_) (fun c288 => ?_)
            · refine r_iload C dL_law_306 lg_12 ?_
              refine r_le C (lle_k (lle_k (lle_k (lle_k (lle_k (lle_k (lle_k (lle_k (lle_k (lle_k (lle_k (lle_k (lle_k (lle_k (lle_f (lle_k (lle_k (lle_k lle_0)))))))))))))))))) ?_
              exact j308 _ ⟨by omega, by omega⟩
            · refine r_iload C dL_law_291 lg_14 ?_
              refine r_sipush C dL_law_293 (by decide) ?_
              refine r_icge C (tgt := 306) dL_law_296 (by decide) (by omega) (by omega) (fun c296 => ?_) (fun c296 => ?_)
              · refine r_iload C dL_law_306 lg_12 ?_
                refine r_le C (lle_k (lle_k (lle_k (lle_k (lle_k (lle_k (lle_k (lle_k (lle_k (lle_k (lle_k (lle_k (lle_k (lle_k (lle_f (lle_k (lle_k (lle_k lle_0)))))))))))))))))) ?_
                exact j308 _ ⟨by omega, by omega⟩
              · refine r_iload C dL_law_299 lg_14 ?_
                refine r_iconst C dL_law_301 ?_
                refine r_iadd C dL_law_302 ?_
                refine r_goto C (tgt := 308) dL_law_303 (by decide) ?_
                refine r_le C (lle_k (lle_k (lle_k (lle_k (lle_k (lle_k (lle_k (lle_k (lle_k (lle_k (lle_k (lle_k (lle_k (lle_k (lle_f (lle_k (lle_k (lle_k lle_0)))))))))))))))))) ?_
                exact j308 _ ⟨by omega, by omega⟩
          · refine r_iload C dL_law_274 lg_14 ?_
            refine r_ifle C (tgt := 284) dL_law_276 (by decide) (by omega) (fun c276 => ?_) (fun c276 => ?_)
            · refine r_iload C dL_law_284 lg_9 ?_
              refine r_bipush C dL_law_286 (by decide) ?_
              refine r_icge C (tgt := 306) dL_law_288 (by decide) (by omega) (by omega) (fun c288 => ?_) (fun c288 => ?_)
              · refine r_iload C dL_law_306 lg_12 ?_
                refine r_le C (lle_k (lle_k (lle_k (lle_k (lle_k (lle_k (lle_k (lle_k (lle_k (lle_k (lle_k (lle_k (lle_k (lle_k (lle_f (lle_k (lle_k (lle_k lle_0)))))))))))))))))) ?_
                exact j308 _ ⟨by omega, by omega⟩
              · refine r_iload C dL_law_291 lg_14 ?_
                refine r_sipush C dL_law_293 (by decide) ?_
                refine r_icge C (tgt := 306) dL_law_296 (by decide) (by omega) (by omega) (fun c296 => ?_) (fun c296 => ?_)
                · refine r_iload C dL_law_306 lg_12 ?_
                  refine r_le C (lle_k (lle_k (lle_k (lle_k (lle_k (lle_k (lle_k (lle_k (lle_k (lle_k (lle_k (lle_k (lle_k (lle_k (lle_f (lle_k (lle_k (lle_k lle_0)))))))))))))))))) ?_
                  exact j308 _ ⟨by omega, by omega⟩
                · refine r_iload C dL_law_299 lg_14 ?_
                  refine r_iconst C dL_law_301 ?_
                  refine r_iadd C dL_law_302 ?_
                  refine r_goto C (tgt := 308) dL_law_303 (by decide) ?_
                  refine r_le C (lle_k (lle_k (lle_k (lle_k (lle_k (lle_k (lle_k (lle_k (lle_k (lle_k (lle_k (lle_k (lle_k (lle_k (lle_f (lle_k (lle_k (lle_k lle_0)))))))))))))))))) ?_
                  exact j308 _ ⟨by omega, by omega⟩
            · refine r_iload C dL_law_279 lg_14 ?_
              refine r_goto C (tgt := 308) dL_law_281 (by decide) ?_
              refine r_le C (lle_k (lle_k (lle_k (lle_k (lle_k (lle_k (lle_k (lle_k (lle_k (lle_k (lle_k (lle_k (lle_k (lle_k (lle_f (lle_k (lle_k (lle_k lle_0)))))))))))))))))) ?_
              exact j308 _ ⟨by omega, by omega⟩
      · refine r_aload_n C dL_law_224 lg_1 ?_
        refine r_aload_n C dL_law_225 lg_2 ?_
        refine r_iconst C dL_law_226 ?_
        refine r_iload C dL_law_227 lg_11 ?_
        refine r_iload C dL_law_229 lg_10 ?_
        refine r_iload C dL_law_231 lg_12 ?_
        refine r_iload C dL_law_233 lg_13 ?_
        refine r_S7Z C (cQ_isPosted hfl hL (by omega) ⟨hit, hday⟩ hq hc) dL_law_235 lk_L_189 ⟨Nat.le_of_ble_eq_true rfl, Nat.le_of_ble_eq_true rfl⟩ (catLe (Nat.le_of_ble_eq_true rfl)) 9 57 ⟨rfl, rfl⟩ (show _ ≤ 671858 by omega) (show _ ≤ 7086125 by omega) (fun _ _ _ h9 => h9.elim) (fun z235 S235 A235 i235 p235 => ?_)
        obtain ⟨rfl, hE235, R235, hL235⟩ := p235
        rw [← (hE235 6 0 l6.2).1, ← (hE235 40 0 l40.2).1, ← (hE235 41 0 l41.2).1, ← (hE235 42 0 l42.2).1]
        refine r_istore C dL_law_238 (ls1_5 rfl (cat_R _ _ _)) ?_
        refine r_goto C (tgt := 784) dL_law_240 (by decide) ?_
        refine r_le C (lle_k (lle_k (lle_k (lle_k (lle_k (lle_k (lle_k (lle_k (lle_k (lle_f (lle_k (lle_k (lle_f (lle_f (lle_k (lle_k (lle_k (lle_k lle_0)))))))))))))))))) ?_
        first
        | exact j784 R235 S235 A235 _ _ hL235 (by omega) (by omega) x it day hx hit hday
        | exact j784 R550 S550 A550 _ _ hL550 (by omega) (by omega) x it day hx hit hday
    have j214 : ∀ (x it day q : Int) (hx : 0 ≤ x ∧ x ≤ 2147483647) (hit : 0 ≤ it ∧ it ≤ 5) (hday : 0 ≤ day ∧ day ≤ 364) (hq : 1 ≤ q ∧ q ≤ 1000) (m : Int) (hm : m = 1000001 ∨ m = 1200), J 214 [some (.ref b0), some (vR A1 6 0), some (vR A1 40 0), some (vR A1 41 0), some (vR A1 42 0), some (vI 1), some (vI t), some (vI x), some (vI (x / 32)), some (vI (x % 32)), some (vI it), some (vI day), some (vI q), none, none, none, none, none] [vI m, vI (x / 32 / 700)] S1 A1 k9 n9 := by
      intro x it day q hx hit hday hq m hm
      have he1 := Int.emod_nonneg (x / 32 / 700) (show m ≠ 0 by omega)
      have he2 := Int.emod_lt_of_pos (x / 32 / 700) (show 0 < m by omega)
      refine r_irem C dL_law_214 (by omega) (by omega) (by omega) (by omega) ?_
      refine r_istore C dL_law_215 (ls1_13 rfl rfl) ?_
      exact jop x it day q _ hx hit hday hq ⟨by omega, by omega⟩
    have j189 : ∀ (x it day : Int) (hx : 0 ≤ x ∧ x ≤ 2147483647) (hit : 0 ≤ it ∧ it ≤ 5) (hday : 0 ≤ day ∧ day ≤ 364) (m : Int) (hm : m = 1000 ∨ m = 25), J 189 [some (.ref b0), some (vR A1 6 0), some (vR A1 40 0), some (vR A1 41 0), some (vR A1 42 0), some (vI 1), some (vI t), some (vI x), some (vI (x / 32)), some (vI (x % 32)), some (vI it), some (vI day), none, none, none, none, none, none] [vI m, vI (x / 32 / 11000), vI 1] S1 A1 k9 n9 := by
      intro x it day hx hit hday m hm
      have he1 := Int.emod_nonneg (x / 32 / 11000) (show m ≠ 0 by omega)
      have he2 := Int.emod_lt_of_pos (x / 32 / 11000) (show 0 < m by omega)
      refine r_irem C dL_law_189 (by omega) (by omega) (by omega) (by omega) ?_
      refine r_iadd C dL_law_190 ?_
      refine r_istore C dL_law_191 (ls1_12 rfl rfl) ?_
      refine r_iload C dL_law_193 lg_8 ?_
      refine r_sipush C dL_law_195 (by decide) ?_
      refine r_idiv C dL_law_198 (by omega) (by omega) (by omega) (by omega) ?_
      refine r_iload C dL_law_199 lg_8 ?_
      refine r_iconst C dL_law_201 ?_
      refine r_irem C dL_law_202 (by omega) (by omega) (by omega) (by omega) ?_
      refine r_ifne C (tgt := 211) dL_law_203 (by decide) (by omega) (fun c203 => ?_) (fun c203 => ?_)
      · refine r_sipush C dL_law_211 (by decide) ?_
        exact j214 x it day _ hx hit hday ⟨by omega, by omega⟩ _ (by omega)
      · refine r_ldc C dL_law_206 cs_L_145 1000001 (by decide) ?_
        refine r_goto C (tgt := 214) dL_law_208 (by decide) ?_
        exact j214 x it day _ hx hit hday ⟨by omega, by omega⟩ _ (by omega)
    have j164 : ∀ (x it : Int) (hx : 0 ≤ x ∧ x ≤ 2147483647) (hit : 0 ≤ it ∧ it ≤ 5) (m : Int) (hm : m = 365 ∨ m = 60), J 164 [some (.ref b0), some (vR A1 6 0), some (vR A1 40 0), some (vR A1 41 0), some (vR A1 42 0), some (vI 1), some (vI t), some (vI x), some (vI (x / 32)), some (vI (x % 32)), some (vI it), none, none, none, none, none, none, none] [vI m, vI (x / 32 / 30)] S1 A1 k9 n9 := by
      intro x it hx hit m hm
      have he1 := Int.emod_nonneg (x / 32 / 30) (show m ≠ 0 by omega)
      have he2 := Int.emod_lt_of_pos (x / 32 / 30) (show 0 < m by omega)
      refine r_irem C dL_law_164 (by omega) (by omega) (by omega) (by omega) ?_
      refine r_istore C dL_law_165 (ls1_11 rfl rfl) ?_
      refine r_iconst C dL_law_167 ?_
      refine r_iload C dL_law_168 lg_8 ?_
      refine r_sipush C dL_law_170 (by decide) ?_
      refine r_idiv C dL_law_173 (by omega) (by omega) (by omega) (by omega) ?_
      refine r_iload C dL_law_174 lg_8 ?_
      refine r_iconst C dL_law_176 ?_
      refine r_irem C dL_law_177 (by omega) (by omega) (by omega) (by omega) ?_
      refine r_ifne C (tgt := 187) dL_law_178 (by decide) (by omega) (fun c178 => ?_) (fun c178 => ?_)
      · refine r_bipush C dL_law_187 (by decide) ?_
        exact j189 x it _ hx hit ⟨by omega, by omega⟩ _ (by omega)
      · refine r_sipush C dL_law_181 (by decide) ?_
        refine r_goto C (tgt := 189) dL_law_184 (by decide) ?_
        exact j189 x it _ hx hit ⟨by omega, by omega⟩ _ (by omega)
    have j142 : ∀ (x it : Int) (hx : 0 ≤ x ∧ x ≤ 2147483647) (hit : 0 ≤ it ∧ it ≤ 5), J 142 [some (.ref b0), some (vR A1 6 0), some (vR A1 40 0), some (vR A1 41 0), some (vR A1 42 0), some (vI 1), some (vI t), some (vI x), some (vI (x / 32)), some (vI (x % 32)), none, none, none, none, none, none, none, none] [vI it] S1 A1 k9 n9 := by
      intro x it hx hit
      refine r_istore C dL_law_142 (ls1_10 rfl rfl) ?_
      refine r_iload C dL_law_144 lg_8 ?_
      refine r_bipush C dL_law_146 (by decide) ?_
      refine r_idiv C dL_law_148 (by omega) (by omega) (by omega) (by omega) ?_
      refine r_iload C dL_law_149 lg_6 ?_
      refine r_iconst C dL_law_151 ?_
      refine r_irem C dL_law_152 (by omega) (by omega) (by omega) (by omega) ?_
      refine r_ifne C (tgt := 162) dL_law_153 (by decide) (by omega) (fun c153 => ?_) (fun c153 => ?_)
      · refine r_bipush C dL_law_162 (by decide) ?_
        exact j164 x it hx hit _ (by omega)
      · refine r_sipush C dL_law_156 (by decide) ?_
        refine r_goto C (tgt := 164) dL_law_159 (by decide) ?_
        exact j164 x it hx hit _ (by omega)
    have j109 : ∀ (x : Int) (hx : 0 ≤ x ∧ x ≤ 2147483647), J 109 [some (.ref b0), some (vR A1 6 0), some (vR A1 40 0), some (vR A1 41 0), some (vR A1 42 0), some (vI 1), some (vI t), none, none, none, none, none, none, none, none, none, none, none] [vI x] S1 A1 k9 n9 := by
      intro x hx
      refine r_istore C dL_law_109 (ls1_7 rfl rfl) ?_
      refine r_iload C dL_law_111 lg_7 ?_
      refine r_bipush C dL_law_113 (by decide) ?_
      refine r_idiv C dL_law_115 (by omega) (by omega) (by omega) (by omega) ?_
      refine r_istore C dL_law_116 (ls1_8 rfl rfl) ?_
      refine r_iload C dL_law_118 lg_7 ?_
      refine r_bipush C dL_law_120 (by decide) ?_
      refine r_irem C dL_law_122 (by omega) (by omega) (by omega) (by omega) ?_
      refine r_istore C dL_law_123 (ls1_9 rfl rfl) ?_
      refine r_iload C dL_law_125 lg_8 ?_
      refine r_iconst C dL_law_127 ?_
      refine r_irem C dL_law_128 (by omega) (by omega) (by omega) (by omega) ?_
      refine r_iconst C dL_law_129 ?_
      refine r_icge C (tgt := 137) dL_law_130 (by decide) (by omega) (by omega) (fun c130 => ?_) (fun c130 => ?_)
      · refine r_iload C dL_law_137 lg_8 ?_
        refine r_bipush C dL_law_139 (by decide) ?_
        refine r_irem C dL_law_141 (by omega) (by omega) (by omega) (by omega) ?_
        exact j142 x _ hx ⟨by omega, by omega⟩
      · refine r_iconst C dL_law_133 ?_
        refine r_goto C (tgt := 142) dL_law_134 (by decide) ?_
        exact j142 x _ hx ⟨by omega, by omega⟩
    refine r_iload C dL_law_91 lg_6 ?_
    refine r_bipush C dL_law_93 (by decide) ?_
    refine r_icge C (tgt := 881) dL_law_95 (by decide) (by omega) (by omega) (fun c95 => ?_) (fun c95 => ?_)
    · exfalso; omega
    · refine r_iload C dL_law_98 lg_5 ?_
      refine r_ifeq C (tgt := 881) dL_law_100 (by decide) (by omega) (fun c100 => ?_) (fun c100 => ?_)
      · exfalso; omega
      · refine r_aloadq_n C dL_law_103 lg_0 ?_
        refine r_iload C dL_law_104 lg_6 ?_
        refine r_dice hfl CL dL_law_106 (by omega) hLn (show _ ≤ 671858 by omega) (show _ ≤ 7086125 by omega) (fun x hx => ?_)
        exact j109 x hx
