/-! the law: its start -/
set_option maxRecDepth 20000 in
theorem lw_fill {G : GT} {l : Launch} (hfl : l.stackTraces = false) {b0 L : Nat} {xs : Nat → Int32} {mn : String} {tb : List ExceptionTableEntry} {J : JT} {X : XT} (C : Cx G l room_1 cL_law 18 RL mn tb J X) (CL : CxL G l room_1 cL_law 18 RL mn tb b0 L xs J X) (F : FinL J) {S26 : ST} {A1 : AB} {k9 n9 : Nat} (l42 : lv1 A1 42 0) (K : ∀ S2 : ST, Fr [1344] S26 S2 → (∀ i, 0 ≤ i → i < 6 → S2 1344 i = 1) → J 49 [some (.ref b0), some (vR A1 6 0), some (vR A1 40 0), some (vR A1 41 0), some (vR A1 42 0), none, none, none, none, none, none, none, none, none, none, none, none, none] [] S2 A1 k9 n9) : ∀ (N : Nat) (j : Int) (S2 : ST) (h1 : 0 ≤ j) (h2 : j ≤ 6) (hF : Fr [1344] S26 S2) (hw : ∀ i, 0 ≤ i → i < j → S2 1344 i = 1) (hN : 6 - j < N), J 30 [some (.ref b0), some (vR A1 6 0), some (vR A1 40 0), some (vR A1 41 0), some (vR A1 42 0), some (vI j), none, none, none, none, none, none, none, none, none, none, none, none] [] S2 A1 k9 n9 := by
  intro N
  induction N with
  | zero => intro j S2 h1 h2 hF hw hN; omega
  | succ N ih =>
    intro j S2 h1 h2 hF hw hN
    refine r_iload C dL_law_30 lg_5 ?_
    refine r_bipush C dL_law_32 (by decide) ?_
    refine r_icge C (tgt := 49) dL_law_34 (by decide) (by omega) (by omega) (fun c34 => ?_) (fun c34 => ?_)
    · refine r_le C (lle_k (lle_k (lle_k (lle_k (lle_k (lle_f (lle_k (lle_k (lle_k (lle_k (lle_k (lle_k (lle_k (lle_k (lle_k (lle_k (lle_k (lle_k lle_0)))))))))))))))))) ?_
      exact K S2 hF (fun i i0 i1 => hw i i0 (by omega))
    · refine r_aload C dL_law_37 lg_4 ?_
      refine r_iload C dL_law_39 lg_5 ?_
      refine r_iconst C dL_law_41 ?_
      refine r_iast C (N := 6) 1344 dL_law_42 (by decide) rfl rfl l42 (by omega) (by omega) (by omega) (by omega) ?_
      refine r_iinc C dL_law_43 lg_5 (ls1_5 rfl (cat_R _ _ _)) ?_
      refine r_goto C (tgt := 30) dL_law_46 (by decide) ?_
      have hw9 : ∀ i, 0 ≤ i → i < j + 1 → upS S2 1344 j 1 1344 i = 1 := fun i i0 i1 => by
        by_cases e : i = j
        · rw [e, upS_self]
        · rw [upS_z _ _ e]; exact hw i i0 (by omega)
      exact ih (j + 1) _ (by omega) (by omega) (hF.tr (Fr.up List.mem_cons_self)) hw9 (by omega)
set_option maxRecDepth 20000 in
theorem lw_49 {G : GT} {l : Launch} (hfl : l.stackTraces = false) {b0 L : Nat} {xs : Nat → Int32} {mn : String} {tb : List ExceptionTableEntry} {J : JT} {X : XT} (C : Cx G l room_1 cL_law 18 RL mn tb J X) (CL : CxL G l room_1 cL_law 18 RL mn tb b0 L xs J X) (F : FinL J) (hLn : L ≤ 260) {S1 : ST} {A1 : AB} {k9 n9 : Nat} (hL : PL R00 S1 A1) (hk9 : k9 ≤ 100) (hn9 : n9 ≤ 500) : J 49 [some (.ref b0), some (vR A1 6 0), some (vR A1 40 0), some (vR A1 41 0), some (vR A1 42 0), none, none, none, none, none, none, none, none, none, none, none, none, none] [] S1 A1 k9 n9 := by
  have hP := hL.1
  have hn := hP.2.1.1
  have hn0 : R00.n = 0 := rfl
  have l6 := hL.1.1.1.1
  have hFc : Fr QF S1 S1 := Fr.rf
  refine r_aload_n C dL_law_49 lg_1 ?_
  refine q_V0I C (cZ_movements hfl hP) dL_law_50 lk_L_116 hP.1.1.1 ⟨Nat.le_of_ble_eq_true rfl, Nat.le_of_ble_eq_true rfl⟩ (catLe (Nat.le_of_ble_eq_true rfl)) ⟨rfl, rfl⟩ rfl (show _ ≤ 671858 by omega) (show _ ≤ 7086125 by omega) (fun z50 S50 A50 i50 p50 => ?_)
  obtain ⟨rfl, rfl, rfl⟩ := p50
  refine r_ifne C (tgt := 85) dL_law_53 (by decide) (by omega) (fun c53 => ?_) (fun c53 => ?_)
  · exfalso; omega
  · refine r_aload_n C dL_law_56 lg_1 ?_
    refine r_iconst C dL_law_57 ?_
    refine r_iconst C dL_law_58 ?_
    refine r_S3Z C (cQ_isSound hfl hP ⟨⟨by omega, by omega⟩, by omega, by omega⟩) dL_law_59 lk_L_177 ⟨Nat.le_of_ble_eq_true rfl, Nat.le_of_ble_eq_true rfl⟩ (catLe (Nat.le_of_ble_eq_true rfl)) 6 36 ⟨rfl, rfl⟩ (show _ ≤ 671858 by omega) (show _ ≤ 7086125 by omega) (fun _ _ _ h9 => h9.elim) (fun z59 S59 A59 i59 p59 => ?_)
    obtain ⟨rfl, rfl, hF59⟩ := p59
    have hP := pi_fr hP hF59
    have hFc := hFc.tr hF59
    refine r_ifeq C (tgt := 85) dL_law_62 (by decide) (by omega) (fun c62 => ?_) (fun c62 => ?_)
    · exfalso; omega
    · refine r_aload_n C dL_law_65 lg_1 ?_
      refine r_iconst C dL_law_66 ?_
      refine r_S2Z C (cQ_isRefused hfl hP (by omega) (pl_w (pl_fr hL hFc)) (pl_5 hL)) dL_law_67 lk_L_181 ⟨Nat.le_of_ble_eq_true rfl, Nat.le_of_ble_eq_true rfl⟩ (catLe (Nat.le_of_ble_eq_true rfl)) 640 3200 ⟨rfl, rfl⟩ (show _ ≤ 671858 by omega) (show _ ≤ 7086125 by omega) (fun _ _ _ h9 => h9.elim) (fun z67 S67 A67 i67 p67 => ?_)
      obtain ⟨rfl, rfl, hF67⟩ := p67
      have hP := pi_fr hP hF67
      have hFc := hFc.tr hF67
      refine r_ifeq C (tgt := 85) dL_law_70 (by decide) (by omega) (fun c70 => ?_) (fun c70 => ?_)
      · exfalso; omega
      · refine r_aload_n C dL_law_73 lg_1 ?_
        refine r_iconst C dL_law_74 ?_
        refine r_S2Z C (cQ_isRefused hfl hP (by omega) (pl_w (pl_fr hL hFc)) (pl_5 hL)) dL_law_75 lk_L_181 ⟨Nat.le_of_ble_eq_true rfl, Nat.le_of_ble_eq_true rfl⟩ (catLe (Nat.le_of_ble_eq_true rfl)) 640 3200 ⟨rfl, rfl⟩ (show _ ≤ 671858 by omega) (show _ ≤ 7086125 by omega) (fun _ _ _ h9 => h9.elim) (fun z75 S75 A75 i75 p75 => ?_)
        obtain ⟨rfl, rfl, hF75⟩ := p75
        have hP := pi_fr hP hF75
        have hFc := hFc.tr hF75
        refine r_ifeq C (tgt := 85) dL_law_78 (by decide) (by omega) (fun c78 => ?_) (fun c78 => ?_)
        · exfalso; omega
        · refine r_iconst C dL_law_81 ?_
          refine r_goto C (tgt := 86) dL_law_82 (by decide) ?_
          refine r_istore C dL_law_86 (ls1_5 rfl (cat_R _ _ _)) ?_
          refine r_iconst C dL_law_88 ?_
          refine r_istore C dL_law_89 (ls1_6 rfl rfl) ?_
          exact lw_loop hfl C CL F hLn 71 0 R00 _ A1 _ _ (by omega) (by omega) (pl_fr hL hFc) (by omega) (by omega) (by omega)
set_option maxRecDepth 20000 in
theorem lw_body {G : GT} {l : Launch} (hfl : l.stackTraces = false) {b0 L : Nat} {xs : Nat → Int32} {mn : String} {tb : List ExceptionTableEntry} {J : JT} {X : XT} (C : Cx G l room_1 cL_law 18 RL mn tb J X) (CL : CxL G l room_1 cL_law 18 RL mn tb b0 L xs J X) (F : FinL J) (hLn : L ≤ 260) {S : ST} {A : AB} (hz : ∀ k, A.2 k = 0) : J 0 [some (.ref b0), none, none, none, none, none, none, none, none, none, none, none, none, none, none, none, none, none] [] S A 0 0 := by
  refine r_new C dL_law_0 (kd := 6) (N := 7) rfl nw_L_11.1 nw_L_11.2.1 nw_L_11.2.2 (Nat.le_of_ble_eq_true rfl) (Nat.le_of_ble_eq_true rfl) (fun q0 => ?_)
  rw [hz 6]
  refine r_gA1 (hz 6) (fun A0 S0 hE0 h10 h20 hs0 hd0 => ?_)
  have fr0 : ∀ k, k ≠ 6 → A0.2 k = 0 := fun k h => (h20 k h).trans (hz k)
  have ln0 : lv1 A0 6 0 := ⟨Int.le_refl _, by omega⟩
  refine r_dup C dL_law_3 (cat_R _ _ _) ?_
  refine r_I0V C (cB_init hfl ln0 ⟨fr0 8 (by decide), fr0 9 (by decide), fr0 2 (by decide), fr0 0 (by decide), fr0 4 (by decide), fr0 3 (by decide), fr0 1 (by decide)⟩ ((hd0 197 0 (by decide) (Or.inr rfl)).trans rfl)) dL_law_4 lk_L_176 (by omega) ⟨Nat.le_of_ble_eq_true rfl, Nat.le_of_ble_eq_true rfl⟩ (catLe (Nat.le_of_ble_eq_true rfl)) 5 81 ⟨rfl, rfl⟩ (Nat.le_of_ble_eq_true rfl) (Nat.le_of_ble_eq_true rfl) (fun _ _ _ h9 => h9.elim) (fun S4 A4 p4 => ?_)
  obtain ⟨hck, hE4, h198, h288, hS4, hA4⟩ := p4
  rw [← (hE4 6 0 ln0.2).1]
  have l64 : lv1 A4 6 0 := ⟨Int.le_refl _, (hE4 6 0 ln0.2).2⟩
  have e9 : A4.2 40 = 0 := (hA4 40 (by decide)).trans (fr0 40 (by decide))
  refine r_astore_n C dL_law_7 (ls1_1 (cat_R _ _ _) rfl) ?_
  refine r_iconst C dL_law_8 ?_
  refine r_newarr C (kd := 40) (N := 1) dL_law_9 (by decide) e9 rfl (by decide) (by decide) wArr_int (Nat.le_of_ble_eq_true rfl) (Nat.le_of_ble_eq_true rfl) (fun q9 => ?_)
  refine r_gA1 e9 (fun A9 S9 hE9 h19 h29 hs9 hd9 => ?_)
  rw [← (hE9 6 0 l64.2).1]
  have l69 : lv1 A9 6 0 := ⟨Int.le_refl _, (hE9 6 0 l64.2).2⟩
  have l409 : lv1 A9 40 0 := ⟨Int.le_refl _, by rw [h19]; decide⟩
  have e14 : A9.2 41 = 0 := (h29 41 (by decide)).trans ((hA4 41 (by decide)).trans (fr0 41 (by decide)))
  refine r_astore_n C dL_law_11 (ls1_2 (cat_R _ _ _) (cat_R _ _ _)) ?_
  refine r_bipush C dL_law_12 (by decide) ?_
  refine r_newarr C (kd := 41) (N := 60) dL_law_14 (by decide) e14 rfl (by decide) (by decide) wArr_int (Nat.le_of_ble_eq_true rfl) (Nat.le_of_ble_eq_true rfl) (fun q14 => ?_)
  refine r_gA1 e14 (fun A14 S14 hE14 h114 h214 hs14 hd14 => ?_)
  rw [← (hE14 6 0 l69.2).1, ← (hE14 40 0 l409.2).1]
  have l614 : lv1 A14 6 0 := ⟨Int.le_refl _, (hE14 6 0 l69.2).2⟩
  have l4014 : lv1 A14 40 0 := ⟨Int.le_refl _, (hE14 40 0 l409.2).2⟩
  have l4114 : lv1 A14 41 0 := ⟨Int.le_refl _, by rw [h114]; decide⟩
  have e19 : A14.2 42 = 0 := (h214 42 (by decide)).trans ((h29 42 (by decide)).trans ((hA4 42 (by decide)).trans (fr0 42 (by decide))))
  refine r_astore_n C dL_law_16 (ls1_3 (cat_R _ _ _) (cat_R _ _ _)) ?_
  refine r_bipush C dL_law_17 (by decide) ?_
  refine r_newarr C (kd := 42) (N := 6) dL_law_19 (by decide) e19 rfl (by decide) (by decide) wArr_int (Nat.le_of_ble_eq_true rfl) (Nat.le_of_ble_eq_true rfl) (fun q19 => ?_)
  refine r_gA1 e19 (fun A19 S19 hE19 h119 h219 hs19 hd19 => ?_)
  rw [← (hE19 6 0 l614.2).1, ← (hE19 40 0 l4014.2).1, ← (hE19 41 0 l4114.2).1]
  have l40 : lv1 A19 40 0 := ⟨Int.le_refl _, (hE19 40 0 l4014.2).2⟩
  have l42 : lv1 A19 42 0 := ⟨Int.le_refl _, by rw [h119]; decide⟩
  refine r_astore C dL_law_21 (ls1_4 (cat_R _ _ _) (cat_R _ _ _)) ?_
  refine r_aload_n C dL_law_23 lg_2 ?_
  refine r_iconst C dL_law_24 ?_
  refine r_iconst C dL_law_25 ?_
  refine r_iast C (N := 1) 1280 dL_law_26 (by decide) rfl rfl l40 (by omega) (by omega) (by omega) (by omega) ?_
  refine r_gS (fun S26 h26 => ?_)
  refine r_iconst C dL_law_27 ?_
  refine r_istore C dL_law_28 (ls1_5 rfl (cat_R _ _ _)) ?_
  refine lw_fill hfl C CL F l42 (fun S2 hF hw => ?_) 7 0 S26 (by omega) (by omega) Fr.rf (fun i i0 i1 => by omega) (by omega)
  rw [h26] at hF
  exact lw_49 hfl C CL F hLn (pl_0 hck h198 h288 ((hA4 5 (by decide)).trans (fr0 5 (by decide))) hE9 h19 h29 hs9 hE14 h114 h214 hs14 hd14 hE19 h119 h219 hs19 hF hw) (Nat.le_of_ble_eq_true rfl) (Nat.le_of_ble_eq_true rfl)
