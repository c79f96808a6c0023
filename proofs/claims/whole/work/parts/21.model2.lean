/-! loops of the reference: sums, tests, the order -/
set_option maxRecDepth 20000 in
theorem cM_sumOf {G : GT} {l : Launch} (hfl : l.stackTraces = false) {S : ST} {A : AB} {s b : Int} (M : RM S A) (hs : rL s) (hb : rI b) (hm0 : 0 ≤ S 232 0) (hm1 : S 232 0 ≤ 60) (hqt : ∀ m, 0 ≤ m → m < S 232 0 → 0 ≤ S 416 m ∧ S 416 m ≤ 1000) (hct : ∀ m, 0 ≤ m → m < S 232 0 → 0 ≤ S 448 m ∧ S 448 m ≤ 1000000) (hit : ∀ m, 0 ≤ m → m < S 232 0 → hasB s m → (0 ≤ S 384 m ∧ S 384 m ≤ 5) ∧ True) (hwt : ∀ i, 0 ≤ i → i ≤ 5 → 0 ≤ S 640 i ∧ S 640 i ≤ 100) : CT G l yX8_sumOf cX8_sumOf 7 (some .long) (rmk 1 0 0 22) S A [vR A 7 0, vL s, vI b] (oJ fun z S' A' => sumI (fun m => cI (hasB s m) (basM S b m) 0) (S 232 0) = z ∧ S = S' ∧ A = A') (noX) := by
  have hbas : ∀ m, 0 ≤ m → m < S 232 0 → hasB s m → 0 ≤ basM S b m ∧ basM S b m ≤ 1000000 := by
    intro m g0 g1 g2
    have e1 := hqt m g0 g1
    have e2 := hct m g0 g1
    have e3 := (hit m g0 g1 g2).1
    have e4 := hwt _ e3.1 e3.2
    have e5 := mul_b e1.1 e1.2 e4.1 e4.2
    unfold basM
    split
    · omega
    · split <;> omega
  refine ct_ofN (own := RX8) (mn := "sumOf") rfl rfl (by decide) hfl (lv0 := [some (vR A 7 0), some (vL s), none, some (vI b), none, none, none]) (ent_1 (cat_R _ _ _) (ent_2 rfl (ent_1 rfl (ent_n (ent_n (ent_n ent_0)))))) rfl ?_
  intro J X C F FX FT FU hW hA
  have lp : ∀ (N : Nat) (i acc : Int) (h1 : 0 ≤ i) (h2 : i ≤ S 232 0) (h4 : acc = sumI (fun m => cI (hasB s m) (basM S b m) 0) i) (h5 : 0 ≤ acc ∧ acc ≤ i * 1000000) (hN : S 232 0 - i < N), J 6 [some (vR A 7 0), some (vL s), none, some (vI b), some (vL acc), none, some (vI i)] [] S A 0 0 := by
    intro N
    induction N with
    | zero => intro i acc h1 h2 h4 h5 hN; omega
    | succ N ih =>
      intro i acc h1 h2 h4 h5 hN
      refine r_iload C dX8_sumOf_6 lg_6 ?_
      refine r_aload_n C dX8_sumOf_8 lg_0 ?_
      refine r_getI C 232 dX8_sumOf_9 fg_X8_77_7 rfl rfl M.1 (fun g9 => ?_)
      refine r_icge C (tgt := 46) dX8_sumOf_12 (by decide) (by omega) (by omega) (fun c12 => ?_) (fun c12 => ?_)
      · refine r_lload C dX8_sumOf_46 lg_4 ?_
        exact f_J F dX8_sumOf_48 (by omega) ⟨by rw [h4, show i = S 232 0 by omega], rfl, rfl⟩ (Nat.le_of_ble_eq_true rfl) (Nat.le_of_ble_eq_true rfl)
      · refine r_lload C dX8_sumOf_15 lg_4 ?_
        refine r_lload_n C dX8_sumOf_17 lg_1 ?_
        refine r_iload C dX8_sumOf_18 lg_6 ?_
        refine q_S2Z C (cM_has hfl (by omega)) dX8_sumOf_20 lk_X8_123 ⟨Nat.le_of_ble_eq_true rfl, Nat.le_of_ble_eq_true rfl⟩ (catLe (Nat.le_of_ble_eq_true rfl)) ⟨rfl, rfl⟩ rfl (Nat.le_of_ble_eq_true rfl) (Nat.le_of_ble_eq_true rfl) (fun z20 S20 A20 i20 p20 => ?_)
        obtain ⟨rfl, rfl, rfl⟩ := p20
        refine rb_ifeq C (tgt := 36) dX8_sumOf_23 (by decide) (fun c23 => ?_) (fun c23 => ?_)
        · refine r_lconst C dX8_sumOf_36 0 rfl ?_
          refine r_ladd C dX8_sumOf_37 ?_
          refine r_lstore C dX8_sumOf_38 (ls2_4 rfl rfl) ?_
          refine r_iinc C dX8_sumOf_40 lg_6 (ls1_6 rfl trivial) ?_
          refine r_goto C (tgt := 6) dX8_sumOf_43 (by decide) ?_
          exact ih (i + 1) _ (by omega) (by omega) (by rw [sumI_s _ h1, h4]; first | (rw [cI_t c23]; done) | (rw [cI_f c23]; done)) (by omega) (by omega)
        · refine r_aload_n C dX8_sumOf_26 lg_0 ?_
          refine r_iload C dX8_sumOf_27 lg_6 ?_
          refine r_iload_n C dX8_sumOf_29 lg_3 ?_
          refine q_V2J C (cM_basisOf hfl (by assumption) (by omega) (by omega) (by omega) (hqt i h1 (by omega)) (hit i h1 (by omega) c23).1 (hwt _ (hit i h1 (by omega) c23).1.1 (hit i h1 (by omega) c23).1.2)) dX8_sumOf_30 lk_X8_127 M.1 ⟨Nat.le_of_ble_eq_true rfl, Nat.le_of_ble_eq_true rfl⟩ (catLe (Nat.le_of_ble_eq_true rfl)) ⟨rfl, rfl⟩ rfl (Nat.le_of_ble_eq_true rfl) (Nat.le_of_ble_eq_true rfl) (fun z30 S30 A30 i30 p30 => ?_)
          obtain ⟨rfl, rfl, rfl⟩ := p30
          have hb9 := hbas i h1 (by omega) c23
          refine r_goto C (tgt := 37) dX8_sumOf_33 (by decide) ?_
          refine r_ladd C dX8_sumOf_37 ?_
          refine r_lstore C dX8_sumOf_38 (ls2_4 rfl rfl) ?_
          refine r_iinc C dX8_sumOf_40 lg_6 (ls1_6 rfl trivial) ?_
          refine r_goto C (tgt := 6) dX8_sumOf_43 (by decide) ?_
          exact ih (i + 1) _ (by omega) (by omega) (by rw [sumI_s _ h1, h4]; first | (rw [cI_t c23]; done) | (rw [cI_f c23]; done)) (by omega) (by omega)
  refine r_lconst C dX8_sumOf_0 0 rfl ?_
  refine r_lstore C dX8_sumOf_1 (ls2_4 rfl rfl) ?_
  refine r_iconst C dX8_sumOf_3 ?_
  refine r_istore C dX8_sumOf_4 (ls1_6 rfl trivial) ?_
  exact lp (S 232 0 + 1).toNat 0 0 (by omega) (by omega) rfl (by omega) (by omega)
set_option maxRecDepth 20000 in
theorem cM_areReceipts {G : GT} {l : Launch} (hfl : l.stackTraces = false) {S : ST} {A : AB} {s d : Int} (M : RM S A) (hs : rL s) (hd : rI d) (hm0 : 0 ≤ S 232 0) (hm1 : S 232 0 ≤ 60) : CT G l yX8_areReceipts cX8_areReceipts 6 (some .boolean) (rmk 1 0 0 22) S A [vR A 7 0, vL s, vI d] (oZ fun z S' A' => b2i (allR 0 (S 232 0) (fun m => hasB s m → S 480 m = 0 ∧ S 320 m = 0 ∧ S 352 m ≤ d)) = z ∧ S = S' ∧ A = A') (noX) := by
  refine ct_ofN (own := RX8) (mn := "areReceipts") rfl rfl (by decide) hfl (lv0 := [some (vR A 7 0), some (vL s), none, some (vI d), none, none]) (ent_1 (cat_R _ _ _) (ent_2 rfl (ent_1 rfl (ent_n (ent_n ent_0))))) rfl ?_
  intro J X C F FX FT FU hW hA
  have lp : ∀ (N : Nat) (i acc : Int) (h1 : 0 ≤ i) (h2 : i ≤ S 232 0) (h4 : acc = b2i (allR 0 i (fun m => hasB s m → S 480 m = 0 ∧ S 320 m = 0 ∧ S 352 m ≤ d))) (hN : S 232 0 - i < N), J 6 [some (vR A 7 0), some (vL s), none, some (vI d), some (vI acc), some (vI i)] [] S A 0 0 := by
    intro N
    induction N with
    | zero => intro i acc h1 h2 h4 hN; omega
    | succ N ih =>
      intro i acc h1 h2 h4 hN
      refine r_iload C dX8_areReceipts_6 lg_5 ?_
      refine r_aload_n C dX8_areReceipts_8 lg_0 ?_
      refine r_getI C 232 dX8_areReceipts_9 fg_X8_77_7 rfl rfl M.1 (fun g9 => ?_)
      refine r_icge C (tgt := 73) dX8_areReceipts_12 (by decide) (by omega) (by omega) (fun c12 => ?_) (fun c12 => ?_)
      · refine r_iload C dX8_areReceipts_73 lg_4 ?_
        exact f_Z F dX8_areReceipts_75 (by rw [h4]; exact b2i_01 _) ⟨by rw [h4, show i = S 232 0 by omega], rfl, rfl⟩ (Nat.le_of_ble_eq_true rfl) (Nat.le_of_ble_eq_true rfl)
      · have hr9 := b2i_r (allR 0 i (fun m => hasB s m → S 480 m = 0 ∧ S 320 m = 0 ∧ S 352 m ≤ d))
        refine r_iload C dX8_areReceipts_15 lg_4 ?_
        refine r_ifeq C (tgt := 64) dX8_areReceipts_17 (by decide) (by rw [h4]; exact b2i_r _) (fun c17 => ?_) (fun c17 => ?_)
        · refine r_iconst C dX8_areReceipts_64 ?_
          refine r_istore C dX8_areReceipts_65 (ls1_4 rfl rfl) ?_
          refine r_iinc C dX8_areReceipts_67 lg_5 (ls1_5 rfl rfl) ?_
          refine r_goto C (tgt := 6) dX8_areReceipts_70 (by decide) ?_
          exact ih (i + 1) _ (by omega) (by omega) (by first | exact acc_f1 h4 h1 c17 | exact acc_t h4 h1 c17 (fun hb => absurd hb c26) | exact acc_t h4 h1 c17 (fun _ => ⟨by omega, by omega, by omega⟩) | exact acc_f2 h1 (fun q => by have := q c26; omega)) (by omega)
        · refine r_lload_n C dX8_areReceipts_20 lg_1 ?_
          refine r_iload C dX8_areReceipts_21 lg_5 ?_
          refine q_S2Z C (cM_has hfl (by omega)) dX8_areReceipts_23 lk_X8_123 ⟨Nat.le_of_ble_eq_true rfl, Nat.le_of_ble_eq_true rfl⟩ (catLe (Nat.le_of_ble_eq_true rfl)) ⟨rfl, rfl⟩ rfl (Nat.le_of_ble_eq_true rfl) (Nat.le_of_ble_eq_true rfl) (fun z23 S23 A23 i23 p23 => ?_)
          obtain ⟨rfl, rfl, rfl⟩ := p23
          refine rb_ifeq C (tgt := 60) dX8_areReceipts_26 (by decide) (fun c26 => ?_) (fun c26 => ?_)
          · refine r_iconst C dX8_areReceipts_60 ?_
            refine r_goto C (tgt := 65) dX8_areReceipts_61 (by decide) ?_
            refine r_istore C dX8_areReceipts_65 (ls1_4 rfl rfl) ?_
            refine r_iinc C dX8_areReceipts_67 lg_5 (ls1_5 rfl rfl) ?_
            refine r_goto C (tgt := 6) dX8_areReceipts_70 (by decide) ?_
            exact ih (i + 1) _ (by omega) (by omega) (by first | exact acc_f1 h4 h1 c17 | exact acc_t h4 h1 c17 (fun hb => absurd hb c26) | exact acc_t h4 h1 c17 (fun _ => ⟨by omega, by omega, by omega⟩) | exact acc_f2 h1 (fun q => by have := q c26; omega)) (by omega)
          · refine r_aload_n C dX8_areReceipts_29 lg_0 ?_
            refine r_getA C 229 15 dX8_areReceipts_30 fg_X8_25_7 rfl rfl M.1 (fun g30 => ?_)
            refine r_iload C dX8_areReceipts_33 lg_5 ?_
            refine r_zald C (N := 60) 480 dX8_areReceipts_35 (by decide) rfl rfl (M.g (j := 5) (by decide)) (by omega) (by omega) (by omega) (fun g35 => ?_)
            refine r_ifne C (tgt := 64) dX8_areReceipts_36 (by decide) (by omega) (fun c36 => ?_) (fun c36 => ?_)
            · refine r_iconst C dX8_areReceipts_64 ?_
              refine r_istore C dX8_areReceipts_65 (ls1_4 rfl rfl) ?_
              refine r_iinc C dX8_areReceipts_67 lg_5 (ls1_5 rfl rfl) ?_
              refine r_goto C (tgt := 6) dX8_areReceipts_70 (by decide) ?_
              exact ih (i + 1) _ (by omega) (by omega) (by first | exact acc_f1 h4 h1 c17 | exact acc_t h4 h1 c17 (fun hb => absurd hb c26) | exact acc_t h4 h1 c17 (fun _ => ⟨by omega, by omega, by omega⟩) | exact acc_f2 h1 (fun q => by have := q c26; omega)) (by omega)
            · refine r_aload_n C dX8_areReceipts_39 lg_0 ?_
              refine r_getA C 224 10 dX8_areReceipts_40 fg_X8_7_7 rfl rfl M.1 (fun g40 => ?_)
              refine r_iload C dX8_areReceipts_43 lg_5 ?_
              refine r_iald C (N := 60) 320 dX8_areReceipts_45 (by decide) rfl rfl (M.g (j := 0) (by decide)) (by omega) (by omega) (by omega) (fun g45 => ?_)
              refine r_ifne C (tgt := 64) dX8_areReceipts_46 (by decide) (by omega) (fun c46 => ?_) (fun c46 => ?_)
              · refine r_iconst C dX8_areReceipts_64 ?_
                refine r_istore C dX8_areReceipts_65 (ls1_4 rfl rfl) ?_
                refine r_iinc C dX8_areReceipts_67 lg_5 (ls1_5 rfl rfl) ?_
                refine r_goto C (tgt := 6) dX8_areReceipts_70 (by decide) ?_
                exact ih (i + 1) _ (by omega) (by omega) (by first | exact acc_f1 h4 h1 c17 | exact acc_t h4 h1 c17 (fun hb => absurd hb c26) | exact acc_t h4 h1 c17 (fun _ => ⟨by omega, by omega, by omega⟩) | exact acc_f2 h1 (fun q => by have := q c26; omega)) (by omega)
              · refine r_aload_n C dX8_areReceipts_49 lg_0 ?_
                refine r_getA C 225 11 dX8_areReceipts_50 fg_X8_13_7 rfl rfl M.1 (fun g50 => ?_)
                refine r_iload C dX8_areReceipts_53 lg_5 ?_
                refine r_iald C (N := 60) 352 dX8_areReceipts_55 (by decide) rfl rfl (M.g (j := 1) (by decide)) (by omega) (by omega) (by omega) (fun g55 => ?_)
                refine r_iload_n C dX8_areReceipts_56 lg_3 ?_
                refine r_icgt C (tgt := 64) dX8_areReceipts_57 (by decide) (by omega) (by omega) (fun c57 => ?_) (fun c57 => ?_)
                · refine r_iconst C dX8_areReceipts_64 ?_
                  refine r_istore C dX8_areReceipts_65 (ls1_4 rfl rfl) ?_
                  refine r_iinc C dX8_areReceipts_67 lg_5 (ls1_5 rfl rfl) ?_
                  refine r_goto C (tgt := 6) dX8_areReceipts_70 (by decide) ?_
                  exact ih (i + 1) _ (by omega) (by omega) (by first | exact acc_f1 h4 h1 c17 | exact acc_t h4 h1 c17 (fun hb => absurd hb c26) | exact acc_t h4 h1 c17 (fun _ => ⟨by omega, by omega, by omega⟩) | exact acc_f2 h1 (fun q => by have := q c26; omega)) (by omega)
                · refine r_iconst C dX8_areReceipts_60 ?_
                  refine r_goto C (tgt := 65) dX8_areReceipts_61 (by decide) ?_
                  refine r_istore C dX8_areReceipts_65 (ls1_4 rfl rfl) ?_
                  refine r_iinc C dX8_areReceipts_67 lg_5 (ls1_5 rfl rfl) ?_
                  refine r_goto C (tgt := 6) dX8_areReceipts_70 (by decide) ?_
                  exact ih (i + 1) _ (by omega) (by omega) (by first | exact acc_f1 h4 h1 c17 | exact acc_t h4 h1 c17 (fun hb => absurd hb c26) | exact acc_t h4 h1 c17 (fun _ => ⟨by omega, by omega, by omega⟩) | exact acc_f2 h1 (fun q => by have := q c26; omega)) (by omega)
  refine r_iconst C dX8_areReceipts_0 ?_
  refine r_istore C dX8_areReceipts_1 (ls1_4 rfl rfl) ?_
  refine r_iconst C dX8_areReceipts_3 ?_
  refine r_istore C dX8_areReceipts_4 (ls1_5 rfl rfl) ?_
  exact lp (S 232 0 + 1).toNat 0 1 (by omega) (by omega) allR_0 (by omega)
set_option maxRecDepth 20000 in
theorem cM_areMovements {G : GT} {l : Launch} (hfl : l.stackTraces = false) {S : ST} {A : AB} {s : Int} (M : RM S A) (hs : rL s) (hm0 : 0 ≤ S 232 0) (hm1 : S 232 0 ≤ 60) : CT G l yX8_areMovements cX8_areMovements 5 (some .boolean) (rmk 1 0 0 22) S A [vR A 7 0, vL s] (oZ fun z S' A' => b2i (allR (S 232 0) 64 (fun m => ¬ hasB s m)) = z ∧ S = S' ∧ A = A') (noX) := by
  refine ct_ofN (own := RX8) (mn := "areMovements") rfl rfl (by decide) hfl (lv0 := [some (vR A 7 0), some (vL s), none, none, none]) (ent_1 (cat_R _ _ _) (ent_2 rfl (ent_n (ent_n ent_0)))) rfl ?_
  intro J X C F FX FT FU hW hA
  have lp : ∀ (N : Nat) (i acc : Int) (h1 : S 232 0 ≤ i) (h2 : i ≤ 64) (h4 : acc = b2i (allR (S 232 0) i (fun m => ¬ hasB s m))) (hN : 64 - i < N), J 8 [some (vR A 7 0), some (vL s), none, some (vI acc), some (vI i)] [] S A 0 0 := by
    intro N
    induction N with
    | zero => intro i acc h1 h2 h4 hN; omega
    | succ N ih =>
      intro i acc h1 h2 h4 hN
      refine r_iload C dX8_areMovements_8 lg_4 ?_
      refine r_bipush C dX8_areMovements_10 (by decide) ?_
      refine r_icge C (tgt := 40) dX8_areMovements_12 (by decide) (by omega) (by omega) (fun c12 => ?_) (fun c12 => ?_)
      · refine r_iload_n C dX8_areMovements_40 lg_3 ?_
        exact f_Z F dX8_areMovements_41 (by rw [h4]; exact b2i_01 _) ⟨by rw [h4, show i = 64 by omega], rfl, rfl⟩ (Nat.le_of_ble_eq_true rfl) (Nat.le_of_ble_eq_true rfl)
      · refine r_iload_n C dX8_areMovements_15 lg_3 ?_
        refine r_ifeq C (tgt := 32) dX8_areMovements_16 (by decide) (by rw [h4]; exact b2i_r _) (fun c16 => ?_) (fun c16 => ?_)
        · refine r_iconst C dX8_areMovements_32 ?_
          refine r_istore_n C dX8_areMovements_33 (ls1_3 rfl trivial) ?_
          refine r_iinc C dX8_areMovements_34 lg_4 (ls1_4 rfl rfl) ?_
          refine r_goto C (tgt := 8) dX8_areMovements_37 (by decide) ?_
          exact ih (i + 1) _ (by omega) (by omega) (by first | exact acc_f1 h4 (by omega) c16 | exact acc_t h4 (by omega) c16 c25 | exact acc_f2 (by omega) (fun q => q c25)) (by omega)
        · refine r_lload_n C dX8_areMovements_19 lg_1 ?_
          refine r_iload C dX8_areMovements_20 lg_4 ?_
          refine q_S2Z C (cM_has hfl (by omega)) dX8_areMovements_22 lk_X8_123 ⟨Nat.le_of_ble_eq_true rfl, Nat.le_of_ble_eq_true rfl⟩ (catLe (Nat.le_of_ble_eq_true rfl)) ⟨rfl, rfl⟩ rfl (Nat.le_of_ble_eq_true rfl) (Nat.le_of_ble_eq_true rfl) (fun z22 S22 A22 i22 p22 => ?_)
          obtain ⟨rfl, rfl, rfl⟩ := p22
          refine rb_ifne C (tgt := 32) dX8_areMovements_25 (by decide) (fun c25 => ?_) (fun c25 => ?_)
          · refine r_iconst C dX8_areMovements_32 ?_
            refine r_istore_n C dX8_areMovements_33 (ls1_3 rfl trivial) ?_
            refine r_iinc C dX8_areMovements_34 lg_4 (ls1_4 rfl rfl) ?_
            refine r_goto C (tgt := 8) dX8_areMovements_37 (by decide) ?_
            exact ih (i + 1) _ (by omega) (by omega) (by first | exact acc_f1 h4 (by omega) c16 | exact acc_t h4 (by omega) c16 c25 | exact acc_f2 (by omega) (fun q => q c25)) (by omega)
          · refine r_iconst C dX8_areMovements_28 ?_
            refine r_goto C (tgt := 33) dX8_areMovements_29 (by decide) ?_
            refine r_istore_n C dX8_areMovements_33 (ls1_3 rfl trivial) ?_
            refine r_iinc C dX8_areMovements_34 lg_4 (ls1_4 rfl rfl) ?_
            refine r_goto C (tgt := 8) dX8_areMovements_37 (by decide) ?_
            exact ih (i + 1) _ (by omega) (by omega) (by first | exact acc_f1 h4 (by omega) c16 | exact acc_t h4 (by omega) c16 c25 | exact acc_f2 (by omega) (fun q => q c25)) (by omega)
  refine r_iconst C dX8_areMovements_0 ?_
  refine r_istore_n C dX8_areMovements_1 (ls1_3 rfl trivial) ?_
  refine r_aload_n C dX8_areMovements_2 lg_0 ?_
  refine r_getI C 232 dX8_areMovements_3 fg_X8_77_7 rfl rfl M.1 (fun g3 => ?_)
  refine r_istore C dX8_areMovements_6 (ls1_4 rfl rfl) ?_
  exact lp 65 (S 232 0) 1 (by omega) (by omega) allR_0 (by omega)
set_option maxRecDepth 20000 in
theorem cM_isSpreadOver {G : GT} {l : Launch} (hfl : l.stackTraces = false) {S : ST} {A : AB} {m r : Int} (M : RM S A) (h0 : 0 ≤ m) (h1 : m < 60) (hr : rI r) : CT G l yX8_isSpreadOver cX8_isSpreadOver 3 (some .boolean) (rmk 1 0 0 22) S A [vR A 7 0, vI m, vI r] (oZ fun z S' A' => b2i (hasB (S 512 m) r) = z ∧ S = S' ∧ A = A') (noX) := by
  refine ct_ofN (own := RX8) (mn := "isSpreadOver") rfl rfl (by decide) hfl (lv0 := [some (vR A 7 0), some (vI m), some (vI r)]) (ent_1 (cat_R _ _ _) (ent_1 rfl (ent_1 rfl ent_0))) rfl ?_
  intro J X C F FX FT FU hW hA
  refine r_aload_n C dX8_isSpreadOver_0 lg_0 ?_
  refine r_getA C 230 16 dX8_isSpreadOver_1 fg_X8_29_7 rfl rfl M.1 (fun g1 => ?_)
  refine r_iload_n C dX8_isSpreadOver_4 lg_1 ?_
  refine r_lald C (N := 60) 512 dX8_isSpreadOver_5 (by decide) rfl rfl (M.g (j := 6) (by decide)) (by omega) (by omega) (by omega) (fun g5 => ?_)
  refine r_iload_n C dX8_isSpreadOver_6 lg_2 ?_
  refine q_S2Z C (cM_has hfl (by omega)) dX8_isSpreadOver_7 lk_X8_123 ⟨Nat.le_of_ble_eq_true rfl, Nat.le_of_ble_eq_true rfl⟩ (catLe (Nat.le_of_ble_eq_true rfl)) ⟨rfl, rfl⟩ rfl (Nat.le_of_ble_eq_true rfl) (Nat.le_of_ble_eq_true rfl) (fun z7 S7 A7 i7 p7 => ?_)
  obtain ⟨rfl, rfl, rfl⟩ := p7
  exact f_Z F dX8_isSpreadOver_10 (b2i_01 _) ⟨rfl, rfl, rfl⟩ (Nat.le_of_ble_eq_true rfl) (Nat.le_of_ble_eq_true rfl)
set_option maxRecDepth 20000 in
theorem cM_isLanded {G : GT} {l : Launch} (hfl : l.stackTraces = false) {S : ST} {A : AB} {r : Int} (M : RM S A) (hr : rI r) (hm0 : 0 ≤ S 232 0) (hm1 : S 232 0 ≤ 60) : CT G l yX8_isLanded cX8_isLanded 4 (some .boolean) (rmk 2 0 0 44) S A [vR A 7 0, vI r] (oZ fun z S' A' => b2i (exR 0 (S 232 0) (fun m => S 320 m = 3 ∧ S 480 m = 0 ∧ hasB (S 512 m) r)) = z ∧ S = S' ∧ A = A') (noX) := by
  refine ct_ofN (own := RX8) (mn := "isLanded") rfl rfl (by decide) hfl (lv0 := [some (vR A 7 0), some (vI r), none, none]) (ent_1 (cat_R _ _ _) (ent_1 rfl (ent_n (ent_n ent_0)))) rfl ?_
  intro J X C F FX FT FU hW hA
  have lp : ∀ (N : Nat) (i acc : Int) (h1 : 0 ≤ i) (h2 : i ≤ S 232 0) (h4 : acc = b2i (exR 0 i (fun m => S 320 m = 3 ∧ S 480 m = 0 ∧ hasB (S 512 m) r))) (hN : S 232 0 - i < N), J 4 [some (vR A 7 0), some (vI r), some (vI acc), some (vI i)] [] S A 0 0 := by
    intro N
    induction N with
    | zero => intro i acc h1 h2 h4 hN; omega
    | succ N ih =>
      intro i acc h1 h2 h4 hN
      refine r_iload_n C dX8_isLanded_4 lg_3 ?_
      refine r_aload_n C dX8_isLanded_5 lg_0 ?_
      refine r_getI C 232 dX8_isLanded_6 fg_X8_77_7 rfl rfl M.1 (fun g6 => ?_)
      refine r_icge C (tgt := 56) dX8_isLanded_9 (by decide) (by omega) (by omega) (fun c9 => ?_) (fun c9 => ?_)
      · refine r_iload_n C dX8_isLanded_56 lg_2 ?_
        exact f_Z F dX8_isLanded_57 (by rw [h4]; exact b2i_01 _) ⟨by rw [h4, show i = S 232 0 by omega], rfl, rfl⟩ (Nat.le_of_ble_eq_true rfl) (Nat.le_of_ble_eq_true rfl)
      · refine r_iload_n C dX8_isLanded_12 lg_2 ?_
        refine r_ifne C (tgt := 44) dX8_isLanded_13 (by decide) (by rw [h4]; exact b2i_r _) (fun c13 => ?_) (fun c13 => ?_)
        · refine r_iconst C dX8_isLanded_44 ?_
          refine r_goto C (tgt := 49) dX8_isLanded_45 (by decide) ?_
          refine r_istore_n C dX8_isLanded_49 (ls1_2 rfl rfl) ?_
          refine r_iinc C dX8_isLanded_50 lg_3 (ls1_3 rfl rfl) ?_
          refine r_goto C (tgt := 4) dX8_isLanded_53 (by decide) ?_
          exact ih (i + 1) _ (by omega) (by omega) (by first | exact acx_t1 h4 h1 c13 | exact acx_f h4 h1 c13 (fun q => by omega) | exact acx_f h4 h1 c13 (fun q => c41 q.2.2) | exact acx_t2 h1 ⟨by omega, by omega, c41⟩) (by omega)
        · refine r_aload_n C dX8_isLanded_16 lg_0 ?_
          refine r_getA C 224 10 dX8_isLanded_17 fg_X8_7_7 rfl rfl M.1 (fun g17 => ?_)
          refine r_iload_n C dX8_isLanded_20 lg_3 ?_
          refine r_iald C (N := 60) 320 dX8_isLanded_21 (by decide) rfl rfl (M.g (j := 0) (by decide)) (by omega) (by omega) (by omega) (fun g21 => ?_)
          refine r_iconst C dX8_isLanded_22 ?_
          refine r_icne C (tgt := 48) dX8_isLanded_23 (by decide) (by omega) (by omega) (fun c23 => ?_) (fun c23 => ?_)
          · refine r_iconst C dX8_isLanded_48 ?_
            refine r_istore_n C dX8_isLanded_49 (ls1_2 rfl rfl) ?_
            refine r_iinc C dX8_isLanded_50 lg_3 (ls1_3 rfl rfl) ?_
            refine r_goto C (tgt := 4) dX8_isLanded_53 (by decide) ?_
            exact ih (i + 1) _ (by omega) (by omega) (by first | exact acx_t1 h4 h1 c13 | exact acx_f h4 h1 c13 (fun q => by omega) | exact acx_f h4 h1 c13 (fun q => c41 q.2.2) | exact acx_t2 h1 ⟨by omega, by omega, c41⟩) (by omega)
          · refine r_aload_n C dX8_isLanded_26 lg_0 ?_
            refine r_getA C 229 15 dX8_isLanded_27 fg_X8_25_7 rfl rfl M.1 (fun g27 => ?_)
            refine r_iload_n C dX8_isLanded_30 lg_3 ?_
            refine r_zald C (N := 60) 480 dX8_isLanded_31 (by decide) rfl rfl (M.g (j := 5) (by decide)) (by omega) (by omega) (by omega) (fun g31 => ?_)
            refine r_ifne C (tgt := 48) dX8_isLanded_32 (by decide) (by omega) (fun c32 => ?_) (fun c32 => ?_)
            · refine r_iconst C dX8_isLanded_48 ?_
              refine r_istore_n C dX8_isLanded_49 (ls1_2 rfl rfl) ?_
              refine r_iinc C dX8_isLanded_50 lg_3 (ls1_3 rfl rfl) ?_
              refine r_goto C (tgt := 4) dX8_isLanded_53 (by decide) ?_
              exact ih (i + 1) _ (by omega) (by omega) (by first | exact acx_t1 h4 h1 c13 | exact acx_f h4 h1 c13 (fun q => by omega) | exact acx_f h4 h1 c13 (fun q => c41 q.2.2) | exact acx_t2 h1 ⟨by omega, by omega, c41⟩) (by omega)
            · refine r_aload_n C dX8_isLanded_35 lg_0 ?_
              refine r_iload_n C dX8_isLanded_36 lg_3 ?_
              refine r_iload_n C dX8_isLanded_37 lg_1 ?_
              refine q_V2Z C (cM_isSpreadOver hfl (by assumption) (by omega) (by omega) (by omega)) dX8_isLanded_38 lk_X8_152 M.1 ⟨Nat.le_of_ble_eq_true rfl, Nat.le_of_ble_eq_true rfl⟩ (catLe (Nat.le_of_ble_eq_true rfl)) ⟨rfl, rfl⟩ rfl (Nat.le_of_ble_eq_true rfl) (Nat.le_of_ble_eq_true rfl) (fun z38 S38 A38 i38 p38 => ?_)
              obtain ⟨rfl, rfl, rfl⟩ := p38
              refine rb_ifeq C (tgt := 48) dX8_isLanded_41 (by decide) (fun c41 => ?_) (fun c41 => ?_)
              · refine r_iconst C dX8_isLanded_48 ?_
                refine r_istore_n C dX8_isLanded_49 (ls1_2 rfl rfl) ?_
                refine r_iinc C dX8_isLanded_50 lg_3 (ls1_3 rfl rfl) ?_
                refine r_goto C (tgt := 4) dX8_isLanded_53 (by decide) ?_
                exact ih (i + 1) _ (by omega) (by omega) (by first | exact acx_t1 h4 h1 c13 | exact acx_f h4 h1 c13 (fun q => by omega) | exact acx_f h4 h1 c13 (fun q => c41 q.2.2) | exact acx_t2 h1 ⟨by omega, by omega, c41⟩) (by omega)
              · refine r_iconst C dX8_isLanded_44 ?_
                refine r_goto C (tgt := 49) dX8_isLanded_45 (by decide) ?_
                refine r_istore_n C dX8_isLanded_49 (ls1_2 rfl rfl) ?_
                refine r_iinc C dX8_isLanded_50 lg_3 (ls1_3 rfl rfl) ?_
                refine r_goto C (tgt := 4) dX8_isLanded_53 (by decide) ?_
                exact ih (i + 1) _ (by omega) (by omega) (by first | exact acx_t1 h4 h1 c13 | exact acx_f h4 h1 c13 (fun q => by omega) | exact acx_f h4 h1 c13 (fun q => c41 q.2.2) | exact acx_t2 h1 ⟨by omega, by omega, c41⟩) (by omega)
  refine r_iconst C dX8_isLanded_0 ?_
  refine r_istore_n C dX8_isLanded_1 (ls1_2 rfl rfl) ?_
  refine r_iconst C dX8_isLanded_2 ?_
  refine r_istore_n C dX8_isLanded_3 (ls1_3 rfl rfl) ?_
  exact lp (S 232 0 + 1).toNat 0 0 (by omega) (by omega) exR_0 (by omega)
