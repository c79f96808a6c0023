/-! the small methods of the reference -/
set_option maxRecDepth 20000 in
theorem cM_thrown {G : GT} {l : Launch} (hfl : l.stackTraces = false) {S : ST} {A : AB} (M : RM S A) : CT G l yX8_thrown cX8_thrown 1 (some .int) (rmk 0 0 0 0) S A [vR A 7 0] (oI fun z S' A' => S 249 0 = z ∧ S = S' ∧ A = A') (noX) := by
  refine ct_ofN (own := RX8) (mn := "thrown") rfl rfl (by decide) hfl (lv0 := [some (vR A 7 0)]) (ent_1 (cat_R _ _ _) ent_0) rfl ?_
  intro J X C F FX FT FU hW hA
  refine r_aload_n C dX8_thrown_0 lg_0 ?_
  refine r_getI C 249 dX8_thrown_1 fg_X8_70_7 rfl rfl M.1 (fun g1 => ?_)
  exact f_I F dX8_thrown_4 (by omega) ⟨rfl, rfl, rfl⟩ (Nat.le_of_ble_eq_true rfl) (Nat.le_of_ble_eq_true rfl)
set_option maxRecDepth 20000 in
theorem cM_goes {G : GT} {l : Launch} (hfl : l.stackTraces = false) {S : ST} {A : AB} {w : Int} (M : RM S A) (hw : rI w) : CT G l yX8_goes cX8_goes 2 (some .boolean) (rmk 0 0 0 0) S A [vR A 7 0, vI w] (oZ fun z S' A' => b2i (w = 0) = z ∧ upS S 249 0 w = S' ∧ A = A') (noX) := by
  refine ct_ofN (own := RX8) (mn := "goes") rfl rfl (by decide) hfl (lv0 := [some (vR A 7 0), some (vI w)]) (ent_1 (cat_R _ _ _) (ent_1 rfl ent_0)) rfl ?_
  intro J X C F FX FT FU hW hA
  refine r_aload_n C dX8_goes_0 lg_0 ?_
  refine r_iload_n C dX8_goes_1 lg_1 ?_
  refine r_putI C 249 dX8_goes_2 fg_X8_70_7 rfl rfl M.1 (fun q h => by cases h; exact Or.inl rfl) (by omega) ?_
  refine r_iload_n C dX8_goes_5 lg_1 ?_
  refine r_ifne C (tgt := 13) dX8_goes_6 (by decide) (by omega) (fun c6 => ?_) (fun c6 => ?_)
  · refine r_iconst C dX8_goes_13 ?_
    exact f_Z F dX8_goes_14 (by omega) ⟨by unfold b2i; split <;> omega, rfl, rfl⟩ (Nat.le_of_ble_eq_true rfl) (Nat.le_of_ble_eq_true rfl)
  · refine r_iconst C dX8_goes_9 ?_
    refine r_goto C (tgt := 14) dX8_goes_10 (by decide) ?_
    exact f_Z F dX8_goes_14 (by omega) ⟨by unfold b2i; split <;> omega, rfl, rfl⟩ (Nat.le_of_ble_eq_true rfl) (Nat.le_of_ble_eq_true rfl)
set_option maxRecDepth 20000 in
theorem cM_isIn {G : GT} {l : Launch} (hfl : l.stackTraces = false) {S : ST} {A : AB} {v a b : Int} (h1 : rI v) (h2 : rI a) (h3 : rI b) : CT G l yX8_isIn cX8_isIn 3 (some .boolean) (rmk 0 0 0 0) S A [vI v, vI a, vI b] (oZ fun z S' A' => b2i (a ≤ v ∧ v ≤ b) = z ∧ S = S' ∧ A = A') (noX) := by
  refine ct_ofN (own := RX8) (mn := "isIn") rfl rfl (by decide) hfl (lv0 := [some (vI v), some (vI a), some (vI b)]) (ent_1 rfl (ent_1 rfl (ent_1 rfl ent_0))) rfl ?_
  intro J X C F FX FT FU hW hA
  refine r_iload_n C dX8_isIn_0 lg_0 ?_
  refine r_iload_n C dX8_isIn_1 lg_1 ?_
  refine r_iclt C (tgt := 14) dX8_isIn_2 (by decide) (by omega) (by omega) (fun c2 => ?_) (fun c2 => ?_)
  · refine r_iconst C dX8_isIn_14 ?_
    exact f_Z F dX8_isIn_15 (by omega) ⟨by unfold b2i; split <;> omega, rfl, rfl⟩ (Nat.le_of_ble_eq_true rfl) (Nat.le_of_ble_eq_true rfl)
  · refine r_iload_n C dX8_isIn_5 lg_0 ?_
    refine r_iload_n C dX8_isIn_6 lg_2 ?_
    refine r_icgt C (tgt := 14) dX8_isIn_7 (by decide) (by omega) (by omega) (fun c7 => ?_) (fun c7 => ?_)
    · refine r_iconst C dX8_isIn_14 ?_
      exact f_Z F dX8_isIn_15 (by omega) ⟨by unfold b2i; split <;> omega, rfl, rfl⟩ (Nat.le_of_ble_eq_true rfl) (Nat.le_of_ble_eq_true rfl)
    · refine r_iconst C dX8_isIn_10 ?_
      refine r_goto C (tgt := 15) dX8_isIn_11 (by decide) ?_
      exact f_Z F dX8_isIn_15 (by omega) ⟨by unfold b2i; split <;> omega, rfl, rfl⟩ (Nat.le_of_ble_eq_true rfl) (Nat.le_of_ble_eq_true rfl)
set_option maxRecDepth 20000 in
theorem cM_isDay {G : GT} {l : Launch} (hfl : l.stackTraces = false) {S : ST} {A : AB} {v : Int} (h1 : rI v) : CT G l yX8_isDay cX8_isDay 1 (some .boolean) (rmk 1 0 0 22) S A [vI v] (oZ fun z S' A' => b2i (0 ≤ v ∧ v ≤ 364) = z ∧ S = S' ∧ A = A') (noX) := by
  refine ct_ofN (own := RX8) (mn := "isDay") rfl rfl (by decide) hfl (lv0 := [some (vI v)]) (ent_1 rfl ent_0) rfl ?_
  intro J X C F FX FT FU hW hA
  refine r_iload_n C dX8_isDay_0 lg_0 ?_
  refine r_iconst C dX8_isDay_1 ?_
  refine r_sipush C dX8_isDay_2 (by decide) ?_
  refine q_S3Z C (cM_isIn hfl (by omega) (by omega) (by omega)) dX8_isDay_5 lk_X8_73 ⟨Nat.le_of_ble_eq_true rfl, Nat.le_of_ble_eq_true rfl⟩ (catLe (Nat.le_of_ble_eq_true rfl)) ⟨rfl, rfl⟩ rfl (Nat.le_of_ble_eq_true rfl) (Nat.le_of_ble_eq_true rfl) (fun z5 S5 A5 i5 p5 => ?_)
  obtain ⟨rfl, rfl, rfl⟩ := p5
  exact f_Z F dX8_isDay_8 (b2i_01 _) ⟨rfl, rfl, rfl⟩ (Nat.le_of_ble_eq_true rfl) (Nat.le_of_ble_eq_true rfl)
set_option maxRecDepth 20000 in
theorem cM_isItem {G : GT} {l : Launch} (hfl : l.stackTraces = false) {S : ST} {A : AB} {v : Int} (h1 : rI v) : CT G l yX8_isItem cX8_isItem 1 (some .boolean) (rmk 1 0 0 22) S A [vI v] (oZ fun z S' A' => b2i (0 ≤ v ∧ v ≤ 5) = z ∧ S = S' ∧ A = A') (noX) := by
  refine ct_ofN (own := RX8) (mn := "isItem") rfl rfl (by decide) hfl (lv0 := [some (vI v)]) (ent_1 rfl ent_0) rfl ?_
  intro J X C F FX FT FU hW hA
  refine r_iload_n C dX8_isItem_0 lg_0 ?_
  refine r_iconst C dX8_isItem_1 ?_
  refine r_iconst C dX8_isItem_2 ?_
  refine q_S3Z C (cM_isIn hfl (by omega) (by omega) (by omega)) dX8_isItem_3 lk_X8_73 ⟨Nat.le_of_ble_eq_true rfl, Nat.le_of_ble_eq_true rfl⟩ (catLe (Nat.le_of_ble_eq_true rfl)) ⟨rfl, rfl⟩ rfl (Nat.le_of_ble_eq_true rfl) (Nat.le_of_ble_eq_true rfl) (fun z3 S3 A3 i3 p3 => ?_)
  obtain ⟨rfl, rfl, rfl⟩ := p3
  exact f_Z F dX8_isItem_6 (b2i_01 _) ⟨rfl, rfl, rfl⟩ (Nat.le_of_ble_eq_true rfl) (Nat.le_of_ble_eq_true rfl)
set_option maxRecDepth 20000 in
theorem cM_isMovement {G : GT} {l : Launch} (hfl : l.stackTraces = false) {S : ST} {A : AB} {m : Int} (M : RM S A) (hm : rI m) (h1 : 0 ≤ S 232 0) (h2 : S 232 0 ≤ 60) : CT G l yX8_isMovement cX8_isMovement 2 (some .boolean) (rmk 1 0 0 22) S A [vR A 7 0, vI m] (oZ fun z S' A' => b2i (0 ≤ m ∧ m < S 232 0) = z ∧ S = S' ∧ A = A') (noX) := by
  refine ct_ofN (own := RX8) (mn := "isMovement") rfl rfl (by decide) hfl (lv0 := [some (vR A 7 0), some (vI m)]) (ent_1 (cat_R _ _ _) (ent_1 rfl ent_0)) rfl ?_
  intro J X C F FX FT FU hW hA
  refine r_iload_n C dX8_isMovement_0 lg_1 ?_
  refine r_iconst C dX8_isMovement_1 ?_
  refine r_aload_n C dX8_isMovement_2 lg_0 ?_
  refine r_getI C 232 dX8_isMovement_3 fg_X8_77_7 rfl rfl M.1 (fun g3 => ?_)
  refine r_iconst C dX8_isMovement_6 ?_
  refine r_isub C dX8_isMovement_7 ?_
  refine q_S3Z C (cM_isIn hfl (by omega) (by omega) (by omega)) dX8_isMovement_8 lk_X8_73 ⟨Nat.le_of_ble_eq_true rfl, Nat.le_of_ble_eq_true rfl⟩ (catLe (Nat.le_of_ble_eq_true rfl)) ⟨rfl, rfl⟩ rfl (Nat.le_of_ble_eq_true rfl) (Nat.le_of_ble_eq_true rfl) (fun z8 S8 A8 i8 p8 => ?_)
  obtain ⟨rfl, rfl, rfl⟩ := p8
  exact f_Z F dX8_isMovement_11 (b2i_01 _) ⟨b2i_iff (by omega), rfl, rfl⟩ (Nat.le_of_ble_eq_true rfl) (Nat.le_of_ble_eq_true rfl)
set_option maxRecDepth 20000 in
theorem cM_isShut {G : GT} {l : Launch} (hfl : l.stackTraces = false) {S : ST} {A : AB} {d : Int} (M : RM S A) (hd : rI d) : CT G l yX8_isShut cX8_isShut 2 (some .boolean) (rmk 0 0 0 0) S A [vR A 7 0, vI d] (oZ fun z S' A' => b2i (d ≤ S 233 0 ∨ S 232 0 = 60) = z ∧ S = S' ∧ A = A') (noX) := by
  refine ct_ofN (own := RX8) (mn := "isShut") rfl rfl (by decide) hfl (lv0 := [some (vR A 7 0), some (vI d)]) (ent_1 (cat_R _ _ _) (ent_1 rfl ent_0)) rfl ?_
  intro J X C F FX FT FU hW hA
  refine r_iload_n C dX8_isShut_0 lg_1 ?_
  refine r_aload_n C dX8_isShut_1 lg_0 ?_
  refine r_getI C 233 dX8_isShut_2 fg_X8_36_7 rfl rfl M.1 (fun g2 => ?_)
  refine r_icle C (tgt := 17) dX8_isShut_5 (by decide) (by omega) (by omega) (fun c5 => ?_) (fun c5 => ?_)
  · refine r_iconst C dX8_isShut_17 ?_
    refine r_goto C (tgt := 22) dX8_isShut_18 (by decide) ?_
    exact f_Z F dX8_isShut_22 (by omega) ⟨by unfold b2i; split <;> omega, rfl, rfl⟩ (Nat.le_of_ble_eq_true rfl) (Nat.le_of_ble_eq_true rfl)
  · refine r_aload_n C dX8_isShut_8 lg_0 ?_
    refine r_getI C 232 dX8_isShut_9 fg_X8_77_7 rfl rfl M.1 (fun g9 => ?_)
    refine r_bipush C dX8_isShut_12 (by decide) ?_
    refine r_icne C (tgt := 21) dX8_isShut_14 (by decide) (by omega) (by omega) (fun c14 => ?_) (fun c14 => ?_)
    · refine r_iconst C dX8_isShut_21 ?_
      exact f_Z F dX8_isShut_22 (by omega) ⟨by unfold b2i; split <;> omega, rfl, rfl⟩ (Nat.le_of_ble_eq_true rfl) (Nat.le_of_ble_eq_true rfl)
    · refine r_iconst C dX8_isShut_17 ?_
      refine r_goto C (tgt := 22) dX8_isShut_18 (by decide) ?_
      exact f_Z F dX8_isShut_22 (by omega) ⟨by unfold b2i; split <;> omega, rfl, rfl⟩ (Nat.le_of_ble_eq_true rfl) (Nat.le_of_ble_eq_true rfl)
set_option maxRecDepth 20000 in
theorem cM_change {G : GT} {l : Launch} (hfl : l.stackTraces = false) {S : ST} {A : AB} {m i : Int} (M : RM S A) (h0 : 0 ≤ m) (h1 : m < 60) (hi : rI i) (hq : 0 ≤ S 416 m ∧ S 416 m ≤ 1000) : CT G l yX8_change cX8_change 3 (some .int) (rmk 0 0 0 0) S A [vR A 7 0, vI m, vI i] (oI fun z S' A' => chg (S 320) (S 384) (S 416) i m = z ∧ S = S' ∧ A = A') (noX) := by
  refine ct_ofN (own := RX8) (mn := "change") rfl rfl (by decide) hfl (lv0 := [some (vR A 7 0), some (vI m), some (vI i)]) (ent_1 (cat_R _ _ _) (ent_1 rfl (ent_1 rfl ent_0))) rfl ?_
  intro J X C F FX FT FU hW hA
  refine r_aload_n C dX8_change_0 lg_0 ?_
  refine r_getA C 226 12 dX8_change_1 fg_X8_16_7 rfl rfl M.1 (fun g1 => ?_)
  refine r_iload_n C dX8_change_4 lg_1 ?_
  refine r_iald C (N := 60) 384 dX8_change_5 (by decide) rfl rfl (M.g (j := 2) (by decide)) (by omega) (by omega) (by omega) (fun g5 => ?_)
  refine r_iload_n C dX8_change_6 lg_2 ?_
  refine r_iceq C (tgt := 14) dX8_change_7 (by decide) (by omega) (by omega) (fun c7 => ?_) (fun c7 => ?_)
  · refine r_aload_n C dX8_change_14 lg_0 ?_
    refine r_getA C 224 10 dX8_change_15 fg_X8_7_7 rfl rfl M.1 (fun g15 => ?_)
    refine r_iload_n C dX8_change_18 lg_1 ?_
    refine r_iald C (N := 60) 320 dX8_change_19 (by decide) rfl rfl (M.g (j := 0) (by decide)) (by omega) (by omega) (by omega) (fun g19 => ?_)
    refine r_ifne C (tgt := 32) dX8_change_20 (by decide) (by omega) (fun c20 => ?_) (fun c20 => ?_)
    · refine r_aload_n C dX8_change_32 lg_0 ?_
      refine r_getA C 224 10 dX8_change_33 fg_X8_7_7 rfl rfl M.1 (fun g33 => ?_)
      refine r_iload_n C dX8_change_36 lg_1 ?_
      refine r_iald C (N := 60) 320 dX8_change_37 (by decide) rfl rfl (M.g (j := 0) (by decide)) (by omega) (by omega) (by omega) (fun g37 => ?_)
      refine r_iconst C dX8_change_38 ?_
      refine r_icne C (tgt := 52) dX8_change_39 (by decide) (by omega) (by omega) (fun c39 => ?_) (fun c39 => ?_)
      · refine r_iconst C dX8_change_52 ?_
        exact f_I F dX8_change_53 (by omega) ⟨by unfold chg dlt; split <;> (try split) <;> (try split) <;> omega, rfl, rfl⟩ (Nat.le_of_ble_eq_true rfl) (Nat.le_of_ble_eq_true rfl)
      · refine r_aload_n C dX8_change_42 lg_0 ?_
        refine r_getA C 227 13 dX8_change_43 fg_X8_19_7 rfl rfl M.1 (fun g43 => ?_)
        refine r_iload_n C dX8_change_46 lg_1 ?_
        refine r_iald C (N := 60) 416 dX8_change_47 (by decide) rfl rfl (M.g (j := 3) (by decide)) (by omega) (by omega) (by omega) (fun g47 => ?_)
        refine r_ineg C dX8_change_48 ?_
        refine r_goto C (tgt := 53) dX8_change_49 (by decide) ?_
        exact f_I F dX8_change_53 (by omega) ⟨by unfold chg dlt; split <;> (try split) <;> (try split) <;> omega, rfl, rfl⟩ (Nat.le_of_ble_eq_true rfl) (Nat.le_of_ble_eq_true rfl)
    · refine r_aload_n C dX8_change_23 lg_0 ?_
      refine r_getA C 227 13 dX8_change_24 fg_X8_19_7 rfl rfl M.1 (fun g24 => ?_)
      refine r_iload_n C dX8_change_27 lg_1 ?_
      refine r_iald C (N := 60) 416 dX8_change_28 (by decide) rfl rfl (M.g (j := 3) (by decide)) (by omega) (by omega) (by omega) (fun g28 => ?_)
      refine r_goto C (tgt := 53) dX8_change_29 (by decide) ?_
      exact f_I F dX8_change_53 (by omega) ⟨by unfold chg dlt; split <;> (try split) <;> (try split) <;> omega, rfl, rfl⟩ (Nat.le_of_ble_eq_true rfl) (Nat.le_of_ble_eq_true rfl)
  · refine r_iconst C dX8_change_10 ?_
    refine r_goto C (tgt := 53) dX8_change_11 (by decide) ?_
    exact f_I F dX8_change_53 (by omega) ⟨by unfold chg dlt; split <;> (try split) <;> (try split) <;> omega, rfl, rfl⟩ (Nat.le_of_ble_eq_true rfl) (Nat.le_of_ble_eq_true rfl)
set_option maxRecDepth 20000 in
theorem cM_takesUnits {G : GT} {l : Launch} (hfl : l.stackTraces = false) {S : ST} {A : AB} {m i : Int} (M : RM S A) (h0 : 0 ≤ m) (h1 : m < 60) (hi : rI i) : CT G l yX8_takesUnits cX8_takesUnits 3 (some .boolean) (rmk 0 0 0 0) S A [vR A 7 0, vI m, vI i] (oZ fun z S' A' => b2i (tks (S 320) (S 384) i m) = z ∧ S = S' ∧ A = A') (noX) := by
  refine ct_ofN (own := RX8) (mn := "takesUnits") rfl rfl (by decide) hfl (lv0 := [some (vR A 7 0), some (vI m), some (vI i)]) (ent_1 (cat_R _ _ _) (ent_1 rfl (ent_1 rfl ent_0))) rfl ?_
  intro J X C F FX FT FU hW hA
  refine r_aload_n C dX8_takesUnits_0 lg_0 ?_
  refine r_getA C 226 12 dX8_takesUnits_1 fg_X8_16_7 rfl rfl M.1 (fun g1 => ?_)
  refine r_iload_n C dX8_takesUnits_4 lg_1 ?_
  refine r_iald C (N := 60) 384 dX8_takesUnits_5 (by decide) rfl rfl (M.g (j := 2) (by decide)) (by omega) (by omega) (by omega) (fun g5 => ?_)
  refine r_iload_n C dX8_takesUnits_6 lg_2 ?_
  refine r_icne C (tgt := 34) dX8_takesUnits_7 (by decide) (by omega) (by omega) (fun c7 => ?_) (fun c7 => ?_)
  · refine r_iconst C dX8_takesUnits_34 ?_
    exact f_Z F dX8_takesUnits_35 (by omega) ⟨by unfold b2i tks; split <;> omega, rfl, rfl⟩ (Nat.le_of_ble_eq_true rfl) (Nat.le_of_ble_eq_true rfl)
  · refine r_aload_n C dX8_takesUnits_10 lg_0 ?_
    refine r_getA C 224 10 dX8_takesUnits_11 fg_X8_7_7 rfl rfl M.1 (fun g11 => ?_)
    refine r_iload_n C dX8_takesUnits_14 lg_1 ?_
    refine r_iald C (N := 60) 320 dX8_takesUnits_15 (by decide) rfl rfl (M.g (j := 0) (by decide)) (by omega) (by omega) (by omega) (fun g15 => ?_)
    refine r_iconst C dX8_takesUnits_16 ?_
    refine r_iceq C (tgt := 30) dX8_takesUnits_17 (by decide) (by omega) (by omega) (fun c17 => ?_) (fun c17 => ?_)
    · refine r_iconst C dX8_takesUnits_30 ?_
      refine r_goto C (tgt := 35) dX8_takesUnits_31 (by decide) ?_
      exact f_Z F dX8_takesUnits_35 (by omega) ⟨by unfold b2i tks; split <;> omega, rfl, rfl⟩ (Nat.le_of_ble_eq_true rfl) (Nat.le_of_ble_eq_true rfl)
    · refine r_aload_n C dX8_takesUnits_20 lg_0 ?_
      refine r_getA C 224 10 dX8_takesUnits_21 fg_X8_7_7 rfl rfl M.1 (fun g21 => ?_)
      refine r_iload_n C dX8_takesUnits_24 lg_1 ?_
      refine r_iald C (N := 60) 320 dX8_takesUnits_25 (by decide) rfl rfl (M.g (j := 0) (by decide)) (by omega) (by omega) (by omega) (fun g25 => ?_)
      refine r_iconst C dX8_takesUnits_26 ?_
      refine r_icne C (tgt := 34) dX8_takesUnits_27 (by decide) (by omega) (by omega) (fun c27 => ?_) (fun c27 => ?_)
      · refine r_iconst C dX8_takesUnits_34 ?_
        exact f_Z F dX8_takesUnits_35 (by omega) ⟨by unfold b2i tks; split <;> omega, rfl, rfl⟩ (Nat.le_of_ble_eq_true rfl) (Nat.le_of_ble_eq_true rfl)
      · refine r_iconst C dX8_takesUnits_30 ?_
        refine r_goto C (tgt := 35) dX8_takesUnits_31 (by decide) ?_
        exact f_Z F dX8_takesUnits_35 (by omega) ⟨by unfold b2i tks; split <;> omega, rfl, rfl⟩ (Nat.le_of_ble_eq_true rfl) (Nat.le_of_ble_eq_true rfl)
/-- bit m of the set s, by the sign's shift -/
def hasB (s m : Int) : Prop := fLand (fLshr s m) 1 = 1
set_option maxRecDepth 20000 in
theorem cM_has {G : GT} {l : Launch} (hfl : l.stackTraces = false) {S : ST} {A : AB} {s m : Int} (hs : rL s) : CT G l yX8_has cX8_has 3 (some .boolean) (rmk 0 0 0 0) S A [vL s, vI m] (oZ fun z S' A' => b2i (hasB s m) = z ∧ S = S' ∧ A = A') (noX) := by
  refine ct_ofN (own := RX8) (mn := "has") rfl rfl (by decide) hfl (lv0 := [some (vL s), none, some (vI m)]) (ent_2 rfl (ent_1 rfl ent_0)) rfl ?_
  intro J X C F FX FT FU hW hA
  refine r_lload_n C dX8_has_0 lg_0 ?_
  refine r_iload_n C dX8_has_1 lg_2 ?_
  refine r_lshr C dX8_has_2 (fun b2 => ?_)
  refine r_lconst C dX8_has_3 1 rfl ?_
  refine r_land C dX8_has_4 (fun b4 => ?_)
  refine r_lconst C dX8_has_5 1 rfl ?_
  refine r_lcne C (tgt := 14) dX8_has_6 dX8_has_7 (by decide) (by omega) (by omega) (fun c6 => ?_) (fun c6 => ?_)
  · refine r_iconst C dX8_has_14 ?_
    exact f_Z F dX8_has_15 (by omega) ⟨by unfold b2i hasB; split <;> omega, rfl, rfl⟩ (Nat.le_of_ble_eq_true rfl) (Nat.le_of_ble_eq_true rfl)
  · refine r_iconst C dX8_has_10 ?_
    refine r_goto C (tgt := 15) dX8_has_11 (by decide) ?_
    exact f_Z F dX8_has_15 (by omega) ⟨by unfold b2i hasB; split <;> omega, rfl, rfl⟩ (Nat.le_of_ble_eq_true rfl) (Nat.le_of_ble_eq_true rfl)
/-- the basis of a movement -/
def basM (S : ST) (b m : Int) : Int := if b = 0 then S 416 m else if b = 1 then S 448 m else S 416 m * S 640 (S 384 m)
theorem mul_b {a b x y : Int} (h0 : 0 ≤ a) (h1 : a ≤ x) (h2 : 0 ≤ b) (h3 : b ≤ y) : 0 ≤ a * b ∧ a * b ≤ x * y := ⟨Int.mul_nonneg h0 h2, Int.mul_le_mul h1 h3 h2 (by omega)⟩
set_option maxRecDepth 20000 in
theorem cM_basisOf {G : GT} {l : Launch} (hfl : l.stackTraces = false) {S : ST} {A : AB} {m b : Int} (M : RM S A) (h0 : 0 ≤ m) (h1 : m < 60) (hb : rI b) (hq : 0 ≤ S 416 m ∧ S 416 m ≤ 1000) (hi : 0 ≤ S 384 m ∧ S 384 m ≤ 5) (hw : 0 ≤ S 640 (S 384 m) ∧ S 640 (S 384 m) ≤ 100) : CT G l yX8_basisOf cX8_basisOf 3 (some .long) (rmk 0 0 0 0) S A [vR A 7 0, vI m, vI b] (oJ fun z S' A' => basM S b m = z ∧ S = S' ∧ A = A') (noX) := by
  refine ct_ofN (own := RX8) (mn := "basisOf") rfl rfl (by decide) hfl (lv0 := [some (vR A 7 0), some (vI m), some (vI b)]) (ent_1 (cat_R _ _ _) (ent_1 rfl (ent_1 rfl ent_0))) rfl ?_
  intro J X C F FX FT FU hW hA
  refine r_iload_n C dX8_basisOf_0 lg_2 ?_
  refine r_ifne C (tgt := 14) dX8_basisOf_1 (by decide) (by omega) (fun c1 => ?_) (fun c1 => ?_)
  · refine r_iload_n C dX8_basisOf_14 lg_2 ?_
    refine r_iconst C dX8_basisOf_15 ?_
    refine r_icne C (tgt := 29) dX8_basisOf_16 (by decide) (by omega) (by omega) (fun c16 => ?_) (fun c16 => ?_)
    · refine r_aload_n C dX8_basisOf_29 lg_0 ?_
      refine r_getA C 227 13 dX8_basisOf_30 fg_X8_19_7 rfl rfl M.1 (fun g30 => ?_)
      refine r_iload_n C dX8_basisOf_33 lg_1 ?_
      refine r_iald C (N := 60) 416 dX8_basisOf_34 (by decide) rfl rfl (M.g (j := 3) (by decide)) (by omega) (by omega) (by omega) (fun g34 => ?_)
      refine r_i2l C dX8_basisOf_35 (by omega) ?_
      refine r_aload_n C dX8_basisOf_36 lg_0 ?_
      refine r_getA C 234 20 dX8_basisOf_37 fg_X8_40_7 rfl rfl M.1 (fun g37 => ?_)
      refine r_aload_n C dX8_basisOf_40 lg_0 ?_
      refine r_getA C 226 12 dX8_basisOf_41 fg_X8_16_7 rfl rfl M.1 (fun g41 => ?_)
      refine r_iload_n C dX8_basisOf_44 lg_1 ?_
      refine r_iald C (N := 60) 384 dX8_basisOf_45 (by decide) rfl rfl (M.g (j := 2) (by decide)) (by omega) (by omega) (by omega) (fun g45 => ?_)
      refine r_iald C (N := 6) 640 dX8_basisOf_46 (by decide) rfl rfl (M.g (j := 10) (by decide)) (by omega) (by omega) (by omega) (fun g46 => ?_)
      refine r_i2l C dX8_basisOf_47 (by omega) ?_
      have h9 := mul_b hq.1 hq.2 hw.1 hw.2
      refine r_lmul C dX8_basisOf_48 ?_
      exact f_J F dX8_basisOf_49 (by omega) ⟨by unfold basM; split <;> (try split) <;> first | rfl | omega, rfl, rfl⟩ (Nat.le_of_ble_eq_true rfl) (Nat.le_of_ble_eq_true rfl)
    · refine r_aload_n C dX8_basisOf_19 lg_0 ?_
      refine r_getA C 228 14 dX8_basisOf_20 fg_X8_22_7 rfl rfl M.1 (fun g20 => ?_)
      refine r_iload_n C dX8_basisOf_23 lg_1 ?_
      refine r_iald C (N := 60) 448 dX8_basisOf_24 (by decide) rfl rfl (M.g (j := 4) (by decide)) (by omega) (by omega) (by omega) (fun g24 => ?_)
      refine r_i2l C dX8_basisOf_25 (by omega) ?_
      refine r_goto C (tgt := 49) dX8_basisOf_26 (by decide) ?_
      exact f_J F dX8_basisOf_49 (by omega) ⟨by unfold basM; split <;> (try split) <;> first | rfl | omega, rfl, rfl⟩ (Nat.le_of_ble_eq_true rfl) (Nat.le_of_ble_eq_true rfl)
  · refine r_aload_n C dX8_basisOf_4 lg_0 ?_
    refine r_getA C 227 13 dX8_basisOf_5 fg_X8_19_7 rfl rfl M.1 (fun g5 => ?_)
    refine r_iload_n C dX8_basisOf_8 lg_1 ?_
    refine r_iald C (N := 60) 416 dX8_basisOf_9 (by decide) rfl rfl (M.g (j := 3) (by decide)) (by omega) (by omega) (by omega) (fun g9 => ?_)
    refine r_i2l C dX8_basisOf_10 (by omega) ?_
    refine r_goto C (tgt := 49) dX8_basisOf_11 (by decide) ?_
    exact f_J F dX8_basisOf_49 (by omega) ⟨by unfold basM; split <;> (try split) <;> first | rfl | omega, rfl, rfl⟩ (Nat.le_of_ble_eq_true rfl) (Nat.le_of_ble_eq_true rfl)
