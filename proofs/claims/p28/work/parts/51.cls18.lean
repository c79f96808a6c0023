/-! the class: replayed -/
set_option maxRecDepth 20000 in
theorem cB0_replayed {G : GT} {l : Launch} (hfl : l.stackTraces = false) {S : ST} {A : AB} {item day y : Int} {R : RW} (hCK : CK R S A) (hR : RG R) (hR2 : RG2 R) (hit : 0 ≤ item ∧ item ≤ 5) (hd : rI day) (hval : RV R item) (hy : rI y) (hy0 : y = 0) : CT G l yX7_replayed cX7_replayed 5 (some (.object "Layerbook$Valuation")) (rmk 4 0 0 101) S A [vR A 6 0, vI item, vI day, vI y] (oA 0 fun z S' A' => 0 = z ∧ A = A' ∧ Fr [33, 34, 35, 5, 6, 0, 1, 2, 3, 4, 106] S S' ∧ FV S' (WKr R item day (icF S))) (noX) := by
  have h193 := hCK.2.1.2.1
  have h194 := hCK.2.1.2.2.1
  have h195 := hCK.2.1.2.2.2.1
  refine ct_ofN (own := RX7) (mn := "replayed") rfl rfl (by decide) hfl (lv0 := [some (vR A 6 0), some (vI item), some (vI day), some (vI y), none]) (ent_1 (cat_R _ _ _) (ent_1 rfl (ent_1 rfl (ent_1 rfl (ent_n ent_0))))) rfl ?_
  intro J X C F FX FT FU hW hA
  refine r_iload_n C dX7_replayed_0 lg_3 ?_
  refine r_ifeq C (tgt := 11) dX7_replayed_1 (by decide) (by omega) (fun c1 => ?_) (fun c1 => ?_)
  · refine r_aload_n C dX7_replayed_11 lg_0 ?_
    refine r_getA C 194 0 dX7_replayed_12 fg_X7_25_6 rfl rfl hCK.1.1 (fun g12 => ?_)
    rw [h194]
    refine r_astore C dX7_replayed_15 (ls1_4 (cat_R _ _ _) rfl) ?_
    refine r_aload C dX7_replayed_17 lg_4 ?_
    refine r_aload_n C dX7_replayed_19 lg_0 ?_
    refine r_getA C 193 2 dX7_replayed_20 fg_X7_18_6 rfl rfl hCK.1.1 (fun g20 => ?_)
    rw [h193]
    refine r_getA C 64 3 dX7_replayed_23 fg_X7_194_2 rfl rfl hCK.1.2.1 (fun g23 => ?_)
    refine r_iload_n C dX7_replayed_26 lg_1 ?_
    refine r_iload_n C dX7_replayed_27 lg_2 ?_
    refine q_U3V C (cV0_replay hfl hCK.1.2.2.1 hCK hR hR2 hit hd hval) dX7_replayed_28 lk_X7_257_0 hCK.1.2.2.1 ⟨Nat.le_of_ble_eq_true rfl, Nat.le_of_ble_eq_true rfl⟩ (catLe (Nat.le_of_ble_eq_true rfl)) ⟨rfl, rfl⟩ rfl (Nat.le_of_ble_eq_true rfl) (Nat.le_of_ble_eq_true rfl) (fun S28 A28 p28 => ?_)
    obtain ⟨rfl, hF28, hv28⟩ := p28
    refine r_aload C dX7_replayed_31 lg_4 ?_
    exact f_A F dX7_replayed_33 hCK.1.2.2.1.2 ⟨rfl, rfl, hF28, hv28⟩ (Nat.le_of_ble_eq_true rfl) (Nat.le_of_ble_eq_true rfl)
  · exfalso; omega
set_option maxRecDepth 20000 in
theorem cB4_replayed {G : GT} {l : Launch} (hfl : l.stackTraces = false) {S : ST} {A : AB} {item day y : Int} {R : RW} (hCK : CK R S A) (hR : RG R) (hR2 : RG2 R) (hit : 0 ≤ item ∧ item ≤ 5) (hd : rI day) (hval : RV R item) (hy : rI y) (hy0 : ¬ y = 0) : CT G l yX7_replayed cX7_replayed 5 (some (.object "Layerbook$Valuation")) (rmk 4 0 0 101) S A [vR A 6 0, vI item, vI day, vI y] (oA 4 fun z S' A' => 0 = z ∧ A = A' ∧ Fr [128, 129, 130, 131, 132, 133, 106] S S' ∧ AV S' (WKr R item day (icF S))) (noX) := by
  have h193 := hCK.2.1.2.1
  have h194 := hCK.2.1.2.2.1
  have h195 := hCK.2.1.2.2.2.1
  refine ct_ofN (own := RX7) (mn := "replayed") rfl rfl (by decide) hfl (lv0 := [some (vR A 6 0), some (vI item), some (vI day), some (vI y), none]) (ent_1 (cat_R _ _ _) (ent_1 rfl (ent_1 rfl (ent_1 rfl (ent_n ent_0))))) rfl ?_
  intro J X C F FX FT FU hW hA
  refine r_iload_n C dX7_replayed_0 lg_3 ?_
  refine r_ifeq C (tgt := 11) dX7_replayed_1 (by decide) (by omega) (fun c1 => ?_) (fun c1 => ?_)
  · exfalso; omega
  · refine r_aload_n C dX7_replayed_4 lg_0 ?_
    refine r_getA C 195 4 dX7_replayed_5 fg_X7_32_6 rfl rfl hCK.1.1 (fun g5 => ?_)
    rw [h195]
    refine r_goto C (tgt := 15) dX7_replayed_8 (by decide) ?_
    skip
    refine r_astore C dX7_replayed_15 (ls1_4 (cat_R _ _ _) rfl) ?_
    refine r_aload C dX7_replayed_17 lg_4 ?_
    refine r_aload_n C dX7_replayed_19 lg_0 ?_
    refine r_getA C 193 2 dX7_replayed_20 fg_X7_18_6 rfl rfl hCK.1.1 (fun g20 => ?_)
    rw [h193]
    refine r_getA C 64 3 dX7_replayed_23 fg_X7_194_2 rfl rfl hCK.1.2.1 (fun g23 => ?_)
    refine r_iload_n C dX7_replayed_26 lg_1 ?_
    refine r_iload_n C dX7_replayed_27 lg_2 ?_
    refine q_U3V C (cV4_replay hfl hCK.1.2.2.2.1 hCK hR hR2 hit hd hval) dX7_replayed_28 lk_X7_257_4 hCK.1.2.2.2.1 ⟨Nat.le_of_ble_eq_true rfl, Nat.le_of_ble_eq_true rfl⟩ (catLe (Nat.le_of_ble_eq_true rfl)) ⟨rfl, rfl⟩ rfl (Nat.le_of_ble_eq_true rfl) (Nat.le_of_ble_eq_true rfl) (fun S28 A28 p28 => ?_)
    obtain ⟨rfl, hF28, hv28⟩ := p28
    refine r_aload C dX7_replayed_31 lg_4 ?_
    exact f_A F dX7_replayed_33 hCK.1.2.2.2.1.2 ⟨rfl, rfl, hF28, hv28⟩ (Nat.le_of_ble_eq_true rfl) (Nat.le_of_ble_eq_true rfl)
