/-! the class: questions by replay -/
set_option maxRecDepth 20000 in
theorem cB4_received {G : GT} {l : Launch} (hfl : l.stackTraces = false) {S : ST} {A : AB} {item day : Int} {R : RW} (hCK : CK R S A) (hR : RG R) (hR2 : RG2 R) (hV : ∀ i, 0 ≤ i → i ≤ 5 → RV R i) (hi : rI item) (hd : rI day) : CT G l yX7_received cX7_received 3 (some .long) (rmk 8 2 12 133) S A [vR A 6 0, vI item, vI day] (oJ fun z S' A' => (WKr R item day (icF S)).rcv = z ∧ akOk item day ∧ A = A' ∧ Fr [128, 129, 130, 131, 132, 133, 106] S S') (fun E S' A' => (E = xIA ∧ ¬ akOk item day) ∧ S = S' ∧ A = A') := by
  refine ct_ofN (own := RX7) (mn := "received") rfl rfl (by decide) hfl (lv0 := [some (vR A 6 0), some (vI item), some (vI day)]) (ent_1 (cat_R _ _ _) (ent_1 rfl (ent_1 rfl ent_0))) rfl ?_
  intro J X C F FX FT FU hW hA
  refine r_iload_n C dX7_received_0 lg_1 ?_
  refine r_iload_n C dX7_received_1 lg_2 ?_
  refine r_S2V C (cB_item hfl (by omega) (by omega)) dX7_received_2 lk_X7_44 ⟨Nat.le_of_ble_eq_true rfl, Nat.le_of_ble_eq_true rfl⟩ (catLe (Nat.le_of_ble_eq_true rfl)) 2 12 ⟨rfl, rfl⟩ (Nat.le_of_ble_eq_true rfl) (Nat.le_of_ble_eq_true rfl) (fun E9 S9 A9 h9 => FX _ _ _ _ _ _ _ (by obtain ⟨rfl, h8, rfl, rfl⟩ := h9; exact ⟨⟨rfl, h8⟩, rfl, rfl⟩) (Nat.le_of_ble_eq_true rfl) (Nat.le_of_ble_eq_true rfl)) (fun S2 A2 p2 => ?_)
  obtain ⟨hr2, rfl, rfl⟩ := p2
  refine r_aload_n C dX7_received_5 lg_0 ?_
  refine r_iload_n C dX7_received_6 lg_1 ?_
  refine r_iload_n C dX7_received_7 lg_2 ?_
  refine r_iconst C dX7_received_8 ?_
  refine q_V3A C (cB4_replayed hfl hCK hR hR2 hr2.1 hd (hV item hr2.1.1 hr2.1.2) (by omega) (by omega)) dX7_received_9 lk_X7_163 hCK.1.1 ⟨Nat.le_of_ble_eq_true rfl, Nat.le_of_ble_eq_true rfl⟩ (catLe (Nat.le_of_ble_eq_true rfl)) ⟨rfl, rfl⟩ rfl (Nat.le_of_ble_eq_true rfl) (Nat.le_of_ble_eq_true rfl) (fun z9 S9 A9 i9 p9 => ?_)
  obtain ⟨rfl, rfl, hF9, hv9⟩ := p9
  refine r_getJ C 129 dX7_received_12 fg_X7_182_4 rfl rfl hCK.1.2.2.2.1 (fun g12 => ?_)
  exact f_J F dX7_received_15 g12 ⟨hv9.2.1.symm, hr2, rfl, hF9⟩ (Nat.le_of_ble_eq_true rfl) (Nat.le_of_ble_eq_true rfl)
set_option maxRecDepth 20000 in
theorem cB0_issued {G : GT} {l : Launch} (hfl : l.stackTraces = false) {S : ST} {A : AB} {item day y : Int} {R : RW} (hCK : CK R S A) (hR : RG R) (hR2 : RG2 R) (hV : ∀ i, 0 ≤ i → i ≤ 5 → RV R i) (hi : rI item) (hd : rI day) (hy : rI y) (hy0 : y = 0) : CT G l yX7_issued cX7_issued 4 (some .long) (rmk 8 2 12 133) S A [vR A 6 0, vI item, vI day, vI y] (oJ fun z S' A' => (WKr R item day (icF S)).i0 = z ∧ akOk item day ∧ A = A' ∧ Fr [33, 34, 35, 5, 6, 0, 1, 2, 3, 4, 106] S S') (fun E S' A' => (E = xIA ∧ ¬ akOk item day) ∧ S = S' ∧ A = A') := by
  refine ct_ofN (own := RX7) (mn := "issued") rfl rfl (by decide) hfl (lv0 := [some (vR A 6 0), some (vI item), some (vI day), some (vI y)]) (ent_1 (cat_R _ _ _) (ent_1 rfl (ent_1 rfl (ent_1 rfl ent_0)))) rfl ?_
  intro J X C F FX FT FU hW hA
  refine r_iload_n C dX7_issued_0 lg_1 ?_
  refine r_iload_n C dX7_issued_1 lg_2 ?_
  refine r_S2V C (cB_item hfl (by omega) (by omega)) dX7_issued_2 lk_X7_44 ⟨Nat.le_of_ble_eq_true rfl, Nat.le_of_ble_eq_true rfl⟩ (catLe (Nat.le_of_ble_eq_true rfl)) 2 12 ⟨rfl, rfl⟩ (Nat.le_of_ble_eq_true rfl) (Nat.le_of_ble_eq_true rfl) (fun E9 S9 A9 h9 => FX _ _ _ _ _ _ _ (by obtain ⟨rfl, h8, rfl, rfl⟩ := h9; exact ⟨⟨rfl, h8⟩, rfl, rfl⟩) (Nat.le_of_ble_eq_true rfl) (Nat.le_of_ble_eq_true rfl)) (fun S2 A2 p2 => ?_)
  obtain ⟨hr2, rfl, rfl⟩ := p2
  refine r_aload_n C dX7_issued_5 lg_0 ?_
  refine r_iload_n C dX7_issued_6 lg_1 ?_
  refine r_iload_n C dX7_issued_7 lg_2 ?_
  refine r_iload_n C dX7_issued_8 lg_3 ?_
  refine q_V3A C (cB0_replayed hfl hCK hR hR2 hr2.1 hd (hV item hr2.1.1 hr2.1.2) hy hy0) dX7_issued_9 lk_X7_163 hCK.1.1 ⟨Nat.le_of_ble_eq_true rfl, Nat.le_of_ble_eq_true rfl⟩ (catLe (Nat.le_of_ble_eq_true rfl)) ⟨rfl, rfl⟩ rfl (Nat.le_of_ble_eq_true rfl) (Nat.le_of_ble_eq_true rfl) (fun z9 S9 A9 i9 p9 => ?_)
  obtain ⟨rfl, rfl, hF9, hv9⟩ := p9
  refine r_getJ C 2 dX7_issued_12 fg_X7_185_0 rfl rfl hCK.1.2.2.1 (fun g12 => ?_)
  exact f_J F dX7_issued_15 g12 ⟨hv9.2.2.1.symm, hr2, rfl, hF9⟩ (Nat.le_of_ble_eq_true rfl) (Nat.le_of_ble_eq_true rfl)
set_option maxRecDepth 20000 in
theorem cB4_issued {G : GT} {l : Launch} (hfl : l.stackTraces = false) {S : ST} {A : AB} {item day y : Int} {R : RW} (hCK : CK R S A) (hR : RG R) (hR2 : RG2 R) (hV : ∀ i, 0 ≤ i → i ≤ 5 → RV R i) (hi : rI item) (hd : rI day) (hy : rI y) (hy0 : ¬ y = 0) : CT G l yX7_issued cX7_issued 4 (some .long) (rmk 8 2 12 133) S A [vR A 6 0, vI item, vI day, vI y] (oJ fun z S' A' => (WKr R item day (icF S)).i1 = z ∧ akOk item day ∧ A = A' ∧ Fr [128, 129, 130, 131, 132, 133, 106] S S') (fun E S' A' => (E = xIA ∧ ¬ akOk item day) ∧ S = S' ∧ A = A') := by
  refine ct_ofN (own := RX7) (mn := "issued") rfl rfl (by decide) hfl (lv0 := [some (vR A 6 0), some (vI item), some (vI day), some (vI y)]) (ent_1 (cat_R _ _ _) (ent_1 rfl (ent_1 rfl (ent_1 rfl ent_0)))) rfl ?_
  intro J X C F FX FT FU hW hA
  refine r_iload_n C dX7_issued_0 lg_1 ?_
  refine r_iload_n C dX7_issued_1 lg_2 ?_
  refine r_S2V C (cB_item hfl (by omega) (by omega)) dX7_issued_2 lk_X7_44 ⟨Nat.le_of_ble_eq_true rfl, Nat.le_of_ble_eq_true rfl⟩ (catLe (Nat.le_of_ble_eq_true rfl)) 2 12 ⟨rfl, rfl⟩ (Nat.le_of_ble_eq_true rfl) (Nat.le_of_ble_eq_true rfl) (fun E9 S9 A9 h9 => FX _ _ _ _ _ _ _ (by obtain ⟨rfl, h8, rfl, rfl⟩ := h9; exact ⟨⟨rfl, h8⟩, rfl, rfl⟩) (Nat.le_of_ble_eq_true rfl) (Nat.le_of_ble_eq_true rfl)) (fun S2 A2 p2 => ?_)
  obtain ⟨hr2, rfl, rfl⟩ := p2
  refine r_aload_n C dX7_issued_5 lg_0 ?_
  refine r_iload_n C dX7_issued_6 lg_1 ?_
  refine r_iload_n C dX7_issued_7 lg_2 ?_
  refine r_iload_n C dX7_issued_8 lg_3 ?_
  refine q_V3A C (cB4_replayed hfl hCK hR hR2 hr2.1 hd (hV item hr2.1.1 hr2.1.2) hy hy0) dX7_issued_9 lk_X7_163 hCK.1.1 ⟨Nat.le_of_ble_eq_true rfl, Nat.le_of_ble_eq_true rfl⟩ (catLe (Nat.le_of_ble_eq_true rfl)) ⟨rfl, rfl⟩ rfl (Nat.le_of_ble_eq_true rfl) (Nat.le_of_ble_eq_true rfl) (fun z9 S9 A9 i9 p9 => ?_)
  obtain ⟨rfl, rfl, hF9, hv9⟩ := p9
  refine r_getJ C 130 dX7_issued_12 fg_X7_185_4 rfl rfl hCK.1.2.2.2.1 (fun g12 => ?_)
  exact f_J F dX7_issued_15 g12 ⟨hv9.2.2.1.symm, hr2, rfl, hF9⟩ (Nat.le_of_ble_eq_true rfl) (Nat.le_of_ble_eq_true rfl)
set_option maxRecDepth 20000 in
theorem cB0_revalued {G : GT} {l : Launch} (hfl : l.stackTraces = false) {S : ST} {A : AB} {item day y : Int} {R : RW} (hCK : CK R S A) (hR : RG R) (hR2 : RG2 R) (hV : ∀ i, 0 ≤ i → i ≤ 5 → RV R i) (hi : rI item) (hd : rI day) (hy : rI y) (hy0 : y = 0) : CT G l yX7_revalued cX7_revalued 4 (some .long) (rmk 8 2 12 133) S A [vR A 6 0, vI item, vI day, vI y] (oJ fun z S' A' => (WKr R item day (icF S)).v0 = z ∧ akOk item day ∧ A = A' ∧ Fr [33, 34, 35, 5, 6, 0, 1, 2, 3, 4, 106] S S') (fun E S' A' => (E = xIA ∧ ¬ akOk item day) ∧ S = S' ∧ A = A') := by
  refine ct_ofN (own := RX7) (mn := "revalued") rfl rfl (by decide) hfl (lv0 := [some (vR A 6 0), some (vI item), some (vI day), some (vI y)]) (ent_1 (cat_R _ _ _) (ent_1 rfl (ent_1 rfl (ent_1 rfl ent_0)))) rfl ?_
  intro J X C F FX FT FU hW hA
  refine r_iload_n C dX7_revalued_0 lg_1 ?_
  refine r_iload_n C dX7_revalued_1 lg_2 ?_
  refine r_S2V C (cB_item hfl (by omega) (by omega)) dX7_revalued_2 lk_X7_44 ⟨Nat.le_of_ble_eq_true rfl, Nat.le_of_ble_eq_true rfl⟩ (catLe (Nat.le_of_ble_eq_true rfl)) 2 12 ⟨rfl, rfl⟩ (Nat.le_of_ble_eq_true rfl) (Nat.le_of_ble_eq_true rfl) (fun E9 S9 A9 h9 => FX _ _ _ _ _ _ _ (by obtain ⟨rfl, h8, rfl, rfl⟩ := h9; exact ⟨⟨rfl, h8⟩, rfl, rfl⟩) (Nat.le_of_ble_eq_true rfl) (Nat.le_of_ble_eq_true rfl)) (fun S2 A2 p2 => ?_)
  obtain ⟨hr2, rfl, rfl⟩ := p2
  refine r_aload_n C dX7_revalued_5 lg_0 ?_
  refine r_iload_n C dX7_revalued_6 lg_1 ?_
  refine r_iload_n C dX7_revalued_7 lg_2 ?_
  refine r_iload_n C dX7_revalued_8 lg_3 ?_
  refine q_V3A C (cB0_replayed hfl hCK hR hR2 hr2.1 hd (hV item hr2.1.1 hr2.1.2) hy hy0) dX7_revalued_9 lk_X7_163 hCK.1.1 ⟨Nat.le_of_ble_eq_true rfl, Nat.le_of_ble_eq_true rfl⟩ (catLe (Nat.le_of_ble_eq_true rfl)) ⟨rfl, rfl⟩ rfl (Nat.le_of_ble_eq_true rfl) (Nat.le_of_ble_eq_true rfl) (fun z9 S9 A9 i9 p9 => ?_)
  obtain ⟨rfl, rfl, hF9, hv9⟩ := p9
  refine r_getJ C 3 dX7_revalued_12 fg_X7_188_0 rfl rfl hCK.1.2.2.1 (fun g12 => ?_)
  exact f_J F dX7_revalued_15 g12 ⟨hv9.2.2.2.1.symm, hr2, rfl, hF9⟩ (Nat.le_of_ble_eq_true rfl) (Nat.le_of_ble_eq_true rfl)
set_option maxRecDepth 20000 in
theorem cB4_revalued {G : GT} {l : Launch} (hfl : l.stackTraces = false) {S : ST} {A : AB} {item day y : Int} {R : RW} (hCK : CK R S A) (hR : RG R) (hR2 : RG2 R) (hV : ∀ i, 0 ≤ i → i ≤ 5 → RV R i) (hi : rI item) (hd : rI day) (hy : rI y) (hy0 : ¬ y = 0) : CT G l yX7_revalued cX7_revalued 4 (some .long) (rmk 8 2 12 133) S A [vR A 6 0, vI item, vI day, vI y] (oJ fun z S' A' => (WKr R item day (icF S)).v1 = z ∧ akOk item day ∧ A = A' ∧ Fr [128, 129, 130, 131, 132, 133, 106] S S') (fun E S' A' => (E = xIA ∧ ¬ akOk item day) ∧ S = S' ∧ A = A') := by
  refine ct_ofN (own := RX7) (mn := "revalued") rfl rfl (by decide) hfl (lv0 := [some (vR A 6 0), some (vI item), some (vI day), some (vI y)]) (ent_1 (cat_R _ _ _) (ent_1 rfl (ent_1 rfl (ent_1 rfl ent_0)))) rfl ?_
  intro J X C F FX FT FU hW hA
  refine r_iload_n C dX7_revalued_0 lg_1 ?_
  refine r_iload_n C dX7_revalued_1 lg_2 ?_
  refine r_S2V C (cB_item hfl (by omega) (by omega)) dX7_revalued_2 lk_X7_44 ⟨Nat.le_of_ble_eq_true rfl, Nat.le_of_ble_eq_true rfl⟩ (catLe (Nat.le_of_ble_eq_true rfl)) 2 12 ⟨rfl, rfl⟩ (Nat.le_of_ble_eq_true rfl) (Nat.le_of_ble_eq_true rfl) (fun E9 S9 A9 h9 => FX _ _ _ _ _ _ _ (by obtain ⟨rfl, h8, rfl, rfl⟩ := h9; exact ⟨⟨rfl, h8⟩, rfl, rfl⟩) (Nat.le_of_ble_eq_true rfl) (Nat.le_of_ble_eq_true rfl)) (fun S2 A2 p2 => ?_)
  obtain ⟨hr2, rfl, rfl⟩ := p2
  refine r_aload_n C dX7_revalued_5 lg_0 ?_
  refine r_iload_n C dX7_revalued_6 lg_1 ?_
  refine r_iload_n C dX7_revalued_7 lg_2 ?_
  refine r_iload_n C dX7_revalued_8 lg_3 ?_
  refine q_V3A C (cB4_replayed hfl hCK hR hR2 hr2.1 hd (hV item hr2.1.1 hr2.1.2) hy hy0) dX7_revalued_9 lk_X7_163 hCK.1.1 ⟨Nat.le_of_ble_eq_true rfl, Nat.le_of_ble_eq_true rfl⟩ (catLe (Nat.le_of_ble_eq_true rfl)) ⟨rfl, rfl⟩ rfl (Nat.le_of_ble_eq_true rfl) (Nat.le_of_ble_eq_true rfl) (fun z9 S9 A9 i9 p9 => ?_)
  obtain ⟨rfl, rfl, hF9, hv9⟩ := p9
  refine r_getJ C 131 dX7_revalued_12 fg_X7_188_4 rfl rfl hCK.1.2.2.2.1 (fun g12 => ?_)
  exact f_J F dX7_revalued_15 g12 ⟨hv9.2.2.2.1.symm, hr2, rfl, hF9⟩ (Nat.le_of_ble_eq_true rfl) (Nat.le_of_ble_eq_true rfl)
set_option maxRecDepth 20000 in
theorem cB0_expensed {G : GT} {l : Launch} (hfl : l.stackTraces = false) {S : ST} {A : AB} {item day y : Int} {R : RW} (hCK : CK R S A) (hR : RG R) (hR2 : RG2 R) (hV : ∀ i, 0 ≤ i → i ≤ 5 → RV R i) (hi : rI item) (hd : rI day) (hy : rI y) (hy0 : y = 0) : CT G l yX7_expensed cX7_expensed 4 (some .long) (rmk 8 2 12 133) S A [vR A 6 0, vI item, vI day, vI y] (oJ fun z S' A' => (WKr R item day (icF S)).e0 = z ∧ akOk item day ∧ A = A' ∧ Fr [33, 34, 35, 5, 6, 0, 1, 2, 3, 4, 106] S S') (fun E S' A' => (E = xIA ∧ ¬ akOk item day) ∧ S = S' ∧ A = A') := by
  refine ct_ofN (own := RX7) (mn := "expensed") rfl rfl (by decide) hfl (lv0 := [some (vR A 6 0), some (vI item), some (vI day), some (vI y)]) (ent_1 (cat_R _ _ _) (ent_1 rfl (ent_1 rfl (ent_1 rfl ent_0)))) rfl ?_
  intro J X C F FX FT FU hW hA
  refine r_iload_n C dX7_expensed_0 lg_1 ?_
  refine r_iload_n C dX7_expensed_1 lg_2 ?_
  refine r_S2V C (cB_item hfl (by omega) (by omega)) dX7_expensed_2 lk_X7_44 ⟨Nat.le_of_ble_eq_true rfl, Nat.le_of_ble_eq_true rfl⟩ (catLe (Nat.le_of_ble_eq_true rfl)) 2 12 ⟨rfl, rfl⟩ (Nat.le_of_ble_eq_true rfl) (Nat.le_of_ble_eq_true rfl) (fun E9 S9 A9 h9 => FX _ _ _ _ _ _ _ (by obtain ⟨rfl, h8, rfl, rfl⟩ := h9; exact ⟨⟨rfl, h8⟩, rfl, rfl⟩) (Nat.le_of_ble_eq_true rfl) (Nat.le_of_ble_eq_true rfl)) (fun S2 A2 p2 => ?_)
  obtain ⟨hr2, rfl, rfl⟩ := p2
  refine r_aload_n C dX7_expensed_5 lg_0 ?_
  refine r_iload_n C dX7_expensed_6 lg_1 ?_
  refine r_iload_n C dX7_expensed_7 lg_2 ?_
  refine r_iload_n C dX7_expensed_8 lg_3 ?_
  refine q_V3A C (cB0_replayed hfl hCK hR hR2 hr2.1 hd (hV item hr2.1.1 hr2.1.2) hy hy0) dX7_expensed_9 lk_X7_163 hCK.1.1 ⟨Nat.le_of_ble_eq_true rfl, Nat.le_of_ble_eq_true rfl⟩ (catLe (Nat.le_of_ble_eq_true rfl)) ⟨rfl, rfl⟩ rfl (Nat.le_of_ble_eq_true rfl) (Nat.le_of_ble_eq_true rfl) (fun z9 S9 A9 i9 p9 => ?_)
  obtain ⟨rfl, rfl, hF9, hv9⟩ := p9
  refine r_getJ C 4 dX7_expensed_12 fg_X7_191_0 rfl rfl hCK.1.2.2.1 (fun g12 => ?_)
  exact f_J F dX7_expensed_15 g12 ⟨hv9.2.2.2.2.1.symm, hr2, rfl, hF9⟩ (Nat.le_of_ble_eq_true rfl) (Nat.le_of_ble_eq_true rfl)
set_option maxRecDepth 20000 in
theorem cB4_expensed {G : GT} {l : Launch} (hfl : l.stackTraces = false) {S : ST} {A : AB} {item day y : Int} {R : RW} (hCK : CK R S A) (hR : RG R) (hR2 : RG2 R) (hV : ∀ i, 0 ≤ i → i ≤ 5 → RV R i) (hi : rI item) (hd : rI day) (hy : rI y) (hy0 : ¬ y = 0) : CT G l yX7_expensed cX7_expensed 4 (some .long) (rmk 8 2 12 133) S A [vR A 6 0, vI item, vI day, vI y] (oJ fun z S' A' => (WKr R item day (icF S)).e1 = z ∧ akOk item day ∧ A = A' ∧ Fr [128, 129, 130, 131, 132, 133, 106] S S') (fun E S' A' => (E = xIA ∧ ¬ akOk item day) ∧ S = S' ∧ A = A') := by
  refine ct_ofN (own := RX7) (mn := "expensed") rfl rfl (by decide) hfl (lv0 := [some (vR A 6 0), some (vI item), some (vI day), some (vI y)]) (ent_1 (cat_R _ _ _) (ent_1 rfl (ent_1 rfl (ent_1 rfl ent_0)))) rfl ?_
  intro J X C F FX FT FU hW hA
  refine r_iload_n C dX7_expensed_0 lg_1 ?_
  refine r_iload_n C dX7_expensed_1 lg_2 ?_
  refine r_S2V C (cB_item hfl (by omega) (by omega)) dX7_expensed_2 lk_X7_44 ⟨Nat.le_of_ble_eq_true rfl, Nat.le_of_ble_eq_true rfl⟩ (catLe (Nat.le_of_ble_eq_true rfl)) 2 12 ⟨rfl, rfl⟩ (Nat.le_of_ble_eq_true rfl) (Nat.le_of_ble_eq_true rfl) (fun E9 S9 A9 h9 => FX _ _ _ _ _ _ _ (by obtain ⟨rfl, h8, rfl, rfl⟩ := h9; exact ⟨⟨rfl, h8⟩, rfl, rfl⟩) (Nat.le_of_ble_eq_true rfl) (Nat.le_of_ble_eq_true rfl)) (fun S2 A2 p2 => ?_)
  obtain ⟨hr2, rfl, rfl⟩ := p2
  refine r_aload_n C dX7_expensed_5 lg_0 ?_
  refine r_iload_n C dX7_expensed_6 lg_1 ?_
  refine r_iload_n C dX7_expensed_7 lg_2 ?_
  refine r_iload_n C dX7_expensed_8 lg_3 ?_
  refine q_V3A C (cB4_replayed hfl hCK hR hR2 hr2.1 hd (hV item hr2.1.1 hr2.1.2) hy hy0) dX7_expensed_9 lk_X7_163 hCK.1.1 ⟨Nat.le_of_ble_eq_true rfl, Nat.le_of_ble_eq_true rfl⟩ (catLe (Nat.le_of_ble_eq_true rfl)) ⟨rfl, rfl⟩ rfl (Nat.le_of_ble_eq_true rfl) (Nat.le_of_ble_eq_true rfl) (fun z9 S9 A9 i9 p9 => ?_)
  obtain ⟨rfl, rfl, hF9, hv9⟩ := p9
  refine r_getJ C 132 dX7_expensed_12 fg_X7_191_4 rfl rfl hCK.1.2.2.2.1 (fun g12 => ?_)
  exact f_J F dX7_expensed_15 g12 ⟨hv9.2.2.2.2.1.symm, hr2, rfl, hF9⟩ (Nat.le_of_ble_eq_true rfl) (Nat.le_of_ble_eq_true rfl)
