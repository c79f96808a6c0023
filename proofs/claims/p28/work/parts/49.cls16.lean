/-! the class: closing, weights, what was posted -/
set_option maxRecDepth 20000 in
theorem cB_close {G : GT} {l : Launch} (hfl : l.stackTraces = false) {S : ST} {A : AB} {d : Int} (hl6 : lv1 A 6 0) (hd : rI d) : CT G l yX7_close cX7_close 3 (some .int) (rmk 7 2 12 112) S A [vR A 6 0, vI d] (oI fun z S' A' => S 198 0 = z ∧ ((0 ≤ d ∧ d ≤ 364) ∧ S 198 0 < d) ∧ upS S 198 0 d = S' ∧ A = A') (fun E S' A' => ((E = xIA ∧ ¬ (0 ≤ d ∧ d ≤ 364)) ∨ (E = xIS ∧ (0 ≤ d ∧ d ≤ 364) ∧ ¬ S 198 0 < d)) ∧ S = S' ∧ A = A') := by
  refine ct_ofN (own := RX7) (mn := "close") rfl rfl (by decide) hfl (lv0 := [some (vR A 6 0), some (vI d), none]) (ent_1 (cat_R _ _ _) (ent_1 rfl (ent_n ent_0))) rfl ?_
  intro J X C F FX FT FU hW hA
  refine r_iload_n C dX7_close_0 lg_1 ?_
  refine r_iconst C dX7_close_1 ?_
  refine r_sipush C dX7_close_2 (by decide) ?_
  refine r_S3V C (cB_range hfl (by omega) (by omega) (by omega)) dX7_close_5 lk_X7_48 ⟨Nat.le_of_ble_eq_true rfl, Nat.le_of_ble_eq_true rfl⟩ (catLe (Nat.le_of_ble_eq_true rfl)) 1 6 ⟨rfl, rfl⟩ (Nat.le_of_ble_eq_true rfl) (Nat.le_of_ble_eq_true rfl) (fun E9 S9 A9 h9 => FX _ _ _ _ _ _ _ (by obtain ⟨rfl, h8, rfl, rfl⟩ := h9; exact ⟨Or.inl ⟨rfl, h8⟩, rfl, rfl⟩) (Nat.le_of_ble_eq_true rfl) (Nat.le_of_ble_eq_true rfl)) (fun S5 A5 p5 => ?_)
  obtain ⟨hr5, rfl, rfl⟩ := p5
  refine r_aload_n C dX7_close_8 lg_0 ?_
  refine r_iload_n C dX7_close_9 lg_1 ?_
  refine r_V1V C (cB_open hfl hl6 (by omega)) dX7_close_10 lk_X7_124 hl6 ⟨Nat.le_of_ble_eq_true rfl, Nat.le_of_ble_eq_true rfl⟩ (catLe (Nat.le_of_ble_eq_true rfl)) 1 6 ⟨rfl, rfl⟩ (Nat.le_of_ble_eq_true rfl) (Nat.le_of_ble_eq_true rfl) (fun E9 S9 A9 h9 => FX _ _ _ _ _ _ _ (by obtain ⟨rfl, h8, rfl, rfl⟩ := h9; exact ⟨Or.inr ⟨rfl, hr5, h8⟩, rfl, rfl⟩) (Nat.le_of_ble_eq_true rfl) (Nat.le_of_ble_eq_true rfl)) (fun S10 A10 p10 => ?_)
  obtain ⟨hr10, rfl, rfl⟩ := p10
  refine r_aload_n C dX7_close_13 lg_0 ?_
  refine r_getI C 198 dX7_close_14 fg_X7_40_6 rfl rfl hl6 (fun g14 => ?_)
  refine r_istore_n C dX7_close_17 (ls1_2 rfl rfl) ?_
  refine r_aload_n C dX7_close_18 lg_0 ?_
  refine r_iload_n C dX7_close_19 lg_1 ?_
  refine r_putI C 198 dX7_close_20 fg_X7_40_6 rfl rfl hl6 (fun q h => by cases h; exact Or.inl rfl) (by omega) ?_
  refine r_iload_n C dX7_close_23 lg_2 ?_
  exact f_I F dX7_close_24 g14 ⟨rfl, ⟨hr5, hr10⟩, rfl, rfl⟩ (Nat.le_of_ble_eq_true rfl) (Nat.le_of_ble_eq_true rfl)
set_option maxRecDepth 20000 in
theorem cB_setw {G : GT} {l : Launch} (hfl : l.stackTraces = false) {S : ST} {A : AB} {i v : Int} (hl6 : lv1 A 6 0) (hl9 : lv1 A 9 0) (h196 : S 196 0 = 0) (hi : rI i) (hv : rI v) : CT G l yX7_setWeight cX7_setWeight 4 (some .int) (rmk 7 2 12 112) S A [vR A 6 0, vI i, vI v] (oI fun z S' A' => S 288 i = z ∧ ((0 ≤ i ∧ i ≤ 5) ∧ (1 ≤ v ∧ v ≤ 100)) ∧ upS S 288 i v = S' ∧ A = A') (fun E S' A' => (E = xIA ∧ ¬ ((0 ≤ i ∧ i ≤ 5) ∧ (1 ≤ v ∧ v ≤ 100))) ∧ S = S' ∧ A = A') := by
  refine ct_ofN (own := RX7) (mn := "setWeight") rfl rfl (by decide) hfl (lv0 := [some (vR A 6 0), some (vI i), some (vI v), none]) (ent_1 (cat_R _ _ _) (ent_1 rfl (ent_1 rfl (ent_n ent_0)))) rfl ?_
  intro J X C F FX FT FU hW hA
  refine r_iload_n C dX7_setWeight_0 lg_1 ?_
  refine r_iconst C dX7_setWeight_1 ?_
  refine r_iconst C dX7_setWeight_2 ?_
  refine r_S3V C (cB_range hfl (by omega) (by omega) (by omega)) dX7_setWeight_3 lk_X7_48 ⟨Nat.le_of_ble_eq_true rfl, Nat.le_of_ble_eq_true rfl⟩ (catLe (Nat.le_of_ble_eq_true rfl)) 1 6 ⟨rfl, rfl⟩ (Nat.le_of_ble_eq_true rfl) (Nat.le_of_ble_eq_true rfl) (fun E9 S9 A9 h9 => FX _ _ _ _ _ _ _ (by obtain ⟨rfl, h8, rfl, rfl⟩ := h9; exact ⟨⟨rfl, fun q => h8 q.1⟩, rfl, rfl⟩) (Nat.le_of_ble_eq_true rfl) (Nat.le_of_ble_eq_true rfl)) (fun S3 A3 p3 => ?_)
  obtain ⟨hr3, rfl, rfl⟩ := p3
  refine r_iload_n C dX7_setWeight_6 lg_2 ?_
  refine r_iconst C dX7_setWeight_7 ?_
  refine r_bipush C dX7_setWeight_8 (by decide) ?_
  refine r_S3V C (cB_range hfl (by omega) (by omega) (by omega)) dX7_setWeight_10 lk_X7_48 ⟨Nat.le_of_ble_eq_true rfl, Nat.le_of_ble_eq_true rfl⟩ (catLe (Nat.le_of_ble_eq_true rfl)) 1 6 ⟨rfl, rfl⟩ (Nat.le_of_ble_eq_true rfl) (Nat.le_of_ble_eq_true rfl) (fun E9 S9 A9 h9 => FX _ _ _ _ _ _ _ (by obtain ⟨rfl, h8, rfl, rfl⟩ := h9; exact ⟨⟨rfl, fun q => h8 q.2⟩, rfl, rfl⟩) (Nat.le_of_ble_eq_true rfl) (Nat.le_of_ble_eq_true rfl)) (fun S10 A10 p10 => ?_)
  obtain ⟨hr10, rfl, rfl⟩ := p10
  refine r_aload_n C dX7_setWeight_13 lg_0 ?_
  refine r_iload_n C dX7_setWeight_14 lg_1 ?_
  refine q_V1I C (cB_weight hfl hl6 hl9 h196 hi) dX7_setWeight_15 lk_X7_140 hl6 ⟨Nat.le_of_ble_eq_true rfl, Nat.le_of_ble_eq_true rfl⟩ (catLe (Nat.le_of_ble_eq_true rfl)) ⟨rfl, rfl⟩ rfl (Nat.le_of_ble_eq_true rfl) (Nat.le_of_ble_eq_true rfl) (fun z15 S15 A15 i15 p15 => ?_)
  obtain ⟨rfl, rfl, rfl⟩ := p15
  rw [cI_t hr3] at i15 ⊢
  refine r_istore_n C dX7_setWeight_18 (ls1_3 rfl rfl) ?_
  refine r_iload_n C dX7_setWeight_19 lg_1 ?_
  refine r_iflt C (tgt := 39) dX7_setWeight_20 (by decide) (by omega) (fun c20 => ?_) (fun c20 => ?_)
  · exfalso; omega
  · refine r_iload_n C dX7_setWeight_23 lg_1 ?_
    refine r_aload_n C dX7_setWeight_24 lg_0 ?_
    refine r_getA C 196 9 dX7_setWeight_25 fg_X7_36_6 rfl rfl hl6 (fun g25 => ?_)
    refine r_alen C (N := 6) dX7_setWeight_28 (by decide) rfl (by decide) (by rw [h196]; exact hl9) ?_
    refine r_icge C (tgt := 39) dX7_setWeight_29 (by decide) (by omega) (by omega) (fun c29 => ?_) (fun c29 => ?_)
    · exfalso; omega
    · refine r_aload_n C dX7_setWeight_32 lg_0 ?_
      refine r_getA C 196 9 dX7_setWeight_33 fg_X7_36_6 rfl rfl hl6 (fun g33 => ?_)
      refine r_iload_n C dX7_setWeight_36 lg_1 ?_
      refine r_iload_n C dX7_setWeight_37 lg_2 ?_
      refine r_iast C (N := 6) 288 dX7_setWeight_38 (by decide) rfl rfl (by rw [h196]; exact hl9) (by omega) (by omega) (by omega) (by omega) ?_
      refine r_iload_n C dX7_setWeight_39 lg_3 ?_
      exact f_I F dX7_setWeight_40 i15 ⟨rfl, ⟨hr3, hr10⟩, rfl, rfl⟩ (Nat.le_of_ble_eq_true rfl) (Nat.le_of_ble_eq_true rfl)
set_option maxRecDepth 20000 in
theorem cB_movements {G : GT} {l : Launch} (hfl : l.stackTraces = false) {S : ST} {A : AB} (hl6 : lv1 A 6 0) : CT G l yX7_movements cX7_movements 1 (some .int) (rmk 0 0 0 0) S A [vR A 6 0] (oI fun z S' A' => S 197 0 = z ∧ S = S' ∧ A = A') (noX) := by
  refine ct_ofN (own := RX7) (mn := "movements") rfl rfl (by decide) hfl (lv0 := [some (vR A 6 0)]) (ent_1 (cat_R _ _ _) ent_0) rfl ?_
  intro J X C F FX FT FU hW hA
  refine r_aload_n C dX7_movements_0 lg_0 ?_
  refine r_getI C 197 dX7_movements_1 fg_X7_57_6 rfl rfl hl6 (fun g1 => ?_)
  exact f_I F dX7_movements_4 g1 ⟨rfl, rfl, rfl⟩ (Nat.le_of_ble_eq_true rfl) (Nat.le_of_ble_eq_true rfl)
set_option maxRecDepth 20000 in
theorem cB_kindOf {G : GT} {l : Launch} (hfl : l.stackTraces = false) {S : ST} {A : AB} {m : Int} {R : RW} (hCK : CK R S A) (hn : 0 ≤ R.n ∧ R.n ≤ 60) (hm : rI m) : CT G l yX7_kindOf cX7_kindOf 2 (some .int) (rmk 7 1 6 112) S A [vR A 6 0, vI m] (oI fun z S' A' => S 97 m = z ∧ (0 ≤ m ∧ m < R.n) ∧ S = S' ∧ A = A') (fun E S' A' => (E = xIO ∧ ¬ (0 ≤ m ∧ m < R.n)) ∧ S = S' ∧ A = A') := by
  refine ct_ofN (own := RX7) (mn := "kindOf") rfl rfl (by decide) hfl (lv0 := [some (vR A 6 0), some (vI m)]) (ent_1 (cat_R _ _ _) (ent_1 rfl ent_0)) rfl ?_
  intro J X C F FX FT FU hW hA
  refine r_aload_n C dX7_kindOf_0 lg_0 ?_
  refine r_iload_n C dX7_kindOf_1 lg_1 ?_
  refine r_V1A C (cB_find hfl hCK hn (by omega)) dX7_kindOf_2 lk_X7_111 hCK.1.1 ⟨Nat.le_of_ble_eq_true rfl, Nat.le_of_ble_eq_true rfl⟩ (catLe (Nat.le_of_ble_eq_true rfl)) 1 6 ⟨rfl, rfl⟩ (Nat.le_of_ble_eq_true rfl) (Nat.le_of_ble_eq_true rfl) (fun E9 S9 A9 h9 => FX _ _ _ _ _ _ _ (by obtain ⟨rfl, h8, rfl, rfl⟩ := h9; exact ⟨⟨rfl, h8⟩, rfl, rfl⟩) (Nat.le_of_ble_eq_true rfl) (Nat.le_of_ble_eq_true rfl)) (fun z2 S2 A2 i2 p2 => ?_)
  obtain ⟨⟨rfl, hf02, hf12⟩, rfl, rfl⟩ := p2
  refine r_getI C 97 dX7_kindOf_5 fg_X7_127_3 rfl rfl ⟨hf02, by have h9 := hCK.2.2.1.2.1; omega⟩ (fun g5 => ?_)
  exact f_I F dX7_kindOf_8 g5 ⟨rfl, ⟨hf02, hf12⟩, rfl, rfl⟩ (Nat.le_of_ble_eq_true rfl) (Nat.le_of_ble_eq_true rfl)
set_option maxRecDepth 20000 in
theorem cB_dayOf {G : GT} {l : Launch} (hfl : l.stackTraces = false) {S : ST} {A : AB} {m : Int} {R : RW} (hCK : CK R S A) (hn : 0 ≤ R.n ∧ R.n ≤ 60) (hm : rI m) : CT G l yX7_dayOf cX7_dayOf 2 (some .int) (rmk 7 1 6 112) S A [vR A 6 0, vI m] (oI fun z S' A' => S 98 m = z ∧ (0 ≤ m ∧ m < R.n) ∧ S = S' ∧ A = A') (fun E S' A' => (E = xIO ∧ ¬ (0 ≤ m ∧ m < R.n)) ∧ S = S' ∧ A = A') := by
  refine ct_ofN (own := RX7) (mn := "dayOf") rfl rfl (by decide) hfl (lv0 := [some (vR A 6 0), some (vI m)]) (ent_1 (cat_R _ _ _) (ent_1 rfl ent_0)) rfl ?_
  intro J X C F FX FT FU hW hA
  refine r_aload_n C dX7_dayOf_0 lg_0 ?_
  refine r_iload_n C dX7_dayOf_1 lg_1 ?_
  refine r_V1A C (cB_find hfl hCK hn (by omega)) dX7_dayOf_2 lk_X7_111 hCK.1.1 ⟨Nat.le_of_ble_eq_true rfl, Nat.le_of_ble_eq_true rfl⟩ (catLe (Nat.le_of_ble_eq_true rfl)) 1 6 ⟨rfl, rfl⟩ (Nat.le_of_ble_eq_true rfl) (Nat.le_of_ble_eq_true rfl) (fun E9 S9 A9 h9 => FX _ _ _ _ _ _ _ (by obtain ⟨rfl, h8, rfl, rfl⟩ := h9; exact ⟨⟨rfl, h8⟩, rfl, rfl⟩) (Nat.le_of_ble_eq_true rfl) (Nat.le_of_ble_eq_true rfl)) (fun z2 S2 A2 i2 p2 => ?_)
  obtain ⟨⟨rfl, hf02, hf12⟩, rfl, rfl⟩ := p2
  refine r_getI C 98 dX7_dayOf_5 fg_X7_121_3 rfl rfl ⟨hf02, by have h9 := hCK.2.2.1.2.1; omega⟩ (fun g5 => ?_)
  exact f_I F dX7_dayOf_8 g5 ⟨rfl, ⟨hf02, hf12⟩, rfl, rfl⟩ (Nat.le_of_ble_eq_true rfl) (Nat.le_of_ble_eq_true rfl)
set_option maxRecDepth 20000 in
theorem cB_isCancelled {G : GT} {l : Launch} (hfl : l.stackTraces = false) {S : ST} {A : AB} {m : Int} {R : RW} (hCK : CK R S A) (hn : 0 ≤ R.n ∧ R.n ≤ 60) (hm : rI m) : CT G l yX7_isCancelled cX7_isCancelled 2 (some .boolean) (rmk 7 1 6 112) S A [vR A 6 0, vI m] (oZ fun z S' A' => S 103 m = z ∧ (0 ≤ m ∧ m < R.n) ∧ S = S' ∧ A = A') (fun E S' A' => (E = xIO ∧ ¬ (0 ≤ m ∧ m < R.n)) ∧ S = S' ∧ A = A') := by
  refine ct_ofN (own := RX7) (mn := "isCancelled") rfl rfl (by decide) hfl (lv0 := [some (vR A 6 0), some (vI m)]) (ent_1 (cat_R _ _ _) (ent_1 rfl ent_0)) rfl ?_
  intro J X C F FX FT FU hW hA
  refine r_aload_n C dX7_isCancelled_0 lg_0 ?_
  refine r_iload_n C dX7_isCancelled_1 lg_1 ?_
  refine r_V1A C (cB_find hfl hCK hn (by omega)) dX7_isCancelled_2 lk_X7_111 hCK.1.1 ⟨Nat.le_of_ble_eq_true rfl, Nat.le_of_ble_eq_true rfl⟩ (catLe (Nat.le_of_ble_eq_true rfl)) 1 6 ⟨rfl, rfl⟩ (Nat.le_of_ble_eq_true rfl) (Nat.le_of_ble_eq_true rfl) (fun E9 S9 A9 h9 => FX _ _ _ _ _ _ _ (by obtain ⟨rfl, h8, rfl, rfl⟩ := h9; exact ⟨⟨rfl, h8⟩, rfl, rfl⟩) (Nat.le_of_ble_eq_true rfl) (Nat.le_of_ble_eq_true rfl)) (fun z2 S2 A2 i2 p2 => ?_)
  obtain ⟨⟨rfl, hf02, hf12⟩, rfl, rfl⟩ := p2
  refine r_getZ C 103 dX7_isCancelled_5 fg_X7_115_3 rfl rfl ⟨hf02, by have h9 := hCK.2.2.1.2.1; omega⟩ (fun g5 => ?_)
  exact f_Z F dX7_isCancelled_8 g5 ⟨rfl, ⟨hf02, hf12⟩, rfl, rfl⟩ (Nat.le_of_ble_eq_true rfl) (Nat.le_of_ble_eq_true rfl)
