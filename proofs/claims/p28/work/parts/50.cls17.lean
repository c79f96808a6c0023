/-! the class: questions that need no replay -/
theorem ck_mem {R : RW} {S : ST} {A : AB} (hCK : CK R S A) (hR : RG R) : (∀ x ∈ LdR R, (0 ≤ x ∧ x < A.2 3) ∧ 0 ≤ S 100 x ∧ S 100 x ≤ 1000) ∧ (LdR R).length ≤ 60 := by
  obtain ⟨_, _, ⟨hcn, hA3, hA1⟩, _, hrows, _, _⟩ := hCK
  have hn := hR.1
  constructor
  · intro x hx
    have h9 := (led_mem R.dy R.gn R.n.toNat).mp hx
    have h8 := (hrows x h9.1.1 (by omega)).1.2.2.2.2.1
    have h7 := (hR.2 x h9.1.1 (by omega)).1.2.2.2.1
    exact ⟨⟨h9.1.1, by omega⟩, by omega⟩
  · have h9 : (LdR R).length ≤ R.n.toNat := led_len R.dy R.gn R.n.toNat
    omega
set_option maxRecDepth 20000 in
theorem cB_place {G : GT} {l : Launch} (hfl : l.stackTraces = false) {S : ST} {A : AB} {m : Int} {R : RW} (hCK : CK R S A) (hn : 0 ≤ R.n ∧ R.n ≤ 60) (hR : RG R) (hm : rI m) : CT G l yX7_placeOf cX7_placeOf 3 (some .int) (rmk 7 1 6 112) S A [vR A 6 0, vI m] (oI fun z S' A' => cI (S 103 m = 0) (fst m (LdR R)) (-1) = z ∧ (0 ≤ m ∧ m < R.n) ∧ S = S' ∧ A = A') (fun E S' A' => (E = xIO ∧ ¬ (0 ≤ m ∧ m < R.n)) ∧ S = S' ∧ A = A') := by
  have hmm := ck_mem hCK hR
  have hA3 := hCK.2.2.1.2.1
  have h193 := hCK.2.1.2.1
  refine ct_ofN (own := RX7) (mn := "placeOf") rfl rfl (by decide) hfl (lv0 := [some (vR A 6 0), some (vI m), none]) (ent_1 (cat_R _ _ _) (ent_1 rfl (ent_n ent_0))) rfl ?_
  intro J X C F FX FT FU hW hA
  refine r_aload_n C dX7_placeOf_0 lg_0 ?_
  refine r_iload_n C dX7_placeOf_1 lg_1 ?_
  refine r_V1A C (cB_find hfl hCK hn (by omega)) dX7_placeOf_2 lk_X7_111 hCK.1.1 ⟨Nat.le_of_ble_eq_true rfl, Nat.le_of_ble_eq_true rfl⟩ (catLe (Nat.le_of_ble_eq_true rfl)) 1 6 ⟨rfl, rfl⟩ (Nat.le_of_ble_eq_true rfl) (Nat.le_of_ble_eq_true rfl) (fun E9 S9 A9 h9 => FX _ _ _ _ _ _ _ (by obtain ⟨rfl, h8, rfl, rfl⟩ := h9; exact ⟨⟨rfl, h8⟩, rfl, rfl⟩) (Nat.le_of_ble_eq_true rfl) (Nat.le_of_ble_eq_true rfl)) (fun z2 S2 A2 i2 p2 => ?_)
  obtain ⟨⟨rfl, hf02, hf12⟩, rfl, rfl⟩ := p2
  refine r_astore_n C dX7_placeOf_5 (ls1_2 (cat_R _ _ _) rfl) ?_
  refine r_aload_n C dX7_placeOf_6 lg_2 ?_
  refine r_getZ C 103 dX7_placeOf_7 fg_X7_115_3 rfl rfl ⟨hf02, by omega⟩ (fun g7 => ?_)
  refine r_ifeq C (tgt := 17) dX7_placeOf_10 (by decide) (by omega) (fun c10 => ?_) (fun c10 => ?_)
  · refine r_aload_n C dX7_placeOf_17 lg_0 ?_
    refine r_getA C 193 2 dX7_placeOf_18 fg_X7_18_6 rfl rfl hCK.1.1 (fun g18 => ?_)
    rw [h193]
    refine r_aload_n C dX7_placeOf_21 lg_2 ?_
    refine q_V1I C (cG_place hfl (L := LdR R) hCK.1.2.1 hmm.2 hCK.2.2.2.2.2.1 (fun x hx => (hmm.1 x hx).1) ⟨hf02, by omega⟩) dX7_placeOf_22 lk_X7_144 hCK.1.2.1 ⟨Nat.le_of_ble_eq_true rfl, Nat.le_of_ble_eq_true rfl⟩ (catLe (Nat.le_of_ble_eq_true rfl)) ⟨rfl, rfl⟩ rfl (Nat.le_of_ble_eq_true rfl) (Nat.le_of_ble_eq_true rfl) (fun z22 S22 A22 i22 p22 => ?_)
    obtain ⟨rfl, rfl, rfl⟩ := p22
    exact f_I F dX7_placeOf_25 (by first | omega | exact i22) (by
      first
      | exact ⟨cI_t c10, ⟨hf02, hf12⟩, rfl, rfl⟩
      | exact ⟨cI_f c10, ⟨hf02, hf12⟩, rfl, rfl⟩) (Nat.le_of_ble_eq_true rfl) (Nat.le_of_ble_eq_true rfl)
  · refine r_iconst C dX7_placeOf_13 ?_
    refine r_goto C (tgt := 25) dX7_placeOf_14 (by decide) ?_
    exact f_I F dX7_placeOf_25 (by first | omega | exact i22) (by
      first
      | exact ⟨cI_t c10, ⟨hf02, hf12⟩, rfl, rfl⟩
      | exact ⟨cI_f c10, ⟨hf02, hf12⟩, rfl, rfl⟩) (Nat.le_of_ble_eq_true rfl) (Nat.le_of_ble_eq_true rfl)
set_option maxRecDepth 20000 in
theorem cB_onHand {G : GT} {l : Launch} (hfl : l.stackTraces = false) {S : ST} {A : AB} {item day : Int} {R : RW} (hCK : CK R S A) (hn : 0 ≤ R.n ∧ R.n ≤ 60) (hR : RG R) (hi : rI item) (hd : rI day) : CT G l yX7_onHand cX7_onHand 3 (some .int) (rmk 8 2 12 133) S A [vR A 6 0, vI item, vI day] (oI fun z S' A' => hAt (S 98) (dA S item) day (LdR R) 0 = z ∧ akOk item day ∧ S = S' ∧ A = A') (fun E S' A' => (E = xIA ∧ ¬ akOk item day) ∧ S = S' ∧ A = A') := by
  have hmm := ck_mem hCK hR
  have h193 := hCK.2.1.2.1
  refine ct_ofN (own := RX7) (mn := "onHand") rfl rfl (by decide) hfl (lv0 := [some (vR A 6 0), some (vI item), some (vI day)]) (ent_1 (cat_R _ _ _) (ent_1 rfl (ent_1 rfl ent_0))) rfl ?_
  intro J X C F FX FT FU hW hA
  refine r_iload_n C dX7_onHand_0 lg_1 ?_
  refine r_iload_n C dX7_onHand_1 lg_2 ?_
  refine r_S2V C (cB_item hfl (by omega) (by omega)) dX7_onHand_2 lk_X7_44 ⟨Nat.le_of_ble_eq_true rfl, Nat.le_of_ble_eq_true rfl⟩ (catLe (Nat.le_of_ble_eq_true rfl)) 2 12 ⟨rfl, rfl⟩ (Nat.le_of_ble_eq_true rfl) (Nat.le_of_ble_eq_true rfl) (fun E9 S9 A9 h9 => FX _ _ _ _ _ _ _ (by obtain ⟨rfl, h8, rfl, rfl⟩ := h9; exact ⟨⟨rfl, h8⟩, rfl, rfl⟩) (Nat.le_of_ble_eq_true rfl) (Nat.le_of_ble_eq_true rfl)) (fun S2 A2 p2 => ?_)
  obtain ⟨hr2, rfl, rfl⟩ := p2
  refine r_aload_n C dX7_onHand_5 lg_0 ?_
  refine r_getA C 193 2 dX7_onHand_6 fg_X7_18_6 rfl rfl hCK.1.1 (fun g6 => ?_)
  rw [h193]
  refine r_iload_n C dX7_onHand_9 lg_1 ?_
  refine r_iload_n C dX7_onHand_10 lg_2 ?_
  refine q_V2I C (cG_units hfl (L := LdR R) hCK.1.2.1 hmm.2 hCK.2.2.2.2.2.1 hmm.1 hi hd) dX7_onHand_11 lk_X7_74 hCK.1.2.1 ⟨Nat.le_of_ble_eq_true rfl, Nat.le_of_ble_eq_true rfl⟩ (catLe (Nat.le_of_ble_eq_true rfl)) ⟨rfl, rfl⟩ rfl (Nat.le_of_ble_eq_true rfl) (Nat.le_of_ble_eq_true rfl) (fun z11 S11 A11 i11 p11 => ?_)
  obtain ⟨rfl, rfl, rfl⟩ := p11
  exact f_I F dX7_onHand_14 i11 ⟨rfl, hr2, rfl, rfl⟩ (Nat.le_of_ble_eq_true rfl) (Nat.le_of_ble_eq_true rfl)
set_option maxRecDepth 20000 in
theorem cB_available {G : GT} {l : Launch} (hfl : l.stackTraces = false) {S : ST} {A : AB} {item day : Int} {R : RW} (hCK : CK R S A) (hn : 0 ≤ R.n ∧ R.n ≤ 60) (hR : RG R) (hi : rI item) (hd : rI day) : CT G l yX7_available cX7_available 3 (some .int) (rmk 8 2 12 133) S A [vR A 6 0, vI item, vI day] (oI fun z S' A' => mn 1000 (spf (S 98) (S 96) (S 99) (dlt (S 97) (S 100)) (S 100) (fun m => S 97 m = 1 ∨ S 97 m = 2) item day 60 (LdR R) 0 0) = z ∧ akOk item day ∧ S = S' ∧ A = A') (fun E S' A' => (E = xIA ∧ ¬ akOk item day) ∧ S = S' ∧ A = A') := by
  have hmm := ck_mem hCK hR
  have h193 := hCK.2.1.2.1
  refine ct_ofN (own := RX7) (mn := "available") rfl rfl (by decide) hfl (lv0 := [some (vR A 6 0), some (vI item), some (vI day)]) (ent_1 (cat_R _ _ _) (ent_1 rfl (ent_1 rfl ent_0))) rfl ?_
  intro J X C F FX FT FU hW hA
  refine r_iload_n C dX7_available_0 lg_1 ?_
  refine r_iload_n C dX7_available_1 lg_2 ?_
  refine r_S2V C (cB_item hfl (by omega) (by omega)) dX7_available_2 lk_X7_44 ⟨Nat.le_of_ble_eq_true rfl, Nat.le_of_ble_eq_true rfl⟩ (catLe (Nat.le_of_ble_eq_true rfl)) 2 12 ⟨rfl, rfl⟩ (Nat.le_of_ble_eq_true rfl) (Nat.le_of_ble_eq_true rfl) (fun E9 S9 A9 h9 => FX _ _ _ _ _ _ _ (by obtain ⟨rfl, h8, rfl, rfl⟩ := h9; exact ⟨⟨rfl, h8⟩, rfl, rfl⟩) (Nat.le_of_ble_eq_true rfl) (Nat.le_of_ble_eq_true rfl)) (fun S2 A2 p2 => ?_)
  obtain ⟨hr2, rfl, rfl⟩ := p2
  refine r_aload_n C dX7_available_5 lg_0 ?_
  refine r_getA C 193 2 dX7_available_6 fg_X7_18_6 rfl rfl hCK.1.1 (fun g6 => ?_)
  rw [h193]
  refine r_iload_n C dX7_available_9 lg_1 ?_
  refine r_iload_n C dX7_available_10 lg_2 ?_
  refine r_bipush C dX7_available_11 (by decide) ?_
  refine q_V3I C (cG_spare hfl (L := LdR R) hCK.1.2.1 hmm.2 hCK.2.2.2.2.2.1 hmm.1 hi hd (by omega)) dX7_available_13 lk_X7_67 hCK.1.2.1 ⟨Nat.le_of_ble_eq_true rfl, Nat.le_of_ble_eq_true rfl⟩ (catLe (Nat.le_of_ble_eq_true rfl)) ⟨rfl, rfl⟩ rfl (Nat.le_of_ble_eq_true rfl) (Nat.le_of_ble_eq_true rfl) (fun z13 S13 A13 i13 p13 => ?_)
  obtain ⟨rfl, rfl, rfl⟩ := p13
  refine r_sipush C dX7_available_16 (by decide) ?_
  refine r_min C dX7_available_19 lk_X7_171 wMin2 wMin3 wMin4 (Nat.le_of_ble_eq_true rfl) (Nat.le_of_ble_eq_true rfl) (Nat.le_of_ble_eq_true rfl) (Nat.le_of_ble_eq_true rfl) (by omega) (by omega) ?_
  exact f_I F dX7_available_22 (by split <;> omega) ⟨rfl, hr2, rfl, rfl⟩ (Nat.le_of_ble_eq_true rfl) (Nat.le_of_ble_eq_true rfl)
