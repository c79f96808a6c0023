/-! the class: what the calls demand -/
set_option maxRecDepth 20000 in
theorem cB_range {G : GT} {l : Launch} (hfl : l.stackTraces = false) {S : ST} {A : AB} {v a b : Int} (h1 : rI v) (h2 : rI a) (h3 : rI b) : CT G l yX7_checkRange cX7_checkRange 3 none (rmk 6 1 6 90) S A [vI v, vI a, vI b] (oV fun S' A' => (a ≤ v ∧ v ≤ b) ∧ S = S' ∧ A = A') (fun E S' A' => E = xIA ∧ (¬ (a ≤ v ∧ v ≤ b)) ∧ S = S' ∧ A = A') := by
  refine ct_ofN (own := RX7) (mn := "checkRange") rfl rfl (by decide) hfl (lv0 := [some (vI v), some (vI a), some (vI b)]) (ent_1 rfl (ent_1 rfl (ent_1 rfl ent_0))) rfl ?_
  intro J X C F FX FT FU hW hA
  refine r_iload_n C dX7_checkRange_0 lg_0 ?_
  refine r_iload_n C dX7_checkRange_1 lg_1 ?_
  refine r_iclt C (tgt := 10) dX7_checkRange_2 (by decide) (by omega) (by omega) (fun c2 => ?_) (fun c2 => ?_)
  · exact FT _ _ _ _ _ _ _ _ _ xIA "out of range" (by decide) rfl xw_IA nw_X7_78 dX7_checkRange_10 dX7_checkRange_13 dX7_checkRange_14 dX7_checkRange_16 dX7_checkRange_19 ⟨rfl, by omega, rfl, rfl⟩ (Nat.le_of_ble_eq_true rfl) (Nat.le_of_ble_eq_true rfl) (Nat.le_of_ble_eq_true rfl) (Nat.le_of_ble_eq_true rfl)
  · refine r_iload_n C dX7_checkRange_5 lg_0 ?_
    refine r_iload_n C dX7_checkRange_6 lg_2 ?_
    refine r_icle C (tgt := 20) dX7_checkRange_7 (by decide) (by omega) (by omega) (fun c7 => ?_) (fun c7 => ?_)
    · exact f_V F dX7_checkRange_20 ⟨⟨by omega, by omega⟩, rfl, rfl⟩ (Nat.le_of_ble_eq_true rfl) (Nat.le_of_ble_eq_true rfl)
    · exact FT _ _ _ _ _ _ _ _ _ xIA "out of range" (by decide) rfl xw_IA nw_X7_78 dX7_checkRange_10 dX7_checkRange_13 dX7_checkRange_14 dX7_checkRange_16 dX7_checkRange_19 ⟨rfl, by omega, rfl, rfl⟩ (Nat.le_of_ble_eq_true rfl) (Nat.le_of_ble_eq_true rfl) (Nat.le_of_ble_eq_true rfl) (Nat.le_of_ble_eq_true rfl)
set_option maxRecDepth 20000 in
theorem cB_item {G : GT} {l : Launch} (hfl : l.stackTraces = false) {S : ST} {A : AB} {item day : Int} (h1 : rI item) (h2 : rI day) : CT G l yX7_checkItemAndDay cX7_checkItemAndDay 2 none (rmk 7 2 12 112) S A [vI item, vI day] (oV fun S' A' => (akOk item day) ∧ S = S' ∧ A = A') (fun E S' A' => E = xIA ∧ (¬ akOk item day) ∧ S = S' ∧ A = A') := by
  refine ct_ofN (own := RX7) (mn := "checkItemAndDay") rfl rfl (by decide) hfl (lv0 := [some (vI item), some (vI day)]) (ent_1 rfl (ent_1 rfl ent_0)) rfl ?_
  intro J X C F FX FT FU hW hA
  refine r_iload_n C dX7_checkItemAndDay_0 lg_0 ?_
  refine r_iconst C dX7_checkItemAndDay_1 ?_
  refine r_iconst C dX7_checkItemAndDay_2 ?_
  refine r_S3V C (cB_range hfl (by omega) (by omega) (by omega)) dX7_checkItemAndDay_3 lk_X7_48 ⟨Nat.le_of_ble_eq_true rfl, Nat.le_of_ble_eq_true rfl⟩ (catLe (Nat.le_of_ble_eq_true rfl)) 1 6 ⟨rfl, rfl⟩ (Nat.le_of_ble_eq_true rfl) (Nat.le_of_ble_eq_true rfl) (fun E9 S9 A9 h9 => FX _ _ _ _ _ _ _ (by obtain ⟨rfl, h8, rfl, rfl⟩ := h9; exact ⟨rfl, fun q => h8 q.1, rfl, rfl⟩) (Nat.le_of_ble_eq_true rfl) (Nat.le_of_ble_eq_true rfl)) (fun S3 A3 p3 => ?_)
  obtain ⟨hr3, rfl, rfl⟩ := p3
  refine r_iload_n C dX7_checkItemAndDay_6 lg_1 ?_
  refine r_iconst C dX7_checkItemAndDay_7 ?_
  refine r_sipush C dX7_checkItemAndDay_8 (by decide) ?_
  refine r_S3V C (cB_range hfl (by omega) (by omega) (by omega)) dX7_checkItemAndDay_11 lk_X7_48 ⟨Nat.le_of_ble_eq_true rfl, Nat.le_of_ble_eq_true rfl⟩ (catLe (Nat.le_of_ble_eq_true rfl)) 1 6 ⟨rfl, rfl⟩ (Nat.le_of_ble_eq_true rfl) (Nat.le_of_ble_eq_true rfl) (fun E9 S9 A9 h9 => FX _ _ _ _ _ _ _ (by obtain ⟨rfl, h8, rfl, rfl⟩ := h9; exact ⟨rfl, fun q => h8 q.2, rfl, rfl⟩) (Nat.le_of_ble_eq_true rfl) (Nat.le_of_ble_eq_true rfl)) (fun S11 A11 p11 => ?_)
  obtain ⟨hr11, rfl, rfl⟩ := p11
  exact f_V F dX7_checkItemAndDay_14 ⟨⟨hr3, hr11⟩, rfl, rfl⟩ (Nat.le_of_ble_eq_true rfl) (Nat.le_of_ble_eq_true rfl)
set_option maxRecDepth 20000 in
theorem cB_open {G : GT} {l : Launch} (hfl : l.stackTraces = false) {S : ST} {A : AB} {day : Int} (hl6 : lv1 A 6 0) (h1 : rI day) : CT G l yX7_checkOpen cX7_checkOpen 2 none (rmk 6 1 6 90) S A [vR A 6 0, vI day] (oV fun S' A' => (S 198 0 < day) ∧ S = S' ∧ A = A') (fun E S' A' => E = xIS ∧ (¬ S 198 0 < day) ∧ S = S' ∧ A = A') := by
  refine ct_ofN (own := RX7) (mn := "checkOpen") rfl rfl (by decide) hfl (lv0 := [some (vR A 6 0), some (vI day)]) (ent_1 (cat_R _ _ _) (ent_1 rfl ent_0)) rfl ?_
  intro J X C F FX FT FU hW hA
  refine r_iload_n C dX7_checkOpen_0 lg_1 ?_
  refine r_aload_n C dX7_checkOpen_1 lg_0 ?_
  refine r_getI C 198 dX7_checkOpen_2 fg_X7_40_6 rfl rfl hl6 (fun g2 => ?_)
  refine r_icgt C (tgt := 18) dX7_checkOpen_5 (by decide) (by omega) (by omega) (fun c5 => ?_) (fun c5 => ?_)
  · exact f_V F dX7_checkOpen_18 ⟨by omega, rfl, rfl⟩ (Nat.le_of_ble_eq_true rfl) (Nat.le_of_ble_eq_true rfl)
  · exact FT _ _ _ _ _ _ _ _ _ xIS "the books are closed for the day" (by decide) rfl xw_IS nw_X7_98 dX7_checkOpen_8 dX7_checkOpen_11 dX7_checkOpen_12 dX7_checkOpen_14 dX7_checkOpen_17 ⟨rfl, by omega, rfl, rfl⟩ (Nat.le_of_ble_eq_true rfl) (Nat.le_of_ble_eq_true rfl) (Nat.le_of_ble_eq_true rfl) (Nat.le_of_ble_eq_true rfl)
set_option maxRecDepth 20000 in
theorem cB_posting {G : GT} {l : Launch} (hfl : l.stackTraces = false) {S : ST} {A : AB} {day : Int} (hl6 : lv1 A 6 0) (h1 : rI day) : CT G l yX7_checkPosting cX7_checkPosting 2 none (rmk 7 2 12 111) S A [vR A 6 0, vI day] (oV fun S' A' => (S 198 0 < day ∧ S 197 0 < 60) ∧ S = S' ∧ A = A') (fun E S' A' => E = xIS ∧ (¬ (S 198 0 < day ∧ S 197 0 < 60)) ∧ S = S' ∧ A = A') := by
  refine ct_ofN (own := RX7) (mn := "checkPosting") rfl rfl (by decide) hfl (lv0 := [some (vR A 6 0), some (vI day)]) (ent_1 (cat_R _ _ _) (ent_1 rfl ent_0)) rfl ?_
  intro J X C F FX FT FU hW hA
  refine r_aload_n C dX7_checkPosting_0 lg_0 ?_
  refine r_iload_n C dX7_checkPosting_1 lg_1 ?_
  refine r_V1V C (cB_open hfl hl6 (by omega)) dX7_checkPosting_2 lk_X7_124 hl6 ⟨Nat.le_of_ble_eq_true rfl, Nat.le_of_ble_eq_true rfl⟩ (catLe (Nat.le_of_ble_eq_true rfl)) 1 6 ⟨rfl, rfl⟩ (Nat.le_of_ble_eq_true rfl) (Nat.le_of_ble_eq_true rfl) (fun E9 S9 A9 h9 => FX _ _ _ _ _ _ _ (by obtain ⟨rfl, h8, rfl, rfl⟩ := h9; exact ⟨rfl, fun q => h8 q.1, rfl, rfl⟩) (Nat.le_of_ble_eq_true rfl) (Nat.le_of_ble_eq_true rfl)) (fun S2 A2 p2 => ?_)
  obtain ⟨hr2, rfl, rfl⟩ := p2
  refine r_aload_n C dX7_checkPosting_5 lg_0 ?_
  refine r_getI C 197 dX7_checkPosting_6 fg_X7_57_6 rfl rfl hl6 (fun g6 => ?_)
  refine r_bipush C dX7_checkPosting_9 (by decide) ?_
  refine r_iclt C (tgt := 24) dX7_checkPosting_11 (by decide) (by omega) (by omega) (fun c11 => ?_) (fun c11 => ?_)
  · exact f_V F dX7_checkPosting_24 ⟨⟨hr2, by omega⟩, rfl, rfl⟩ (Nat.le_of_ble_eq_true rfl) (Nat.le_of_ble_eq_true rfl)
  · exact FT _ _ _ _ _ _ _ _ _ xIS "no more movements" (by decide) rfl xw_IS nw_X7_98 dX7_checkPosting_14 dX7_checkPosting_17 dX7_checkPosting_18 dX7_checkPosting_20 dX7_checkPosting_23 ⟨rfl, by omega, rfl, rfl⟩ (Nat.le_of_ble_eq_true rfl) (Nat.le_of_ble_eq_true rfl) (Nat.le_of_ble_eq_true rfl) (Nat.le_of_ble_eq_true rfl)
set_option maxRecDepth 20000 in
theorem cB_hand {G : GT} {l : Launch} (hfl : l.stackTraces = false) {S : ST} {A : AB} {q u : Int} (h1 : rI q) (h2 : rI u) : CT G l yX7_checkOnHand cX7_checkOnHand 2 none (rmk 6 1 6 90) S A [vI q, vI u] (oV fun S' A' => (q ≤ u) ∧ S = S' ∧ A = A') (fun E S' A' => E = xIS ∧ (¬ q ≤ u) ∧ S = S' ∧ A = A') := by
  refine ct_ofN (own := RX7) (mn := "checkOnHand") rfl rfl (by decide) hfl (lv0 := [some (vI q), some (vI u)]) (ent_1 rfl (ent_1 rfl ent_0)) rfl ?_
  intro J X C F FX FT FU hW hA
  refine r_iload_n C dX7_checkOnHand_0 lg_0 ?_
  refine r_iload_n C dX7_checkOnHand_1 lg_1 ?_
  refine r_icle C (tgt := 15) dX7_checkOnHand_2 (by decide) (by omega) (by omega) (fun c2 => ?_) (fun c2 => ?_)
  · exact f_V F dX7_checkOnHand_15 ⟨by omega, rfl, rfl⟩ (Nat.le_of_ble_eq_true rfl) (Nat.le_of_ble_eq_true rfl)
  · exact FT _ _ _ _ _ _ _ _ _ xIS "the ledger would be invalid" (by decide) rfl xw_IS nw_X7_98 dX7_checkOnHand_5 dX7_checkOnHand_8 dX7_checkOnHand_9 dX7_checkOnHand_11 dX7_checkOnHand_14 ⟨rfl, by omega, rfl, rfl⟩ (Nat.le_of_ble_eq_true rfl) (Nat.le_of_ble_eq_true rfl) (Nat.le_of_ble_eq_true rfl) (Nat.le_of_ble_eq_true rfl)
set_option maxRecDepth 20000 in
theorem cB_weight {G : GT} {l : Launch} (hfl : l.stackTraces = false) {S : ST} {A : AB} {i : Int} (hl6 : lv1 A 6 0) (hl9 : lv1 A 9 0) (h196 : S 196 0 = 0) (h1 : rI i) : CT G l yX7_weightOf cX7_weightOf 2 (some .int) (rmk 0 0 0 0) S A [vR A 6 0, vI i] (oI fun z S' A' => cI (0 ≤ i ∧ i ≤ 5) (S 288 i) 0 = z ∧ S = S' ∧ A = A') (noX) := by
  refine ct_ofN (own := RX7) (mn := "weightOf") rfl rfl (by decide) hfl (lv0 := [some (vR A 6 0), some (vI i)]) (ent_1 (cat_R _ _ _) (ent_1 rfl ent_0)) rfl ?_
  intro J X C F FX FT FU hW hA
  refine r_iload_n C dX7_weightOf_0 lg_1 ?_
  refine r_iflt C (tgt := 22) dX7_weightOf_1 (by decide) (by omega) (fun c1 => ?_) (fun c1 => ?_)
  · refine r_iconst C dX7_weightOf_22 ?_
    exact f_I F dX7_weightOf_23 (by first | omega | exact g18) (by first | exact ⟨cI_t (by omega), rfl, rfl⟩ | exact ⟨cI_f (by omega), rfl, rfl⟩) (Nat.le_of_ble_eq_true rfl) (Nat.le_of_ble_eq_true rfl)
  · refine r_iload_n C dX7_weightOf_4 lg_1 ?_
    refine r_aload_n C dX7_weightOf_5 lg_0 ?_
    refine r_getA C 196 9 dX7_weightOf_6 fg_X7_36_6 rfl rfl hl6 (fun g6 => ?_)
    refine r_alen C (N := 6) dX7_weightOf_9 (by decide) rfl (by decide) (by rw [h196]; exact hl9) ?_
    refine r_icge C (tgt := 22) dX7_weightOf_10 (by decide) (by omega) (by omega) (fun c10 => ?_) (fun c10 => ?_)
    · refine r_iconst C dX7_weightOf_22 ?_
      exact f_I F dX7_weightOf_23 (by first | omega | exact g18) (by first | exact ⟨cI_t (by omega), rfl, rfl⟩ | exact ⟨cI_f (by omega), rfl, rfl⟩) (Nat.le_of_ble_eq_true rfl) (Nat.le_of_ble_eq_true rfl)
    · refine r_aload_n C dX7_weightOf_13 lg_0 ?_
      refine r_getA C 196 9 dX7_weightOf_14 fg_X7_36_6 rfl rfl hl6 (fun g14 => ?_)
      refine r_iload_n C dX7_weightOf_17 lg_1 ?_
      refine r_iald C (N := 6) 288 dX7_weightOf_18 (by decide) rfl rfl (by rw [h196]; exact hl9) (by omega) (by omega) (by omega) (fun g18 => ?_)
      refine r_goto C (tgt := 23) dX7_weightOf_19 (by decide) ?_
      exact f_I F dX7_weightOf_23 (by first | omega | exact g18) (by first | exact ⟨cI_t (by omega), rfl, rfl⟩ | exact ⟨cI_f (by omega), rfl, rfl⟩) (Nat.le_of_ble_eq_true rfl) (Nat.le_of_ble_eq_true rfl)
set_option maxRecDepth 20000 in
theorem cB_find {G : GT} {l : Launch} (hfl : l.stackTraces = false) {S : ST} {A : AB} {m : Int} {R : RW} (hCK : CK R S A) (hn : 0 ≤ R.n ∧ R.n ≤ 60) (h1 : rI m) : CT G l yX7_find cX7_find 3 (some (.object "Layerbook$Movement")) (rmk 6 1 6 90) S A [vR A 6 0, vI m] (oA 3 fun z S' A' => (z = m ∧ 0 ≤ m ∧ m < R.n) ∧ S = S' ∧ A = A') (fun E S' A' => E = xIO ∧ (¬ (0 ≤ m ∧ m < R.n)) ∧ S = S' ∧ A = A') := by
  obtain ⟨⟨hl6, l2, l0, l4, hl8, l9⟩, ⟨h192, _, _, _, _⟩, ⟨hcn, hA3, hA1⟩, hpo, _, _, _⟩ := hCK
  refine ct_ofN (own := RX7) (mn := "find") rfl rfl (by decide) hfl (lv0 := [some (vR A 6 0), some (vI m), none]) (ent_1 (cat_R _ _ _) (ent_1 rfl (ent_n ent_0))) rfl ?_
  intro J X C F FX FT FU hW hA
  refine r_iload_n C dX7_find_0 lg_1 ?_
  refine r_iflt C (tgt := 22) dX7_find_1 (by decide) (by omega) (fun c1 => ?_) (fun c1 => ?_)
  · refine r_null C 3 dX7_find_22 ?_
    refine r_astore_n C dX7_find_23 (ls1_2 (cat_R _ _ _) rfl) ?_
    refine r_aload_n C dX7_find_24 lg_2 ?_
    refine r_ifnonnull C (tgt := 38) dX7_find_25 (by decide) (fun c25 => ?_) (fun c25 => ?_)
    · refine r_aload_n C dX7_find_38 lg_2 ?_
      exact f_A F dX7_find_39 (by omega) ⟨⟨by omega, by omega, by omega⟩, rfl, rfl⟩ (Nat.le_of_ble_eq_true rfl) (Nat.le_of_ble_eq_true rfl)
    · exact FT _ _ _ _ _ _ _ _ _ xIO "there is no such movement" (by decide) rfl xw_IO nw_X7_85 dX7_find_28 dX7_find_31 dX7_find_32 dX7_find_34 dX7_find_37 ⟨rfl, by omega, rfl, rfl⟩ (Nat.le_of_ble_eq_true rfl) (Nat.le_of_ble_eq_true rfl) (Nat.le_of_ble_eq_true rfl) (Nat.le_of_ble_eq_true rfl)
  · refine r_iload_n C dX7_find_4 lg_1 ?_
    refine r_aload_n C dX7_find_5 lg_0 ?_
    refine r_getA C 192 8 dX7_find_6 fg_X7_11_6 rfl rfl hl6 (fun g6 => ?_)
    refine r_alen C (N := 60) dX7_find_9 (by decide) rfl (by decide) (by rw [h192]; exact hl8) ?_
    refine r_icge C (tgt := 22) dX7_find_10 (by decide) (by omega) (by omega) (fun c10 => ?_) (fun c10 => ?_)
    · refine r_null C 3 dX7_find_22 ?_
      refine r_astore_n C dX7_find_23 (ls1_2 (cat_R _ _ _) rfl) ?_
      refine r_aload_n C dX7_find_24 lg_2 ?_
      refine r_ifnonnull C (tgt := 38) dX7_find_25 (by decide) (fun c25 => ?_) (fun c25 => ?_)
      · refine r_aload_n C dX7_find_38 lg_2 ?_
        exact f_A F dX7_find_39 (by omega) ⟨⟨by omega, by omega, by omega⟩, rfl, rfl⟩ (Nat.le_of_ble_eq_true rfl) (Nat.le_of_ble_eq_true rfl)
      · exact FT _ _ _ _ _ _ _ _ _ xIO "there is no such movement" (by decide) rfl xw_IO nw_X7_85 dX7_find_28 dX7_find_31 dX7_find_32 dX7_find_34 dX7_find_37 ⟨rfl, by omega, rfl, rfl⟩ (Nat.le_of_ble_eq_true rfl) (Nat.le_of_ble_eq_true rfl) (Nat.le_of_ble_eq_true rfl) (Nat.le_of_ble_eq_true rfl)
    · have hp := hpo m (by omega) (by omega)
      have hp2 : (m < R.n ∧ S 256 m = m) ∨ (¬ m < R.n ∧ S 256 m = -1) := by
        by_cases hmn : m < R.n
        · rw [if_pos hmn] at hp; exact Or.inl ⟨hmn, hp⟩
        · rw [if_neg hmn] at hp; exact Or.inr ⟨hmn, hp⟩
      refine r_aload_n C dX7_find_13 lg_0 ?_
      refine r_getA C 192 8 dX7_find_14 fg_X7_11_6 rfl rfl hl6 (fun g14 => ?_)
      refine r_iload_n C dX7_find_17 lg_1 ?_
      refine r_aald C (N := 60) 256 dX7_find_18 (by decide) rfl rfl (by rw [h192]; exact hl8) (by omega) (by omega) (by omega) (fun g18 => ?_)
      refine r_goto C (tgt := 23) dX7_find_19 (by decide) ?_
      refine r_astore_n C dX7_find_23 (ls1_2 (cat_R _ _ _) rfl) ?_
      refine r_aload_n C dX7_find_24 lg_2 ?_
      refine r_ifnonnull C (tgt := 38) dX7_find_25 (by decide) (fun c25 => ?_) (fun c25 => ?_)
      · refine r_aload_n C dX7_find_38 lg_2 ?_
        exact f_A F dX7_find_39 (by omega) ⟨⟨by omega, by omega, by omega⟩, rfl, rfl⟩ (Nat.le_of_ble_eq_true rfl) (Nat.le_of_ble_eq_true rfl)
      · exact FT _ _ _ _ _ _ _ _ _ xIO "there is no such movement" (by decide) rfl xw_IO nw_X7_85 dX7_find_28 dX7_find_31 dX7_find_32 dX7_find_34 dX7_find_37 ⟨rfl, by omega, rfl, rfl⟩ (Nat.le_of_ble_eq_true rfl) (Nat.le_of_ble_eq_true rfl) (Nat.le_of_ble_eq_true rfl) (Nat.le_of_ble_eq_true rfl)
