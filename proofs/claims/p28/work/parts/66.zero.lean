/-! the class as the law sees it: PI, and the calls that throw nothing, with no room -/
abbrev QF : List Nat := [0, 1, 2, 3, 4, 5, 6, 33, 34, 35, 106, 128, 129, 130, 131, 132, 133]
noncomputable def wk (R : RW) (i d : Int) : WS := WKr R i d (fun _ => 0)
theorem wk_of (R : RW) (i d : Int) (ic : Int → Int) : (WKr R i d ic).q = (wk R i d).q ∧ (WKr R i d ic).avg = (wk R i d).avg ∧ (WKr R i d ic).rcv = (wk R i d).rcv ∧ (WKr R i d ic).i0 = (wk R i d).i0 ∧ (WKr R i d ic).i1 = (wk R i d).i1 ∧ (WKr R i d ic).v0 = (wk R i d).v0 ∧ (WKr R i d ic).v1 = (wk R i d).v1 ∧ (WKr R i d ic).e0 = (wk R i d).e0 ∧ (WKr R i d ic).e1 = (wk R i d).e1 := by
  obtain ⟨g, e⟩ := wk_ic R i d ic (fun _ => 0)
  unfold wk
  rw [e]
  exact ⟨rfl, rfl, rfl, rfl, rfl, rfl, rfl, rfl, rfl⟩
/-- the class holds these rows -/
def PI (R : RW) (S : ST) (A : AB) : Prop := CK R S A ∧ RG R ∧ RG2 R ∧ ∀ i, 0 ≤ i → i ≤ 5 → RV R i
theorem pi_fr {R : RW} {S S' : ST} {A : AB} (h : PI R S A) (hF : Fr QF S S') : PI R S' A := ⟨ck_fr h.1 hF (by decide), h.2⟩
theorem ak_r {i d : Int} (h : akOk i d) : rI i ∧ rI d := ⟨by have := h.1; omega, by have := h.2; omega⟩
set_option maxRecDepth 20000 in
theorem cZ_range {G : GT} {l : Launch} (hfl : l.stackTraces = false) {S : ST} {A : AB} {v a b : Int} (h1 : rI v) (h2 : rI a) (h3 : rI b) (h0 : a ≤ v ∧ v ≤ b) : CT G l yX7_checkRange cX7_checkRange 3 none (rmk 6 0 0 90) S A [vI v, vI a, vI b] (oV fun S' A' => S = S' ∧ A = A') (noX) := by
  refine ct_ofN (own := RX7) (mn := "checkRange") rfl rfl (by decide) hfl (lv0 := [some (vI v), some (vI a), some (vI b)]) (ent_1 rfl (ent_1 rfl (ent_1 rfl ent_0))) rfl ?_
  intro J X C F FX FT FU hW hA
  refine r_iload_n C dX7_checkRange_0 lg_0 ?_
  refine r_iload_n C dX7_checkRange_1 lg_1 ?_
  refine r_iclt C (tgt := 10) dX7_checkRange_2 (by decide) (by omega) (by omega) (fun c2 => ?_) (fun c2 => ?_)
  · exfalso; omega
  · refine r_iload_n C dX7_checkRange_5 lg_0 ?_
    refine r_iload_n C dX7_checkRange_6 lg_2 ?_
    refine r_icle C (tgt := 20) dX7_checkRange_7 (by decide) (by omega) (by omega) (fun c7 => ?_) (fun c7 => ?_)
    · exact f_V F dX7_checkRange_20 ⟨rfl, rfl⟩ (Nat.le_of_ble_eq_true rfl) (Nat.le_of_ble_eq_true rfl)
    · exfalso; omega
set_option maxRecDepth 20000 in
theorem cZ_item {G : GT} {l : Launch} (hfl : l.stackTraces = false) {S : ST} {A : AB} {item day : Int} (h0 : akOk item day) : CT G l yX7_checkItemAndDay cX7_checkItemAndDay 2 none (rmk 7 0 0 112) S A [vI item, vI day] (oV fun S' A' => S = S' ∧ A = A') (noX) := by
  obtain ⟨⟨hk1, hk2⟩, hk3, hk4⟩ := h0
  refine ct_ofN (own := RX7) (mn := "checkItemAndDay") rfl rfl (by decide) hfl (lv0 := [some (vI item), some (vI day)]) (ent_1 rfl (ent_1 rfl ent_0)) rfl ?_
  intro J X C F FX FT FU hW hA
  refine r_iload_n C dX7_checkItemAndDay_0 lg_0 ?_
  refine r_iconst C dX7_checkItemAndDay_1 ?_
  refine r_iconst C dX7_checkItemAndDay_2 ?_
  refine q_S3V C (cZ_range hfl (by omega) (by omega) (by omega) ⟨by omega, by omega⟩) dX7_checkItemAndDay_3 lk_X7_48 ⟨Nat.le_of_ble_eq_true rfl, Nat.le_of_ble_eq_true rfl⟩ (catLe (Nat.le_of_ble_eq_true rfl)) ⟨rfl, rfl⟩ rfl (Nat.le_of_ble_eq_true rfl) (Nat.le_of_ble_eq_true rfl) (fun S3 A3 p3 => ?_)
  obtain ⟨rfl, rfl⟩ := p3
  refine r_iload_n C dX7_checkItemAndDay_6 lg_1 ?_
  refine r_iconst C dX7_checkItemAndDay_7 ?_
  refine r_sipush C dX7_checkItemAndDay_8 (by decide) ?_
  refine q_S3V C (cZ_range hfl (by omega) (by omega) (by omega) ⟨by omega, by omega⟩) dX7_checkItemAndDay_11 lk_X7_48 ⟨Nat.le_of_ble_eq_true rfl, Nat.le_of_ble_eq_true rfl⟩ (catLe (Nat.le_of_ble_eq_true rfl)) ⟨rfl, rfl⟩ rfl (Nat.le_of_ble_eq_true rfl) (Nat.le_of_ble_eq_true rfl) (fun S11 A11 p11 => ?_)
  obtain ⟨rfl, rfl⟩ := p11
  exact f_V F dX7_checkItemAndDay_14 ⟨rfl, rfl⟩ (Nat.le_of_ble_eq_true rfl) (Nat.le_of_ble_eq_true rfl)
set_option maxRecDepth 20000 in
theorem cZ_find {G : GT} {l : Launch} (hfl : l.stackTraces = false) {S : ST} {A : AB} {m : Int} {R : RW} (hP : PI R S A) (hm : 0 ≤ m ∧ m < R.n) : CT G l yX7_find cX7_find 3 (some (.object "Layerbook$Movement")) (rmk 6 0 0 90) S A [vR A 6 0, vI m] (oA 3 fun z S' A' => z = m ∧ S = S' ∧ A = A') (noX) := by
  obtain ⟨hCK, hR, hR2, hV⟩ := id hP
  have hn := hR.1
  have hm0 := hm.1
  have hm1 := hm.2
  have hrow := (hCK.2.2.2.2.1 m hm.1 hm.2).1
  have hA3 : A.2 3 = R.n := hCK.2.2.1.2.1
  have hzm : lv1 A 3 m := ⟨hm.1, by omega⟩
  obtain ⟨⟨hl6, l2, l0, l4, hl8, l9⟩, ⟨h192, _, _, _, _⟩, ⟨hcn, _, hA1⟩, hpo, _, _, _⟩ := hCK
  have hp := hpo m (by omega) (by omega)
  rw [if_pos hm1] at hp
  refine ct_ofN (own := RX7) (mn := "find") rfl rfl (by decide) hfl (lv0 := [some (vR A 6 0), some (vI m), none]) (ent_1 (cat_R _ _ _) (ent_1 rfl (ent_n ent_0))) rfl ?_
  intro J X C F FX FT FU hW hA
  refine r_iload_n C dX7_find_0 lg_1 ?_
  refine r_iflt C (tgt := 22) dX7_find_1 (by decide) (by omega) (fun c1 => ?_) (fun c1 => ?_)
  · exfalso; omega
  · refine r_iload_n C dX7_find_4 lg_1 ?_
    refine r_aload_n C dX7_find_5 lg_0 ?_
    refine r_getA C 192 8 dX7_find_6 fg_X7_11_6 rfl rfl hl6 (fun g6 => ?_)
    refine r_alen C (N := 60) dX7_find_9 (by decide) rfl (by decide) (by rw [h192]; exact hl8) ?_
    refine r_icge C (tgt := 22) dX7_find_10 (by decide) (by omega) (by omega) (fun c10 => ?_) (fun c10 => ?_)
    · exfalso; omega
    · refine r_aload_n C dX7_find_13 lg_0 ?_
      refine r_getA C 192 8 dX7_find_14 fg_X7_11_6 rfl rfl hl6 (fun g14 => ?_)
      refine r_iload_n C dX7_find_17 lg_1 ?_
      refine r_aald C (N := 60) 256 dX7_find_18 (by decide) rfl rfl (by rw [h192]; exact hl8) (by omega) (by omega) (by omega) (fun g18 => ?_)
      refine r_goto C (tgt := 23) dX7_find_19 (by decide) ?_
      refine r_astore_n C dX7_find_23 (ls1_2 (cat_R _ _ _) rfl) ?_
      refine r_aload_n C dX7_find_24 lg_2 ?_
      refine r_ifnonnull C (tgt := 38) dX7_find_25 (by decide) (fun c25 => ?_) (fun c25 => ?_)
      · refine r_aload_n C dX7_find_38 lg_2 ?_
        exact f_A F dX7_find_39 (by omega) ⟨by omega, rfl, rfl⟩ (Nat.le_of_ble_eq_true rfl) (Nat.le_of_ble_eq_true rfl)
      · exfalso; omega
set_option maxRecDepth 20000 in
theorem cZ_kindOf {G : GT} {l : Launch} (hfl : l.stackTraces = false) {S : ST} {A : AB} {m : Int} {R : RW} (hP : PI R S A) (hm : 0 ≤ m ∧ m < R.n) : CT G l yX7_kindOf cX7_kindOf 2 (some .int) (rmk 7 0 0 112) S A [vR A 6 0, vI m] (oI fun z S' A' => R.kd m = z ∧ S = S' ∧ A = A') (noX) := by
  obtain ⟨hCK, hR, hR2, hV⟩ := id hP
  have hn := hR.1
  have hm0 := hm.1
  have hm1 := hm.2
  have hrow := (hCK.2.2.2.2.1 m hm.1 hm.2).1
  have hA3 : A.2 3 = R.n := hCK.2.2.1.2.1
  have hzm : lv1 A 3 m := ⟨hm.1, by omega⟩
  refine ct_ofN (own := RX7) (mn := "kindOf") rfl rfl (by decide) hfl (lv0 := [some (vR A 6 0), some (vI m)]) (ent_1 (cat_R _ _ _) (ent_1 rfl ent_0)) rfl ?_
  intro J X C F FX FT FU hW hA
  refine r_aload_n C dX7_kindOf_0 lg_0 ?_
  refine r_iload_n C dX7_kindOf_1 lg_1 ?_
  refine q_V1A C (cZ_find hfl hP hm) dX7_kindOf_2 lk_X7_111 hCK.1.1 ⟨Nat.le_of_ble_eq_true rfl, Nat.le_of_ble_eq_true rfl⟩ (catLe (Nat.le_of_ble_eq_true rfl)) ⟨rfl, rfl⟩ rfl (Nat.le_of_ble_eq_true rfl) (Nat.le_of_ble_eq_true rfl) (fun z2 S2 A2 i2 p2 => ?_)
  obtain ⟨e2, rfl, rfl⟩ := p2
  rw [e2]
  refine r_getI C 97 dX7_kindOf_5 fg_X7_127_3 rfl rfl hzm (fun g5 => ?_)
  exact f_I F dX7_kindOf_8 g5 ⟨hrow.2.1.symm, rfl, rfl⟩ (Nat.le_of_ble_eq_true rfl) (Nat.le_of_ble_eq_true rfl)
set_option maxRecDepth 20000 in
theorem cZ_dayOf {G : GT} {l : Launch} (hfl : l.stackTraces = false) {S : ST} {A : AB} {m : Int} {R : RW} (hP : PI R S A) (hm : 0 ≤ m ∧ m < R.n) : CT G l yX7_dayOf cX7_dayOf 2 (some .int) (rmk 7 0 0 112) S A [vR A 6 0, vI m] (oI fun z S' A' => R.dy m = z ∧ S = S' ∧ A = A') (noX) := by
  obtain ⟨hCK, hR, hR2, hV⟩ := id hP
  have hn := hR.1
  have hm0 := hm.1
  have hm1 := hm.2
  have hrow := (hCK.2.2.2.2.1 m hm.1 hm.2).1
  have hA3 : A.2 3 = R.n := hCK.2.2.1.2.1
  have hzm : lv1 A 3 m := ⟨hm.1, by omega⟩
  refine ct_ofN (own := RX7) (mn := "dayOf") rfl rfl (by decide) hfl (lv0 := [some (vR A 6 0), some (vI m)]) (ent_1 (cat_R _ _ _) (ent_1 rfl ent_0)) rfl ?_
  intro J X C F FX FT FU hW hA
  refine r_aload_n C dX7_dayOf_0 lg_0 ?_
  refine r_iload_n C dX7_dayOf_1 lg_1 ?_
  refine q_V1A C (cZ_find hfl hP hm) dX7_dayOf_2 lk_X7_111 hCK.1.1 ⟨Nat.le_of_ble_eq_true rfl, Nat.le_of_ble_eq_true rfl⟩ (catLe (Nat.le_of_ble_eq_true rfl)) ⟨rfl, rfl⟩ rfl (Nat.le_of_ble_eq_true rfl) (Nat.le_of_ble_eq_true rfl) (fun z2 S2 A2 i2 p2 => ?_)
  obtain ⟨e2, rfl, rfl⟩ := p2
  rw [e2]
  refine r_getI C 98 dX7_dayOf_5 fg_X7_121_3 rfl rfl hzm (fun g5 => ?_)
  exact f_I F dX7_dayOf_8 g5 ⟨hrow.2.2.1.symm, rfl, rfl⟩ (Nat.le_of_ble_eq_true rfl) (Nat.le_of_ble_eq_true rfl)
set_option maxRecDepth 20000 in
theorem cZ_isCancelled {G : GT} {l : Launch} (hfl : l.stackTraces = false) {S : ST} {A : AB} {m : Int} {R : RW} (hP : PI R S A) (hm : 0 ≤ m ∧ m < R.n) : CT G l yX7_isCancelled cX7_isCancelled 2 (some .boolean) (rmk 7 0 0 112) S A [vR A 6 0, vI m] (oZ fun z S' A' => R.gn m = z ∧ S = S' ∧ A = A') (noX) := by
  obtain ⟨hCK, hR, hR2, hV⟩ := id hP
  have hn := hR.1
  have hm0 := hm.1
  have hm1 := hm.2
  have hrow := (hCK.2.2.2.2.1 m hm.1 hm.2).1
  have hA3 : A.2 3 = R.n := hCK.2.2.1.2.1
  have hzm : lv1 A 3 m := ⟨hm.1, by omega⟩
  refine ct_ofN (own := RX7) (mn := "isCancelled") rfl rfl (by decide) hfl (lv0 := [some (vR A 6 0), some (vI m)]) (ent_1 (cat_R _ _ _) (ent_1 rfl ent_0)) rfl ?_
  intro J X C F FX FT FU hW hA
  refine r_aload_n C dX7_isCancelled_0 lg_0 ?_
  refine r_iload_n C dX7_isCancelled_1 lg_1 ?_
  refine q_V1A C (cZ_find hfl hP hm) dX7_isCancelled_2 lk_X7_111 hCK.1.1 ⟨Nat.le_of_ble_eq_true rfl, Nat.le_of_ble_eq_true rfl⟩ (catLe (Nat.le_of_ble_eq_true rfl)) ⟨rfl, rfl⟩ rfl (Nat.le_of_ble_eq_true rfl) (Nat.le_of_ble_eq_true rfl) (fun z2 S2 A2 i2 p2 => ?_)
  obtain ⟨e2, rfl, rfl⟩ := p2
  rw [e2]
  refine r_getZ C 103 dX7_isCancelled_5 fg_X7_115_3 rfl rfl hzm (fun g5 => ?_)
  exact f_Z F dX7_isCancelled_8 g5 ⟨hrow.2.2.2.2.2.2.2.1.symm, rfl, rfl⟩ (Nat.le_of_ble_eq_true rfl) (Nat.le_of_ble_eq_true rfl)
set_option maxRecDepth 20000 in
theorem cZ_movements {G : GT} {l : Launch} (hfl : l.stackTraces = false) {S : ST} {A : AB} {R : RW} (hP : PI R S A) : CT G l yX7_movements cX7_movements 1 (some .int) (rmk 0 0 0 0) S A [vR A 6 0] (oI fun z S' A' => R.n = z ∧ S = S' ∧ A = A') (noX) := by
  have hl6 := hP.1.1.1
  have h197 := hP.1.2.2.1.1
  refine ct_ofN (own := RX7) (mn := "movements") rfl rfl (by decide) hfl (lv0 := [some (vR A 6 0)]) (ent_1 (cat_R _ _ _) ent_0) rfl ?_
  intro J X C F FX FT FU hW hA
  refine r_aload_n C dX7_movements_0 lg_0 ?_
  refine r_getI C 197 dX7_movements_1 fg_X7_57_6 rfl rfl hl6 (fun g1 => ?_)
  exact f_I F dX7_movements_4 g1 ⟨h197.symm, rfl, rfl⟩ (Nat.le_of_ble_eq_true rfl) (Nat.le_of_ble_eq_true rfl)
set_option maxRecDepth 20000 in
theorem cZ_placeOf {G : GT} {l : Launch} (hfl : l.stackTraces = false) {S : ST} {A : AB} {m : Int} {R : RW} (hP : PI R S A) (hm : 0 ≤ m ∧ m < R.n) : CT G l yX7_placeOf cX7_placeOf 3 (some .int) (rmk 7 0 0 112) S A [vR A 6 0, vI m] (oI fun z S' A' => cI (R.gn m = 0) (fst m (LdR R)) (-1) = z ∧ S = S' ∧ A = A') (noX) := by
  obtain ⟨hCK, hR, hR2, hV⟩ := id hP
  have hn := hR.1
  have hm0 := hm.1
  have hm1 := hm.2
  have hrow := (hCK.2.2.2.2.1 m hm.1 hm.2).1
  have hA3 : A.2 3 = R.n := hCK.2.2.1.2.1
  have hzm : lv1 A 3 m := ⟨hm.1, by omega⟩
  have hmm := ck_mem hCK hR
  have h193 := hCK.2.1.2.1
  have h103 := hrow.2.2.2.2.2.2.2.1
  refine ct_ofN (own := RX7) (mn := "placeOf") rfl rfl (by decide) hfl (lv0 := [some (vR A 6 0), some (vI m), none]) (ent_1 (cat_R _ _ _) (ent_1 rfl (ent_n ent_0))) rfl ?_
  intro J X C F FX FT FU hW hA
  refine r_aload_n C dX7_placeOf_0 lg_0 ?_
  refine r_iload_n C dX7_placeOf_1 lg_1 ?_
  refine q_V1A C (cZ_find hfl hP hm) dX7_placeOf_2 lk_X7_111 hCK.1.1 ⟨Nat.le_of_ble_eq_true rfl, Nat.le_of_ble_eq_true rfl⟩ (catLe (Nat.le_of_ble_eq_true rfl)) ⟨rfl, rfl⟩ rfl (Nat.le_of_ble_eq_true rfl) (Nat.le_of_ble_eq_true rfl) (fun z2 S2 A2 i2 p2 => ?_)
  obtain ⟨e2, rfl, rfl⟩ := p2
  rw [e2]
  refine r_astore_n C dX7_placeOf_5 (ls1_2 (cat_R _ _ _) rfl) ?_
  refine r_aload_n C dX7_placeOf_6 lg_2 ?_
  refine r_getZ C 103 dX7_placeOf_7 fg_X7_115_3 rfl rfl hzm (fun g7 => ?_)
  refine r_ifeq C (tgt := 17) dX7_placeOf_10 (by decide) (by omega) (fun c10 => ?_) (fun c10 => ?_)
  · refine r_aload_n C dX7_placeOf_17 lg_0 ?_
    refine r_getA C 193 2 dX7_placeOf_18 fg_X7_18_6 rfl rfl hCK.1.1 (fun g18 => ?_)
    rw [h193]
    refine r_aload_n C dX7_placeOf_21 lg_2 ?_
    refine q_V1I C (cG_place hfl (L := LdR R) hCK.1.2.1 hmm.2 hCK.2.2.2.2.2.1 (fun x hx => (hmm.1 x hx).1) hzm) dX7_placeOf_22 lk_X7_144 hCK.1.2.1 ⟨Nat.le_of_ble_eq_true rfl, Nat.le_of_ble_eq_true rfl⟩ (catLe (Nat.le_of_ble_eq_true rfl)) ⟨rfl, rfl⟩ rfl (Nat.le_of_ble_eq_true rfl) (Nat.le_of_ble_eq_true rfl) (fun z22 S22 A22 i22 p22 => ?_)
    obtain ⟨rfl, rfl, rfl⟩ := p22
    exact f_I F dX7_placeOf_25 (by first | omega | exact i22) (by
      rw [← h103]
      first
      | exact ⟨cI_t c10, rfl, rfl⟩
      | exact ⟨cI_f c10, rfl, rfl⟩) (Nat.le_of_ble_eq_true rfl) (Nat.le_of_ble_eq_true rfl)
  · refine r_iconst C dX7_placeOf_13 ?_
    refine r_goto C (tgt := 25) dX7_placeOf_14 (by decide) ?_
    exact f_I F dX7_placeOf_25 (by first | omega | exact i22) (by
      rw [← h103]
      first
      | exact ⟨cI_t c10, rfl, rfl⟩
      | exact ⟨cI_f c10, rfl, rfl⟩) (Nat.le_of_ble_eq_true rfl) (Nat.le_of_ble_eq_true rfl)
set_option maxRecDepth 20000 in
theorem cZ_onHand {G : GT} {l : Launch} (hfl : l.stackTraces = false) {S : ST} {A : AB} {item day : Int} {R : RW} (hP : PI R S A) (hak : akOk item day) : CT G l yX7_onHand cX7_onHand 3 (some .int) (rmk 8 0 0 133) S A [vR A 6 0, vI item, vI day] (oI fun z S' A' => haR R item day = z ∧ S = S' ∧ A = A') (noX) := by
  obtain ⟨hCK, hR, hR2, hV⟩ := id hP
  have hmm := ck_mem hCK hR
  have h193 := hCK.2.1.2.1
  have h194 := hCK.2.1.2.2.1
  have hA1 : A.2 1 = R.n := hCK.2.2.1.2.2
  obtain ⟨hi, hd⟩ := ak_r hak
  have hvi := hV item hak.1.1 hak.1.2
  have hwk := wk_of R item day (icF S)
  refine ct_ofN (own := RX7) (mn := "onHand") rfl rfl (by decide) hfl (lv0 := [some (vR A 6 0), some (vI item), some (vI day)]) (ent_1 (cat_R _ _ _) (ent_1 rfl (ent_1 rfl ent_0))) rfl ?_
  intro J X C F FX FT FU hW hA
  refine r_iload_n C dX7_onHand_0 lg_1 ?_
  refine r_iload_n C dX7_onHand_1 lg_2 ?_
  refine q_S2V C (cZ_item hfl hak) dX7_onHand_2 lk_X7_44 ⟨Nat.le_of_ble_eq_true rfl, Nat.le_of_ble_eq_true rfl⟩ (catLe (Nat.le_of_ble_eq_true rfl)) ⟨rfl, rfl⟩ rfl (Nat.le_of_ble_eq_true rfl) (Nat.le_of_ble_eq_true rfl) (fun S2 A2 p2 => ?_)
  obtain ⟨rfl, rfl⟩ := p2
  refine r_aload_n C dX7_onHand_5 lg_0 ?_
  refine r_getA C 193 2 dX7_onHand_6 fg_X7_18_6 rfl rfl hCK.1.1 (fun g6 => ?_)
  rw [h193]
  refine r_iload_n C dX7_onHand_9 lg_1 ?_
  refine r_iload_n C dX7_onHand_10 lg_2 ?_
  refine q_V2I C (cG_units hfl (L := LdR R) hCK.1.2.1 hmm.2 hCK.2.2.2.2.2.1 hmm.1 hi hd) dX7_onHand_11 lk_X7_74 hCK.1.2.1 ⟨Nat.le_of_ble_eq_true rfl, Nat.le_of_ble_eq_true rfl⟩ (catLe (Nat.le_of_ble_eq_true rfl)) ⟨rfl, rfl⟩ rfl (Nat.le_of_ble_eq_true rfl) (Nat.le_of_ble_eq_true rfl) (fun z11 S11 A11 i11 p11 => ?_)
  obtain ⟨rfl, rfl, rfl⟩ := p11
  exact f_I F dX7_onHand_14 i11 ⟨(ck_haR hCK hR item day).symm, rfl, rfl⟩ (Nat.le_of_ble_eq_true rfl) (Nat.le_of_ble_eq_true rfl)
set_option maxRecDepth 20000 in
theorem cZ_available {G : GT} {l : Launch} (hfl : l.stackTraces = false) {S : ST} {A : AB} {item day : Int} {R : RW} (hP : PI R S A) (hak : akOk item day) : CT G l yX7_available cX7_available 3 (some .int) (rmk 8 0 0 133) S A [vR A 6 0, vI item, vI day] (oI fun z S' A' => mn 1000 (spR R item day 60) = z ∧ S = S' ∧ A = A') (noX) := by
  obtain ⟨hCK, hR, hR2, hV⟩ := id hP
  have hmm := ck_mem hCK hR
  have h193 := hCK.2.1.2.1
  have h194 := hCK.2.1.2.2.1
  have hA1 : A.2 1 = R.n := hCK.2.2.1.2.2
  obtain ⟨hi, hd⟩ := ak_r hak
  have hvi := hV item hak.1.1 hak.1.2
  have hwk := wk_of R item day (icF S)
  refine ct_ofN (own := RX7) (mn := "available") rfl rfl (by decide) hfl (lv0 := [some (vR A 6 0), some (vI item), some (vI day)]) (ent_1 (cat_R _ _ _) (ent_1 rfl (ent_1 rfl ent_0))) rfl ?_
  intro J X C F FX FT FU hW hA
  refine r_iload_n C dX7_available_0 lg_1 ?_
  refine r_iload_n C dX7_available_1 lg_2 ?_
  refine q_S2V C (cZ_item hfl hak) dX7_available_2 lk_X7_44 ⟨Nat.le_of_ble_eq_true rfl, Nat.le_of_ble_eq_true rfl⟩ (catLe (Nat.le_of_ble_eq_true rfl)) ⟨rfl, rfl⟩ rfl (Nat.le_of_ble_eq_true rfl) (Nat.le_of_ble_eq_true rfl) (fun S2 A2 p2 => ?_)
  obtain ⟨rfl, rfl⟩ := p2
  refine r_aload_n C dX7_available_5 lg_0 ?_
  refine r_getA C 193 2 dX7_available_6 fg_X7_18_6 rfl rfl hCK.1.1 (fun g6 => ?_)
  rw [h193]
  refine r_iload_n C dX7_available_9 lg_1 ?_
  refine r_iload_n C dX7_available_10 lg_2 ?_
  refine r_bipush C dX7_available_11 (by decide) ?_
  refine q_V3I C (cG_spare hfl (L := LdR R) hCK.1.2.1 hmm.2 hCK.2.2.2.2.2.1 hmm.1 hi hd (by omega)) dX7_available_13 lk_X7_67 hCK.1.2.1 ⟨Nat.le_of_ble_eq_true rfl, Nat.le_of_ble_eq_true rfl⟩ (catLe (Nat.le_of_ble_eq_true rfl)) ⟨rfl, rfl⟩ rfl (Nat.le_of_ble_eq_true rfl) (Nat.le_of_ble_eq_true rfl) (fun z13 S13 A13 i13 p13 => ?_)
  obtain ⟨rfl, rfl, rfl⟩ := p13
  refine r_sipush C dX7_available_16 (by decide) ?_
  refine r_min C dX7_available_19 lk_X7_171 wMin2 wMin3 wMin4 (Nat.le_of_ble_eq_true rfl) (Nat.le_of_ble_eq_true rfl) (Nat.le_of_ble_eq_true rfl) (Nat.le_of_ble_eq_true rfl) (by omega) (by omega) ?_
  exact f_I F dX7_available_22 (by split <;> omega) ⟨by rw [← ck_spR hCK hR item day 60]; rfl, rfl, rfl⟩ (Nat.le_of_ble_eq_true rfl) (Nat.le_of_ble_eq_true rfl)
set_option maxRecDepth 20000 in
theorem cZ_received {G : GT} {l : Launch} (hfl : l.stackTraces = false) {S : ST} {A : AB} {item day : Int} {R : RW} (hP : PI R S A) (hak : akOk item day) : CT G l yX7_received cX7_received 3 (some .long) (rmk 8 0 0 133) S A [vR A 6 0, vI item, vI day] (oJ fun z S' A' => (wk R item day).rcv = z ∧ A = A' ∧ Fr QF S S') (noX) := by
  obtain ⟨hCK, hR, hR2, hV⟩ := id hP
  have hmm := ck_mem hCK hR
  have h193 := hCK.2.1.2.1
  have h194 := hCK.2.1.2.2.1
  have hA1 : A.2 1 = R.n := hCK.2.2.1.2.2
  obtain ⟨hi, hd⟩ := ak_r hak
  have hvi := hV item hak.1.1 hak.1.2
  have hwk := wk_of R item day (icF S)
  refine ct_ofN (own := RX7) (mn := "received") rfl rfl (by decide) hfl (lv0 := [some (vR A 6 0), some (vI item), some (vI day)]) (ent_1 (cat_R _ _ _) (ent_1 rfl (ent_1 rfl ent_0))) rfl ?_
  intro J X C F FX FT FU hW hA
  refine r_iload_n C dX7_received_0 lg_1 ?_
  refine r_iload_n C dX7_received_1 lg_2 ?_
  refine q_S2V C (cZ_item hfl hak) dX7_received_2 lk_X7_44 ⟨Nat.le_of_ble_eq_true rfl, Nat.le_of_ble_eq_true rfl⟩ (catLe (Nat.le_of_ble_eq_true rfl)) ⟨rfl, rfl⟩ rfl (Nat.le_of_ble_eq_true rfl) (Nat.le_of_ble_eq_true rfl) (fun S2 A2 p2 => ?_)
  obtain ⟨rfl, rfl⟩ := p2
  refine r_aload_n C dX7_received_5 lg_0 ?_
  refine r_iload_n C dX7_received_6 lg_1 ?_
  refine r_iload_n C dX7_received_7 lg_2 ?_
  refine r_iconst C dX7_received_8 ?_
  refine q_V3A C (cB4_replayed hfl hCK hR hR2 hak.1 hd hvi (by omega) (by omega)) dX7_received_9 lk_X7_163 hCK.1.1 ⟨Nat.le_of_ble_eq_true rfl, Nat.le_of_ble_eq_true rfl⟩ (catLe (Nat.le_of_ble_eq_true rfl)) ⟨rfl, rfl⟩ rfl (Nat.le_of_ble_eq_true rfl) (Nat.le_of_ble_eq_true rfl) (fun z9 S9 A9 i9 p9 => ?_)
  obtain ⟨rfl, rfl, hF9, hv9⟩ := p9
  refine r_getJ C 129 dX7_received_12 fg_X7_182_4 rfl rfl hCK.1.2.2.2.1 (fun g12 => ?_)
  exact f_J F dX7_received_15 g12 ⟨((hv9.2.1.trans hwk.2.2.1).symm), rfl, (hF9.sub (by decide))⟩ (Nat.le_of_ble_eq_true rfl) (Nat.le_of_ble_eq_true rfl)
set_option maxRecDepth 20000 in
theorem cZ0_issued {G : GT} {l : Launch} (hfl : l.stackTraces = false) {S : ST} {A : AB} {item day y : Int} {R : RW} (hP : PI R S A) (hak : akOk item day) (hy : rI y) (hy0 : y = 0) : CT G l yX7_issued cX7_issued 4 (some .long) (rmk 8 0 0 133) S A [vR A 6 0, vI item, vI day, vI y] (oJ fun z S' A' => cI (y = 0) (wk R item day).i0 (wk R item day).i1 = z ∧ A = A' ∧ Fr QF S S') (noX) := by
  obtain ⟨hCK, hR, hR2, hV⟩ := id hP
  have hmm := ck_mem hCK hR
  have h193 := hCK.2.1.2.1
  have h194 := hCK.2.1.2.2.1
  have hA1 : A.2 1 = R.n := hCK.2.2.1.2.2
  obtain ⟨hi, hd⟩ := ak_r hak
  have hvi := hV item hak.1.1 hak.1.2
  have hwk := wk_of R item day (icF S)
  refine ct_ofN (own := RX7) (mn := "issued") rfl rfl (by decide) hfl (lv0 := [some (vR A 6 0), some (vI item), some (vI day), some (vI y)]) (ent_1 (cat_R _ _ _) (ent_1 rfl (ent_1 rfl (ent_1 rfl ent_0)))) rfl ?_
  intro J X C F FX FT FU hW hA
  refine r_iload_n C dX7_issued_0 lg_1 ?_
  refine r_iload_n C dX7_issued_1 lg_2 ?_
  refine q_S2V C (cZ_item hfl hak) dX7_issued_2 lk_X7_44 ⟨Nat.le_of_ble_eq_true rfl, Nat.le_of_ble_eq_true rfl⟩ (catLe (Nat.le_of_ble_eq_true rfl)) ⟨rfl, rfl⟩ rfl (Nat.le_of_ble_eq_true rfl) (Nat.le_of_ble_eq_true rfl) (fun S2 A2 p2 => ?_)
  obtain ⟨rfl, rfl⟩ := p2
  refine r_aload_n C dX7_issued_5 lg_0 ?_
  refine r_iload_n C dX7_issued_6 lg_1 ?_
  refine r_iload_n C dX7_issued_7 lg_2 ?_
  refine r_iload_n C dX7_issued_8 lg_3 ?_
  refine q_V3A C (cB0_replayed hfl hCK hR hR2 hak.1 hd hvi hy hy0) dX7_issued_9 lk_X7_163 hCK.1.1 ⟨Nat.le_of_ble_eq_true rfl, Nat.le_of_ble_eq_true rfl⟩ (catLe (Nat.le_of_ble_eq_true rfl)) ⟨rfl, rfl⟩ rfl (Nat.le_of_ble_eq_true rfl) (Nat.le_of_ble_eq_true rfl) (fun z9 S9 A9 i9 p9 => ?_)
  obtain ⟨rfl, rfl, hF9, hv9⟩ := p9
  refine r_getJ C 2 dX7_issued_12 fg_X7_185_0 rfl rfl hCK.1.2.2.1 (fun g12 => ?_)
  exact f_J F dX7_issued_15 g12 ⟨((cI_t hy0).trans (hv9.2.2.1.trans hwk.2.2.2.1).symm), rfl, (hF9.sub (by decide))⟩ (Nat.le_of_ble_eq_true rfl) (Nat.le_of_ble_eq_true rfl)
set_option maxRecDepth 20000 in
theorem cZ4_issued {G : GT} {l : Launch} (hfl : l.stackTraces = false) {S : ST} {A : AB} {item day y : Int} {R : RW} (hP : PI R S A) (hak : akOk item day) (hy : rI y) (hy0 : ¬ y = 0) : CT G l yX7_issued cX7_issued 4 (some .long) (rmk 8 0 0 133) S A [vR A 6 0, vI item, vI day, vI y] (oJ fun z S' A' => cI (y = 0) (wk R item day).i0 (wk R item day).i1 = z ∧ A = A' ∧ Fr QF S S') (noX) := by
  obtain ⟨hCK, hR, hR2, hV⟩ := id hP
  have hmm := ck_mem hCK hR
  have h193 := hCK.2.1.2.1
  have h194 := hCK.2.1.2.2.1
  have hA1 : A.2 1 = R.n := hCK.2.2.1.2.2
  obtain ⟨hi, hd⟩ := ak_r hak
  have hvi := hV item hak.1.1 hak.1.2
  have hwk := wk_of R item day (icF S)
  refine ct_ofN (own := RX7) (mn := "issued") rfl rfl (by decide) hfl (lv0 := [some (vR A 6 0), some (vI item), some (vI day), some (vI y)]) (ent_1 (cat_R _ _ _) (ent_1 rfl (ent_1 rfl (ent_1 rfl ent_0)))) rfl ?_
  intro J X C F FX FT FU hW hA
  refine r_iload_n C dX7_issued_0 lg_1 ?_
  refine r_iload_n C dX7_issued_1 lg_2 ?_
  refine q_S2V C (cZ_item hfl hak) dX7_issued_2 lk_X7_44 ⟨Nat.le_of_ble_eq_true rfl, Nat.le_of_ble_eq_true rfl⟩ (catLe (Nat.le_of_ble_eq_true rfl)) ⟨rfl, rfl⟩ rfl (Nat.le_of_ble_eq_true rfl) (Nat.le_of_ble_eq_true rfl) (fun S2 A2 p2 => ?_)
  obtain ⟨rfl, rfl⟩ := p2
  refine r_aload_n C dX7_issued_5 lg_0 ?_
  refine r_iload_n C dX7_issued_6 lg_1 ?_
  refine r_iload_n C dX7_issued_7 lg_2 ?_
  refine r_iload_n C dX7_issued_8 lg_3 ?_
  refine q_V3A C (cB4_replayed hfl hCK hR hR2 hak.1 hd hvi hy hy0) dX7_issued_9 lk_X7_163 hCK.1.1 ⟨Nat.le_of_ble_eq_true rfl, Nat.le_of_ble_eq_true rfl⟩ (catLe (Nat.le_of_ble_eq_true rfl)) ⟨rfl, rfl⟩ rfl (Nat.le_of_ble_eq_true rfl) (Nat.le_of_ble_eq_true rfl) (fun z9 S9 A9 i9 p9 => ?_)
  obtain ⟨rfl, rfl, hF9, hv9⟩ := p9
  refine r_getJ C 130 dX7_issued_12 fg_X7_185_4 rfl rfl hCK.1.2.2.2.1 (fun g12 => ?_)
  exact f_J F dX7_issued_15 g12 ⟨((cI_f hy0).trans (hv9.2.2.1.trans hwk.2.2.2.2.1).symm), rfl, (hF9.sub (by decide))⟩ (Nat.le_of_ble_eq_true rfl) (Nat.le_of_ble_eq_true rfl)
theorem cZ_issued {G : GT} {l : Launch} (hfl : l.stackTraces = false) {S : ST} {A : AB} {item day y : Int} {R : RW} (hP : PI R S A) (hak : akOk item day) (hy : y = 0 ∨ y = 1) : CT G l yX7_issued cX7_issued 4 (some .long) (rmk 8 0 0 133) S A [vR A 6 0, vI item, vI day, vI y] (oJ fun z S' A' => cI (y = 0) (wk R item day).i0 (wk R item day).i1 = z ∧ A = A' ∧ Fr QF S S') (noX) := by
  by_cases hy0 : y = 0
  · exact cZ0_issued hfl hP hak (rI_b hy) hy0
  · exact cZ4_issued hfl hP hak (rI_b hy) hy0
set_option maxRecDepth 20000 in
theorem cZ0_revalued {G : GT} {l : Launch} (hfl : l.stackTraces = false) {S : ST} {A : AB} {item day y : Int} {R : RW} (hP : PI R S A) (hak : akOk item day) (hy : rI y) (hy0 : y = 0) : CT G l yX7_revalued cX7_revalued 4 (some .long) (rmk 8 0 0 133) S A [vR A 6 0, vI item, vI day, vI y] (oJ fun z S' A' => cI (y = 0) (wk R item day).v0 (wk R item day).v1 = z ∧ A = A' ∧ Fr QF S S') (noX) := by
  obtain ⟨hCK, hR, hR2, hV⟩ := id hP
  have hmm := ck_mem hCK hR
  have h193 := hCK.2.1.2.1
  have h194 := hCK.2.1.2.2.1
  have hA1 : A.2 1 = R.n := hCK.2.2.1.2.2
  obtain ⟨hi, hd⟩ := ak_r hak
  have hvi := hV item hak.1.1 hak.1.2
  have hwk := wk_of R item day (icF S)
  refine ct_ofN (own := RX7) (mn := "revalued") rfl rfl (by decide) hfl (lv0 := [some (vR A 6 0), some (vI item), some (vI day), some (vI y)]) (ent_1 (cat_R _ _ _) (ent_1 rfl (ent_1 rfl (ent_1 rfl ent_0)))) rfl ?_
  intro J X C F FX FT FU hW hA
  refine r_iload_n C dX7_revalued_0 lg_1 ?_
  refine r_iload_n C dX7_revalued_1 lg_2 ?_
  refine q_S2V C (cZ_item hfl hak) dX7_revalued_2 lk_X7_44 ⟨Nat.le_of_ble_eq_true rfl, Nat.le_of_ble_eq_true rfl⟩ (catLe (Nat.le_of_ble_eq_true rfl)) ⟨rfl, rfl⟩ rfl (Nat.le_of_ble_eq_true rfl) (Nat.le_of_ble_eq_true rfl) (fun S2 A2 p2 => ?_)
  obtain ⟨rfl, rfl⟩ := p2
  refine r_aload_n C dX7_revalued_5 lg_0 ?_
  refine r_iload_n C dX7_revalued_6 lg_1 ?_
  refine r_iload_n C dX7_revalued_7 lg_2 ?_
  refine r_iload_n C dX7_revalued_8 lg_3 ?_
  refine q_V3A C (cB0_replayed hfl hCK hR hR2 hak.1 hd hvi hy hy0) dX7_revalued_9 lk_X7_163 hCK.1.1 ⟨Nat.le_of_ble_eq_true rfl, Nat.le_of_ble_eq_true rfl⟩ (catLe (Nat.le_of_ble_eq_true rfl)) ⟨rfl, rfl⟩ rfl (Nat.le_of_ble_eq_true rfl) (Nat.le_of_ble_eq_true rfl) (fun z9 S9 A9 i9 p9 => ?_)
  obtain ⟨rfl, rfl, hF9, hv9⟩ := p9
  refine r_getJ C 3 dX7_revalued_12 fg_X7_188_0 rfl rfl hCK.1.2.2.1 (fun g12 => ?_)
  exact f_J F dX7_revalued_15 g12 ⟨((cI_t hy0).trans (hv9.2.2.2.1.trans hwk.2.2.2.2.2.1).symm), rfl, (hF9.sub (by decide))⟩ (Nat.le_of_ble_eq_true rfl) (Nat.le_of_ble_eq_true rfl)
set_option maxRecDepth 20000 in
theorem cZ4_revalued {G : GT} {l : Launch} (hfl : l.stackTraces = false) {S : ST} {A : AB} {item day y : Int} {R : RW} (hP : PI R S A) (hak : akOk item day) (hy : rI y) (hy0 : ¬ y = 0) : CT G l yX7_revalued cX7_revalued 4 (some .long) (rmk 8 0 0 133) S A [vR A 6 0, vI item, vI day, vI y] (oJ fun z S' A' => cI (y = 0) (wk R item day).v0 (wk R item day).v1 = z ∧ A = A' ∧ Fr QF S S') (noX) := by
  obtain ⟨hCK, hR, hR2, hV⟩ := id hP
  have hmm := ck_mem hCK hR
  have h193 := hCK.2.1.2.1
  have h194 := hCK.2.1.2.2.1
  have hA1 : A.2 1 = R.n := hCK.2.2.1.2.2
  obtain ⟨hi, hd⟩ := ak_r hak
  have hvi := hV item hak.1.1 hak.1.2
  have hwk := wk_of R item day (icF S)
  refine ct_ofN (own := RX7) (mn := "revalued") rfl rfl (by decide) hfl (lv0 := [some (vR A 6 0), some (vI item), some (vI day), some (vI y)]) (ent_1 (cat_R _ _ _) (ent_1 rfl (ent_1 rfl (ent_1 rfl ent_0)))) rfl ?_
  intro J X C F FX FT FU hW hA
  refine r_iload_n C dX7_revalued_0 lg_1 ?_
  refine r_iload_n C dX7_revalued_1 lg_2 ?_
  refine q_S2V C (cZ_item hfl hak) dX7_revalued_2 lk_X7_44 ⟨Nat.le_of_ble_eq_true rfl, Nat.le_of_ble_eq_true rfl⟩ (catLe (Nat.le_of_ble_eq_true rfl)) ⟨rfl, rfl⟩ rfl (Nat.le_of_ble_eq_true rfl) (Nat.le_of_ble_eq_true rfl) (fun S2 A2 p2 => ?_)
  obtain ⟨rfl, rfl⟩ := p2
  refine r_aload_n C dX7_revalued_5 lg_0 ?_
  refine r_iload_n C dX7_revalued_6 lg_1 ?_
  refine r_iload_n C dX7_revalued_7 lg_2 ?_
  refine r_iload_n C dX7_revalued_8 lg_3 ?_
  refine q_V3A C (cB4_replayed hfl hCK hR hR2 hak.1 hd hvi hy hy0) dX7_revalued_9 lk_X7_163 hCK.1.1 ⟨Nat.le_of_ble_eq_true rfl, Nat.le_of_ble_eq_true rfl⟩ (catLe (Nat.le_of_ble_eq_true rfl)) ⟨rfl, rfl⟩ rfl (Nat.le_of_ble_eq_true rfl) (Nat.le_of_ble_eq_true rfl) (fun z9 S9 A9 i9 p9 => ?_)
  obtain ⟨rfl, rfl, hF9, hv9⟩ := p9
  refine r_getJ C 131 dX7_revalued_12 fg_X7_188_4 rfl rfl hCK.1.2.2.2.1 (fun g12 => ?_)
  exact f_J F dX7_revalued_15 g12 ⟨((cI_f hy0).trans (hv9.2.2.2.1.trans hwk.2.2.2.2.2.2.1).symm), rfl, (hF9.sub (by decide))⟩ (Nat.le_of_ble_eq_true rfl) (Nat.le_of_ble_eq_true rfl)
theorem cZ_revalued {G : GT} {l : Launch} (hfl : l.stackTraces = false) {S : ST} {A : AB} {item day y : Int} {R : RW} (hP : PI R S A) (hak : akOk item day) (hy : y = 0 ∨ y = 1) : CT G l yX7_revalued cX7_revalued 4 (some .long) (rmk 8 0 0 133) S A [vR A 6 0, vI item, vI day, vI y] (oJ fun z S' A' => cI (y = 0) (wk R item day).v0 (wk R item day).v1 = z ∧ A = A' ∧ Fr QF S S') (noX) := by
  by_cases hy0 : y = 0
  · exact cZ0_revalued hfl hP hak (rI_b hy) hy0
  · exact cZ4_revalued hfl hP hak (rI_b hy) hy0
set_option maxRecDepth 20000 in
theorem cZ0_expensed {G : GT} {l : Launch} (hfl : l.stackTraces = false) {S : ST} {A : AB} {item day y : Int} {R : RW} (hP : PI R S A) (hak : akOk item day) (hy : rI y) (hy0 : y = 0) : CT G l yX7_expensed cX7_expensed 4 (some .long) (rmk 8 0 0 133) S A [vR A 6 0, vI item, vI day, vI y] (oJ fun z S' A' => cI (y = 0) (wk R item day).e0 (wk R item day).e1 = z ∧ A = A' ∧ Fr QF S S') (noX) := by
  obtain ⟨hCK, hR, hR2, hV⟩ := id hP
  have hmm := ck_mem hCK hR
  have h193 := hCK.2.1.2.1
  have h194 := hCK.2.1.2.2.1
  have hA1 : A.2 1 = R.n := hCK.2.2.1.2.2
  obtain ⟨hi, hd⟩ := ak_r hak
  have hvi := hV item hak.1.1 hak.1.2
  have hwk := wk_of R item day (icF S)
  refine ct_ofN (own := RX7) (mn := "expensed") rfl rfl (by decide) hfl (lv0 := [some (vR A 6 0), some (vI item), some (vI day), some (vI y)]) (ent_1 (cat_R _ _ _) (ent_1 rfl (ent_1 rfl (ent_1 rfl ent_0)))) rfl ?_
  intro J X C F FX FT FU hW hA
  refine r_iload_n C dX7_expensed_0 lg_1 ?_
  refine r_iload_n C dX7_expensed_1 lg_2 ?_
  refine q_S2V C (cZ_item hfl hak) dX7_expensed_2 lk_X7_44 ⟨Nat.le_of_ble_eq_true rfl, Nat.le_of_ble_eq_true rfl⟩ (catLe (Nat.le_of_ble_eq_true rfl)) ⟨rfl, rfl⟩ rfl (Nat.le_of_ble_eq_true rfl) (Nat.le_of_ble_eq_true rfl) (fun S2 A2 p2 => ?_)
  obtain ⟨rfl, rfl⟩ := p2
  refine r_aload_n C dX7_expensed_5 lg_0 ?_
  refine r_iload_n C dX7_expensed_6 lg_1 ?_
  refine r_iload_n C dX7_expensed_7 lg_2 ?_
  refine r_iload_n C dX7_expensed_8 lg_3 ?_
  refine q_V3A C (cB0_replayed hfl hCK hR hR2 hak.1 hd hvi hy hy0) dX7_expensed_9 lk_X7_163 hCK.1.1 ⟨Nat.le_of_ble_eq_true rfl, Nat.le_of_ble_eq_true rfl⟩ (catLe (Nat.le_of_ble_eq_true rfl)) ⟨rfl, rfl⟩ rfl (Nat.le_of_ble_eq_true rfl) (Nat.le_of_ble_eq_true rfl) (fun z9 S9 A9 i9 p9 => ?_)
  obtain ⟨rfl, rfl, hF9, hv9⟩ := p9
  refine r_getJ C 4 dX7_expensed_12 fg_X7_191_0 rfl rfl hCK.1.2.2.1 (fun g12 => ?_)
  exact f_J F dX7_expensed_15 g12 ⟨((cI_t hy0).trans (hv9.2.2.2.2.1.trans hwk.2.2.2.2.2.2.2.1).symm), rfl, (hF9.sub (by decide))⟩ (Nat.le_of_ble_eq_true rfl) (Nat.le_of_ble_eq_true rfl)
set_option maxRecDepth 20000 in
theorem cZ4_expensed {G : GT} {l : Launch} (hfl : l.stackTraces = false) {S : ST} {A : AB} {item day y : Int} {R : RW} (hP : PI R S A) (hak : akOk item day) (hy : rI y) (hy0 : ¬ y = 0) : CT G l yX7_expensed cX7_expensed 4 (some .long) (rmk 8 0 0 133) S A [vR A 6 0, vI item, vI day, vI y] (oJ fun z S' A' => cI (y = 0) (wk R item day).e0 (wk R item day).e1 = z ∧ A = A' ∧ Fr QF S S') (noX) := by
  obtain ⟨hCK, hR, hR2, hV⟩ := id hP
  have hmm := ck_mem hCK hR
  have h193 := hCK.2.1.2.1
  have h194 := hCK.2.1.2.2.1
  have hA1 : A.2 1 = R.n := hCK.2.2.1.2.2
  obtain ⟨hi, hd⟩ := ak_r hak
  have hvi := hV item hak.1.1 hak.1.2
  have hwk := wk_of R item day (icF S)
  refine ct_ofN (own := RX7) (mn := "expensed") rfl rfl (by decide) hfl (lv0 := [some (vR A 6 0), some (vI item), some (vI day), some (vI y)]) (ent_1 (cat_R _ _ _) (ent_1 rfl (ent_1 rfl (ent_1 rfl ent_0)))) rfl ?_
  intro J X C F FX FT FU hW hA
  refine r_iload_n C dX7_expensed_0 lg_1 ?_
  refine r_iload_n C dX7_expensed_1 lg_2 ?_
  refine q_S2V C (cZ_item hfl hak) dX7_expensed_2 lk_X7_44 ⟨Nat.le_of_ble_eq_true rfl, Nat.le_of_ble_eq_true rfl⟩ (catLe (Nat.le_of_ble_eq_true rfl)) ⟨rfl, rfl⟩ rfl (Nat.le_of_ble_eq_true rfl) (Nat.le_of_ble_eq_true rfl) (fun S2 A2 p2 => ?_)
  obtain ⟨rfl, rfl⟩ := p2
  refine r_aload_n C dX7_expensed_5 lg_0 ?_
  refine r_iload_n C dX7_expensed_6 lg_1 ?_
  refine r_iload_n C dX7_expensed_7 lg_2 ?_
  refine r_iload_n C dX7_expensed_8 lg_3 ?_
  refine q_V3A C (cB4_replayed hfl hCK hR hR2 hak.1 hd hvi hy hy0) dX7_expensed_9 lk_X7_163 hCK.1.1 ⟨Nat.le_of_ble_eq_true rfl, Nat.le_of_ble_eq_true rfl⟩ (catLe (Nat.le_of_ble_eq_true rfl)) ⟨rfl, rfl⟩ rfl (Nat.le_of_ble_eq_true rfl) (Nat.le_of_ble_eq_true rfl) (fun z9 S9 A9 i9 p9 => ?_)
  obtain ⟨rfl, rfl, hF9, hv9⟩ := p9
  refine r_getJ C 132 dX7_expensed_12 fg_X7_191_4 rfl rfl hCK.1.2.2.2.1 (fun g12 => ?_)
  exact f_J F dX7_expensed_15 g12 ⟨((cI_f hy0).trans (hv9.2.2.2.2.1.trans hwk.2.2.2.2.2.2.2.2).symm), rfl, (hF9.sub (by decide))⟩ (Nat.le_of_ble_eq_true rfl) (Nat.le_of_ble_eq_true rfl)
theorem cZ_expensed {G : GT} {l : Launch} (hfl : l.stackTraces = false) {S : ST} {A : AB} {item day y : Int} {R : RW} (hP : PI R S A) (hak : akOk item day) (hy : y = 0 ∨ y = 1) : CT G l yX7_expensed cX7_expensed 4 (some .long) (rmk 8 0 0 133) S A [vR A 6 0, vI item, vI day, vI y] (oJ fun z S' A' => cI (y = 0) (wk R item day).e0 (wk R item day).e1 = z ∧ A = A' ∧ Fr QF S S') (noX) := by
  by_cases hy0 : y = 0
  · exact cZ0_expensed hfl hP hak (rI_b hy) hy0
  · exact cZ4_expensed hfl hP hak (rI_b hy) hy0
set_option maxRecDepth 20000 in
theorem cZ0_value {G : GT} {l : Launch} (hfl : l.stackTraces = false) {S : ST} {A : AB} {item day y : Int} {R : RW} (hP : PI R S A) (hak : akOk item day) (hy : rI y) (hy0 : y = 0) : CT G l yX7_value cX7_value 4 (some .long) (rmk 8 0 0 133) S A [vR A 6 0, vI item, vI day, vI y] (oJ fun z S' A' => cI (y = 0) (qc (wk R item day).q) (wk R item day).avg = z ∧ A = A' ∧ Fr QF S S') (noX) := by
  obtain ⟨hCK, hR, hR2, hV⟩ := id hP
  have hmm := ck_mem hCK hR
  have h193 := hCK.2.1.2.1
  have h194 := hCK.2.1.2.2.1
  have hA1 : A.2 1 = R.n := hCK.2.2.1.2.2
  obtain ⟨hi, hd⟩ := ak_r hak
  have hvi := hV item hak.1.1 hak.1.2
  have hwk := wk_of R item day (icF S)
  refine ct_ofN (own := RX7) (mn := "value") rfl rfl (by decide) hfl (lv0 := [some (vR A 6 0), some (vI item), some (vI day), some (vI y)]) (ent_1 (cat_R _ _ _) (ent_1 rfl (ent_1 rfl (ent_1 rfl ent_0)))) rfl ?_
  intro J X C F FX FT FU hW hA
  refine r_iload_n C dX7_value_0 lg_1 ?_
  refine r_iload_n C dX7_value_1 lg_2 ?_
  refine q_S2V C (cZ_item hfl hak) dX7_value_2 lk_X7_44 ⟨Nat.le_of_ble_eq_true rfl, Nat.le_of_ble_eq_true rfl⟩ (catLe (Nat.le_of_ble_eq_true rfl)) ⟨rfl, rfl⟩ rfl (Nat.le_of_ble_eq_true rfl) (Nat.le_of_ble_eq_true rfl) (fun S2 A2 p2 => ?_)
  obtain ⟨rfl, rfl⟩ := p2
  refine r_aload_n C dX7_value_5 lg_0 ?_
  refine r_iload_n C dX7_value_6 lg_1 ?_
  refine r_iload_n C dX7_value_7 lg_2 ?_
  refine r_iload_n C dX7_value_8 lg_3 ?_
  refine q_V3A C (cB0_replayed hfl hCK hR hR2 hak.1 hd hvi hy hy0) dX7_value_9 lk_X7_163 hCK.1.1 ⟨Nat.le_of_ble_eq_true rfl, Nat.le_of_ble_eq_true rfl⟩ (catLe (Nat.le_of_ble_eq_true rfl)) ⟨rfl, rfl⟩ rfl (Nat.le_of_ble_eq_true rfl) (Nat.le_of_ble_eq_true rfl) (fun z9 S9 A9 i9 p9 => ?_)
  obtain ⟨rfl, rfl, hF9, hv9⟩ := p9
  have hwq := wk_q (day := day) hCK hR hak.1.1 hvi (icF S)
  refine q_U0J C (cF_worth hfl hCK.1.2.2.1 hv9.2.2.2.2.2.1.1 hwq.1 hwq.2.1) dX7_value_12 lk_X7_176_0 hCK.1.2.2.1 ⟨Nat.le_of_ble_eq_true rfl, Nat.le_of_ble_eq_true rfl⟩ (catLe (Nat.le_of_ble_eq_true rfl)) ⟨rfl, rfl⟩ rfl (Nat.le_of_ble_eq_true rfl) (Nat.le_of_ble_eq_true rfl) (fun z12 S12 A12 i12 p12 => ?_)
  obtain ⟨rfl, rfl, rfl⟩ := p12
  exact f_J F dX7_value_15 i12 ⟨(cI_t hy0).trans (congrArg qc hwk.1).symm, rfl, (hF9.sub (by decide))⟩ (Nat.le_of_ble_eq_true rfl) (Nat.le_of_ble_eq_true rfl)
set_option maxRecDepth 20000 in
theorem cZ4_value {G : GT} {l : Launch} (hfl : l.stackTraces = false) {S : ST} {A : AB} {item day y : Int} {R : RW} (hP : PI R S A) (hak : akOk item day) (hy : rI y) (hy0 : ¬ y = 0) : CT G l yX7_value cX7_value 4 (some .long) (rmk 8 0 0 133) S A [vR A 6 0, vI item, vI day, vI y] (oJ fun z S' A' => cI (y = 0) (qc (wk R item day).q) (wk R item day).avg = z ∧ A = A' ∧ Fr QF S S') (noX) := by
  obtain ⟨hCK, hR, hR2, hV⟩ := id hP
  have hmm := ck_mem hCK hR
  have h193 := hCK.2.1.2.1
  have h194 := hCK.2.1.2.2.1
  have hA1 : A.2 1 = R.n := hCK.2.2.1.2.2
  obtain ⟨hi, hd⟩ := ak_r hak
  have hvi := hV item hak.1.1 hak.1.2
  have hwk := wk_of R item day (icF S)
  refine ct_ofN (own := RX7) (mn := "value") rfl rfl (by decide) hfl (lv0 := [some (vR A 6 0), some (vI item), some (vI day), some (vI y)]) (ent_1 (cat_R _ _ _) (ent_1 rfl (ent_1 rfl (ent_1 rfl ent_0)))) rfl ?_
  intro J X C F FX FT FU hW hA
  refine r_iload_n C dX7_value_0 lg_1 ?_
  refine r_iload_n C dX7_value_1 lg_2 ?_
  refine q_S2V C (cZ_item hfl hak) dX7_value_2 lk_X7_44 ⟨Nat.le_of_ble_eq_true rfl, Nat.le_of_ble_eq_true rfl⟩ (catLe (Nat.le_of_ble_eq_true rfl)) ⟨rfl, rfl⟩ rfl (Nat.le_of_ble_eq_true rfl) (Nat.le_of_ble_eq_true rfl) (fun S2 A2 p2 => ?_)
  obtain ⟨rfl, rfl⟩ := p2
  refine r_aload_n C dX7_value_5 lg_0 ?_
  refine r_iload_n C dX7_value_6 lg_1 ?_
  refine r_iload_n C dX7_value_7 lg_2 ?_
  refine r_iload_n C dX7_value_8 lg_3 ?_
  refine q_V3A C (cB4_replayed hfl hCK hR hR2 hak.1 hd hvi hy hy0) dX7_value_9 lk_X7_163 hCK.1.1 ⟨Nat.le_of_ble_eq_true rfl, Nat.le_of_ble_eq_true rfl⟩ (catLe (Nat.le_of_ble_eq_true rfl)) ⟨rfl, rfl⟩ rfl (Nat.le_of_ble_eq_true rfl) (Nat.le_of_ble_eq_true rfl) (fun z9 S9 A9 i9 p9 => ?_)
  obtain ⟨rfl, rfl, hF9, hv9⟩ := p9
  have hwq := wk_q (day := day) hCK hR hak.1.1 hvi (icF S)
  refine q_U0J C (cA_worth hfl hCK.1.2.2.2.1) dX7_value_12 lk_X7_176_4 hCK.1.2.2.2.1 ⟨Nat.le_of_ble_eq_true rfl, Nat.le_of_ble_eq_true rfl⟩ (catLe (Nat.le_of_ble_eq_true rfl)) ⟨rfl, rfl⟩ rfl (Nat.le_of_ble_eq_true rfl) (Nat.le_of_ble_eq_true rfl) (fun z12 S12 A12 i12 p12 => ?_)
  obtain ⟨rfl, rfl, rfl⟩ := p12
  exact f_J F dX7_value_15 i12 ⟨(cI_f hy0).trans (hv9.2.2.2.2.2.1.trans hwk.2.1).symm, rfl, (hF9.sub (by decide))⟩ (Nat.le_of_ble_eq_true rfl) (Nat.le_of_ble_eq_true rfl)
theorem cZ_value {G : GT} {l : Launch} (hfl : l.stackTraces = false) {S : ST} {A : AB} {item day y : Int} {R : RW} (hP : PI R S A) (hak : akOk item day) (hy : y = 0 ∨ y = 1) : CT G l yX7_value cX7_value 4 (some .long) (rmk 8 0 0 133) S A [vR A 6 0, vI item, vI day, vI y] (oJ fun z S' A' => cI (y = 0) (qc (wk R item day).q) (wk R item day).avg = z ∧ A = A' ∧ Fr QF S S') (noX) := by
  by_cases hy0 : y = 0
  · exact cZ0_value hfl hP hak (rI_b hy) hy0
  · exact cZ4_value hfl hP hak (rI_b hy) hy0
set_option maxRecDepth 20000 in
theorem cZ_layers {G : GT} {l : Launch} (hfl : l.stackTraces = false) {S : ST} {A : AB} {item day : Int} {R : RW} (hP : PI R S A) (hak : akOk item day) : CT G l yX7_layers cX7_layers 3 (some .int) (rmk 8 0 0 133) S A [vR A 6 0, vI item, vI day] (oI fun z S' A' => ((wk R item day).q.length : Int) = z ∧ A = A' ∧ Fr QF S S') (noX) := by
  obtain ⟨hCK, hR, hR2, hV⟩ := id hP
  have hmm := ck_mem hCK hR
  have h193 := hCK.2.1.2.1
  have h194 := hCK.2.1.2.2.1
  have hA1 : A.2 1 = R.n := hCK.2.2.1.2.2
  obtain ⟨hi, hd⟩ := ak_r hak
  have hvi := hV item hak.1.1 hak.1.2
  have hwk := wk_of R item day (icF S)
  refine ct_ofN (own := RX7) (mn := "layers") rfl rfl (by decide) hfl (lv0 := [some (vR A 6 0), some (vI item), some (vI day)]) (ent_1 (cat_R _ _ _) (ent_1 rfl (ent_1 rfl ent_0))) rfl ?_
  intro J X C F FX FT FU hW hA
  refine r_iload_n C dX7_layers_0 lg_1 ?_
  refine r_iload_n C dX7_layers_1 lg_2 ?_
  refine q_S2V C (cZ_item hfl hak) dX7_layers_2 lk_X7_44 ⟨Nat.le_of_ble_eq_true rfl, Nat.le_of_ble_eq_true rfl⟩ (catLe (Nat.le_of_ble_eq_true rfl)) ⟨rfl, rfl⟩ rfl (Nat.le_of_ble_eq_true rfl) (Nat.le_of_ble_eq_true rfl) (fun S2 A2 p2 => ?_)
  obtain ⟨rfl, rfl⟩ := p2
  refine r_aload_n C dX7_layers_5 lg_0 ?_
  refine r_getA C 194 0 dX7_layers_6 fg_X7_25_6 rfl rfl hCK.1.1 (fun g6 => ?_)
  rw [h194]
  refine r_aload_n C dX7_layers_9 lg_0 ?_
  refine r_getA C 193 2 dX7_layers_10 fg_X7_18_6 rfl rfl hCK.1.1 (fun g10 => ?_)
  rw [h193]
  refine r_getA C 64 3 dX7_layers_13 fg_X7_194_2 rfl rfl hCK.1.2.1 (fun g13 => ?_)
  refine r_iload_n C dX7_layers_16 lg_1 ?_
  refine r_iload_n C dX7_layers_17 lg_2 ?_
  refine q_U3V C (cV0_replay hfl hCK.1.2.2.1 hCK hR hR2 hak.1 hd hvi) dX7_layers_18 lk_X7_198_0 hCK.1.2.2.1 ⟨Nat.le_of_ble_eq_true rfl, Nat.le_of_ble_eq_true rfl⟩ (catLe (Nat.le_of_ble_eq_true rfl)) ⟨rfl, rfl⟩ rfl (Nat.le_of_ble_eq_true rfl) (Nat.le_of_ble_eq_true rfl) (fun S18 A18 p18 => ?_)
  obtain ⟨rfl, hF18, hv18⟩ := p18
  have hwq := wk_q (day := day) hCK hR hak.1.1 hvi (icF S)
  refine r_aload_n C dX7_layers_21 lg_0 ?_
  refine r_getA C 194 0 dX7_layers_22 fg_X7_25_6 rfl rfl hCK.1.1 (fun g22 => ?_)
  rw [hF18 194 0 (by decide), h194]
  refine q_V0I C (cF_length hfl hCK.1.2.2.1 hv18.2.2.2.2.2.1.1 hwq.1 hwq.2.2.1) dX7_layers_25 lk_X7_202 hCK.1.2.2.1 ⟨Nat.le_of_ble_eq_true rfl, Nat.le_of_ble_eq_true rfl⟩ (catLe (Nat.le_of_ble_eq_true rfl)) ⟨rfl, rfl⟩ rfl (Nat.le_of_ble_eq_true rfl) (Nat.le_of_ble_eq_true rfl) (fun z25 S25 A25 i25 p25 => ?_)
  obtain ⟨rfl, rfl, rfl⟩ := p25
  exact f_I F dX7_layers_28 i25 ⟨by rw [← hwk.1], rfl, hF18.sub (by decide)⟩ (Nat.le_of_ble_eq_true rfl) (Nat.le_of_ble_eq_true rfl)
set_option maxRecDepth 20000 in
theorem cZ_findLayer {G : GT} {l : Launch} (hfl : l.stackTraces = false) {S : ST} {A : AB} {item day lay : Int} {R : RW} (hP : PI R S A) (hak : akOk item day) (hl : 0 ≤ lay ∧ lay < ((wk R item day).q.length : Int)) : CT G l yX7_findLayer cX7_findLayer 5 (some (.object "Layerbook$Layer")) (rmk 8 0 0 133) S A [vR A 6 0, vI item, vI day, vI lay] (oA 1 fun z S' A' => ((0 ≤ z ∧ z < R.n) ∧ S' 33 z = (qat (wk R item day).q lay).1 ∧ S' 34 z = (qat (wk R item day).q lay).2.1 ∧ z = (qat (wk R item day).q lay).2.2) ∧ A = A' ∧ Fr QF S S') (noX) := by
  obtain ⟨hCK, hR, hR2, hV⟩ := id hP
  have hmm := ck_mem hCK hR
  have h193 := hCK.2.1.2.1
  have h194 := hCK.2.1.2.2.1
  have hA1 : A.2 1 = R.n := hCK.2.2.1.2.2
  obtain ⟨hi, hd⟩ := ak_r hak
  have hvi := hV item hak.1.1 hak.1.2
  have hwk := wk_of R item day (icF S)
  have hn := hR.1
  have hwl := (wk_q (day := day) hCK hR hak.1.1 hvi (icF S)).2.2.1
  rw [← hwk.1] at hl
  have hl0 := hl.1
  have hl1 := hl.2
  rw [← hwk.1]
  refine ct_ofN (own := RX7) (mn := "findLayer") rfl rfl (by decide) hfl (lv0 := [some (vR A 6 0), some (vI item), some (vI day), some (vI lay), none]) (ent_1 (cat_R _ _ _) (ent_1 rfl (ent_1 rfl (ent_1 rfl (ent_n ent_0))))) rfl ?_
  intro J X C F FX FT FU hW hA
  refine r_iload_n C dX7_findLayer_0 lg_1 ?_
  refine r_iload_n C dX7_findLayer_1 lg_2 ?_
  refine q_S2V C (cZ_item hfl hak) dX7_findLayer_2 lk_X7_44 ⟨Nat.le_of_ble_eq_true rfl, Nat.le_of_ble_eq_true rfl⟩ (catLe (Nat.le_of_ble_eq_true rfl)) ⟨rfl, rfl⟩ rfl (Nat.le_of_ble_eq_true rfl) (Nat.le_of_ble_eq_true rfl) (fun S2 A2 p2 => ?_)
  obtain ⟨rfl, rfl⟩ := p2
  refine r_aload_n C dX7_findLayer_5 lg_0 ?_
  refine r_getA C 194 0 dX7_findLayer_6 fg_X7_25_6 rfl rfl hCK.1.1 (fun g6 => ?_)
  rw [h194]
  refine r_aload_n C dX7_findLayer_9 lg_0 ?_
  refine r_getA C 193 2 dX7_findLayer_10 fg_X7_18_6 rfl rfl hCK.1.1 (fun g10 => ?_)
  rw [h193]
  refine r_getA C 64 3 dX7_findLayer_13 fg_X7_194_2 rfl rfl hCK.1.2.1 (fun g13 => ?_)
  refine r_iload_n C dX7_findLayer_16 lg_1 ?_
  refine r_iload_n C dX7_findLayer_17 lg_2 ?_
  refine q_U3V C (cV0_replay hfl hCK.1.2.2.1 hCK hR hR2 hak.1 hd hvi) dX7_findLayer_18 lk_X7_198_0 hCK.1.2.2.1 ⟨Nat.le_of_ble_eq_true rfl, Nat.le_of_ble_eq_true rfl⟩ (catLe (Nat.le_of_ble_eq_true rfl)) ⟨rfl, rfl⟩ rfl (Nat.le_of_ble_eq_true rfl) (Nat.le_of_ble_eq_true rfl) (fun S18 A18 p18 => ?_)
  obtain ⟨rfl, hF18, hv18⟩ := p18
  have hwq := wk_q (day := day) hCK hR hak.1.1 hvi (icF S)
  refine r_aload_n C dX7_findLayer_21 lg_0 ?_
  refine r_getA C 194 0 dX7_findLayer_22 fg_X7_25_6 rfl rfl hCK.1.1 (fun g22 => ?_)
  rw [hF18 194 0 (by decide), h194]
  refine r_iload_n C dX7_findLayer_25 lg_3 ?_
  refine q_V1A C (cF_at hfl hCK.1.2.2.1 hv18.2.2.2.2.2.1.1 hwq.1 hwq.2.2.1 (by omega)) dX7_findLayer_26 lk_X7_248 hCK.1.2.2.1 ⟨Nat.le_of_ble_eq_true rfl, Nat.le_of_ble_eq_true rfl⟩ (catLe (Nat.le_of_ble_eq_true rfl)) ⟨rfl, rfl⟩ rfl (Nat.le_of_ble_eq_true rfl) (Nat.le_of_ble_eq_true rfl) (fun z26 S26 A26 i26 p26 => ?_)
  obtain ⟨h26, rfl, rfl⟩ := p26
  refine r_astore C dX7_findLayer_29 (ls1_4 (cat_R _ _ _) rfl) ?_
  refine r_aload C dX7_findLayer_31 lg_4 ?_
  refine r_ifnonnull C (tgt := 46) dX7_findLayer_33 (by decide) (fun c33 => ?_) (fun c33 => ?_)
  · rcases h26 with ⟨q1, q2⟩ | ⟨q1, q2, q3, q4, q5, q6⟩
    · exfalso; omega
    refine r_aload C dX7_findLayer_46 lg_4 ?_
    exact f_A F dX7_findLayer_48 (by omega) ⟨⟨⟨q3.1, by omega⟩, q4, q5, q6⟩, rfl, hF18.sub (by decide)⟩ (Nat.le_of_ble_eq_true rfl) (Nat.le_of_ble_eq_true rfl)
  · exact absurd c33 (by rcases h26 with ⟨q1, q2⟩ | ⟨q1, q2, q3, q4, q5, q6⟩ <;> omega)
set_option maxRecDepth 20000 in
theorem cZ_layerQuantity {G : GT} {l : Launch} (hfl : l.stackTraces = false) {S : ST} {A : AB} {item day lay : Int} {R : RW} (hP : PI R S A) (hak : akOk item day) (hl : 0 ≤ lay ∧ lay < ((wk R item day).q.length : Int)) : CT G l yX7_layerQuantity cX7_layerQuantity 4 (some .int) (rmk 9 0 0 157) S A [vR A 6 0, vI item, vI day, vI lay] (oI fun z S' A' => (qat (wk R item day).q lay).1 = z ∧ A = A' ∧ Fr QF S S') (noX) := by
  obtain ⟨hCK, hR, hR2, hV⟩ := id hP
  have hmm := ck_mem hCK hR
  have h193 := hCK.2.1.2.1
  have h194 := hCK.2.1.2.2.1
  have hA1 : A.2 1 = R.n := hCK.2.2.1.2.2
  obtain ⟨hi, hd⟩ := ak_r hak
  have hvi := hV item hak.1.1 hak.1.2
  have hwk := wk_of R item day (icF S)
  refine ct_ofN (own := RX7) (mn := "layerQuantity") rfl rfl (by decide) hfl (lv0 := [some (vR A 6 0), some (vI item), some (vI day), some (vI lay)]) (ent_1 (cat_R _ _ _) (ent_1 rfl (ent_1 rfl (ent_1 rfl ent_0)))) rfl ?_
  intro J X C F FX FT FU hW hA
  refine r_aload_n C dX7_layerQuantity_0 lg_0 ?_
  refine r_iload_n C dX7_layerQuantity_1 lg_1 ?_
  refine r_iload_n C dX7_layerQuantity_2 lg_2 ?_
  refine r_iload_n C dX7_layerQuantity_3 lg_3 ?_
  refine q_V3A C (cZ_findLayer hfl hP hak hl) dX7_layerQuantity_4 lk_X7_206 hCK.1.1 ⟨Nat.le_of_ble_eq_true rfl, Nat.le_of_ble_eq_true rfl⟩ (catLe (Nat.le_of_ble_eq_true rfl)) ⟨rfl, rfl⟩ rfl (Nat.le_of_ble_eq_true rfl) (Nat.le_of_ble_eq_true rfl) (fun z4 S4 A4 i4 p4 => ?_)
  obtain ⟨⟨hz4, q14, q24, q34⟩, rfl, hF4⟩ := p4
  refine r_getI C 33 dX7_layerQuantity_7 fg_X7_210_1 rfl rfl ⟨hz4.1, by omega⟩ (fun g7 => ?_)
  exact f_I F dX7_layerQuantity_10 g7 ⟨q14.symm, rfl, hF4⟩ (Nat.le_of_ble_eq_true rfl) (Nat.le_of_ble_eq_true rfl)
set_option maxRecDepth 20000 in
theorem cZ_layerCost {G : GT} {l : Launch} (hfl : l.stackTraces = false) {S : ST} {A : AB} {item day lay : Int} {R : RW} (hP : PI R S A) (hak : akOk item day) (hl : 0 ≤ lay ∧ lay < ((wk R item day).q.length : Int)) : CT G l yX7_layerCost cX7_layerCost 4 (some .long) (rmk 9 0 0 157) S A [vR A 6 0, vI item, vI day, vI lay] (oJ fun z S' A' => (qat (wk R item day).q lay).2.1 = z ∧ A = A' ∧ Fr QF S S') (noX) := by
  obtain ⟨hCK, hR, hR2, hV⟩ := id hP
  have hmm := ck_mem hCK hR
  have h193 := hCK.2.1.2.1
  have h194 := hCK.2.1.2.2.1
  have hA1 : A.2 1 = R.n := hCK.2.2.1.2.2
  obtain ⟨hi, hd⟩ := ak_r hak
  have hvi := hV item hak.1.1 hak.1.2
  have hwk := wk_of R item day (icF S)
  refine ct_ofN (own := RX7) (mn := "layerCost") rfl rfl (by decide) hfl (lv0 := [some (vR A 6 0), some (vI item), some (vI day), some (vI lay)]) (ent_1 (cat_R _ _ _) (ent_1 rfl (ent_1 rfl (ent_1 rfl ent_0)))) rfl ?_
  intro J X C F FX FT FU hW hA
  refine r_aload_n C dX7_layerCost_0 lg_0 ?_
  refine r_iload_n C dX7_layerCost_1 lg_1 ?_
  refine r_iload_n C dX7_layerCost_2 lg_2 ?_
  refine r_iload_n C dX7_layerCost_3 lg_3 ?_
  refine q_V3A C (cZ_findLayer hfl hP hak hl) dX7_layerCost_4 lk_X7_206 hCK.1.1 ⟨Nat.le_of_ble_eq_true rfl, Nat.le_of_ble_eq_true rfl⟩ (catLe (Nat.le_of_ble_eq_true rfl)) ⟨rfl, rfl⟩ rfl (Nat.le_of_ble_eq_true rfl) (Nat.le_of_ble_eq_true rfl) (fun z4 S4 A4 i4 p4 => ?_)
  obtain ⟨⟨hz4, q14, q24, q34⟩, rfl, hF4⟩ := p4
  refine r_getJ C 34 dX7_layerCost_7 fg_X7_214_1 rfl rfl ⟨hz4.1, by omega⟩ (fun g7 => ?_)
  exact f_J F dX7_layerCost_10 g7 ⟨q24.symm, rfl, hF4⟩ (Nat.le_of_ble_eq_true rfl) (Nat.le_of_ble_eq_true rfl)
set_option maxRecDepth 20000 in
theorem cZ_layerOrigin {G : GT} {l : Launch} (hfl : l.stackTraces = false) {S : ST} {A : AB} {item day lay : Int} {R : RW} (hP : PI R S A) (hak : akOk item day) (hl : 0 ≤ lay ∧ lay < ((wk R item day).q.length : Int)) : CT G l yX7_layerOrigin cX7_layerOrigin 4 (some .int) (rmk 9 0 0 157) S A [vR A 6 0, vI item, vI day, vI lay] (oI fun z S' A' => (qat (wk R item day).q lay).2.2 = z ∧ A = A' ∧ Fr QF S S') (noX) := by
  obtain ⟨hCK, hR, hR2, hV⟩ := id hP
  have hmm := ck_mem hCK hR
  have h193 := hCK.2.1.2.1
  have h194 := hCK.2.1.2.2.1
  have hA1 : A.2 1 = R.n := hCK.2.2.1.2.2
  obtain ⟨hi, hd⟩ := ak_r hak
  have hvi := hV item hak.1.1 hak.1.2
  have hwk := wk_of R item day (icF S)
  refine ct_ofN (own := RX7) (mn := "layerOrigin") rfl rfl (by decide) hfl (lv0 := [some (vR A 6 0), some (vI item), some (vI day), some (vI lay)]) (ent_1 (cat_R _ _ _) (ent_1 rfl (ent_1 rfl (ent_1 rfl ent_0)))) rfl ?_
  intro J X C F FX FT FU hW hA
  refine r_aload_n C dX7_layerOrigin_0 lg_0 ?_
  refine r_iload_n C dX7_layerOrigin_1 lg_1 ?_
  refine r_iload_n C dX7_layerOrigin_2 lg_2 ?_
  refine r_iload_n C dX7_layerOrigin_3 lg_3 ?_
  refine q_V3A C (cZ_findLayer hfl hP hak hl) dX7_layerOrigin_4 lk_X7_206 hCK.1.1 ⟨Nat.le_of_ble_eq_true rfl, Nat.le_of_ble_eq_true rfl⟩ (catLe (Nat.le_of_ble_eq_true rfl)) ⟨rfl, rfl⟩ rfl (Nat.le_of_ble_eq_true rfl) (Nat.le_of_ble_eq_true rfl) (fun z4 S4 A4 i4 p4 => ?_)
  obtain ⟨⟨hz4, q14, q24, q34⟩, rfl, hF4⟩ := p4
  refine r_getI C 32 dX7_layerOrigin_7 fg_X7_217_1 rfl rfl ⟨hz4.1, by omega⟩ (fun g7 => ?_)
  exact f_I F dX7_layerOrigin_10 g7 ⟨(q34.symm.trans (((hF4 32 z4 (by decide)).trans (hCK.2.2.2.2.1 z4 hz4.1 hz4.2).1.2.2.2.2.2.2.2.2).symm)), rfl, hF4⟩ (Nat.le_of_ble_eq_true rfl) (Nat.le_of_ble_eq_true rfl)
