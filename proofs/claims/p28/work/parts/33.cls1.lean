/-! the class: its small methods and the ledger -/
/-- a chain through next -/
def CH (nx : Int → Int) : Int → List Int → Prop
  | s, [] => s = -1
  | s, x :: t => s = x ∧ CH nx (nx x) t
def dA (S : ST) (i m : Int) : Int := chg (S 97) (S 99) (S 100) i m
set_option maxRecDepth 20000 in
theorem cY_fill {G : GT} {l : Launch} (hfl : l.stackTraces = false) {S : ST} {A : AB} {z u c x : Int} (hz : lv1 A 1 z) (hu : rI u) (hc : rL c) (hx : rL x) (hx2 : x < A.2 1) : CT G l yX1_fill cX1_fill 5 none (rmk 0 0 0 0) S A [vR A 1 z, vI u, vL c, vR A 1 x] (oV fun S' A' => upS (upS (upS S 33 z u) 34 z c) 35 z x = S' ∧ A = A') (noX) := by
  refine ct_ofN (own := RX1) (mn := "fill") rfl rfl (by decide) hfl (lv0 := [some (vR A 1 z), some (vI u), some (vL c), none, some (vR A 1 x)]) (ent_1 (cat_R _ _ _) (ent_1 rfl (ent_2 rfl (ent_1 (cat_R _ _ _) ent_0)))) rfl ?_
  intro J X C F FX FT FU hW hA
  refine r_aload_n C dX1_fill_0 lg_0 ?_
  refine r_iload_n C dX1_fill_1 lg_1 ?_
  refine r_putI C 33 dX1_fill_2 fg_X1_13_1 rfl rfl hz (fun q h => by cases h; exact Or.inl rfl) (by omega) ?_
  refine r_aload_n C dX1_fill_5 lg_0 ?_
  refine r_lload_n C dX1_fill_6 lg_2 ?_
  refine r_putJ C 34 dX1_fill_7 fg_X1_16_1 rfl rfl hz (fun q h => by cases h; exact Or.inl rfl) (by omega) ?_
  refine r_aload_n C dX1_fill_10 lg_0 ?_
  refine r_aload C dX1_fill_11 lg_4 ?_
  refine r_putA C 35 1 dX1_fill_13 fg_X1_20_1 rfl rfl hz (fun q h => by cases h; exact Or.inl rfl) (by omega) (by omega) ?_
  exact f_V F dX1_fill_16 ⟨rfl, rfl⟩ (Nat.le_of_ble_eq_true rfl) (Nat.le_of_ble_eq_true rfl)
set_option maxRecDepth 20000 in
theorem cY_take {G : GT} {l : Launch} (hfl : l.stackTraces = false) {S : ST} {A : AB} {z w : Int} (hz : lv1 A 1 z) (hu : 0 < S 33 z ∧ S 33 z ≤ 1000) (hw : 0 ≤ w ∧ w ≤ S 33 z) (hc : 0 ≤ S 34 z ∧ S 34 z ≤ 1000000000000000) : CT G l yX1_take cX1_take 4 (some .long) (rmk 0 0 0 0) S A [vR A 1 z, vI w] (oJ fun r S' A' => S 34 z * w / S 33 z = r ∧ upS (upS S 33 z (S 33 z - w)) 34 z (S 34 z - S 34 z * w / S 33 z) = S' ∧ A = A') (noX) := by
  have h1 := mul_b (a := S 34 z) (b := w) (x := 1000000000000000) (y := 1000) hc.1 hc.2 hw.1 (by omega)
  have h2 := quo_b (a := S 34 z) (b := w) (s := S 33 z) hc.1 hw.1 hu.1 hw.2
  refine ct_ofN (own := RX1) (mn := "take") rfl rfl (by decide) hfl (lv0 := [some (vR A 1 z), some (vI w), none, none]) (ent_1 (cat_R _ _ _) (ent_1 rfl (ent_n (ent_n ent_0)))) rfl ?_
  intro J X C F FX FT FU hW hA
  refine r_aload_n C dX1_take_0 lg_0 ?_
  refine r_getI C 33 dX1_take_1 fg_X1_13_1 rfl rfl hz (fun g1 => ?_)
  refine r_ifle C (tgt := 23) dX1_take_4 (by decide) (by omega) (fun c4 => ?_) (fun c4 => ?_)
  · exfalso; omega
  · refine r_aload_n C dX1_take_7 lg_0 ?_
    refine r_getJ C 34 dX1_take_8 fg_X1_16_1 rfl rfl hz (fun g8 => ?_)
    refine r_iload_n C dX1_take_11 lg_1 ?_
    refine r_i2l C dX1_take_12 (by omega) ?_
    refine r_lmul C dX1_take_13 ?_
    refine r_aload_n C dX1_take_14 lg_0 ?_
    refine r_getI C 33 dX1_take_15 fg_X1_13_1 rfl rfl hz (fun g15 => ?_)
    refine r_i2l C dX1_take_18 (by omega) ?_
    refine r_ldiv C dX1_take_19 (by omega) (by omega) (by omega) (by omega) ?_
    refine r_goto C (tgt := 24) dX1_take_20 (by decide) ?_
    refine r_lstore_n C dX1_take_24 (ls2_2 rfl rfl) ?_
    refine r_aload_n C dX1_take_25 lg_0 ?_
    refine r_dup C dX1_take_26 (cat_R _ _ _) ?_
    refine r_getI C 33 dX1_take_27 fg_X1_13_1 rfl rfl hz (fun g27 => ?_)
    refine r_iload_n C dX1_take_30 lg_1 ?_
    refine r_isub C dX1_take_31 ?_
    refine r_putI C 33 dX1_take_32 fg_X1_13_1 rfl rfl hz (fun q h => by cases h; exact Or.inl rfl) (by omega) ?_
    refine r_aload_n C dX1_take_35 lg_0 ?_
    refine r_dup C dX1_take_36 (cat_R _ _ _) ?_
    refine r_getJ C 34 dX1_take_37 fg_X1_16_1 rfl rfl hz (fun g37 => ?_)
    rw [upS_c _ _ (by decide)]
    refine r_lload_n C dX1_take_40 lg_2 ?_
    refine r_lsub C dX1_take_41 ?_
    refine r_putJ C 34 dX1_take_42 fg_X1_16_1 rfl rfl hz (fun q h => by cases h; exact Or.inl rfl) (by omega) ?_
    refine r_lload_n C dX1_take_45 lg_2 ?_
    exact f_J F dX1_take_46 (by omega) ⟨rfl, rfl, rfl⟩ (Nat.le_of_ble_eq_true rfl) (Nat.le_of_ble_eq_true rfl)
set_option maxRecDepth 20000 in
theorem cV_change {G : GT} {l : Launch} (hfl : l.stackTraces = false) {S : ST} {A : AB} {m : Int} (hz : lv1 A 3 m) (hq : 0 ≤ S 100 m ∧ S 100 m ≤ 1000) : CT G l yX3_change cX3_change 1 (some .int) (rmk 0 0 0 0) S A [vR A 3 m] (oI fun z S' A' => dlt (S 97) (S 100) m = z ∧ S = S' ∧ A = A') (noX) := by
  refine ct_ofN (own := RX3) (mn := "change") rfl rfl (by decide) hfl (lv0 := [some (vR A 3 m)]) (ent_1 (cat_R _ _ _) ent_0) rfl ?_
  intro J X C F FX FT FU hW hA
  refine r_aload_n C dX3_change_0 lg_0 ?_
  refine r_getI C 97 dX3_change_1 fg_X3_15_3 rfl rfl hz (fun g1 => ?_)
  refine r_ifne C (tgt := 12) dX3_change_4 (by decide) (by omega) (fun c4 => ?_) (fun c4 => ?_)
  · refine r_aload_n C dX3_change_12 lg_0 ?_
    refine r_getI C 97 dX3_change_13 fg_X3_15_3 rfl rfl hz (fun g13 => ?_)
    refine r_iconst C dX3_change_16 ?_
    refine r_icne C (tgt := 28) dX3_change_17 (by decide) (by omega) (by omega) (fun c17 => ?_) (fun c17 => ?_)
    · refine r_iconst C dX3_change_28 ?_
      exact f_I F dX3_change_29 (by omega) ⟨by unfold dlt; split <;> (try split) <;> omega, rfl, rfl⟩ (Nat.le_of_ble_eq_true rfl) (Nat.le_of_ble_eq_true rfl)
    · refine r_aload_n C dX3_change_20 lg_0 ?_
      refine r_getI C 100 dX3_change_21 fg_X3_24_3 rfl rfl hz (fun g21 => ?_)
      refine r_ineg C dX3_change_24 ?_
      refine r_goto C (tgt := 29) dX3_change_25 (by decide) ?_
      exact f_I F dX3_change_29 (by omega) ⟨by unfold dlt; split <;> (try split) <;> omega, rfl, rfl⟩ (Nat.le_of_ble_eq_true rfl) (Nat.le_of_ble_eq_true rfl)
  · refine r_aload_n C dX3_change_7 lg_0 ?_
    refine r_getI C 100 dX3_change_8 fg_X3_24_3 rfl rfl hz (fun g8 => ?_)
    exact f_I F dX3_change_11 (by omega) ⟨by unfold dlt; split <;> (try split) <;> omega, rfl, rfl⟩ (Nat.le_of_ble_eq_true rfl) (Nat.le_of_ble_eq_true rfl)
set_option maxRecDepth 20000 in
theorem cV_needs {G : GT} {l : Launch} (hfl : l.stackTraces = false) {S : ST} {A : AB} {m : Int} (hz : lv1 A 3 m) : CT G l yX3_needsUnits cX3_needsUnits 1 (some .boolean) (rmk 0 0 0 0) S A [vR A 3 m] (oZ fun z S' A' => b2i (S 97 m = 1 ∨ S 97 m = 2) = z ∧ S = S' ∧ A = A') (noX) := by
  refine ct_ofN (own := RX3) (mn := "needsUnits") rfl rfl (by decide) hfl (lv0 := [some (vR A 3 m)]) (ent_1 (cat_R _ _ _) ent_0) rfl ?_
  intro J X C F FX FT FU hW hA
  refine r_aload_n C dX3_needsUnits_0 lg_0 ?_
  refine r_getI C 97 dX3_needsUnits_1 fg_X3_15_3 rfl rfl hz (fun g1 => ?_)
  refine r_iconst C dX3_needsUnits_4 ?_
  refine r_iceq C (tgt := 16) dX3_needsUnits_5 (by decide) (by omega) (by omega) (fun c5 => ?_) (fun c5 => ?_)
  · refine r_iconst C dX3_needsUnits_16 ?_
    refine r_goto C (tgt := 21) dX3_needsUnits_17 (by decide) ?_
    exact f_Z F dX3_needsUnits_21 (by omega) ⟨by unfold b2i; split <;> omega, rfl, rfl⟩ (Nat.le_of_ble_eq_true rfl) (Nat.le_of_ble_eq_true rfl)
  · refine r_aload_n C dX3_needsUnits_8 lg_0 ?_
    refine r_getI C 97 dX3_needsUnits_9 fg_X3_15_3 rfl rfl hz (fun g9 => ?_)
    refine r_iconst C dX3_needsUnits_12 ?_
    refine r_icne C (tgt := 20) dX3_needsUnits_13 (by decide) (by omega) (by omega) (fun c13 => ?_) (fun c13 => ?_)
    · refine r_iconst C dX3_needsUnits_20 ?_
      exact f_Z F dX3_needsUnits_21 (by omega) ⟨by unfold b2i; split <;> omega, rfl, rfl⟩ (Nat.le_of_ble_eq_true rfl) (Nat.le_of_ble_eq_true rfl)
    · refine r_iconst C dX3_needsUnits_16 ?_
      refine r_goto C (tgt := 21) dX3_needsUnits_17 (by decide) ?_
      exact f_Z F dX3_needsUnits_21 (by omega) ⟨by unfold b2i; split <;> omega, rfl, rfl⟩ (Nat.le_of_ble_eq_true rfl) (Nat.le_of_ble_eq_true rfl)
set_option maxRecDepth 20000 in
theorem cV_behind {G : GT} {l : Launch} (hfl : l.stackTraces = false) {S : ST} {A : AB} {m d n : Int} (hz : lv1 A 3 m) (hd : rI d) (hn : rI n) : CT G l yX3_isBehind cX3_isBehind 3 (some .boolean) (rmk 0 0 0 0) S A [vR A 3 m, vI d, vI n] (oZ fun z S' A' => b2i (d < S 98 m ∨ (d = S 98 m ∧ n < S 96 m)) = z ∧ S = S' ∧ A = A') (noX) := by
  refine ct_ofN (own := RX3) (mn := "isBehind") rfl rfl (by decide) hfl (lv0 := [some (vR A 3 m), some (vI d), some (vI n)]) (ent_1 (cat_R _ _ _) (ent_1 rfl (ent_1 rfl ent_0))) rfl ?_
  intro J X C F FX FT FU hW hA
  refine r_aload_n C dX3_isBehind_0 lg_0 ?_
  refine r_getI C 98 dX3_isBehind_1 fg_X3_18_3 rfl rfl hz (fun g1 => ?_)
  refine r_iload_n C dX3_isBehind_4 lg_1 ?_
  refine r_icgt C (tgt := 24) dX3_isBehind_5 (by decide) (by omega) (by omega) (fun c5 => ?_) (fun c5 => ?_)
  · refine r_iconst C dX3_isBehind_24 ?_
    refine r_goto C (tgt := 29) dX3_isBehind_25 (by decide) ?_
    exact f_Z F dX3_isBehind_29 (by omega) ⟨by unfold b2i; split <;> omega, rfl, rfl⟩ (Nat.le_of_ble_eq_true rfl) (Nat.le_of_ble_eq_true rfl)
  · refine r_aload_n C dX3_isBehind_8 lg_0 ?_
    refine r_getI C 98 dX3_isBehind_9 fg_X3_18_3 rfl rfl hz (fun g9 => ?_)
    refine r_iload_n C dX3_isBehind_12 lg_1 ?_
    refine r_icne C (tgt := 28) dX3_isBehind_13 (by decide) (by omega) (by omega) (fun c13 => ?_) (fun c13 => ?_)
    · refine r_iconst C dX3_isBehind_28 ?_
      exact f_Z F dX3_isBehind_29 (by omega) ⟨by unfold b2i; split <;> omega, rfl, rfl⟩ (Nat.le_of_ble_eq_true rfl) (Nat.le_of_ble_eq_true rfl)
    · refine r_aload_n C dX3_isBehind_16 lg_0 ?_
      refine r_getI C 96 dX3_isBehind_17 fg_X3_9_3 rfl rfl hz (fun g17 => ?_)
      refine r_iload_n C dX3_isBehind_20 lg_2 ?_
      refine r_icle C (tgt := 28) dX3_isBehind_21 (by decide) (by omega) (by omega) (fun c21 => ?_) (fun c21 => ?_)
      · refine r_iconst C dX3_isBehind_28 ?_
        exact f_Z F dX3_isBehind_29 (by omega) ⟨by unfold b2i; split <;> omega, rfl, rfl⟩ (Nat.le_of_ble_eq_true rfl) (Nat.le_of_ble_eq_true rfl)
      · refine r_iconst C dX3_isBehind_24 ?_
        refine r_goto C (tgt := 29) dX3_isBehind_25 (by decide) ?_
        exact f_Z F dX3_isBehind_29 (by omega) ⟨by unfold b2i; split <;> omega, rfl, rfl⟩ (Nat.le_of_ble_eq_true rfl) (Nat.le_of_ble_eq_true rfl)
set_option maxRecDepth 20000 in
theorem cG_units {G : GT} {l : Launch} (hfl : l.stackTraces = false) {S : ST} {A : AB} {item day : Int} {L : List Int} (hl2 : lv1 A 2 0) (hlen : L.length ≤ 60) (hch : CH (S 104) (S 64 0) L) (hL : ∀ x ∈ L, (0 ≤ x ∧ x < A.2 3) ∧ 0 ≤ S 100 x ∧ S 100 x ≤ 1000) (hi : rI item) (hd : rI day) : CT G l yX2_units cX2_units 5 (some .int) (rmk 1 0 0 20) S A [vR A 2 0, vI item, vI day] (oI fun z S' A' => hAt (S 98) (dA S item) day L 0 = z ∧ S = S' ∧ A = A') (noX) := by
  refine ct_ofN (own := RX2) (mn := "units") rfl rfl (by decide) hfl (lv0 := [some (vR A 2 0), some (vI item), some (vI day), none, none]) (ent_1 (cat_R _ _ _) (ent_1 rfl (ent_1 rfl (ent_n (ent_n ent_0))))) rfl ?_
  intro J X C F FX FT FU hW hA
  have lp : ∀ (b : List Int) (s u : Int) (hs : CH (S 104) s b) (hb : ∀ x ∈ b, (0 ≤ x ∧ x < A.2 3) ∧ 0 ≤ S 100 x ∧ S 100 x ≤ 1000) (hu : -(1000 * (60 - (b.length : Int))) ≤ u ∧ u ≤ 1000 * (60 - (b.length : Int))) (hl9 : b.length ≤ 60) (hG : hAt (S 98) (dA S item) day b u = hAt (S 98) (dA S item) day L 0), J 8 [some (vR A 2 0), some (vI item), some (vI day), some (vI u), some (vR A 3 s)] [] S A 0 0 := by
    intro b
    induction b with
    | nil =>
      intro s u hs hb hu hl9 hG
      have hs : s = -1 := hs
      refine r_aload C dX2_units_8 lg_4 ?_
      refine r_ifnull C (tgt := 49) dX2_units_10 (by decide) (fun c10 => ?_) (fun c10 => ?_)
      · refine r_iload_n C dX2_units_49 lg_3 ?_
        exact f_I F dX2_units_50 (by simp at hu; omega) ⟨hG.symm, rfl, rfl⟩ (Nat.le_of_ble_eq_true rfl) (Nat.le_of_ble_eq_true rfl)
      · exfalso; omega
    | cons m t ih =>
      intro s u hs hb hu hl9 hG
      obtain ⟨rfl, hs⟩ := hs
      obtain ⟨hz, hq⟩ := hb s List.mem_cons_self
      rw [List.length_cons] at hu hl9
      have key := fun (u' : Int) (h1 : -(1000 * (60 - (t.length : Int))) ≤ u' ∧ u' ≤ 1000 * (60 - (t.length : Int))) (h2 : hAt (S 98) (dA S item) day t u' = hAt (S 98) (dA S item) day L 0) => ih (S 104 s) u' hs (fun x hx => hb x (List.mem_cons_of_mem _ hx)) h1 (by omega) h2
      have hG' : (if S 98 s ≤ day then hAt (S 98) (dA S item) day t (u + dA S item s) else u) = hAt (S 98) (dA S item) day L 0 := hG
      have hdl : -1000 ≤ dlt (S 97) (S 100) s ∧ dlt (S 97) (S 100) s ≤ 1000 := by unfold dlt; split <;> (try split) <;> omega
      refine r_aload C dX2_units_8 lg_4 ?_
      refine r_ifnull C (tgt := 49) dX2_units_10 (by decide) (fun c10 => ?_) (fun c10 => ?_)
      · exfalso; omega
      · refine r_aload C dX2_units_13 lg_4 ?_
        refine r_getI C 98 dX2_units_15 fg_X2_13_3 rfl rfl hz (fun g15 => ?_)
        refine r_iload_n C dX2_units_18 lg_2 ?_
        refine r_icgt C (tgt := 49) dX2_units_19 (by decide) (by omega) (by omega) (fun c19 => ?_) (fun c19 => ?_)
        · refine r_iload_n C dX2_units_49 lg_3 ?_
          exact f_I F dX2_units_50 (by omega) ⟨by rw [← hG', if_neg (by omega)], rfl, rfl⟩ (Nat.le_of_ble_eq_true rfl) (Nat.le_of_ble_eq_true rfl)
        · refine r_aload C dX2_units_22 lg_4 ?_
          refine r_getI C 99 dX2_units_24 fg_X2_25_3 rfl rfl hz (fun g24 => ?_)
          refine r_iload_n C dX2_units_27 lg_1 ?_
          refine r_icne C (tgt := 39) dX2_units_28 (by decide) (by omega) (by omega) (fun c28 => ?_) (fun c28 => ?_)
          · refine r_aload C dX2_units_39 lg_4 ?_
            refine r_getA C 104 3 dX2_units_41 fg_X2_19_3 rfl rfl hz (fun g41 => ?_)
            refine r_astore C dX2_units_44 (ls1_4 (cat_R _ _ _) rfl) ?_
            refine r_goto C (tgt := 8) dX2_units_46 (by decide) ?_
            rw [if_pos (by omega)] at hG'
            first
            | exact key _ (by omega) (by rw [← hG', show dA S item s = dlt (S 97) (S 100) s from if_pos (by omega)])
            | exact key _ (by omega) (by rw [← hG', show dA S item s = 0 from if_neg (by omega), Int.add_zero])
          · refine r_iload_n C dX2_units_31 lg_3 ?_
            refine r_aload C dX2_units_32 lg_4 ?_
            refine q_V0I C (cV_change hfl hz hq) dX2_units_34 lk_X2_28 hz ⟨Nat.le_of_ble_eq_true rfl, Nat.le_of_ble_eq_true rfl⟩ (catLe (Nat.le_of_ble_eq_true rfl)) ⟨rfl, rfl⟩ rfl (Nat.le_of_ble_eq_true rfl) (Nat.le_of_ble_eq_true rfl) (fun z34 S34 A34 i34 p34 => ?_)
            obtain ⟨rfl, rfl, rfl⟩ := p34
            refine r_iadd C dX2_units_37 ?_
            refine r_istore_n C dX2_units_38 (ls1_3 rfl rfl) ?_
            refine r_aload C dX2_units_39 lg_4 ?_
            refine r_getA C 104 3 dX2_units_41 fg_X2_19_3 rfl rfl hz (fun g41 => ?_)
            refine r_astore C dX2_units_44 (ls1_4 (cat_R _ _ _) rfl) ?_
            refine r_goto C (tgt := 8) dX2_units_46 (by decide) ?_
            rw [if_pos (by omega)] at hG'
            first
            | exact key _ (by omega) (by rw [← hG', show dA S item s = dlt (S 97) (S 100) s from if_pos (by omega)])
            | exact key _ (by omega) (by rw [← hG', show dA S item s = 0 from if_neg (by omega), Int.add_zero])
  refine r_iconst C dX2_units_0 ?_
  refine r_istore_n C dX2_units_1 (ls1_3 rfl rfl) ?_
  refine r_aload_n C dX2_units_2 lg_0 ?_
  refine r_getA C 64 3 dX2_units_3 fg_X2_7_2 rfl rfl hl2 (fun g3 => ?_)
  refine r_astore C dX2_units_6 (ls1_4 (cat_R _ _ _) rfl) ?_
  exact lp L (S 64 0) 0 hch hL (by omega) hlen rfl
def fst (m : Int) : List Int → Int
  | [] => 0
  | x :: t => if x = m then 0 else 1 + fst m t
set_option maxRecDepth 20000 in
theorem cG_place {G : GT} {l : Launch} (hfl : l.stackTraces = false) {S : ST} {A : AB} {m : Int} {L : List Int} (hl2 : lv1 A 2 0) (hlen : L.length ≤ 60) (hch : CH (S 104) (S 64 0) L) (hL : ∀ x ∈ L, 0 ≤ x ∧ x < A.2 3) (hm : lv1 A 3 m) : CT G l yX2_place cX2_place 4 (some .int) (rmk 0 0 0 0) S A [vR A 2 0, vR A 3 m] (oI fun z S' A' => fst m L = z ∧ S = S' ∧ A = A') (noX) := by
  refine ct_ofN (own := RX2) (mn := "place") rfl rfl (by decide) hfl (lv0 := [some (vR A 2 0), some (vR A 3 m), none, none]) (ent_1 (cat_R _ _ _) (ent_1 (cat_R _ _ _) (ent_n (ent_n ent_0)))) rfl ?_
  intro J X C F FX FT FU hW hA
  have lp : ∀ (b : List Int) (s i : Int) (hs : CH (S 104) s b) (hb : ∀ x ∈ b, 0 ≤ x ∧ x < A.2 3) (hi : 0 ≤ i ∧ i + b.length ≤ 60) (hG : i + fst m b = fst m L), J 7 [some (vR A 2 0), some (vR A 3 m), some (vI i), some (vR A 3 s)] [] S A 0 0 := by
    intro b
    induction b with
    | nil =>
      intro s i hs hb hi hG
      have hs : s = -1 := hs
      have hG : i + 0 = fst m L := hG
      refine r_aload_n C dX2_place_7 lg_3 ?_
      refine r_ifnull C (tgt := 27) dX2_place_8 (by decide) (fun c8 => ?_) (fun c8 => ?_)
      · refine r_iload_n C dX2_place_27 lg_2 ?_
        exact f_I F dX2_place_28 (by simp at hi; omega) ⟨by omega, rfl, rfl⟩ (Nat.le_of_ble_eq_true rfl) (Nat.le_of_ble_eq_true rfl)
      · exfalso; omega
    | cons x t ih =>
      intro s i hs hb hi hG
      obtain ⟨rfl, hs⟩ := hs
      have hz := hb s List.mem_cons_self
      rw [List.length_cons] at hi
      have hG' : i + (if s = m then 0 else 1 + fst m t) = fst m L := hG
      refine r_aload_n C dX2_place_7 lg_3 ?_
      refine r_ifnull C (tgt := 27) dX2_place_8 (by decide) (fun c8 => ?_) (fun c8 => ?_)
      · exfalso; omega
      · refine r_aload_n C dX2_place_11 lg_3 ?_
        refine r_aload_n C dX2_place_12 lg_1 ?_
        refine r_aceq C (tgt := 27) dX2_place_13 (by decide) (by omega) (by omega) (fun c13 => ?_) (fun c13 => ?_)
        · refine r_iload_n C dX2_place_27 lg_2 ?_
          exact f_I F dX2_place_28 (by omega) ⟨by rw [if_pos (by omega)] at hG'; omega, rfl, rfl⟩ (Nat.le_of_ble_eq_true rfl) (Nat.le_of_ble_eq_true rfl)
        · refine r_iinc C dX2_place_16 lg_2 (ls1_2 rfl (cat_R _ _ _)) ?_
          refine r_aload_n C dX2_place_19 lg_3 ?_
          refine r_getA C 104 3 dX2_place_20 fg_X2_19_3 rfl rfl hz (fun g20 => ?_)
          refine r_astore_n C dX2_place_23 (ls1_3 (cat_R _ _ _) rfl) ?_
          refine r_goto C (tgt := 7) dX2_place_24 (by decide) ?_
          exact ih (S 104 s) (i + 1) hs (fun x hx => hb x (List.mem_cons_of_mem _ hx)) (by omega) (by rw [if_neg (by omega)] at hG'; omega)
  refine r_iconst C dX2_place_0 ?_
  refine r_istore_n C dX2_place_1 (ls1_2 rfl (cat_R _ _ _)) ?_
  refine r_aload_n C dX2_place_2 lg_0 ?_
  refine r_getA C 64 3 dX2_place_3 fg_X2_7_2 rfl rfl hl2 (fun g3 => ?_)
  refine r_astore_n C dX2_place_6 (ls1_3 (cat_R _ _ _) rfl) ?_
  exact lp L (S 64 0) 0 hch hL (by omega) (by omega)
