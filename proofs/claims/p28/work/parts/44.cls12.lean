/-! the class: its things made -/
set_option maxRecDepth 20000 in
theorem cY_init {G : GT} {l : Launch} (hfl : l.stackTraces = false) {S : ST} {A : AB} {z n : Int} (hz : lv1 A 1 z) (hn : rI n) : CT G l yX1_init cX1_init 2 none (rmk 1 0 0 30) S A [vR A 1 z, vI n] (oV fun S' A' => upS S 32 z n = S' ∧ A = A') (noX) := by
  refine ct_ofN (own := RX1) (mn := "<init>") rfl rfl (by decide) hfl (lv0 := [some (vR A 1 z), some (vI n)]) (ent_1 (cat_R _ _ _) (ent_1 rfl ent_0)) rfl ?_
  intro J X C F FX FT FU hW hA
  refine r_aload_n C dX1_init_0 lg_0 ?_
  refine r_obj C dX1_init_1 lk_X1_1 (by omega) wObj2 wObj3 (Nat.le_of_ble_eq_true rfl) (Nat.le_of_ble_eq_true rfl) ?_
  refine r_aload_n C dX1_init_4 lg_0 ?_
  refine r_iload_n C dX1_init_5 lg_1 ?_
  refine r_putI C 32 dX1_init_6 fg_X1_7_1 rfl rfl hz (fun q h => by cases h; exact Or.inr ⟨rfl, rfl, rfl⟩) (by omega) ?_
  exact f_V F dX1_init_9 ⟨rfl, rfl⟩ (Nat.le_of_ble_eq_true rfl) (Nat.le_of_ble_eq_true rfl)
set_option maxRecDepth 20000 in
theorem cS_init {G : GT} {l : Launch} (hfl : l.stackTraces = false) {S : ST} {A : AB} {z r p m x : Int} (hz : lv1 A 5 z) (hr : lv1 A 3 r ∧ rL r) (hp : rI p) (hm : rL m) (hx : rL x ∧ x < A.2 5) : CT G l yX5_init cX5_init 6 none (rmk 1 0 0 30) S A [vR A 5 z, vR A 3 r, vI p, vL m, vR A 5 x] (oV fun S' A' => upS (upS (upS (upS S 160 z r) 162 z p) 163 z m) 161 z x = S' ∧ A = A') (noX) := by
  refine ct_ofN (own := RX5) (mn := "<init>") rfl rfl (by decide) hfl (lv0 := [some (vR A 5 z), some (vR A 3 r), some (vI p), some (vL m), none, some (vR A 5 x)]) (ent_1 (cat_R _ _ _) (ent_1 (cat_R _ _ _) (ent_1 rfl (ent_2 rfl (ent_1 (cat_R _ _ _) ent_0))))) rfl ?_
  intro J X C F FX FT FU hW hA
  refine r_aload_n C dX5_init_0 lg_0 ?_
  refine r_obj C dX5_init_1 lk_X5_1 (by omega) wObj2 wObj3 (Nat.le_of_ble_eq_true rfl) (Nat.le_of_ble_eq_true rfl) ?_
  refine r_aload_n C dX5_init_4 lg_0 ?_
  refine r_aload_n C dX5_init_5 lg_1 ?_
  refine r_putA C 160 3 dX5_init_6 fg_X5_7_5 rfl rfl hz (fun q h => by cases h; exact Or.inr ⟨rfl, rfl, rfl⟩) hr.2 hr.1.2 ?_
  refine r_aload_n C dX5_init_9 lg_0 ?_
  refine r_iload_n C dX5_init_10 lg_2 ?_
  refine r_putI C 162 dX5_init_11 fg_X5_13_5 rfl rfl hz (fun q h => by cases h; exact Or.inl rfl) (by omega) ?_
  refine r_aload_n C dX5_init_14 lg_0 ?_
  refine r_lload_n C dX5_init_15 lg_3 ?_
  refine r_putJ C 163 dX5_init_16 fg_X5_17_5 rfl rfl hz (fun q h => by cases h; exact Or.inl rfl) (by omega) ?_
  refine r_aload_n C dX5_init_19 lg_0 ?_
  refine r_aload C dX5_init_20 lg_5 ?_
  refine r_putA C 161 5 dX5_init_22 fg_X5_21_5 rfl rfl hz (fun q h => by cases h; exact Or.inr ⟨rfl, rfl, rfl⟩) hx.1 hx.2 ?_
  exact f_V F dX5_init_25 ⟨rfl, rfl⟩ (Nat.le_of_ble_eq_true rfl) (Nat.le_of_ble_eq_true rfl)
set_option maxRecDepth 20000 in
theorem cV_init {G : GT} {l : Launch} (hfl : l.stackTraces = false) {S : ST} {A : AB} {z n kd d i q c0 : Int} (hz : lv1 A 3 z) (h91 : rI n) (h92 : rI kd) (h3 : rI d) (h4 : rI i) (h5 : rI q) (h96 : rI c0) (hA1 : A.2 1 ≤ 60) : CT G l yX3_init cX3_init 7 none (rmk 2 1 4 51) S A [vR A 3 z, vI n, vI kd, vI d, vI i, vI q, vI c0] (oV fun S' A' => AE A A' ∧ A'.2 1 = A.2 1 + 1 ∧ (∀ k', k' ≠ 1 → A'.2 k' = A.2 k') ∧ (S' 96 z = n ∧ S' 97 z = kd ∧ S' 98 z = d ∧ S' 99 z = i ∧ S' 100 z = q ∧ S' 101 z = c0 ∧ S' 102 z = A.2 1) ∧ S' 32 (A.2 1) = n ∧ ∀ (c : Nat) (w : Int), (c ∉ [96, 97, 98, 99, 100, 101, 102] ∨ w ≠ z) → (c / 32 ≠ 1 ∨ w ≠ A.2 1) → S' c w = S c w) (noX) := by
  refine ct_ofN (own := RX3) (mn := "<init>") rfl rfl (by decide) hfl (lv0 := [some (vR A 3 z), some (vI n), some (vI kd), some (vI d), some (vI i), some (vI q), some (vI c0)]) (ent_1 (cat_R _ _ _) (ent_1 rfl (ent_1 rfl (ent_1 rfl (ent_1 rfl (ent_1 rfl (ent_1 rfl ent_0))))))) rfl ?_
  intro J X C F FX FT FU hW hA
  refine r_aload_n C dX3_init_0 lg_0 ?_
  refine r_obj C dX3_init_1 lk_X3_3 (by omega) wObj2 wObj3 (Nat.le_of_ble_eq_true rfl) (Nat.le_of_ble_eq_true rfl) ?_
  refine r_aload_n C dX3_init_4 lg_0 ?_
  refine r_iload_n C dX3_init_5 lg_1 ?_
  refine r_putI C 96 dX3_init_6 fg_X3_9_3 rfl rfl hz (fun q h => by cases h; exact Or.inr ⟨rfl, rfl, rfl⟩) (by omega) ?_
  refine r_gS (fun S6 h6 => ?_)
  refine r_aload_n C dX3_init_9 lg_0 ?_
  refine r_iload_n C dX3_init_10 lg_2 ?_
  refine r_putI C 97 dX3_init_11 fg_X3_15_3 rfl rfl hz (fun q h => by cases h; exact Or.inr ⟨rfl, rfl, rfl⟩) (by omega) ?_
  refine r_gS (fun S11 h11 => ?_)
  refine r_aload_n C dX3_init_14 lg_0 ?_
  refine r_iload_n C dX3_init_15 lg_3 ?_
  refine r_putI C 98 dX3_init_16 fg_X3_18_3 rfl rfl hz (fun q h => by cases h; exact Or.inr ⟨rfl, rfl, rfl⟩) (by omega) ?_
  refine r_gS (fun S16 h16 => ?_)
  refine r_aload_n C dX3_init_19 lg_0 ?_
  refine r_iload C dX3_init_20 lg_4 ?_
  refine r_putI C 99 dX3_init_22 fg_X3_21_3 rfl rfl hz (fun q h => by cases h; exact Or.inr ⟨rfl, rfl, rfl⟩) (by omega) ?_
  refine r_gS (fun S22 h22 => ?_)
  refine r_aload_n C dX3_init_25 lg_0 ?_
  refine r_iload C dX3_init_26 lg_5 ?_
  refine r_putI C 100 dX3_init_28 fg_X3_24_3 rfl rfl hz (fun q h => by cases h; exact Or.inr ⟨rfl, rfl, rfl⟩) (by omega) ?_
  refine r_gS (fun S28 h28 => ?_)
  refine r_aload_n C dX3_init_31 lg_0 ?_
  refine r_iload C dX3_init_32 lg_6 ?_
  refine r_putI C 101 dX3_init_34 fg_X3_27_3 rfl rfl hz (fun q h => by cases h; exact Or.inr ⟨rfl, rfl, rfl⟩) (by omega) ?_
  refine r_gS (fun S34 h34 => ?_)
  refine r_aload_n C dX3_init_37 lg_0 ?_
  refine r_new C dX3_init_38 (kd := 1) (N := 4) rfl nw_X3_30.1 nw_X3_30.2.1 nw_X3_30.2.2 (Nat.le_of_ble_eq_true rfl) (Nat.le_of_ble_eq_true rfl) (fun q38 => ?_)
  refine r_gAS (fun A1 S38 hE h1 h2 hs hd => ?_)
  rw [← (hE 3 z hz.2).1]
  have hz1 : lv1 A1 3 z := ⟨hz.1, (hE 3 z hz.2).2⟩
  have hA0 := hA.2.2 1
  have hl : lv1 A1 1 (A.2 1) := ⟨hA0, by omega⟩
  refine r_dup C dX3_init_41 (cat_R _ _ _) ?_
  refine r_iload_n C dX3_init_42 lg_1 ?_
  refine q_I1V C (cY_init hfl hl (by omega)) dX3_init_43 lk_X3_32 (by omega) ⟨Nat.le_of_ble_eq_true rfl, Nat.le_of_ble_eq_true rfl⟩ (catLe (Nat.le_of_ble_eq_true rfl)) ⟨rfl, rfl⟩ rfl (Nat.le_of_ble_eq_true rfl) (Nat.le_of_ble_eq_true rfl) (fun S43 A43 p43 => ?_)
  obtain ⟨rfl, rfl⟩ := p43
  refine r_gS (fun S43 h43 => ?_)
  refine r_putA C 102 1 dX3_init_46 fg_X3_35_3 rfl rfl hz1 (fun q h => by cases h; exact Or.inr ⟨rfl, rfl, rfl⟩) (by omega) (by omega) ?_
  refine r_gS (fun S46 h46 => ?_)
  exact f_V F dX3_init_49 (by
    have k : ∀ (c : Nat) (w : Int), (c / 32 ≠ 1 ∨ w ≠ A.2 1) → S43 c w = S34 c w := fun c w hc => by
      rw [h43]
      by_cases e : c = 32
      · rcases hc with hc | hc
        · exact absurd (by rw [e]) hc
        · rw [upS_z _ _ hc]; exact hs c w (Or.inr ⟨by omega, hc⟩)
      · rw [upS_c _ _ e]
        exact hs c w (hc.imp id (fun h => ⟨by omega, h⟩))
    refine ⟨hE, h1, h2, ⟨?_, ?_, ?_, ?_, ?_, ?_, ?_⟩, ?_, fun c w hc hw => ?_⟩
    · rw [h46, upS_c _ _ (by decide), k _ _ (Or.inl (by decide)), h34, upS_c _ _ (by decide), h28, upS_c _ _ (by decide), h22, upS_c _ _ (by decide), h16, upS_c _ _ (by decide), h11, upS_c _ _ (by decide), h6, upS_self]
    · rw [h46, upS_c _ _ (by decide), k _ _ (Or.inl (by decide)), h34, upS_c _ _ (by decide), h28, upS_c _ _ (by decide), h22, upS_c _ _ (by decide), h16, upS_c _ _ (by decide), h11, upS_self]
    · rw [h46, upS_c _ _ (by decide), k _ _ (Or.inl (by decide)), h34, upS_c _ _ (by decide), h28, upS_c _ _ (by decide), h22, upS_c _ _ (by decide), h16, upS_self]
    · rw [h46, upS_c _ _ (by decide), k _ _ (Or.inl (by decide)), h34, upS_c _ _ (by decide), h28, upS_c _ _ (by decide), h22, upS_self]
    · rw [h46, upS_c _ _ (by decide), k _ _ (Or.inl (by decide)), h34, upS_c _ _ (by decide), h28, upS_self]
    · rw [h46, upS_c _ _ (by decide), k _ _ (Or.inl (by decide)), h34, upS_self]
    · rw [h46, upS_self]
    · rw [h46, upS_c _ _ (by decide), h43, upS_self]
    · have hu : ∀ (T : ST) (c0 : Nat) (v : Int), c0 ∈ [96, 97, 98, 99, 100, 101, 102] → upS T c0 z v c w = T c w := fun T c0 v h0 => by
        rcases hc with hc | hc
        · exact upS_c _ _ (fun e => hc (e ▸ h0))
        · unfold upS; rw [if_neg (fun q => hc q.2)]
      rw [h46, hu _ _ _ (by decide), k c w hw, h34, hu _ _ _ (by decide), h28, hu _ _ _ (by decide), h22, hu _ _ _ (by decide), h16, hu _ _ _ (by decide), h11, hu _ _ _ (by decide), h6, hu _ _ _ (by decide)]) (Nat.le_of_ble_eq_true rfl) (Nat.le_of_ble_eq_true rfl)
