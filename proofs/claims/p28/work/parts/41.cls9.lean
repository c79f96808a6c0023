/-! the class: a movement valued by the moving average -/
set_option maxRecDepth 20000 in
theorem cV4_apply {G : GT} {l : Launch} (hfl : l.stackTraces = false) {S : ST} {A : AB} {m item t : Int} {R : RW} {a : List Int} {w : WS} (hl4 : lv1 A 4 0) (hV : AV S w) (hR : WI R item a t w) (ht : 0 ≤ t ∧ t ≤ 4000) (hm : lv1 A 3 m) (hma : m ∉ a) (hra : RA S R m) (hkd : R.kd m = 0 ∨ R.kd m = 1 ∨ R.kd m = 2) (hqt : 1 ≤ R.qt m ∧ R.qt m ≤ 1000) (hco : 0 ≤ R.co m ∧ R.co m ≤ 1000000) (hv : ¬ R.kd m = 0 → R.qt m ≤ w.hand) (hc1 : R.kd m = 1 → R.co m = 0) : CT G l yX6_apply cX6_apply 2 none (rmk 2 0 0 56) S A [vR A 4 0, vR A 3 m] (oV fun S' A' => A = A' ∧ Fr [128, 129, 130, 131, 132, 133, 106] S S' ∧ AV S' (moveW R w m)) (noX) := by
  refine ct_ofN (own := RX6) (mn := "apply") rfl rfl (by decide) hfl (lv0 := [some (vR A 4 0), some (vR A 3 m)]) (ent_1 (cat_R _ _ _) (ent_1 (cat_R _ _ _) ent_0)) rfl ?_
  intro J X C F FX FT FU hW hA
  obtain ⟨ho, hnd, hmem, hlq, hqu, hhand, b1, b2, b3, b4, b5, b6, b7, b8, b9, b10⟩ := hR
  unfold bt at *
  obtain ⟨ra1, ra2, ra3, ra4⟩ := hra
  obtain ⟨x128, x129, x130, x131, x132, x133, hic⟩ := hV
  have hF : Fr [128, 129, 130, 131, 132, 133, 106] S S := Fr.rf
  have hdl : dlt (S 97) (S 100) m = dlt R.kd R.qt m := by unfold dlt; rw [ra1, ra3]
  by_cases hk : R.kd m = 0
  · have hdk : dlt R.kd R.qt m = R.qt m := by unfold dlt; rw [if_pos hk]
    refine r_aload_n C dX6_apply_0 lg_1 ?_
    refine r_getI C 97 dX6_apply_1 fg_X6_36_3 rfl rfl hm (fun g1 => ?_)
    rw [hF 97 m (by decide), ra1, hk]
    refine r_ifne C (tgt := 29) dX6_apply_4 (by decide) (by omega) (fun c4 => ?_) (fun c4 => ?_)
    · exfalso; omega
    · refine r_aload_n C dX6_apply_7 lg_0 ?_
      refine r_aload_n C dX6_apply_8 lg_1 ?_
      refine q_U1V C (cA_bring hfl hl4 hm (by omega) (by omega)) dX6_apply_9 lk_X6_54_4 hl4 ⟨Nat.le_of_ble_eq_true rfl, Nat.le_of_ble_eq_true rfl⟩ (catLe (Nat.le_of_ble_eq_true rfl)) ⟨rfl, rfl⟩ rfl (Nat.le_of_ble_eq_true rfl) (Nat.le_of_ble_eq_true rfl) (fun S9 A9 p9 => ?_)
      obtain ⟨rfl, rfl⟩ := p9
      rw [hF 101 m (by decide), ra4, x133]
      refine r_gS (fun S9 h9 => ?_)
      have hF : Fr [128, 129, 130, 131, 132, 133, 106] S S9 := hF.tr (by rw [h9]; exact Fr.up (by decide))
      have x128 := (congrFun (congrFun h9 128) 0).trans ((upS_c _ _ (by decide)).trans x128)
      have x129 := (congrFun (congrFun h9 129) 0).trans ((upS_c _ _ (by decide)).trans x129)
      have x130 := (congrFun (congrFun h9 130) 0).trans ((upS_c _ _ (by decide)).trans x130)
      have x131 := (congrFun (congrFun h9 131) 0).trans ((upS_c _ _ (by decide)).trans x131)
      have x132 := (congrFun (congrFun h9 132) 0).trans ((upS_c _ _ (by decide)).trans x132)
      have x133 := (congrFun (congrFun h9 133) 0).trans (upS_self _ _ _ _)
      have hic := fun r => (congrFun (congrFun h9 106) r).trans ((upS_c _ _ (by decide)).trans (hic r))
      refine r_aload_n C dX6_apply_12 lg_0 ?_
      refine r_dup C dX6_apply_13 (cat_R _ _ _) ?_
      refine r_getJ C 129 dX6_apply_14 fg_X6_15_4 rfl rfl hl4 (fun g14 => ?_)
      rw [x129]
      refine r_aload_n C dX6_apply_17 lg_1 ?_
      refine r_getI C 101 dX6_apply_18 fg_X6_57_3 rfl rfl hm (fun g18 => ?_)
      rw [hF 101 m (by decide), ra4]
      refine r_i2l C dX6_apply_21 (by omega) ?_
      refine r_ladd C dX6_apply_22 ?_
      refine r_putJ C 129 dX6_apply_23 fg_X6_15_4 rfl rfl hl4 (fun q h => by cases h; exact Or.inl rfl) (by omega) ?_
      refine r_gS (fun S23 h23 => ?_)
      have hF : Fr [128, 129, 130, 131, 132, 133, 106] S S23 := hF.tr (by rw [h23]; exact Fr.up (by decide))
      have x128 := (congrFun (congrFun h23 128) 0).trans ((upS_c _ _ (by decide)).trans x128)
      have x129 := (congrFun (congrFun h23 129) 0).trans (upS_self _ _ _ _)
      have x130 := (congrFun (congrFun h23 130) 0).trans ((upS_c _ _ (by decide)).trans x130)
      have x131 := (congrFun (congrFun h23 131) 0).trans ((upS_c _ _ (by decide)).trans x131)
      have x132 := (congrFun (congrFun h23 132) 0).trans ((upS_c _ _ (by decide)).trans x132)
      have x133 := (congrFun (congrFun h23 133) 0).trans ((upS_c _ _ (by decide)).trans x133)
      have hic := fun r => (congrFun (congrFun h23 106) r).trans ((upS_c _ _ (by decide)).trans (hic r))
      refine r_goto C (tgt := 93) dX6_apply_26 (by decide) ?_
      refine r_aload_n C dX6_apply_93 lg_0 ?_
      refine r_dup C dX6_apply_94 (cat_R _ _ _) ?_
      refine r_getI C 128 dX6_apply_95 fg_X6_9_4 rfl rfl hl4 (fun g95 => ?_)
      rw [x128]
      refine r_aload_n C dX6_apply_98 lg_1 ?_
      refine q_V0I C (cV_change hfl hm (by rw [hF 100 m (by decide), ra3]; omega)) dX6_apply_99 lk_X6_73 hm ⟨Nat.le_of_ble_eq_true rfl, Nat.le_of_ble_eq_true rfl⟩ (catLe (Nat.le_of_ble_eq_true rfl)) ⟨rfl, rfl⟩ rfl (Nat.le_of_ble_eq_true rfl) (Nat.le_of_ble_eq_true rfl) (fun z99 S99 A99 i99 p99 => ?_)
      obtain ⟨rfl, rfl, rfl⟩ := p99
      rw [show dlt (S23 97) (S23 100) m = dlt R.kd R.qt m from by rw [show S23 97 = S 97 from hF.fn (by decide), show S23 100 = S 100 from hF.fn (by decide)]; exact hdl, hdk]
      refine r_iadd C dX6_apply_102 ?_
      refine r_putI C 128 dX6_apply_103 fg_X6_9_4 rfl rfl hl4 (fun q h => by cases h; exact Or.inl rfl) (by omega) ?_
      refine r_gS (fun S103 h103 => ?_)
      have hF : Fr [128, 129, 130, 131, 132, 133, 106] S S103 := hF.tr (by rw [h103]; exact Fr.up (by decide))
      have x128 := (congrFun (congrFun h103 128) 0).trans (upS_self _ _ _ _)
      have x129 := (congrFun (congrFun h103 129) 0).trans ((upS_c _ _ (by decide)).trans x129)
      have x130 := (congrFun (congrFun h103 130) 0).trans ((upS_c _ _ (by decide)).trans x130)
      have x131 := (congrFun (congrFun h103 131) 0).trans ((upS_c _ _ (by decide)).trans x131)
      have x132 := (congrFun (congrFun h103 132) 0).trans ((upS_c _ _ (by decide)).trans x132)
      have x133 := (congrFun (congrFun h103 133) 0).trans ((upS_c _ _ (by decide)).trans x133)
      have hic := fun r => (congrFun (congrFun h103 106) r).trans ((upS_c _ _ (by decide)).trans (hic r))
      exact f_V F dX6_apply_106 (by
        refine ⟨rfl, hF, ?_⟩
        have hic9 := hic
        unfold AV
        unfold moveW
        rw [if_pos hk]
        exact ⟨x128, x129, x130, x131, x132, x133, hic9⟩) (Nat.le_of_ble_eq_true rfl) (Nat.le_of_ble_eq_true rfl)
  · have hk0 := hk
    have hv := hv hk0
    have hav := quo_b (a := w.avg) (b := R.qt m) (s := w.hand) b2.1 (by omega) (by omega) hv
    by_cases hk1 : R.kd m = 1
    · have hdk : dlt R.kd R.qt m = -(R.qt m) := by unfold dlt; rw [if_neg hk0, if_pos hk1]
      clear hk
      have hk := hk1
      refine r_aload_n C dX6_apply_0 lg_1 ?_
      refine r_getI C 97 dX6_apply_1 fg_X6_36_3 rfl rfl hm (fun g1 => ?_)
      rw [hF 97 m (by decide), ra1, hk]
      refine r_ifne C (tgt := 29) dX6_apply_4 (by decide) (by omega) (fun c4 => ?_) (fun c4 => ?_)
      · refine r_aload_n C dX6_apply_29 lg_1 ?_
        refine r_getI C 97 dX6_apply_30 fg_X6_36_3 rfl rfl hm (fun g30 => ?_)
        rw [hF 97 m (by decide), ra1, hk]
        refine r_iconst C dX6_apply_33 ?_
        refine r_icne C (tgt := 65) dX6_apply_34 (by decide) (by omega) (by omega) (fun c34 => ?_) (fun c34 => ?_)
        · exfalso; omega
        · refine r_aload_n C dX6_apply_37 lg_1 ?_
          refine r_aload_n C dX6_apply_38 lg_0 ?_
          refine r_aload_n C dX6_apply_39 lg_1 ?_
          refine r_getI C 100 dX6_apply_40 fg_X6_60_3 rfl rfl hm (fun g40 => ?_)
          rw [hF 100 m (by decide), ra3]
          refine q_U1J C (cA_take hfl hl4 (by omega) (by omega) (by omega)) dX6_apply_43 lk_X6_63_4 hl4 ⟨Nat.le_of_ble_eq_true rfl, Nat.le_of_ble_eq_true rfl⟩ (catLe (Nat.le_of_ble_eq_true rfl)) ⟨rfl, rfl⟩ rfl (Nat.le_of_ble_eq_true rfl) (Nat.le_of_ble_eq_true rfl) (fun z43 S43 A43 i43 p43 => ?_)
          obtain ⟨rfl, rfl, rfl⟩ := p43
          rw [x133, x128]
          refine r_gS (fun S43 h43 => ?_)
          have hF : Fr [128, 129, 130, 131, 132, 133, 106] S S43 := hF.tr (by rw [h43]; exact Fr.up (by decide))
          have x128 := (congrFun (congrFun h43 128) 0).trans ((upS_c _ _ (by decide)).trans x128)
          have x129 := (congrFun (congrFun h43 129) 0).trans ((upS_c _ _ (by decide)).trans x129)
          have x130 := (congrFun (congrFun h43 130) 0).trans ((upS_c _ _ (by decide)).trans x130)
          have x131 := (congrFun (congrFun h43 131) 0).trans ((upS_c _ _ (by decide)).trans x131)
          have x132 := (congrFun (congrFun h43 132) 0).trans ((upS_c _ _ (by decide)).trans x132)
          have x133 := (congrFun (congrFun h43 133) 0).trans (upS_self _ _ _ _)
          have hic := fun r => (congrFun (congrFun h43 106) r).trans ((upS_c _ _ (by decide)).trans (hic r))
          have ic9 : ∀ r, fu (S43 106) m (w.avg * R.qt m / w.hand) r = (moveW R w m).ic (2 * r + 1) := fun r => by
            have h9 : (moveW R w m).ic = fu (fu w.ic (2 * m) (tk w.q (R.qt m)).1) (2 * m + 1) (w.avg * R.qt m / w.hand) := by unfold moveW; rw [if_neg hk0, if_pos hk]; rfl
            rw [h9]
            by_cases e : r = m
            · rw [e, fu_self, fu_self]
            · rw [fu_ne _ _ e, fu_ne _ _ (show 2 * r + 1 ≠ 2 * m + 1 by omega), fu_ne _ _ (show 2 * r + 1 ≠ 2 * m by omega)]; exact hic r
          refine r_putJ C 106 dX6_apply_46 fg_X6_67_3 rfl rfl hm (fun q h => by cases h; exact Or.inl rfl) (by omega) ?_
          refine r_gS (fun S46 h46 => ?_)
          have hF : Fr [128, 129, 130, 131, 132, 133, 106] S S46 := hF.tr (by rw [h46]; exact Fr.up (by decide))
          have x128 := (congrFun (congrFun h46 128) 0).trans ((upS_c _ _ (by decide)).trans x128)
          have x129 := (congrFun (congrFun h46 129) 0).trans ((upS_c _ _ (by decide)).trans x129)
          have x130 := (congrFun (congrFun h46 130) 0).trans ((upS_c _ _ (by decide)).trans x130)
          have x131 := (congrFun (congrFun h46 131) 0).trans ((upS_c _ _ (by decide)).trans x131)
          have x132 := (congrFun (congrFun h46 132) 0).trans ((upS_c _ _ (by decide)).trans x132)
          have x133 := (congrFun (congrFun h46 133) 0).trans ((upS_c _ _ (by decide)).trans x133)
          have hic := (fun r => by rw [h46, upS_fu]; exact ic9 r : ∀ r, S46 106 r = (moveW R w m).ic (2 * r + 1))
          have g106 := (congrFun (congrFun h46 106) m).trans (upS_self _ _ _ _)
          refine r_aload_n C dX6_apply_49 lg_0 ?_
          refine r_dup C dX6_apply_50 (cat_R _ _ _) ?_
          refine r_getJ C 130 dX6_apply_51 fg_X6_19_4 rfl rfl hl4 (fun g51 => ?_)
          rw [x130]
          refine r_aload_n C dX6_apply_54 lg_1 ?_
          refine r_getJ C 106 dX6_apply_55 fg_X6_67_3 rfl rfl hm (fun g55 => ?_)
          rw [g106]
          refine r_ladd C dX6_apply_58 ?_
          refine r_putJ C 130 dX6_apply_59 fg_X6_19_4 rfl rfl hl4 (fun q h => by cases h; exact Or.inl rfl) (by omega) ?_
          refine r_gS (fun S59 h59 => ?_)
          have hF : Fr [128, 129, 130, 131, 132, 133, 106] S S59 := hF.tr (by rw [h59]; exact Fr.up (by decide))
          have x128 := (congrFun (congrFun h59 128) 0).trans ((upS_c _ _ (by decide)).trans x128)
          have x129 := (congrFun (congrFun h59 129) 0).trans ((upS_c _ _ (by decide)).trans x129)
          have x130 := (congrFun (congrFun h59 130) 0).trans (upS_self _ _ _ _)
          have x131 := (congrFun (congrFun h59 131) 0).trans ((upS_c _ _ (by decide)).trans x131)
          have x132 := (congrFun (congrFun h59 132) 0).trans ((upS_c _ _ (by decide)).trans x132)
          have x133 := (congrFun (congrFun h59 133) 0).trans ((upS_c _ _ (by decide)).trans x133)
          have hic := fun r => (congrFun (congrFun h59 106) r).trans ((upS_c _ _ (by decide)).trans (hic r))
          refine r_goto C (tgt := 93) dX6_apply_62 (by decide) ?_
          refine r_aload_n C dX6_apply_93 lg_0 ?_
          refine r_dup C dX6_apply_94 (cat_R _ _ _) ?_
          refine r_getI C 128 dX6_apply_95 fg_X6_9_4 rfl rfl hl4 (fun g95 => ?_)
          rw [x128]
          refine r_aload_n C dX6_apply_98 lg_1 ?_
          refine q_V0I C (cV_change hfl hm (by rw [hF 100 m (by decide), ra3]; omega)) dX6_apply_99 lk_X6_73 hm ⟨Nat.le_of_ble_eq_true rfl, Nat.le_of_ble_eq_true rfl⟩ (catLe (Nat.le_of_ble_eq_true rfl)) ⟨rfl, rfl⟩ rfl (Nat.le_of_ble_eq_true rfl) (Nat.le_of_ble_eq_true rfl) (fun z99 S99 A99 i99 p99 => ?_)
          obtain ⟨rfl, rfl, rfl⟩ := p99
          rw [show dlt (S59 97) (S59 100) m = dlt R.kd R.qt m from by rw [show S59 97 = S 97 from hF.fn (by decide), show S59 100 = S 100 from hF.fn (by decide)]; exact hdl, hdk]
          refine r_iadd C dX6_apply_102 ?_
          refine r_putI C 128 dX6_apply_103 fg_X6_9_4 rfl rfl hl4 (fun q h => by cases h; exact Or.inl rfl) (by omega) ?_
          refine r_gS (fun S103 h103 => ?_)
          have hF : Fr [128, 129, 130, 131, 132, 133, 106] S S103 := hF.tr (by rw [h103]; exact Fr.up (by decide))
          have x128 := (congrFun (congrFun h103 128) 0).trans (upS_self _ _ _ _)
          have x129 := (congrFun (congrFun h103 129) 0).trans ((upS_c _ _ (by decide)).trans x129)
          have x130 := (congrFun (congrFun h103 130) 0).trans ((upS_c _ _ (by decide)).trans x130)
          have x131 := (congrFun (congrFun h103 131) 0).trans ((upS_c _ _ (by decide)).trans x131)
          have x132 := (congrFun (congrFun h103 132) 0).trans ((upS_c _ _ (by decide)).trans x132)
          have x133 := (congrFun (congrFun h103 133) 0).trans ((upS_c _ _ (by decide)).trans x133)
          have hic := fun r => (congrFun (congrFun h103 106) r).trans ((upS_c _ _ (by decide)).trans (hic r))
          exact f_V F dX6_apply_106 (by
            refine ⟨rfl, hF, ?_⟩
            have hic9 := hic
            unfold AV
            unfold moveW
            rw [if_neg hk0, if_pos hk]
            exact ⟨x128.trans (by show w.hand + -(R.qt m) = w.hand - R.qt m; omega), x129, x130, x131, x132, x133.trans (by show w.avg - w.avg * R.qt m / w.hand = w.avg + (R.co m - w.avg * R.qt m / w.hand); have := hc1 hk; omega), (by unfold moveW at hic9; rw [if_neg hk0, if_pos hk] at hic9; exact hic9)⟩) (Nat.le_of_ble_eq_true rfl) (Nat.le_of_ble_eq_true rfl)
      · exfalso; omega
    · have hdk : dlt R.kd R.qt m = 0 := by unfold dlt; rw [if_neg hk0, if_neg hk1]
      clear hk
      have hk : R.kd m = 2 := by omega
      refine r_aload_n C dX6_apply_0 lg_1 ?_
      refine r_getI C 97 dX6_apply_1 fg_X6_36_3 rfl rfl hm (fun g1 => ?_)
      rw [hF 97 m (by decide), ra1, hk]
      refine r_ifne C (tgt := 29) dX6_apply_4 (by decide) (by omega) (fun c4 => ?_) (fun c4 => ?_)
      · refine r_aload_n C dX6_apply_29 lg_1 ?_
        refine r_getI C 97 dX6_apply_30 fg_X6_36_3 rfl rfl hm (fun g30 => ?_)
        rw [hF 97 m (by decide), ra1, hk]
        refine r_iconst C dX6_apply_33 ?_
        refine r_icne C (tgt := 65) dX6_apply_34 (by decide) (by omega) (by omega) (fun c34 => ?_) (fun c34 => ?_)
        · refine r_aload_n C dX6_apply_65 lg_0 ?_
          refine r_dup C dX6_apply_66 (cat_R _ _ _) ?_
          refine r_getJ C 131 dX6_apply_67 fg_X6_22_4 rfl rfl hl4 (fun g67 => ?_)
          rw [x131]
          refine r_aload_n C dX6_apply_70 lg_1 ?_
          refine r_getI C 101 dX6_apply_71 fg_X6_57_3 rfl rfl hm (fun g71 => ?_)
          rw [hF 101 m (by decide), ra4]
          refine r_i2l C dX6_apply_74 (by omega) ?_
          refine r_aload_n C dX6_apply_75 lg_0 ?_
          refine r_aload_n C dX6_apply_76 lg_1 ?_
          refine r_getI C 100 dX6_apply_77 fg_X6_60_3 rfl rfl hm (fun g77 => ?_)
          rw [hF 100 m (by decide), ra3]
          refine q_U1J C (cA_take hfl hl4 (by omega) (by omega) (by omega)) dX6_apply_80 lk_X6_63_4 hl4 ⟨Nat.le_of_ble_eq_true rfl, Nat.le_of_ble_eq_true rfl⟩ (catLe (Nat.le_of_ble_eq_true rfl)) ⟨rfl, rfl⟩ rfl (Nat.le_of_ble_eq_true rfl) (Nat.le_of_ble_eq_true rfl) (fun z80 S80 A80 i80 p80 => ?_)
          obtain ⟨rfl, rfl, rfl⟩ := p80
          rw [x133, x128]
          refine r_gS (fun S80 h80 => ?_)
          have hF : Fr [128, 129, 130, 131, 132, 133, 106] S S80 := hF.tr (by rw [h80]; exact Fr.up (by decide))
          have x128 := (congrFun (congrFun h80 128) 0).trans ((upS_c _ _ (by decide)).trans x128)
          have x129 := (congrFun (congrFun h80 129) 0).trans ((upS_c _ _ (by decide)).trans x129)
          have x130 := (congrFun (congrFun h80 130) 0).trans ((upS_c _ _ (by decide)).trans x130)
          have x131 := (congrFun (congrFun h80 131) 0).trans ((upS_c _ _ (by decide)).trans x131)
          have x132 := (congrFun (congrFun h80 132) 0).trans ((upS_c _ _ (by decide)).trans x132)
          have x133 := (congrFun (congrFun h80 133) 0).trans (upS_self _ _ _ _)
          have hic := fun r => (congrFun (congrFun h80 106) r).trans ((upS_c _ _ (by decide)).trans (hic r))
          refine r_lsub C dX6_apply_83 ?_
          refine r_ladd C dX6_apply_84 ?_
          refine r_putJ C 131 dX6_apply_85 fg_X6_22_4 rfl rfl hl4 (fun q h => by cases h; exact Or.inl rfl) (by omega) ?_
          refine r_gS (fun S85 h85 => ?_)
          have hF : Fr [128, 129, 130, 131, 132, 133, 106] S S85 := hF.tr (by rw [h85]; exact Fr.up (by decide))
          have x128 := (congrFun (congrFun h85 128) 0).trans ((upS_c _ _ (by decide)).trans x128)
          have x129 := (congrFun (congrFun h85 129) 0).trans ((upS_c _ _ (by decide)).trans x129)
          have x130 := (congrFun (congrFun h85 130) 0).trans ((upS_c _ _ (by decide)).trans x130)
          have x131 := (congrFun (congrFun h85 131) 0).trans (upS_self _ _ _ _)
          have x132 := (congrFun (congrFun h85 132) 0).trans ((upS_c _ _ (by decide)).trans x132)
          have x133 := (congrFun (congrFun h85 133) 0).trans ((upS_c _ _ (by decide)).trans x133)
          have hic := fun r => (congrFun (congrFun h85 106) r).trans ((upS_c _ _ (by decide)).trans (hic r))
          refine r_aload_n C dX6_apply_88 lg_0 ?_
          refine r_aload_n C dX6_apply_89 lg_1 ?_
          refine q_U1V C (cA_bringBack hfl hl4 hm (by omega) (by rw [hF 101 m (by decide), ra4]; exact hco)) dX6_apply_90 lk_X6_70_4 hl4 ⟨Nat.le_of_ble_eq_true rfl, Nat.le_of_ble_eq_true rfl⟩ (catLe (Nat.le_of_ble_eq_true rfl)) ⟨rfl, rfl⟩ rfl (Nat.le_of_ble_eq_true rfl) (Nat.le_of_ble_eq_true rfl) (fun S90 A90 p90 => ?_)
          obtain ⟨rfl, rfl⟩ := p90
          rw [hF 101 m (by decide), ra4, x133]
          refine r_gS (fun S90 h90 => ?_)
          have hF : Fr [128, 129, 130, 131, 132, 133, 106] S S90 := hF.tr (by rw [h90]; exact Fr.up (by decide))
          have x128 := (congrFun (congrFun h90 128) 0).trans ((upS_c _ _ (by decide)).trans x128)
          have x129 := (congrFun (congrFun h90 129) 0).trans ((upS_c _ _ (by decide)).trans x129)
          have x130 := (congrFun (congrFun h90 130) 0).trans ((upS_c _ _ (by decide)).trans x130)
          have x131 := (congrFun (congrFun h90 131) 0).trans ((upS_c _ _ (by decide)).trans x131)
          have x132 := (congrFun (congrFun h90 132) 0).trans ((upS_c _ _ (by decide)).trans x132)
          have x133 := (congrFun (congrFun h90 133) 0).trans (upS_self _ _ _ _)
          have hic := fun r => (congrFun (congrFun h90 106) r).trans ((upS_c _ _ (by decide)).trans (hic r))
          refine r_aload_n C dX6_apply_93 lg_0 ?_
          refine r_dup C dX6_apply_94 (cat_R _ _ _) ?_
          refine r_getI C 128 dX6_apply_95 fg_X6_9_4 rfl rfl hl4 (fun g95 => ?_)
          rw [x128]
          refine r_aload_n C dX6_apply_98 lg_1 ?_
          refine q_V0I C (cV_change hfl hm (by rw [hF 100 m (by decide), ra3]; omega)) dX6_apply_99 lk_X6_73 hm ⟨Nat.le_of_ble_eq_true rfl, Nat.le_of_ble_eq_true rfl⟩ (catLe (Nat.le_of_ble_eq_true rfl)) ⟨rfl, rfl⟩ rfl (Nat.le_of_ble_eq_true rfl) (Nat.le_of_ble_eq_true rfl) (fun z99 S99 A99 i99 p99 => ?_)
          obtain ⟨rfl, rfl, rfl⟩ := p99
          rw [show dlt (S90 97) (S90 100) m = dlt R.kd R.qt m from by rw [show S90 97 = S 97 from hF.fn (by decide), show S90 100 = S 100 from hF.fn (by decide)]; exact hdl, hdk]
          refine r_iadd C dX6_apply_102 ?_
          refine r_putI C 128 dX6_apply_103 fg_X6_9_4 rfl rfl hl4 (fun q h => by cases h; exact Or.inl rfl) (by omega) ?_
          refine r_gS (fun S103 h103 => ?_)
          have hF : Fr [128, 129, 130, 131, 132, 133, 106] S S103 := hF.tr (by rw [h103]; exact Fr.up (by decide))
          have x128 := (congrFun (congrFun h103 128) 0).trans (upS_self _ _ _ _)
          have x129 := (congrFun (congrFun h103 129) 0).trans ((upS_c _ _ (by decide)).trans x129)
          have x130 := (congrFun (congrFun h103 130) 0).trans ((upS_c _ _ (by decide)).trans x130)
          have x131 := (congrFun (congrFun h103 131) 0).trans ((upS_c _ _ (by decide)).trans x131)
          have x132 := (congrFun (congrFun h103 132) 0).trans ((upS_c _ _ (by decide)).trans x132)
          have x133 := (congrFun (congrFun h103 133) 0).trans ((upS_c _ _ (by decide)).trans x133)
          have hic := fun r => (congrFun (congrFun h103 106) r).trans ((upS_c _ _ (by decide)).trans (hic r))
          exact f_V F dX6_apply_106 (by
            refine ⟨rfl, hF, ?_⟩
            have hic9 := hic
            unfold AV
            unfold moveW
            rw [if_neg hk0, if_neg hk1]
            exact ⟨x128.trans (by show w.hand + 0 = w.hand; omega), x129, x130, x131, x132, x133.trans (by show w.avg - w.avg * R.qt m / w.hand + R.co m = w.avg + (R.co m - w.avg * R.qt m / w.hand); omega), hic9⟩) (Nat.le_of_ble_eq_true rfl) (Nat.le_of_ble_eq_true rfl)
        · exfalso; omega
      · exfalso; omega
